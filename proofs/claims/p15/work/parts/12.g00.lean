def tb_J6_bitCount_0f7a4 : List (Nat × Instr × Nat) := [(0, (.iload_n 0, 1)), (1, (.iload_n 0, 1)), (2, (.iconst 1, 1)), (3, (.iushr, 1)), (4, (.ldc_w 265, 3)), (7, (.iand, 1)), (8, (.isub, 1)), (9, (.istore_n 0, 1)), (10, (.iload_n 0, 1)), (11, (.ldc_w 266, 3)), (14, (.iand, 1)), (15, (.iload_n 0, 1)), (16, (.iconst 2, 1)), (17, (.iushr, 1)), (18, (.ldc_w 266, 3)), (21, (.iand, 1)), (22, (.iadd, 1)), (23, (.istore_n 0, 1)), (24, (.iload_n 0, 1)), (25, (.iload_n 0, 1)), (26, (.iconst 4, 1)), (27, (.iushr, 1)), (28, (.iadd, 1)), (29, (.ldc_w 267, 3)), (32, (.iand, 1)), (33, (.istore_n 0, 1)), (34, (.iload_n 0, 1)), (35, (.iload_n 0, 1)), (36, (.bipush 8, 2)), (38, (.iushr, 1)), (39, (.iadd, 1)), (40, (.istore_n 0, 1)), (41, (.iload_n 0, 1)), (42, (.iload_n 0, 1)), (43, (.bipush 16, 2)), (45, (.iushr, 1)), (46, (.iadd, 1)), (47, (.istore_n 0, 1)), (48, (.iload_n 0, 1)), (49, (.bipush 63, 2)), (51, (.iand, 1)), (52, (.ireturn, 1))]
theorem dm_J6_bitCount_0f7a4 : ∀ q ∈ tb_J6_bitCount_0f7a4, decode zJ6_bitCount_0f7a4.2.1 q.1 = .ok q.2 := by decide +kernel
def f_J6_bitCount_0f7a4 (n : Nat) (a0 : Int32) (M : qM) : qR :=
  ql (a0 - ((a0.toUInt32 >>> ((1 : Int32).toUInt32 &&& Int32.toUInt32 31)).toInt32 &&& (1431655765 : Int32))) (fun x1 => ql ((x1 &&& (858993459 : Int32)) + ((x1.toUInt32 >>> ((2 : Int32).toUInt32 &&& Int32.toUInt32 31)).toInt32 &&& (858993459 : Int32))) (fun x2 => ql ((x2 + (x2.toUInt32 >>> ((4 : Int32).toUInt32 &&& Int32.toUInt32 31)).toInt32) &&& (252645135 : Int32)) (fun x3 => ql (x3 + (x3.toUInt32 >>> ((8 : Int32).toUInt32 &&& Int32.toUInt32 31)).toInt32) (fun x4 => ql (x4 + (x4.toUInt32 >>> ((16 : Int32).toUInt32 &&& Int32.toUInt32 31)).toInt32) (fun x5 => some ((x5 &&& (63 : Int32)), M))))))
set_option maxRecDepth 4000 in
theorem w_J6_bitCount_0f7a4 {g : qG} {k : qK} (n : Nat) (j r : Nat) (hj : q_isLaw j) (hr : q_isLaw r) (o : qOk g 0 zJ6_bitCount_0f7a4 k) (a0 : Int32) (M : qM) : qAE g k zJ6_bitCount_0f7a4 (qL j r) 0 [some (.inl a0)] [] (qL j r, M) (f_J6_bitCount_0f7a4 n a0 M) := by
  unfold f_J6_bitCount_0f7a4
  refine qr_iload_n o (q_dm dm_J6_bitCount_0f7a4 0 rfl) rfl ?_
  refine qr_iload_n o (q_dm dm_J6_bitCount_0f7a4 1 rfl) rfl ?_
  refine qr_iconst o (q_dm dm_J6_bitCount_0f7a4 2 rfl) ic_1 ?_
  refine qr_iushr o (q_dm dm_J6_bitCount_0f7a4 3 rfl) ?_
  refine qr_ldc_w o (q_dm dm_J6_bitCount_0f7a4 4 rfl) kc_J6_265 ?_
  refine qr_iand o (q_dm dm_J6_bitCount_0f7a4 5 rfl) ?_
  refine qr_isub o (q_dm dm_J6_bitCount_0f7a4 6 rfl) ?_
  refine qr_lt (fun x1 => ?_)
  refine qs_istore_n (L' := [some (.inl x1)]) o (q_dm dm_J6_bitCount_0f7a4 7 rfl) (Nat.le_of_ble_eq_true rfl) rfl ?_
  refine qr_iload_n o (q_dm dm_J6_bitCount_0f7a4 8 rfl) rfl ?_
  refine qr_ldc_w o (q_dm dm_J6_bitCount_0f7a4 9 rfl) kc_J6_266 ?_
  refine qr_iand o (q_dm dm_J6_bitCount_0f7a4 10 rfl) ?_
  refine qr_iload_n o (q_dm dm_J6_bitCount_0f7a4 11 rfl) rfl ?_
  refine qr_iconst o (q_dm dm_J6_bitCount_0f7a4 12 rfl) ic_2 ?_
  refine qr_iushr o (q_dm dm_J6_bitCount_0f7a4 13 rfl) ?_
  refine qr_ldc_w o (q_dm dm_J6_bitCount_0f7a4 14 rfl) kc_J6_266 ?_
  refine qr_iand o (q_dm dm_J6_bitCount_0f7a4 15 rfl) ?_
  refine qr_iadd o (q_dm dm_J6_bitCount_0f7a4 16 rfl) ?_
  refine qr_lt (fun x2 => ?_)
  refine qs_istore_n (L' := [some (.inl x2)]) o (q_dm dm_J6_bitCount_0f7a4 17 rfl) (Nat.le_of_ble_eq_true rfl) rfl ?_
  refine qr_iload_n o (q_dm dm_J6_bitCount_0f7a4 18 rfl) rfl ?_
  refine qr_iload_n o (q_dm dm_J6_bitCount_0f7a4 19 rfl) rfl ?_
  refine qr_iconst o (q_dm dm_J6_bitCount_0f7a4 20 rfl) ic_4 ?_
  refine qr_iushr o (q_dm dm_J6_bitCount_0f7a4 21 rfl) ?_
  refine qr_iadd o (q_dm dm_J6_bitCount_0f7a4 22 rfl) ?_
  refine qr_ldc_w o (q_dm dm_J6_bitCount_0f7a4 23 rfl) kc_J6_267 ?_
  refine qr_iand o (q_dm dm_J6_bitCount_0f7a4 24 rfl) ?_
  refine qr_lt (fun x3 => ?_)
  refine qs_istore_n (L' := [some (.inl x3)]) o (q_dm dm_J6_bitCount_0f7a4 25 rfl) (Nat.le_of_ble_eq_true rfl) rfl ?_
  refine qr_iload_n o (q_dm dm_J6_bitCount_0f7a4 26 rfl) rfl ?_
  refine qr_iload_n o (q_dm dm_J6_bitCount_0f7a4 27 rfl) rfl ?_
  refine qr_bipush o (q_dm dm_J6_bitCount_0f7a4 28 rfl) bi_8 ?_
  refine qr_iushr o (q_dm dm_J6_bitCount_0f7a4 29 rfl) ?_
  refine qr_iadd o (q_dm dm_J6_bitCount_0f7a4 30 rfl) ?_
  refine qr_lt (fun x4 => ?_)
  refine qs_istore_n (L' := [some (.inl x4)]) o (q_dm dm_J6_bitCount_0f7a4 31 rfl) (Nat.le_of_ble_eq_true rfl) rfl ?_
  refine qr_iload_n o (q_dm dm_J6_bitCount_0f7a4 32 rfl) rfl ?_
  refine qr_iload_n o (q_dm dm_J6_bitCount_0f7a4 33 rfl) rfl ?_
  refine qr_bipush o (q_dm dm_J6_bitCount_0f7a4 34 rfl) bi_16 ?_
  refine qr_iushr o (q_dm dm_J6_bitCount_0f7a4 35 rfl) ?_
  refine qr_iadd o (q_dm dm_J6_bitCount_0f7a4 36 rfl) ?_
  refine qr_lt (fun x5 => ?_)
  refine qs_istore_n (L' := [some (.inl x5)]) o (q_dm dm_J6_bitCount_0f7a4 37 rfl) (Nat.le_of_ble_eq_true rfl) rfl ?_
  refine qr_iload_n o (q_dm dm_J6_bitCount_0f7a4 38 rfl) rfl ?_
  refine qr_bipush o (q_dm dm_J6_bitCount_0f7a4 39 rfl) bi_63 ?_
  refine qr_iand o (q_dm dm_J6_bitCount_0f7a4 40 rfl) ?_
  exact qr_iret o rfl rfl (q_dm dm_J6_bitCount_0f7a4 41 rfl)

theorem a_J6_bitCount_0f7a4 (g : qG) (l : Launch) (n : Nat) (j r : Nat) (hj : q_isLaw j) (hr : q_isLaw r) (a0 : Int32) (M : qM) : qAM g l 0 zJ6_bitCount_0f7a4 (qL j r) [.inl a0] (qL j r, M) (f_J6_bitCount_0f7a4 n a0 M) :=
  qAM.of zs_J6_bitCount_0f7a4.1 (by show 1 ≤ 1; decide) (fun k hk o => w_J6_bitCount_0f7a4 n j r hj hr o a0 M)
def tb_J7_fill_53178 : List (Nat × Instr × Nat) := [(0, (.iconst 0, 1)), (1, (.istore_n 2, 1)), (2, (.aload_n 0, 1)), (3, (.arraylength, 1)), (4, (.istore_n 3, 1)), (5, (.iload_n 2, 1)), (6, (.iload_n 3, 1)), (7, (.if_icmp .ge 13, 3)), (10, (.aload_n 0, 1)), (11, (.iload_n 2, 1)), (12, (.iload_n 1, 1)), (13, (.iastore, 1)), (14, (.iinc 2 1, 3)), (17, (.goto (-12), 3)), (20, (.return_, 1))]
theorem dm_J7_fill_53178 : ∀ q ∈ tb_J7_fill_53178, decode zJ7_fill_53178.2.1 q.1 = .ok q.2 := by decide +kernel
def b_J7_fill_53178_5 (n : Nat) (c1 len : Nat) (K5 : Int32 → Int32 → Int32 → qM → qR) (a1 a2 a3 : Int32) (M : qM) : qR :=
  (if a3 ≤ a2 then some (0, M) else qg a2 len (qlm (mu M c1 a2.toNatClampNeg a1) (fun m1 => ql (a2 + (1 : Int32)) (fun x2 => K5 a1 x2 a3 m1))))
set_option maxRecDepth 4000 in
theorem wb_J7_fill_53178_5 {g : qG} {k : qK} (n : Nat) (j r : Nat) (hj : q_isLaw j) (hr : q_isLaw r) {c1 : Nat} {len : Nat} (hc1 : (qL j r)[c1]? = some (.inl (0, len))) (o : qOk g 0 zJ7_fill_53178 k) (K5 : Int32 → Int32 → Int32 → qM → qR) (hK5 : ∀ (a1 a2 a3 : Int32) (M : qM), qAE g k zJ7_fill_53178 (qL j r) 5 [some (.inr (some c1)), some (.inl a1), some (.inl a2), some (.inl a3)] [] (qL j r, M) (K5 a1 a2 a3 M)) (a1 a2 a3 : Int32) (M : qM) : qAE g k zJ7_fill_53178 (qL j r) 5 [some (.inr (some c1)), some (.inl a1), some (.inl a2), some (.inl a3)] [] (qL j r, M) (b_J7_fill_53178_5 n c1 len K5 a1 a2 a3 M) := by
  unfold b_J7_fill_53178_5
  refine qr_iload_n o (q_dm dm_J7_fill_53178 5 rfl) rfl ?_
  refine qr_iload_n o (q_dm dm_J7_fill_53178 6 rfl) rfl ?_
  refine qr_icmp_ge (tgt := 20) o (q_dm dm_J7_fill_53178 7 rfl) (by decide) ?_ ?_
  · exact qr_vret o rfl (q_dm dm_J7_fill_53178 14 rfl)
  · refine qr_aload_n o (q_dm dm_J7_fill_53178 8 rfl) rfl ?_
    refine qr_iload_n o (q_dm dm_J7_fill_53178 9 rfl) rfl ?_
    refine qr_iload_n o (q_dm dm_J7_fill_53178 10 rfl) rfl ?_
    refine qr_iast o hc1 (q_dm dm_J7_fill_53178 11 rfl) ?_
    refine qr_letm (fun m1 => ?_)
    refine qs_iincl2 (L' := fun x2 => [some (.inr (some c1)), some (.inl a1), some (.inl x2), some (.inl a3)]) o (q_dm dm_J7_fill_53178 12 rfl) rfl ic_1 (Nat.le_of_ble_eq_true rfl) (fun _ => rfl) (fun x2 => ?_)
    refine qr_goto (tgt := 5) o (q_dm dm_J7_fill_53178 13 rfl) (by decide) ?_
    exact qr_loc (q_leS (q_leS (q_leS (q_leS q_le0)))) (hK5 a1 x2 a3 m1)

def f_J7_fill_53178_5 (n : Nat) (c1 len : Nat) : Nat → Int32 → Int32 → Int32 → qM → qR
  | 0, _, _, _, _ => none
  | m + 1, a1, a2, a3, M => b_J7_fill_53178_5 n c1 len (f_J7_fill_53178_5 n c1 len m) a1 a2 a3 M
theorem w_J7_fill_53178_5 {g : qG} {k : qK} (n : Nat) (j r : Nat) (hj : q_isLaw j) (hr : q_isLaw r) {c1 : Nat} {len : Nat} (hc1 : (qL j r)[c1]? = some (.inl (0, len))) (o : qOk g 0 zJ7_fill_53178 k) : ∀ (m : Nat) (a1 a2 a3 : Int32) (M : qM), qAE g k zJ7_fill_53178 (qL j r) 5 [some (.inr (some c1)), some (.inl a1), some (.inl a2), some (.inl a3)] [] (qL j r, M) (f_J7_fill_53178_5 n c1 len m a1 a2 a3 M) := by
  intro m
  induction m with
  | zero =>
    intro a1 a2 a3 M
    exact qr_none
  | succ m ih =>
    intro a1 a2 a3 M
    exact wb_J7_fill_53178_5 n j r hj hr hc1 o (f_J7_fill_53178_5 n c1 len m) ih a1 a2 a3 M
def f_J7_fill_53178 (n : Nat) (c1 len : Nat) (a1 : Int32) (M : qM) : qR :=
  ql (Int32.ofNat len) (fun x1 => f_J7_fill_53178_5 n c1 len n a1 (0 : Int32) x1 M)
set_option maxRecDepth 4000 in
theorem w_J7_fill_53178 {g : qG} {k : qK} (n : Nat) (j r : Nat) (hj : q_isLaw j) (hr : q_isLaw r) {c1 : Nat} {len : Nat} (hc1 : (qL j r)[c1]? = some (.inl (0, len))) (o : qOk g 0 zJ7_fill_53178 k) (a1 : Int32) (M : qM) : qAE g k zJ7_fill_53178 (qL j r) 0 [some (.inr (some c1)), some (.inl a1), none, none] [] (qL j r, M) (f_J7_fill_53178 n c1 len a1 M) := by
  unfold f_J7_fill_53178
  refine qr_iconst o (q_dm dm_J7_fill_53178 0 rfl) ic_0 ?_
  refine qs_istore_n (L' := [some (.inr (some c1)), some (.inl a1), some (.inl (0 : Int32)), none]) o (q_dm dm_J7_fill_53178 1 rfl) (Nat.le_of_ble_eq_true rfl) rfl ?_
  refine qr_aload_n o (q_dm dm_J7_fill_53178 2 rfl) rfl ?_
  refine qr_alen (v := (Int32.ofNat len)) o hc1 (by decide) rfl (q_dm dm_J7_fill_53178 3 rfl) ?_
  refine qr_lt (fun x1 => ?_)
  refine qs_istore_n (L' := [some (.inr (some c1)), some (.inl a1), some (.inl (0 : Int32)), some (.inl x1)]) o (q_dm dm_J7_fill_53178 4 rfl) (Nat.le_of_ble_eq_true rfl) rfl ?_
  exact qr_loc (q_leS (q_leS (q_leS (q_leS q_le0)))) (w_J7_fill_53178_5 n j r hj hr hc1 o n a1 (0 : Int32) x1 M)

theorem a_J7_fill_53178 (g : qG) (l : Launch) (n : Nat) (j r : Nat) (hj : q_isLaw j) (hr : q_isLaw r) {c1 : Nat} {len : Nat} (hc1 : (qL j r)[c1]? = some (.inl (0, len))) (a1 : Int32) (M : qM) : qAM g l 0 zJ7_fill_53178 (qL j r) [.inr (some c1), .inl a1] (qL j r, M) (f_J7_fill_53178 n c1 len a1 M) :=
  qAM.of zs_J7_fill_53178.1 (by show 2 ≤ 4; decide) (fun k hk o => w_J7_fill_53178 n j r hj hr hc1 o a1 M)
def tb_X10_triesByAll : List (Nat × Instr × Nat) := [(0, (.iconst 0, 1)), (1, (.istore_n 2, 1)), (2, (.iconst 0, 1)), (3, (.istore_n 3, 1)), (4, (.iload_n 3, 1)), (5, (.bipush 8, 2)), (7, (.if_icmp .ge 23, 3)), (10, (.iload_n 2, 1)), (11, (.aload_n 0, 1)), (12, (.getfield 15, 3)), (15, (.iload_n 3, 1)), (16, (.bipush 12, 2)), (18, (.imul, 1)), (19, (.iload_n 1, 1)), (20, (.iadd, 1)), (21, (.iaload, 1)), (22, (.iadd, 1)), (23, (.istore_n 2, 1)), (24, (.iinc 3 1, 3)), (27, (.goto (-23), 3)), (30, (.iload_n 2, 1)), (31, (.ireturn, 1))]
theorem dm_X10_triesByAll : ∀ q ∈ tb_X10_triesByAll, decode zX10_triesByAll.2.1 q.1 = .ok q.2 := by decide +kernel
def b_X10_triesByAll_4 (n : Nat) (t : Nat) (K4 : Int32 → Int32 → Int32 → qM → qR) (a1 a2 a3 : Int32) (M : qM) : qR :=
  (if (8 : Int32) ≤ a3 then some (a2, M) else qg ((a3 * (12 : Int32)) + a1) 96 (ql (a2 + (M (t + 2) ((a3 * (12 : Int32)) + a1).toNatClampNeg)) (fun x1 => ql (a3 + (1 : Int32)) (fun x2 => K4 a1 x1 x2 M))))
set_option maxRecDepth 4000 in
theorem wb_X10_triesByAll_4 {g : qG} {k : qK} (n : Nat) (j r : Nat) (hj : q_isLaw j) (hr : q_isLaw r) {t : Nat} (ht : q_isTown t) (o : qOk g 0 zX10_triesByAll k) (K4 : Int32 → Int32 → Int32 → qM → qR) (hK4 : ∀ (a1 a2 a3 : Int32) (M : qM), qAE g k zX10_triesByAll (qL j r) 4 [some (.inr (some t)), some (.inl a1), some (.inl a2), some (.inl a3)] [] (qL j r, M) (K4 a1 a2 a3 M)) (a1 a2 a3 : Int32) (M : qM) : qAE g k zX10_triesByAll (qL j r) 4 [some (.inr (some t)), some (.inl a1), some (.inl a2), some (.inl a3)] [] (qL j r, M) (b_X10_triesByAll_4 n t K4 a1 a2 a3 M) := by
  unfold b_X10_triesByAll_4
  refine qr_iload_n o (q_dm dm_X10_triesByAll 4 rfl) rfl ?_
  refine qr_bipush o (q_dm dm_X10_triesByAll 5 rfl) bi_8 ?_
  refine qr_icmp_ge (tgt := 30) o (q_dm dm_X10_triesByAll 6 rfl) (by decide) ?_ ?_
  · refine qr_iload_n o (q_dm dm_X10_triesByAll 20 rfl) rfl ?_
    exact qr_iret o rfl rfl (q_dm dm_X10_triesByAll 21 rfl)
  · refine qr_iload_n o (q_dm dm_X10_triesByAll 7 rfl) rfl ?_
    refine qr_aload_n o (q_dm dm_X10_triesByAll 8 rfl) rfl ?_
    refine qr_getr (kf := 1) o cf_X10 (shT0 j r ht) rfl (Nat.le_of_ble_eq_true rfl) fl_X10_15 (q_dm dm_X10_triesByAll 9 rfl) ?_
    refine qr_iload_n o (q_dm dm_X10_triesByAll 10 rfl) rfl ?_
    refine qr_bipush o (q_dm dm_X10_triesByAll 11 rfl) bi_12 ?_
    refine qr_imul o (q_dm dm_X10_triesByAll 12 rfl) ?_
    refine qr_iload_n o (q_dm dm_X10_triesByAll 13 rfl) rfl ?_
    refine qr_iadd o (q_dm dm_X10_triesByAll 14 rfl) ?_
    refine qr_iald o (shT2 j r ht) (q_dm dm_X10_triesByAll 15 rfl) ?_
    refine qr_iadd o (q_dm dm_X10_triesByAll 16 rfl) ?_
    refine qr_lt (fun x1 => ?_)
    refine qs_istore_n (L' := [some (.inr (some t)), some (.inl a1), some (.inl x1), some (.inl a3)]) o (q_dm dm_X10_triesByAll 17 rfl) (Nat.le_of_ble_eq_true rfl) rfl ?_
    refine qs_iincl2 (L' := fun x2 => [some (.inr (some t)), some (.inl a1), some (.inl x1), some (.inl x2)]) o (q_dm dm_X10_triesByAll 18 rfl) rfl ic_1 (Nat.le_of_ble_eq_true rfl) (fun _ => rfl) (fun x2 => ?_)
    refine qr_goto (tgt := 4) o (q_dm dm_X10_triesByAll 19 rfl) (by decide) ?_
    exact qr_loc (q_leS (q_leS (q_leS (q_leS q_le0)))) (hK4 a1 x1 x2 M)

def f_X10_triesByAll_4 (n : Nat) (t : Nat) : Nat → Int32 → Int32 → Int32 → qM → qR
  | 0, _, _, _, _ => none
  | m + 1, a1, a2, a3, M => b_X10_triesByAll_4 n t (f_X10_triesByAll_4 n t m) a1 a2 a3 M
theorem w_X10_triesByAll_4 {g : qG} {k : qK} (n : Nat) (j r : Nat) (hj : q_isLaw j) (hr : q_isLaw r) {t : Nat} (ht : q_isTown t) (o : qOk g 0 zX10_triesByAll k) : ∀ (m : Nat) (a1 a2 a3 : Int32) (M : qM), qAE g k zX10_triesByAll (qL j r) 4 [some (.inr (some t)), some (.inl a1), some (.inl a2), some (.inl a3)] [] (qL j r, M) (f_X10_triesByAll_4 n t m a1 a2 a3 M) := by
  intro m
  induction m with
  | zero =>
    intro a1 a2 a3 M
    exact qr_none
  | succ m ih =>
    intro a1 a2 a3 M
    exact wb_X10_triesByAll_4 n j r hj hr ht o (f_X10_triesByAll_4 n t m) ih a1 a2 a3 M
def f_X10_triesByAll (n : Nat) (t : Nat) (a1 : Int32) (M : qM) : qR :=
  f_X10_triesByAll_4 n t n a1 (0 : Int32) (0 : Int32) M
set_option maxRecDepth 4000 in
theorem w_X10_triesByAll {g : qG} {k : qK} (n : Nat) (j r : Nat) (hj : q_isLaw j) (hr : q_isLaw r) {t : Nat} (ht : q_isTown t) (o : qOk g 0 zX10_triesByAll k) (a1 : Int32) (M : qM) : qAE g k zX10_triesByAll (qL j r) 0 [some (.inr (some t)), some (.inl a1), none, none] [] (qL j r, M) (f_X10_triesByAll n t a1 M) := by
  unfold f_X10_triesByAll
  refine qr_iconst o (q_dm dm_X10_triesByAll 0 rfl) ic_0 ?_
  refine qs_istore_n (L' := [some (.inr (some t)), some (.inl a1), some (.inl (0 : Int32)), none]) o (q_dm dm_X10_triesByAll 1 rfl) (Nat.le_of_ble_eq_true rfl) rfl ?_
  refine qr_iconst o (q_dm dm_X10_triesByAll 2 rfl) ic_0 ?_
  refine qs_istore_n (L' := [some (.inr (some t)), some (.inl a1), some (.inl (0 : Int32)), some (.inl (0 : Int32))]) o (q_dm dm_X10_triesByAll 3 rfl) (Nat.le_of_ble_eq_true rfl) rfl ?_
  exact qr_loc (q_leS (q_leS (q_leS (q_leS q_le0)))) (w_X10_triesByAll_4 n j r hj hr ht o n a1 (0 : Int32) (0 : Int32) M)

theorem a_X10_triesByAll (g : qG) (l : Launch) (n : Nat) (j r : Nat) (hj : q_isLaw j) (hr : q_isLaw r) {t : Nat} (ht : q_isTown t) (a1 : Int32) (M : qM) : qAM g l 0 zX10_triesByAll (qL j r) [.inr (some t), .inl a1] (qL j r, M) (f_X10_triesByAll n t a1 M) :=
  qAM.of zv_X10_triesByAll.1 (by show 2 ≤ 4; decide) (fun k hk o => w_X10_triesByAll n j r hj hr ht o a1 M)
def tb_X1_tellDeed : List (Nat × Instr × Nat) := [(0, (.aload_n 0, 1)), (1, (.getfield 13, 3)), (4, (.iconst 0, 1)), (5, (.invokestatic 51, 3)), (8, (.aload_n 0, 1)), (9, (.getfield 13, 3)), (12, (.iconst 0, 1)), (13, (.iload_n 1, 1)), (14, (.iastore, 1)), (15, (.aload_n 0, 1)), (16, (.getfield 13, 3)), (19, (.iconst 1, 1)), (20, (.iload_n 2, 1)), (21, (.iastore, 1)), (22, (.aload_n 0, 1)), (23, (.getfield 13, 3)), (26, (.iconst 2, 1)), (27, (.iload_n 3, 1)), (28, (.iastore, 1)), (29, (.aload_n 0, 1)), (30, (.getfield 13, 3)), (33, (.bipush 6, 2)), (35, (.iload 4, 2)), (37, (.iastore, 1)), (38, (.return_, 1))]
theorem dm_X1_tellDeed : ∀ q ∈ tb_X1_tellDeed, decode zX1_tellDeed.2.1 q.1 = .ok q.2 := by decide +kernel
def f_X1_tellDeed (n : Nat) (a1 a2 a3 a4 : Int32) (M : qM) : qR :=
  qc (f_J7_fill_53178 n 35 12 (0 : Int32) M) (fun _ m1 => qlm (mu m1 35 0 a1) (fun m2 => qlm (mu m2 35 1 a2) (fun m3 => qlm (mu m3 35 2 a3) (fun m4 => qlm (mu m4 35 6 a4) (fun m5 => some (0, m5))))))
set_option maxRecDepth 4000 in
theorem w_X1_tellDeed {g : qG} {k : qK} (n : Nat) (j r : Nat) (hj : q_isLaw j) (hr : q_isLaw r) (o : qOk g 1 zX1_tellDeed k) (a1 a2 a3 a4 : Int32) (M : qM) : qAE g k zX1_tellDeed (qL j r) 0 [some (.inr (some 34)), some (.inl a1), some (.inl a2), some (.inl a3), some (.inl a4)] [] (qL j r, M) (f_X1_tellDeed n a1 a2 a3 a4 M) := by
  unfold f_X1_tellDeed
  refine qr_aload_n o (q_dm dm_X1_tellDeed 0 rfl) rfl ?_
  refine qr_getr (kf := 1) o cf_X1 (sh34 j r) rfl (Nat.le_of_ble_eq_true rfl) fl_X1_13 (q_dm dm_X1_tellDeed 1 rfl) ?_
  refine qr_iconst o (q_dm dm_X1_tellDeed 2 rfl) ic_0 ?_
  refine qr_calls_v (As := [.inr (some 35), .inl (0 : Int32)]) (S := []) o (a_J7_fill_53178 g k.2.1 n j r hj hr (sh35 j r) (0 : Int32) M) (Nat.le_of_ble_eq_true rfl) zs_J7_fill_53178 rfl ml_X1_51 (Nat.le_of_ble_eq_true rfl) (q_dm dm_X1_tellDeed 3 rfl) (fun _ m1 => ?_)
  refine qr_aload_n o (q_dm dm_X1_tellDeed 4 rfl) rfl ?_
  refine qr_getr (kf := 1) o cf_X1 (sh34 j r) rfl (Nat.le_of_ble_eq_true rfl) fl_X1_13 (q_dm dm_X1_tellDeed 5 rfl) ?_
  refine qr_iconst o (q_dm dm_X1_tellDeed 6 rfl) ic_0 ?_
  refine qr_iload_n o (q_dm dm_X1_tellDeed 7 rfl) rfl ?_
  refine qr_iast0 (c := 0) o (sh35 j r) (by decide) (by decide) (q_dm dm_X1_tellDeed 8 rfl) ?_
  refine qr_letm (fun m2 => ?_)
  refine qr_aload_n o (q_dm dm_X1_tellDeed 9 rfl) rfl ?_
  refine qr_getr (kf := 1) o cf_X1 (sh34 j r) rfl (Nat.le_of_ble_eq_true rfl) fl_X1_13 (q_dm dm_X1_tellDeed 10 rfl) ?_
  refine qr_iconst o (q_dm dm_X1_tellDeed 11 rfl) ic_1 ?_
  refine qr_iload_n o (q_dm dm_X1_tellDeed 12 rfl) rfl ?_
  refine qr_iast0 (c := 1) o (sh35 j r) (by decide) (by decide) (q_dm dm_X1_tellDeed 13 rfl) ?_
  refine qr_letm (fun m3 => ?_)
  refine qr_aload_n o (q_dm dm_X1_tellDeed 14 rfl) rfl ?_
  refine qr_getr (kf := 1) o cf_X1 (sh34 j r) rfl (Nat.le_of_ble_eq_true rfl) fl_X1_13 (q_dm dm_X1_tellDeed 15 rfl) ?_
  refine qr_iconst o (q_dm dm_X1_tellDeed 16 rfl) ic_2 ?_
  refine qr_iload_n o (q_dm dm_X1_tellDeed 17 rfl) rfl ?_
  refine qr_iast0 (c := 2) o (sh35 j r) (by decide) (by decide) (q_dm dm_X1_tellDeed 18 rfl) ?_
  refine qr_letm (fun m4 => ?_)
  refine qr_aload_n o (q_dm dm_X1_tellDeed 19 rfl) rfl ?_
  refine qr_getr (kf := 1) o cf_X1 (sh34 j r) rfl (Nat.le_of_ble_eq_true rfl) fl_X1_13 (q_dm dm_X1_tellDeed 20 rfl) ?_
  refine qr_bipush o (q_dm dm_X1_tellDeed 21 rfl) bi_6 ?_
  refine qr_iload o (q_dm dm_X1_tellDeed 22 rfl) rfl ?_
  refine qr_iast0 (c := 6) o (sh35 j r) (by decide) (by decide) (q_dm dm_X1_tellDeed 23 rfl) ?_
  refine qr_letm (fun m5 => ?_)
  exact qr_vret o rfl (q_dm dm_X1_tellDeed 24 rfl)

theorem a_X1_tellDeed (g : qG) (l : Launch) (n : Nat) (j r : Nat) (hj : q_isLaw j) (hr : q_isLaw r) (a1 a2 a3 a4 : Int32) (M : qM) : qAM g l 1 zX1_tellDeed (qL j r) [.inr (some 34), .inl a1, .inl a2, .inl a3, .inl a4] (qL j r, M) (f_X1_tellDeed n a1 a2 a3 a4 M) :=
  qAM.of zv_X1_tellDeed.1 (by show 5 ≤ 5; decide) (fun k hk o => w_X1_tellDeed n j r hj hr o a1 a2 a3 a4 M)
def tb_X1_tellTry : List (Nat × Instr × Nat) := [(0, (.aload_n 0, 1)), (1, (.getfield 13, 3)), (4, (.bipush 7, 2)), (6, (.iload_n 1, 1)), (7, (.iastore, 1)), (8, (.aload_n 0, 1)), (9, (.getfield 13, 3)), (12, (.bipush 8, 2)), (14, (.iload_n 2, 1)), (15, (.iastore, 1)), (16, (.aload_n 0, 1)), (17, (.getfield 13, 3)), (20, (.bipush 9, 2)), (22, (.iload_n 3, 1)), (23, (.iastore, 1)), (24, (.aload_n 0, 1)), (25, (.getfield 13, 3)), (28, (.bipush 10, 2)), (30, (.iload 4, 2)), (32, (.iastore, 1)), (33, (.aload_n 0, 1)), (34, (.getfield 13, 3)), (37, (.bipush 11, 2)), (39, (.iload 5, 2)), (41, (.iastore, 1)), (42, (.return_, 1))]
theorem dm_X1_tellTry : ∀ q ∈ tb_X1_tellTry, decode zX1_tellTry.2.1 q.1 = .ok q.2 := by decide +kernel
def f_X1_tellTry (n : Nat) (a1 a2 a3 a4 a5 : Int32) (M : qM) : qR :=
  qlm (mu M 35 7 a1) (fun m1 => qlm (mu m1 35 8 a2) (fun m2 => qlm (mu m2 35 9 a3) (fun m3 => qlm (mu m3 35 10 a4) (fun m4 => qlm (mu m4 35 11 a5) (fun m5 => some (0, m5))))))
set_option maxRecDepth 4000 in
theorem w_X1_tellTry {g : qG} {k : qK} (n : Nat) (j r : Nat) (hj : q_isLaw j) (hr : q_isLaw r) (o : qOk g 0 zX1_tellTry k) (a1 a2 a3 a4 a5 : Int32) (M : qM) : qAE g k zX1_tellTry (qL j r) 0 [some (.inr (some 34)), some (.inl a1), some (.inl a2), some (.inl a3), some (.inl a4), some (.inl a5)] [] (qL j r, M) (f_X1_tellTry n a1 a2 a3 a4 a5 M) := by
  unfold f_X1_tellTry
  refine qr_aload_n o (q_dm dm_X1_tellTry 0 rfl) rfl ?_
  refine qr_getr (kf := 1) o cf_X1 (sh34 j r) rfl (Nat.le_of_ble_eq_true rfl) fl_X1_13 (q_dm dm_X1_tellTry 1 rfl) ?_
  refine qr_bipush o (q_dm dm_X1_tellTry 2 rfl) bi_7 ?_
  refine qr_iload_n o (q_dm dm_X1_tellTry 3 rfl) rfl ?_
  refine qr_iast0 (c := 7) o (sh35 j r) (by decide) (by decide) (q_dm dm_X1_tellTry 4 rfl) ?_
  refine qr_letm (fun m1 => ?_)
  refine qr_aload_n o (q_dm dm_X1_tellTry 5 rfl) rfl ?_
  refine qr_getr (kf := 1) o cf_X1 (sh34 j r) rfl (Nat.le_of_ble_eq_true rfl) fl_X1_13 (q_dm dm_X1_tellTry 6 rfl) ?_
  refine qr_bipush o (q_dm dm_X1_tellTry 7 rfl) bi_8 ?_
  refine qr_iload_n o (q_dm dm_X1_tellTry 8 rfl) rfl ?_
  refine qr_iast0 (c := 8) o (sh35 j r) (by decide) (by decide) (q_dm dm_X1_tellTry 9 rfl) ?_
  refine qr_letm (fun m2 => ?_)
  refine qr_aload_n o (q_dm dm_X1_tellTry 10 rfl) rfl ?_
  refine qr_getr (kf := 1) o cf_X1 (sh34 j r) rfl (Nat.le_of_ble_eq_true rfl) fl_X1_13 (q_dm dm_X1_tellTry 11 rfl) ?_
  refine qr_bipush o (q_dm dm_X1_tellTry 12 rfl) bi_9 ?_
  refine qr_iload_n o (q_dm dm_X1_tellTry 13 rfl) rfl ?_
  refine qr_iast0 (c := 9) o (sh35 j r) (by decide) (by decide) (q_dm dm_X1_tellTry 14 rfl) ?_
  refine qr_letm (fun m3 => ?_)
  refine qr_aload_n o (q_dm dm_X1_tellTry 15 rfl) rfl ?_
  refine qr_getr (kf := 1) o cf_X1 (sh34 j r) rfl (Nat.le_of_ble_eq_true rfl) fl_X1_13 (q_dm dm_X1_tellTry 16 rfl) ?_
  refine qr_bipush o (q_dm dm_X1_tellTry 17 rfl) bi_10 ?_
  refine qr_iload o (q_dm dm_X1_tellTry 18 rfl) rfl ?_
  refine qr_iast0 (c := 10) o (sh35 j r) (by decide) (by decide) (q_dm dm_X1_tellTry 19 rfl) ?_
  refine qr_letm (fun m4 => ?_)
  refine qr_aload_n o (q_dm dm_X1_tellTry 20 rfl) rfl ?_
  refine qr_getr (kf := 1) o cf_X1 (sh34 j r) rfl (Nat.le_of_ble_eq_true rfl) fl_X1_13 (q_dm dm_X1_tellTry 21 rfl) ?_
  refine qr_bipush o (q_dm dm_X1_tellTry 22 rfl) bi_11 ?_
  refine qr_iload o (q_dm dm_X1_tellTry 23 rfl) rfl ?_
  refine qr_iast0 (c := 11) o (sh35 j r) (by decide) (by decide) (q_dm dm_X1_tellTry 24 rfl) ?_
  refine qr_letm (fun m5 => ?_)
  exact qr_vret o rfl (q_dm dm_X1_tellTry 25 rfl)

theorem a_X1_tellTry (g : qG) (l : Launch) (n : Nat) (j r : Nat) (hj : q_isLaw j) (hr : q_isLaw r) (a1 a2 a3 a4 a5 : Int32) (M : qM) : qAM g l 0 zX1_tellTry (qL j r) [.inr (some 34), .inl a1, .inl a2, .inl a3, .inl a4, .inl a5] (qL j r, M) (f_X1_tellTry n a1 a2 a3 a4 a5 M) :=
  qAM.of zv_X1_tellTry.1 (by show 6 ≤ 6; decide) (fun k hk o => w_X1_tellTry n j r hj hr o a1 a2 a3 a4 a5 M)
def tb_X0_tellAll : List (Nat × Instr × Nat) := [(0, (.iload_n 2, 1)), (1, (.bipush 12, 2)), (3, (.imul, 1)), (4, (.iload_n 3, 1)), (5, (.iadd, 1)), (6, (.istore 5, 2)), (8, (.aload_n 0, 1)), (9, (.getfield 15, 3)), (12, (.iload_n 3, 1)), (13, (.aload_n 0, 1)), (14, (.getfield 9, 3)), (17, (.getfield 128, 3)), (20, (.iload_n 3, 1)), (21, (.iaload, 1)), (22, (.aload_n 0, 1)), (23, (.getfield 9, 3)), (26, (.getfield 141, 3)), (29, (.iload_n 3, 1)), (30, (.iaload, 1)), (31, (.aload_n 1, 1)), (32, (.getfield 19, 3)), (35, (.invokevirtual 144, 3)), (38, (.aload_n 0, 1)), (39, (.getfield 15, 3)), (42, (.iload_n 2, 1)), (43, (.iload 4, 2)), (45, (.aload_n 1, 1)), (46, (.getfield 73, 3)), (49, (.iload 5, 2)), (51, (.iaload, 1)), (52, (.aload_n 1, 1)), (53, (.iload_n 3, 1)), (54, (.invokevirtual 147, 3)), (57, (.aload_n 1, 1)), (58, (.getfield 151, 3)), (61, (.iload 5, 2)), (63, (.iaload, 1)), (64, (.invokevirtual 154, 3)), (67, (.return_, 1))]
theorem dm_X0_tellAll : ∀ q ∈ tb_X0_tellAll, decode zX0_tellAll.2.1 q.1 = .ok q.2 := by decide +kernel
def f_X0_tellAll (n : Nat) (t : Nat) (a2 a3 a4 : Int32) (M : qM) : qR :=
  ql ((a2 * (12 : Int32)) + a3) (fun x1 => qg a3 12 (qg a3 12 (qc (f_X1_tellDeed n a3 (M 4 a3.toNatClampNeg) (M 5 a3.toNatClampNeg) (M t 9) M) (fun _ m2 => qg x1 96 (qc (f_X10_triesByAll n t a3 m2) (fun r3 m4 => qg x1 96 (qc (f_X1_tellTry n a2 a4 (m2 (t + 2) x1.toNatClampNeg) r3 (m4 (t + 4) x1.toNatClampNeg) m4) (fun _ m5 => some (0, m5)))))))))
set_option maxRecDepth 4000 in
theorem w_X0_tellAll {g : qG} {k : qK} (n : Nat) (j r : Nat) (hj : q_isLaw j) (hr : q_isLaw r) {t : Nat} (ht : q_isTown t) (o : qOk g 2 zX0_tellAll k) (a2 a3 a4 : Int32) (M : qM) : qAE g k zX0_tellAll (qL j r) 0 [some (.inr (some 44)), some (.inr (some t)), some (.inl a2), some (.inl a3), some (.inl a4), none] [] (qL j r, M) (f_X0_tellAll n t a2 a3 a4 M) := by
  unfold f_X0_tellAll
  refine qr_iload_n o (q_dm dm_X0_tellAll 0 rfl) rfl ?_
  refine qr_bipush o (q_dm dm_X0_tellAll 1 rfl) bi_12 ?_
  refine qr_imul o (q_dm dm_X0_tellAll 2 rfl) ?_
  refine qr_iload_n o (q_dm dm_X0_tellAll 3 rfl) rfl ?_
  refine qr_iadd o (q_dm dm_X0_tellAll 4 rfl) ?_
  refine qr_lt (fun x1 => ?_)
  refine qs_istore (L' := [some (.inr (some 44)), some (.inr (some t)), some (.inl a2), some (.inl a3), some (.inl a4), some (.inl x1)]) o (q_dm dm_X0_tellAll 5 rfl) (Nat.le_of_ble_eq_true rfl) rfl ?_
  refine qr_aload_n o (q_dm dm_X0_tellAll 6 rfl) rfl ?_
  refine qr_getr (kf := 1) o cf_X0 (sh44 j r) rfl (Nat.le_of_ble_eq_true rfl) fl_X0_15 (q_dm dm_X0_tellAll 7 rfl) ?_
  refine qr_iload_n o (q_dm dm_X0_tellAll 8 rfl) rfl ?_
  refine qr_aload_n o (q_dm dm_X0_tellAll 9 rfl) rfl ?_
  refine qr_getr (kf := 0) o cf_X0 (sh44 j r) rfl (Nat.le_of_ble_eq_true rfl) fl_X0_9 (q_dm dm_X0_tellAll 10 rfl) ?_
  refine qr_getr (kf := 0) o cf_X2 (sh3 j r) rfl (Nat.le_of_ble_eq_true rfl) fl_X0_128 (q_dm dm_X0_tellAll 11 rfl) ?_
  refine qr_iload_n o (q_dm dm_X0_tellAll 12 rfl) rfl ?_
  refine qr_iald o (sh4 j r) (q_dm dm_X0_tellAll 13 rfl) ?_
  refine qr_aload_n o (q_dm dm_X0_tellAll 14 rfl) rfl ?_
  refine qr_getr (kf := 0) o cf_X0 (sh44 j r) rfl (Nat.le_of_ble_eq_true rfl) fl_X0_9 (q_dm dm_X0_tellAll 15 rfl) ?_
  refine qr_getr (kf := 1) o cf_X2 (sh3 j r) rfl (Nat.le_of_ble_eq_true rfl) fl_X0_141 (q_dm dm_X0_tellAll 16 rfl) ?_
  refine qr_iload_n o (q_dm dm_X0_tellAll 17 rfl) rfl ?_
  refine qr_iald o (sh5 j r) (q_dm dm_X0_tellAll 18 rfl) ?_
  refine qr_aload_n o (q_dm dm_X0_tellAll 19 rfl) rfl ?_
  refine qr_getf (kf := 9) o cf_X10 (shT0 j r ht) rfl (Nat.le_of_ble_eq_true rfl) fl_X0_19 (q_dm dm_X0_tellAll 20 rfl) ?_
  refine qr_callv_v (As := [.inl a3, .inl (M 4 a3.toNatClampNeg), .inl (M 5 a3.toNatClampNeg), .inl (M t 9)]) (S := []) o (a_X1_tellDeed g k.2.1 n j r hj hr a3 (M 4 a3.toNatClampNeg) (M 5 a3.toNatClampNeg) (M t 9) M) (Nat.le_of_ble_eq_true rfl) zv_X1_tellDeed rfl cf_X1 (sh34 j r) ml_X0_144 (Nat.le_of_ble_eq_true rfl) (q_dm dm_X0_tellAll 21 rfl) (fun _ m2 => ?_)
  refine qr_aload_n o (q_dm dm_X0_tellAll 22 rfl) rfl ?_
  refine qr_getr (kf := 1) o cf_X0 (sh44 j r) rfl (Nat.le_of_ble_eq_true rfl) fl_X0_15 (q_dm dm_X0_tellAll 23 rfl) ?_
  refine qr_iload_n o (q_dm dm_X0_tellAll 24 rfl) rfl ?_
  refine qr_iload o (q_dm dm_X0_tellAll 25 rfl) rfl ?_
  refine qr_aload_n o (q_dm dm_X0_tellAll 26 rfl) rfl ?_
  refine qr_getr (kf := 1) o cf_X10 (shT0 j r ht) rfl (Nat.le_of_ble_eq_true rfl) fl_X0_73 (q_dm dm_X0_tellAll 27 rfl) ?_
  refine qr_iload o (q_dm dm_X0_tellAll 28 rfl) rfl ?_
  refine qr_iald o (shT2 j r ht) (q_dm dm_X0_tellAll 29 rfl) ?_
  refine qr_aload_n o (q_dm dm_X0_tellAll 30 rfl) rfl ?_
  refine qr_iload_n o (q_dm dm_X0_tellAll 31 rfl) rfl ?_
  refine qr_callv_i (As := [.inl a3]) (S := [.inl (m2 (t + 2) x1.toNatClampNeg), .inl a4, .inl a2, .inr (some 34)]) o (a_X10_triesByAll g k.2.1 n j r hj hr ht a3 m2) (Nat.le_of_ble_eq_true rfl) zv_X10_triesByAll rfl cf_X10 (shT0 j r ht) ml_X0_147 (Nat.le_of_ble_eq_true rfl) (q_dm dm_X0_tellAll 32 rfl) (fun r3 m4 => ?_)
  refine qr_aload_n o (q_dm dm_X0_tellAll 33 rfl) rfl ?_
  refine qr_getr (kf := 3) o cf_X10 (shT0 j r ht) rfl (Nat.le_of_ble_eq_true rfl) fl_X0_151 (q_dm dm_X0_tellAll 34 rfl) ?_
  refine qr_iload o (q_dm dm_X0_tellAll 35 rfl) rfl ?_
  refine qr_iald o (shT4 j r ht) (q_dm dm_X0_tellAll 36 rfl) ?_
  refine qr_callv_v (As := [.inl a2, .inl a4, .inl (m2 (t + 2) x1.toNatClampNeg), .inl r3, .inl (m4 (t + 4) x1.toNatClampNeg)]) (S := []) o (a_X1_tellTry g k.2.1 n j r hj hr a2 a4 (m2 (t + 2) x1.toNatClampNeg) r3 (m4 (t + 4) x1.toNatClampNeg) m4) (Nat.le_of_ble_eq_true rfl) zv_X1_tellTry rfl cf_X1 (sh34 j r) ml_X0_154 (Nat.le_of_ble_eq_true rfl) (q_dm dm_X0_tellAll 37 rfl) (fun _ m5 => ?_)
  exact qr_vret o rfl (q_dm dm_X0_tellAll 38 rfl)

theorem a_X0_tellAll (g : qG) (l : Launch) (n : Nat) (j r : Nat) (hj : q_isLaw j) (hr : q_isLaw r) {t : Nat} (ht : q_isTown t) (a2 a3 a4 : Int32) (M : qM) : qAM g l 2 zX0_tellAll (qL j r) [.inr (some 44), .inr (some t), .inl a2, .inl a3, .inl a4] (qL j r, M) (f_X0_tellAll n t a2 a3 a4 M) :=
  qAM.of zv_X0_tellAll.1 (by show 5 ≤ 6; decide) (fun k hk o => w_X0_tellAll n j r hj hr ht o a2 a3 a4 M)
def tb_X1_reckon : List (Nat × Instr × Nat) := [(0, (.iload_n 1, 1)), (1, (.lookupswitch 104 #[(42, 67), (43, 59), (45, 63), (60, 71), (61, 93), (62, 82)], 59)), (60, (.iload_n 2, 1)), (61, (.iload_n 3, 1)), (62, (.iadd, 1)), (63, (.ireturn, 1)), (64, (.iload_n 2, 1)), (65, (.iload_n 3, 1)), (66, (.isub, 1)), (67, (.ireturn, 1)), (68, (.iload_n 2, 1)), (69, (.iload_n 3, 1)), (70, (.imul, 1)), (71, (.ireturn, 1)), (72, (.iload_n 2, 1)), (73, (.iload_n 3, 1)), (74, (.if_icmp .ge 7, 3)), (77, (.iconst 1, 1)), (78, (.goto 4, 3)), (81, (.iconst 0, 1)), (82, (.ireturn, 1)), (83, (.iload_n 2, 1)), (84, (.iload_n 3, 1)), (85, (.if_icmp .le 7, 3)), (88, (.iconst 1, 1)), (89, (.goto 4, 3)), (92, (.iconst 0, 1)), (93, (.ireturn, 1)), (94, (.iload_n 2, 1)), (95, (.iload_n 3, 1)), (96, (.if_icmp .ne 7, 3)), (99, (.iconst 1, 1)), (100, (.goto 4, 3)), (103, (.iconst 0, 1)), (104, (.ireturn, 1)), (105, (.iload_n 3, 1)), (106, (.ifCond .ne 10, 3)), (109, (.aload_n 0, 1)), (110, (.iconst 1, 1)), (111, (.putfield 95, 3)), (114, (.iconst 0, 1)), (115, (.ireturn, 1)), (116, (.iload_n 1, 1)), (117, (.bipush 47, 2)), (119, (.if_icmp .ne 9, 3)), (122, (.iload_n 2, 1)), (123, (.iload_n 3, 1)), (124, (.idiv, 1)), (125, (.goto 6, 3)), (128, (.iload_n 2, 1)), (129, (.iload_n 3, 1)), (130, (.irem, 1)), (131, (.ireturn, 1))]
theorem dm_X1_reckon : ∀ q ∈ tb_X1_reckon, decode zX1_reckon.2.1 q.1 = .ok q.2 := by decide +kernel
def f_X1_reckon (n : Nat) (a1 a2 a3 : Int32) (M : qM) : qR :=
  qsw a1 [((42 : Int32), some ((a2 * a3), M)), ((43 : Int32), some ((a2 + a3), M)), ((45 : Int32), some ((a2 - a3), M)), ((60 : Int32), (if a3 ≤ a2 then some ((0 : Int32), M) else some ((1 : Int32), M))), ((61 : Int32), (if a2 = a3 then some ((1 : Int32), M) else some ((0 : Int32), M))), ((62 : Int32), (if a2 ≤ a3 then some ((0 : Int32), M) else some ((1 : Int32), M)))] ((if a3 = (0 : Int32) then qlm (mu M 34 4 (1 : Int32)) (fun m1 => some ((0 : Int32), m1)) else (if a1 = (47 : Int32) then qd a3 (some ((a2 / a3), M)) else qd a3 (some ((a2 - a2 / a3 * a3), M)))))
set_option maxRecDepth 4000 in
theorem w_X1_reckon {g : qG} {k : qK} (n : Nat) (j r : Nat) (hj : q_isLaw j) (hr : q_isLaw r) (o : qOk g 0 zX1_reckon k) (a1 a2 a3 : Int32) (M : qM) : qAE g k zX1_reckon (qL j r) 0 [some (.inr (some 34)), some (.inl a1), some (.inl a2), some (.inl a3)] [] (qL j r, M) (f_X1_reckon n a1 a2 a3 M) := by
  unfold f_X1_reckon
  refine qr_iload_n o (q_dm dm_X1_reckon 0 rfl) rfl ?_
  refine qr_lookupp (tgt := 105) o (q_dm dm_X1_reckon 1 rfl) (by decide) rfl (by decide) ?_ (q_lbc 68 (by decide) ?_ (q_lbc 60 (by decide) ?_ (q_lbc 64 (by decide) ?_ (q_lbc 72 (by decide) ?_ (q_lbc 94 (by decide) ?_ (q_lbc 83 (by decide) ?_ q_lbn))))))
  · refine qr_iload_n o (q_dm dm_X1_reckon 35 rfl) rfl ?_
    refine qr_if_ne (tgt := 116) o (q_dm dm_X1_reckon 36 rfl) (by decide) ?_ ?_
    · refine qr_iload_n o (q_dm dm_X1_reckon 42 rfl) rfl ?_
      refine qr_bipush o (q_dm dm_X1_reckon 43 rfl) bi_47 ?_
      refine qr_icmp_ne (tgt := 128) o (q_dm dm_X1_reckon 44 rfl) (by decide) ?_ ?_
      · refine qr_iload_n o (q_dm dm_X1_reckon 49 rfl) rfl ?_
        refine qr_iload_n o (q_dm dm_X1_reckon 50 rfl) rfl ?_
        refine qr_irem o (q_dm dm_X1_reckon 51 rfl) ?_
        exact qr_iret o rfl rfl (q_dm dm_X1_reckon 52 rfl)
      · refine qr_iload_n o (q_dm dm_X1_reckon 45 rfl) rfl ?_
        refine qr_iload_n o (q_dm dm_X1_reckon 46 rfl) rfl ?_
        refine qr_idiv o (q_dm dm_X1_reckon 47 rfl) ?_
        refine qr_goto (tgt := 131) o (q_dm dm_X1_reckon 48 rfl) (by decide) ?_
        exact qr_iret o rfl rfl (q_dm dm_X1_reckon 52 rfl)
    · refine qr_aload_n o (q_dm dm_X1_reckon 37 rfl) rfl ?_
      refine qr_iconst o (q_dm dm_X1_reckon 38 rfl) ic_1 ?_
      refine qr_putz (kf := 4) o cf_X1 (sh34 j r) rfl (Nat.le_of_ble_eq_true rfl) fl_X1_95 rfl (by decide +kernel) (by decide) (q_dm dm_X1_reckon 39 rfl) ?_
      refine qr_letm (fun m1 => ?_)
      refine qr_iconst o (q_dm dm_X1_reckon 40 rfl) ic_0 ?_
      exact qr_iret o rfl rfl (q_dm dm_X1_reckon 41 rfl)
  · refine qr_iload_n o (q_dm dm_X1_reckon 10 rfl) rfl ?_
    refine qr_iload_n o (q_dm dm_X1_reckon 11 rfl) rfl ?_
    refine qr_imul o (q_dm dm_X1_reckon 12 rfl) ?_
    exact qr_iret o rfl rfl (q_dm dm_X1_reckon 13 rfl)
  · refine qr_iload_n o (q_dm dm_X1_reckon 2 rfl) rfl ?_
    refine qr_iload_n o (q_dm dm_X1_reckon 3 rfl) rfl ?_
    refine qr_iadd o (q_dm dm_X1_reckon 4 rfl) ?_
    exact qr_iret o rfl rfl (q_dm dm_X1_reckon 5 rfl)
  · refine qr_iload_n o (q_dm dm_X1_reckon 6 rfl) rfl ?_
    refine qr_iload_n o (q_dm dm_X1_reckon 7 rfl) rfl ?_
    refine qr_isub o (q_dm dm_X1_reckon 8 rfl) ?_
    exact qr_iret o rfl rfl (q_dm dm_X1_reckon 9 rfl)
  · refine qr_iload_n o (q_dm dm_X1_reckon 14 rfl) rfl ?_
    refine qr_iload_n o (q_dm dm_X1_reckon 15 rfl) rfl ?_
    refine qr_icmp_ge (tgt := 81) o (q_dm dm_X1_reckon 16 rfl) (by decide) ?_ ?_
    · refine qr_iconst o (q_dm dm_X1_reckon 19 rfl) ic_0 ?_
      exact qr_iret o rfl rfl (q_dm dm_X1_reckon 20 rfl)
    · refine qr_iconst o (q_dm dm_X1_reckon 17 rfl) ic_1 ?_
      refine qr_goto (tgt := 82) o (q_dm dm_X1_reckon 18 rfl) (by decide) ?_
      exact qr_iret o rfl rfl (q_dm dm_X1_reckon 20 rfl)
  · refine qr_iload_n o (q_dm dm_X1_reckon 28 rfl) rfl ?_
    refine qr_iload_n o (q_dm dm_X1_reckon 29 rfl) rfl ?_
    refine qr_icmp_ne (tgt := 103) o (q_dm dm_X1_reckon 30 rfl) (by decide) ?_ ?_
    · refine qr_iconst o (q_dm dm_X1_reckon 33 rfl) ic_0 ?_
      exact qr_iret o rfl rfl (q_dm dm_X1_reckon 34 rfl)
    · refine qr_iconst o (q_dm dm_X1_reckon 31 rfl) ic_1 ?_
      refine qr_goto (tgt := 104) o (q_dm dm_X1_reckon 32 rfl) (by decide) ?_
      exact qr_iret o rfl rfl (q_dm dm_X1_reckon 34 rfl)
  · refine qr_iload_n o (q_dm dm_X1_reckon 21 rfl) rfl ?_
    refine qr_iload_n o (q_dm dm_X1_reckon 22 rfl) rfl ?_
    refine qr_icmp_le (tgt := 92) o (q_dm dm_X1_reckon 23 rfl) (by decide) ?_ ?_
    · refine qr_iconst o (q_dm dm_X1_reckon 26 rfl) ic_0 ?_
      exact qr_iret o rfl rfl (q_dm dm_X1_reckon 27 rfl)
    · refine qr_iconst o (q_dm dm_X1_reckon 24 rfl) ic_1 ?_
      refine qr_goto (tgt := 93) o (q_dm dm_X1_reckon 25 rfl) (by decide) ?_
      exact qr_iret o rfl rfl (q_dm dm_X1_reckon 27 rfl)

theorem a_X1_reckon (g : qG) (l : Launch) (n : Nat) (j r : Nat) (hj : q_isLaw j) (hr : q_isLaw r) (a1 a2 a3 : Int32) (M : qM) : qAM g l 0 zX1_reckon (qL j r) [.inr (some 34), .inl a1, .inl a2, .inl a3] (qL j r, M) (f_X1_reckon n a1 a2 a3 M) :=
  qAM.of zv_X1_reckon.1 (by show 4 ≤ 4; decide) (fun k hk o => w_X1_reckon n j r hj hr o a1 a2 a3 M)
def tb_X1_run : List (Nat × Instr × Nat) := [(0, (.iconst 0, 1)), (1, (.istore_n 3, 1)), (2, (.aload_n 0, 1)), (3, (.iconst 0, 1)), (4, (.putfield 95, 3)), (7, (.iload_n 1, 1)), (8, (.istore 4, 2)), (10, (.iload 4, 2)), (12, (.iload_n 2, 1)), (13, (.if_icmp .ge 230, 3)), (16, (.aload_n 0, 1)), (17, (.getfield 95, 3)), (20, (.ifCond .ne 223, 3)), (23, (.aload_n 0, 1)), (24, (.getfield 24, 3)), (27, (.getfield 99, 3)), (30, (.iload 4, 2)), (32, (.iaload, 1)), (33, (.istore 5, 2)), (35, (.aload_n 0, 1)), (36, (.getfield 24, 3)), (39, (.getfield 102, 3)), (42, (.iload 4, 2)), (44, (.iaload, 1)), (45, (.istore 6, 2)), (47, (.iload 5, 2)), (49, (.ifCond .eq 9, 3)), (52, (.iload 5, 2)), (54, (.iconst 1, 1)), (55, (.if_icmp .ne 38, 3)), (58, (.iload_n 3, 1)), (59, (.bipush 64, 2)), (61, (.if_icmp .ge 176, 3)), (64, (.aload_n 0, 1)), (65, (.getfield 18, 3)), (68, (.iload_n 3, 1)), (69, (.iload 5, 2)), (71, (.ifCond .ne 8, 3)), (74, (.iload 6, 2)), (76, (.goto 10, 3)), (79, (.aload_n 0, 1)), (80, (.getfield 13, 3)), (83, (.iload 6, 2)), (85, (.iaload, 1)), (86, (.iastore, 1)), (87, (.iinc 3 1, 3)), (90, (.goto 147, 3)), (93, (.iload 5, 2)), (95, (.bipush 32, 2)), (97, (.if_icmp .lt 42, 3)), (100, (.iload_n 3, 1)), (101, (.iconst 2, 1)), (102, (.if_icmp .lt 37, 3)), (105, (.iinc 3 (-1), 3)), (108, (.aload_n 0, 1)), (109, (.getfield 18, 3)), (112, (.iload_n 3, 1)), (113, (.iconst 1, 1)), (114, (.isub, 1)), (115, (.aload_n 0, 1)), (116, (.iload 5, 2)), (118, (.aload_n 0, 1)), (119, (.getfield 18, 3)), (122, (.iload_n 3, 1)), (123, (.iconst 1, 1)), (124, (.isub, 1)), (125, (.iaload, 1)), (126, (.aload_n 0, 1)), (127, (.getfield 18, 3)), (130, (.iload_n 3, 1)), (131, (.iaload, 1)), (132, (.invokevirtual 105, 3)), (135, (.iastore, 1)), (136, (.goto 101, 3)), (139, (.iload 5, 2)), (141, (.iconst 2, 1)), (142, (.if_icmp .ne 29, 3)), (145, (.iload_n 3, 1)), (146, (.iconst 1, 1)), (147, (.if_icmp .lt 24, 3)), (150, (.aload_n 0, 1)), (151, (.getfield 18, 3)), (154, (.iload_n 3, 1)), (155, (.iconst 1, 1)), (156, (.isub, 1)), (157, (.iconst 1, 1)), (158, (.aload_n 0, 1)), (159, (.getfield 18, 3)), (162, (.iload_n 3, 1)), (163, (.iconst 1, 1)), (164, (.isub, 1)), (165, (.iaload, 1)), (166, (.isub, 1)), (167, (.iastore, 1)), (168, (.goto 69, 3)), (171, (.iload_n 3, 1)), (172, (.iconst 1, 1)), (173, (.if_icmp .lt 64, 3)), (176, (.aload_n 0, 1)), (177, (.getfield 18, 3)), (180, (.iload_n 3, 1)), (181, (.iconst 1, 1)), (182, (.isub, 1)), (183, (.iaload, 1)), (184, (.iload 5, 2)), (186, (.iconst 4, 1)), (187, (.if_icmp .ne 7, 3)), (190, (.iconst 1, 1)), (191, (.goto 4, 3)), (194, (.iconst 0, 1)), (195, (.if_icmp .ne 7, 3)), (198, (.iconst 1, 1)), (199, (.goto 4, 3)), (202, (.iconst 0, 1)), (203, (.istore 7, 2)), (205, (.iload 7, 2)), (207, (.ifCond .eq 13, 3)), (210, (.iload 4, 2)), (212, (.iload 6, 2)), (214, (.invokestatic 86, 3)), (217, (.goto 5, 3)), (220, (.iload 4, 2)), (222, (.istore 4, 2)), (224, (.iload 7, 2)), (226, (.ifCond .eq 7, 3)), (229, (.iload_n 3, 1)), (230, (.goto 6, 3)), (233, (.iload_n 3, 1)), (234, (.iconst 1, 1)), (235, (.isub, 1)), (236, (.istore_n 3, 1)), (237, (.iinc 4 1, 3)), (240, (.goto (-230), 3)), (243, (.aload_n 0, 1)), (244, (.getfield 95, 3)), (247, (.ifCond .ne 8, 3)), (250, (.iload_n 3, 1)), (251, (.iconst 1, 1)), (252, (.if_icmp .ge 7, 3)), (255, (.iconst 0, 1)), (256, (.goto 9, 3)), (259, (.aload_n 0, 1)), (260, (.getfield 18, 3)), (263, (.iconst 0, 1)), (264, (.iaload, 1)), (265, (.ireturn, 1))]
theorem dm_X1_run : ∀ q ∈ tb_X1_run, decode zX1_run.2.1 q.1 = .ok q.2 := by decide +kernel
def f_X1_run_243 (n : Nat) (j : Nat) (a3 : Int32) (M : qM) : qR :=
  (if (M 34 4) = (0 : Int32) then (if (1 : Int32) ≤ a3 then some ((M 36 0), M) else some ((0 : Int32), M)) else some ((0 : Int32), M))
set_option maxRecDepth 4000 in
theorem w_X1_run_243 {g : qG} {k : qK} (n : Nat) (j r : Nat) (hj : q_isLaw j) (hr : q_isLaw r) (o : qOk g 1 zX1_run k) (a3 : Int32) (M : qM) : qAE g k zX1_run (qL j r) 243 [some (.inr (some 34)), none, none, some (.inl a3), none, none, none, none] [] (qL j r, M) (f_X1_run_243 n j a3 M) := by
  unfold f_X1_run_243
  refine qr_aload_n o (q_dm dm_X1_run 133 rfl) rfl ?_
  refine qr_getf (kf := 4) o cf_X1 (sh34 j r) rfl (Nat.le_of_ble_eq_true rfl) fl_X1_95 (q_dm dm_X1_run 134 rfl) ?_
  refine qr_if_ne (tgt := 255) o (q_dm dm_X1_run 135 rfl) (by decide) ?_ ?_
  · refine qr_iconst o (q_dm dm_X1_run 139 rfl) ic_0 ?_
    refine qr_goto (tgt := 265) o (q_dm dm_X1_run 140 rfl) (by decide) ?_
    exact qr_iret o rfl rfl (q_dm dm_X1_run 145 rfl)
  · refine qr_iload_n o (q_dm dm_X1_run 136 rfl) rfl ?_
    refine qr_iconst o (q_dm dm_X1_run 137 rfl) ic_1 ?_
    refine qr_icmp_ge (tgt := 259) o (q_dm dm_X1_run 138 rfl) (by decide) ?_ ?_
    · refine qr_aload_n o (q_dm dm_X1_run 141 rfl) rfl ?_
      refine qr_getr (kf := 2) o cf_X1 (sh34 j r) rfl (Nat.le_of_ble_eq_true rfl) fl_X1_18 (q_dm dm_X1_run 142 rfl) ?_
      refine qr_iconst o (q_dm dm_X1_run 143 rfl) ic_0 ?_
      refine qr_iald0 (c := 0) o (sh36 j r) (by decide) (by decide) (q_dm dm_X1_run 144 rfl) ?_
      exact qr_iret o rfl rfl (q_dm dm_X1_run 145 rfl)
    · refine qr_iconst o (q_dm dm_X1_run 139 rfl) ic_0 ?_
      refine qr_goto (tgt := 265) o (q_dm dm_X1_run 140 rfl) (by decide) ?_
      exact qr_iret o rfl rfl (q_dm dm_X1_run 145 rfl)

def f_X1_run_222 (n : Nat) (j : Nat) (K10 : Int32 → Int32 → Int32 → qM → qR) (a2 a3 a7 s0 : Int32) (M : qM) : qR :=
  (if a7 = (0 : Int32) then ql (a3 - (1 : Int32)) (fun x1 => ql (s0 + (1 : Int32)) (fun x2 => K10 a2 x1 x2 M)) else ql (s0 + (1 : Int32)) (fun x3 => K10 a2 a3 x3 M))
set_option maxRecDepth 4000 in
theorem w_X1_run_222 {g : qG} {k : qK} (n : Nat) (j r : Nat) (hj : q_isLaw j) (hr : q_isLaw r) (o : qOk g 1 zX1_run k) (K10 : Int32 → Int32 → Int32 → qM → qR) (hK10 : ∀ (a2 a3 a4 : Int32) (M : qM), qAE g k zX1_run (qL j r) 10 [some (.inr (some 34)), none, some (.inl a2), some (.inl a3), some (.inl a4), none, none, none] [] (qL j r, M) (K10 a2 a3 a4 M)) (a2 a3 a7 s0 : Int32) (M : qM) : qAE g k zX1_run (qL j r) 222 [some (.inr (some 34)), none, some (.inl a2), some (.inl a3), none, none, none, some (.inl a7)] [.inl s0] (qL j r, M) (f_X1_run_222 n j K10 a2 a3 a7 s0 M) := by
  unfold f_X1_run_222
  refine qs_istore (L' := [some (.inr (some 34)), none, some (.inl a2), some (.inl a3), some (.inl s0), none, none, some (.inl a7)]) o (q_dm dm_X1_run 122 rfl) (Nat.le_of_ble_eq_true rfl) rfl ?_
  refine qr_iload o (q_dm dm_X1_run 123 rfl) rfl ?_
  refine qr_if_eq (tgt := 233) o (q_dm dm_X1_run 124 rfl) (by decide) ?_ ?_
  · refine qr_iload_n o (q_dm dm_X1_run 127 rfl) rfl ?_
    refine qr_iconst o (q_dm dm_X1_run 128 rfl) ic_1 ?_
    refine qr_isub o (q_dm dm_X1_run 129 rfl) ?_
    refine qr_lt (fun x1 => ?_)
    refine qs_istore_n (L' := [some (.inr (some 34)), none, some (.inl a2), some (.inl x1), some (.inl s0), none, none, some (.inl a7)]) o (q_dm dm_X1_run 130 rfl) (Nat.le_of_ble_eq_true rfl) rfl ?_
    refine qs_iincl2 (L' := fun x2 => [some (.inr (some 34)), none, some (.inl a2), some (.inl x1), some (.inl x2), none, none, some (.inl a7)]) o (q_dm dm_X1_run 131 rfl) rfl ic_1 (Nat.le_of_ble_eq_true rfl) (fun _ => rfl) (fun x2 => ?_)
    refine qr_goto (tgt := 10) o (q_dm dm_X1_run 132 rfl) (by decide) ?_
    exact qr_loc (q_leS (q_leN (q_leS (q_leS (q_leS (q_leN (q_leN (q_leN q_le0)))))))) (hK10 a2 x1 x2 M)
  · refine qr_iload_n o (q_dm dm_X1_run 125 rfl) rfl ?_
    refine qr_goto (tgt := 236) o (q_dm dm_X1_run 126 rfl) (by decide) ?_
    refine qs_istore_n (L' := [some (.inr (some 34)), none, some (.inl a2), some (.inl a3), some (.inl s0), none, none, some (.inl a7)]) o (q_dm dm_X1_run 130 rfl) (Nat.le_of_ble_eq_true rfl) rfl ?_
    refine qs_iincl2 (L' := fun x3 => [some (.inr (some 34)), none, some (.inl a2), some (.inl a3), some (.inl x3), none, none, some (.inl a7)]) o (q_dm dm_X1_run 131 rfl) rfl ic_1 (Nat.le_of_ble_eq_true rfl) (fun _ => rfl) (fun x3 => ?_)
    refine qr_goto (tgt := 10) o (q_dm dm_X1_run 132 rfl) (by decide) ?_
    exact qr_loc (q_leS (q_leN (q_leS (q_leS (q_leS (q_leN (q_leN (q_leN q_le0)))))))) (hK10 a2 a3 x3 M)

def f_X1_run_203 (n : Nat) (j : Nat) (K10 : Int32 → Int32 → Int32 → qM → qR) (a2 a3 a4 a6 s0 : Int32) (M : qM) : qR :=
  (if s0 = (0 : Int32) then f_X1_run_222 n j K10 a2 a3 s0 a4 M else f_X1_run_222 n j K10 a2 a3 s0 (qmax a4 a6) M)
set_option maxRecDepth 4000 in
theorem w_X1_run_203 {g : qG} {k : qK} (n : Nat) (j r : Nat) (hj : q_isLaw j) (hr : q_isLaw r) (o : qOk g 1 zX1_run k) (K10 : Int32 → Int32 → Int32 → qM → qR) (hK10 : ∀ (a2 a3 a4 : Int32) (M : qM), qAE g k zX1_run (qL j r) 10 [some (.inr (some 34)), none, some (.inl a2), some (.inl a3), some (.inl a4), none, none, none] [] (qL j r, M) (K10 a2 a3 a4 M)) (a2 a3 a4 a6 s0 : Int32) (M : qM) : qAE g k zX1_run (qL j r) 203 [some (.inr (some 34)), none, some (.inl a2), some (.inl a3), some (.inl a4), none, some (.inl a6), none] [.inl s0] (qL j r, M) (f_X1_run_203 n j K10 a2 a3 a4 a6 s0 M) := by
  unfold f_X1_run_203
  refine qs_istore (L' := [some (.inr (some 34)), none, some (.inl a2), some (.inl a3), some (.inl a4), none, some (.inl a6), some (.inl s0)]) o (q_dm dm_X1_run 114 rfl) (Nat.le_of_ble_eq_true rfl) rfl ?_
  refine qr_iload o (q_dm dm_X1_run 115 rfl) rfl ?_
  refine qr_if_eq (tgt := 220) o (q_dm dm_X1_run 116 rfl) (by decide) ?_ ?_
  · refine qr_iload o (q_dm dm_X1_run 121 rfl) rfl ?_
    exact qr_loc (q_leS (q_leN (q_leS (q_leS (q_leN (q_leN (q_leN (q_leS q_le0)))))))) (w_X1_run_222 n j r hj hr o K10 hK10 a2 a3 s0 a4 M)
  · refine qr_iload o (q_dm dm_X1_run 117 rfl) rfl ?_
    refine qr_iload o (q_dm dm_X1_run 118 rfl) rfl ?_
    refine qr_max o ml_X1_86 (by omega) (Nat.le_of_ble_eq_true rfl) (q_dm dm_X1_run 119 rfl) ?_
    refine qr_goto (tgt := 222) o (q_dm dm_X1_run 120 rfl) (by decide) ?_
    exact qr_loc (q_leS (q_leN (q_leS (q_leS (q_leN (q_leN (q_leN (q_leS q_le0)))))))) (w_X1_run_222 n j r hj hr o K10 hK10 a2 a3 s0 (qmax a4 a6) M)

def f_X1_run_195 (n : Nat) (j : Nat) (K10 : Int32 → Int32 → Int32 → qM → qR) (a2 a3 a4 a6 s0 s1 : Int32) (M : qM) : qR :=
  (if s0 = s1 then f_X1_run_203 n j K10 a2 a3 a4 a6 (1 : Int32) M else f_X1_run_203 n j K10 a2 a3 a4 a6 (0 : Int32) M)
set_option maxRecDepth 4000 in
theorem w_X1_run_195 {g : qG} {k : qK} (n : Nat) (j r : Nat) (hj : q_isLaw j) (hr : q_isLaw r) (o : qOk g 1 zX1_run k) (K10 : Int32 → Int32 → Int32 → qM → qR) (hK10 : ∀ (a2 a3 a4 : Int32) (M : qM), qAE g k zX1_run (qL j r) 10 [some (.inr (some 34)), none, some (.inl a2), some (.inl a3), some (.inl a4), none, none, none] [] (qL j r, M) (K10 a2 a3 a4 M)) (a2 a3 a4 a6 s0 s1 : Int32) (M : qM) : qAE g k zX1_run (qL j r) 195 [some (.inr (some 34)), none, some (.inl a2), some (.inl a3), some (.inl a4), none, some (.inl a6), none] [.inl s1, .inl s0] (qL j r, M) (f_X1_run_195 n j K10 a2 a3 a4 a6 s0 s1 M) := by
  unfold f_X1_run_195
  refine qr_icmp_ne (tgt := 202) o (q_dm dm_X1_run 110 rfl) (by decide) ?_ ?_
  · refine qr_iconst o (q_dm dm_X1_run 113 rfl) ic_0 ?_
    exact qr_loc (q_leS (q_leN (q_leS (q_leS (q_leS (q_leN (q_leS (q_leN q_le0)))))))) (w_X1_run_203 n j r hj hr o K10 hK10 a2 a3 a4 a6 (0 : Int32) M)
  · refine qr_iconst o (q_dm dm_X1_run 111 rfl) ic_1 ?_
    refine qr_goto (tgt := 203) o (q_dm dm_X1_run 112 rfl) (by decide) ?_
    exact qr_loc (q_leS (q_leN (q_leS (q_leS (q_leS (q_leN (q_leS (q_leN q_le0)))))))) (w_X1_run_203 n j r hj hr o K10 hK10 a2 a3 a4 a6 (1 : Int32) M)

def f_X1_run_171 (n : Nat) (j : Nat) (K10 : Int32 → Int32 → Int32 → qM → qR) (a2 a3 a4 a5 a6 : Int32) (M : qM) : qR :=
  (if a3 < (1 : Int32) then ql (a4 + (1 : Int32)) (fun x1 => K10 a2 a3 x1 M) else qg (a3 - (1 : Int32)) 64 ((if a5 = (4 : Int32) then f_X1_run_195 n j K10 a2 a3 a4 a6 (M 36 (a3 - (1 : Int32)).toNatClampNeg) (1 : Int32) M else f_X1_run_195 n j K10 a2 a3 a4 a6 (M 36 (a3 - (1 : Int32)).toNatClampNeg) (0 : Int32) M)))
set_option maxRecDepth 4000 in
theorem w_X1_run_171 {g : qG} {k : qK} (n : Nat) (j r : Nat) (hj : q_isLaw j) (hr : q_isLaw r) (o : qOk g 1 zX1_run k) (K10 : Int32 → Int32 → Int32 → qM → qR) (hK10 : ∀ (a2 a3 a4 : Int32) (M : qM), qAE g k zX1_run (qL j r) 10 [some (.inr (some 34)), none, some (.inl a2), some (.inl a3), some (.inl a4), none, none, none] [] (qL j r, M) (K10 a2 a3 a4 M)) (a2 a3 a4 a5 a6 : Int32) (M : qM) : qAE g k zX1_run (qL j r) 171 [some (.inr (some 34)), none, some (.inl a2), some (.inl a3), some (.inl a4), some (.inl a5), some (.inl a6), none] [] (qL j r, M) (f_X1_run_171 n j K10 a2 a3 a4 a5 a6 M) := by
  unfold f_X1_run_171
  refine qr_iload_n o (q_dm dm_X1_run 95 rfl) rfl ?_
  refine qr_iconst o (q_dm dm_X1_run 96 rfl) ic_1 ?_
  refine qr_icmp_lt (tgt := 237) o (q_dm dm_X1_run 97 rfl) (by decide) ?_ ?_
  · refine qs_iincl2 (L' := fun x1 => [some (.inr (some 34)), none, some (.inl a2), some (.inl a3), some (.inl x1), some (.inl a5), some (.inl a6), none]) o (q_dm dm_X1_run 131 rfl) rfl ic_1 (Nat.le_of_ble_eq_true rfl) (fun _ => rfl) (fun x1 => ?_)
    refine qr_goto (tgt := 10) o (q_dm dm_X1_run 132 rfl) (by decide) ?_
    exact qr_loc (q_leS (q_leN (q_leS (q_leS (q_leS (q_leN (q_leN (q_leN q_le0)))))))) (hK10 a2 a3 x1 M)
  · refine qr_aload_n o (q_dm dm_X1_run 98 rfl) rfl ?_
    refine qr_getr (kf := 2) o cf_X1 (sh34 j r) rfl (Nat.le_of_ble_eq_true rfl) fl_X1_18 (q_dm dm_X1_run 99 rfl) ?_
    refine qr_iload_n o (q_dm dm_X1_run 100 rfl) rfl ?_
    refine qr_iconst o (q_dm dm_X1_run 101 rfl) ic_1 ?_
    refine qr_isub o (q_dm dm_X1_run 102 rfl) ?_
    refine qr_iald o (sh36 j r) (q_dm dm_X1_run 103 rfl) ?_
    refine qr_iload o (q_dm dm_X1_run 104 rfl) rfl ?_
    refine qr_iconst o (q_dm dm_X1_run 105 rfl) ic_4 ?_
    refine qr_icmp_ne (tgt := 194) o (q_dm dm_X1_run 106 rfl) (by decide) ?_ ?_
    · refine qr_iconst o (q_dm dm_X1_run 109 rfl) ic_0 ?_
      exact qr_loc (q_leS (q_leN (q_leS (q_leS (q_leS (q_leN (q_leS (q_leN q_le0)))))))) (w_X1_run_195 n j r hj hr o K10 hK10 a2 a3 a4 a6 (M 36 (a3 - (1 : Int32)).toNatClampNeg) (0 : Int32) M)
    · refine qr_iconst o (q_dm dm_X1_run 107 rfl) ic_1 ?_
      refine qr_goto (tgt := 195) o (q_dm dm_X1_run 108 rfl) (by decide) ?_
      exact qr_loc (q_leS (q_leN (q_leS (q_leS (q_leS (q_leN (q_leS (q_leN q_le0)))))))) (w_X1_run_195 n j r hj hr o K10 hK10 a2 a3 a4 a6 (M 36 (a3 - (1 : Int32)).toNatClampNeg) (1 : Int32) M)

def f_X1_run_139 (n : Nat) (j : Nat) (K10 : Int32 → Int32 → Int32 → qM → qR) (a2 a3 a4 a5 a6 : Int32) (M : qM) : qR :=
  (if a5 = (2 : Int32) then (if a3 < (1 : Int32) then f_X1_run_171 n j K10 a2 a3 a4 a5 a6 M else qg (a3 - (1 : Int32)) 64 (qg (a3 - (1 : Int32)) 64 (qlm (mu M 36 (a3 - (1 : Int32)).toNatClampNeg ((1 : Int32) - (M 36 (a3 - (1 : Int32)).toNatClampNeg))) (fun m1 => ql (a4 + (1 : Int32)) (fun x2 => K10 a2 a3 x2 m1))))) else f_X1_run_171 n j K10 a2 a3 a4 a5 a6 M)
set_option maxRecDepth 4000 in
theorem w_X1_run_139 {g : qG} {k : qK} (n : Nat) (j r : Nat) (hj : q_isLaw j) (hr : q_isLaw r) (o : qOk g 1 zX1_run k) (K10 : Int32 → Int32 → Int32 → qM → qR) (hK10 : ∀ (a2 a3 a4 : Int32) (M : qM), qAE g k zX1_run (qL j r) 10 [some (.inr (some 34)), none, some (.inl a2), some (.inl a3), some (.inl a4), none, none, none] [] (qL j r, M) (K10 a2 a3 a4 M)) (a2 a3 a4 a5 a6 : Int32) (M : qM) : qAE g k zX1_run (qL j r) 139 [some (.inr (some 34)), none, some (.inl a2), some (.inl a3), some (.inl a4), some (.inl a5), some (.inl a6), none] [] (qL j r, M) (f_X1_run_139 n j K10 a2 a3 a4 a5 a6 M) := by
  unfold f_X1_run_139
  refine qr_iload o (q_dm dm_X1_run 74 rfl) rfl ?_
  refine qr_iconst o (q_dm dm_X1_run 75 rfl) ic_2 ?_
  refine qr_icmp_ne (tgt := 171) o (q_dm dm_X1_run 76 rfl) (by decide) ?_ ?_
  · exact qr_loc (q_leS (q_leN (q_leS (q_leS (q_leS (q_leS (q_leS (q_leN q_le0)))))))) (w_X1_run_171 n j r hj hr o K10 hK10 a2 a3 a4 a5 a6 M)
  · refine qr_iload_n o (q_dm dm_X1_run 77 rfl) rfl ?_
    refine qr_iconst o (q_dm dm_X1_run 78 rfl) ic_1 ?_
    refine qr_icmp_lt (tgt := 171) o (q_dm dm_X1_run 79 rfl) (by decide) ?_ ?_
    · exact qr_loc (q_leS (q_leN (q_leS (q_leS (q_leS (q_leS (q_leS (q_leN q_le0)))))))) (w_X1_run_171 n j r hj hr o K10 hK10 a2 a3 a4 a5 a6 M)
    · refine qr_aload_n o (q_dm dm_X1_run 80 rfl) rfl ?_
      refine qr_getr (kf := 2) o cf_X1 (sh34 j r) rfl (Nat.le_of_ble_eq_true rfl) fl_X1_18 (q_dm dm_X1_run 81 rfl) ?_
      refine qr_iload_n o (q_dm dm_X1_run 82 rfl) rfl ?_
      refine qr_iconst o (q_dm dm_X1_run 83 rfl) ic_1 ?_
      refine qr_isub o (q_dm dm_X1_run 84 rfl) ?_
      refine qr_iconst o (q_dm dm_X1_run 85 rfl) ic_1 ?_
      refine qr_aload_n o (q_dm dm_X1_run 86 rfl) rfl ?_
      refine qr_getr (kf := 2) o cf_X1 (sh34 j r) rfl (Nat.le_of_ble_eq_true rfl) fl_X1_18 (q_dm dm_X1_run 87 rfl) ?_
      refine qr_iload_n o (q_dm dm_X1_run 88 rfl) rfl ?_
      refine qr_iconst o (q_dm dm_X1_run 89 rfl) ic_1 ?_
      refine qr_isub o (q_dm dm_X1_run 90 rfl) ?_
      refine qr_iald o (sh36 j r) (q_dm dm_X1_run 91 rfl) ?_
      refine qr_isub o (q_dm dm_X1_run 92 rfl) ?_
      refine qr_iast o (sh36 j r) (q_dm dm_X1_run 93 rfl) ?_
      refine qr_letm (fun m1 => ?_)
      refine qr_goto (tgt := 237) o (q_dm dm_X1_run 94 rfl) (by decide) ?_
      refine qs_iincl2 (L' := fun x2 => [some (.inr (some 34)), none, some (.inl a2), some (.inl a3), some (.inl x2), some (.inl a5), some (.inl a6), none]) o (q_dm dm_X1_run 131 rfl) rfl ic_1 (Nat.le_of_ble_eq_true rfl) (fun _ => rfl) (fun x2 => ?_)
      refine qr_goto (tgt := 10) o (q_dm dm_X1_run 132 rfl) (by decide) ?_
      exact qr_loc (q_leS (q_leN (q_leS (q_leS (q_leS (q_leN (q_leN (q_leN q_le0)))))))) (hK10 a2 a3 x2 m1)

def f_X1_run_58 (n : Nat) (j : Nat) (K10 : Int32 → Int32 → Int32 → qM → qR) (a2 a3 a4 a5 a6 : Int32) (M : qM) : qR :=
  (if (64 : Int32) ≤ a3 then ql (a4 + (1 : Int32)) (fun x1 => K10 a2 a3 x1 M) else (if a5 = (0 : Int32) then qg a3 64 (qlm (mu M 36 a3.toNatClampNeg a6) (fun m5 => ql (a3 + (1 : Int32)) (fun x6 => ql (a4 + (1 : Int32)) (fun x7 => K10 a2 x6 x7 m5)))) else qg a6 12 (qg a3 64 (qlm (mu M 36 a3.toNatClampNeg (M 35 a6.toNatClampNeg)) (fun m2 => ql (a3 + (1 : Int32)) (fun x3 => ql (a4 + (1 : Int32)) (fun x4 => K10 a2 x3 x4 m2)))))))
set_option maxRecDepth 4000 in
theorem w_X1_run_58 {g : qG} {k : qK} (n : Nat) (j r : Nat) (hj : q_isLaw j) (hr : q_isLaw r) (o : qOk g 1 zX1_run k) (K10 : Int32 → Int32 → Int32 → qM → qR) (hK10 : ∀ (a2 a3 a4 : Int32) (M : qM), qAE g k zX1_run (qL j r) 10 [some (.inr (some 34)), none, some (.inl a2), some (.inl a3), some (.inl a4), none, none, none] [] (qL j r, M) (K10 a2 a3 a4 M)) (a2 a3 a4 a5 a6 : Int32) (M : qM) : qAE g k zX1_run (qL j r) 58 [some (.inr (some 34)), none, some (.inl a2), some (.inl a3), some (.inl a4), some (.inl a5), some (.inl a6), none] [] (qL j r, M) (f_X1_run_58 n j K10 a2 a3 a4 a5 a6 M) := by
  unfold f_X1_run_58
  refine qr_iload_n o (q_dm dm_X1_run 30 rfl) rfl ?_
  refine qr_bipush o (q_dm dm_X1_run 31 rfl) bi_64 ?_
  refine qr_icmp_ge (tgt := 237) o (q_dm dm_X1_run 32 rfl) (by decide) ?_ ?_
  · refine qs_iincl2 (L' := fun x1 => [some (.inr (some 34)), none, some (.inl a2), some (.inl a3), some (.inl x1), some (.inl a5), some (.inl a6), none]) o (q_dm dm_X1_run 131 rfl) rfl ic_1 (Nat.le_of_ble_eq_true rfl) (fun _ => rfl) (fun x1 => ?_)
    refine qr_goto (tgt := 10) o (q_dm dm_X1_run 132 rfl) (by decide) ?_
    exact qr_loc (q_leS (q_leN (q_leS (q_leS (q_leS (q_leN (q_leN (q_leN q_le0)))))))) (hK10 a2 a3 x1 M)
  · refine qr_aload_n o (q_dm dm_X1_run 33 rfl) rfl ?_
    refine qr_getr (kf := 2) o cf_X1 (sh34 j r) rfl (Nat.le_of_ble_eq_true rfl) fl_X1_18 (q_dm dm_X1_run 34 rfl) ?_
    refine qr_iload_n o (q_dm dm_X1_run 35 rfl) rfl ?_
    refine qr_iload o (q_dm dm_X1_run 36 rfl) rfl ?_
    refine qr_if_ne (tgt := 79) o (q_dm dm_X1_run 37 rfl) (by decide) ?_ ?_
    · refine qr_aload_n o (q_dm dm_X1_run 40 rfl) rfl ?_
      refine qr_getr (kf := 1) o cf_X1 (sh34 j r) rfl (Nat.le_of_ble_eq_true rfl) fl_X1_13 (q_dm dm_X1_run 41 rfl) ?_
      refine qr_iload o (q_dm dm_X1_run 42 rfl) rfl ?_
      refine qr_iald o (sh35 j r) (q_dm dm_X1_run 43 rfl) ?_
      refine qr_iast o (sh36 j r) (q_dm dm_X1_run 44 rfl) ?_
      refine qr_letm (fun m2 => ?_)
      refine qs_iincl2 (L' := fun x3 => [some (.inr (some 34)), none, some (.inl a2), some (.inl x3), some (.inl a4), some (.inl a5), some (.inl a6), none]) o (q_dm dm_X1_run 45 rfl) rfl ic_1 (Nat.le_of_ble_eq_true rfl) (fun _ => rfl) (fun x3 => ?_)
      refine qr_goto (tgt := 237) o (q_dm dm_X1_run 46 rfl) (by decide) ?_
      refine qs_iincl2 (L' := fun x4 => [some (.inr (some 34)), none, some (.inl a2), some (.inl x3), some (.inl x4), some (.inl a5), some (.inl a6), none]) o (q_dm dm_X1_run 131 rfl) rfl ic_1 (Nat.le_of_ble_eq_true rfl) (fun _ => rfl) (fun x4 => ?_)
      refine qr_goto (tgt := 10) o (q_dm dm_X1_run 132 rfl) (by decide) ?_
      exact qr_loc (q_leS (q_leN (q_leS (q_leS (q_leS (q_leN (q_leN (q_leN q_le0)))))))) (hK10 a2 x3 x4 m2)
    · refine qr_iload o (q_dm dm_X1_run 38 rfl) rfl ?_
      refine qr_goto (tgt := 86) o (q_dm dm_X1_run 39 rfl) (by decide) ?_
      refine qr_iast o (sh36 j r) (q_dm dm_X1_run 44 rfl) ?_
      refine qr_letm (fun m5 => ?_)
      refine qs_iincl2 (L' := fun x6 => [some (.inr (some 34)), none, some (.inl a2), some (.inl x6), some (.inl a4), some (.inl a5), some (.inl a6), none]) o (q_dm dm_X1_run 45 rfl) rfl ic_1 (Nat.le_of_ble_eq_true rfl) (fun _ => rfl) (fun x6 => ?_)
      refine qr_goto (tgt := 237) o (q_dm dm_X1_run 46 rfl) (by decide) ?_
      refine qs_iincl2 (L' := fun x7 => [some (.inr (some 34)), none, some (.inl a2), some (.inl x6), some (.inl x7), some (.inl a5), some (.inl a6), none]) o (q_dm dm_X1_run 131 rfl) rfl ic_1 (Nat.le_of_ble_eq_true rfl) (fun _ => rfl) (fun x7 => ?_)
      refine qr_goto (tgt := 10) o (q_dm dm_X1_run 132 rfl) (by decide) ?_
      exact qr_loc (q_leS (q_leN (q_leS (q_leS (q_leS (q_leN (q_leN (q_leN q_le0)))))))) (hK10 a2 x6 x7 m5)

def b_X1_run_10 (n : Nat) (j : Nat) (K10 : Int32 → Int32 → Int32 → qM → qR) (a2 a3 a4 : Int32) (M : qM) : qR :=
  (if a2 ≤ a4 then f_X1_run_243 n j a3 M else (if (M 34 4) = (0 : Int32) then qg a4 240 (ql (M (j + 1) a4.toNatClampNeg) (fun x1 => qg a4 240 (ql (M (j + 2) a4.toNatClampNeg) (fun x2 => (if x1 = (0 : Int32) then f_X1_run_58 n j K10 a2 a3 a4 x1 x2 M else (if x1 = (1 : Int32) then f_X1_run_58 n j K10 a2 a3 a4 x1 x2 M else (if x1 < (32 : Int32) then f_X1_run_139 n j K10 a2 a3 a4 x1 x2 M else (if a3 < (2 : Int32) then f_X1_run_139 n j K10 a2 a3 a4 x1 x2 M else ql (a3 + (-1 : Int32)) (fun x3 => qg (x3 - (1 : Int32)) 64 (qg x3 64 (qc (f_X1_reckon n x1 (M 36 (x3 - (1 : Int32)).toNatClampNeg) (M 36 x3.toNatClampNeg) M) (fun r4 m5 => qg (x3 - (1 : Int32)) 64 (qlm (mu m5 36 (x3 - (1 : Int32)).toNatClampNeg r4) (fun m6 => ql (a4 + (1 : Int32)) (fun x7 => K10 a2 x3 x7 m6))))))))))))))) else f_X1_run_243 n j a3 M))
set_option maxRecDepth 4000 in
theorem wb_X1_run_10 {g : qG} {k : qK} (n : Nat) (j r : Nat) (hj : q_isLaw j) (hr : q_isLaw r) (o : qOk g 1 zX1_run k) (K10 : Int32 → Int32 → Int32 → qM → qR) (hK10 : ∀ (a2 a3 a4 : Int32) (M : qM), qAE g k zX1_run (qL j r) 10 [some (.inr (some 34)), none, some (.inl a2), some (.inl a3), some (.inl a4), none, none, none] [] (qL j r, M) (K10 a2 a3 a4 M)) (a2 a3 a4 : Int32) (M : qM) : qAE g k zX1_run (qL j r) 10 [some (.inr (some 34)), none, some (.inl a2), some (.inl a3), some (.inl a4), none, none, none] [] (qL j r, M) (b_X1_run_10 n j K10 a2 a3 a4 M) := by
  unfold b_X1_run_10
  refine qr_iload o (q_dm dm_X1_run 7 rfl) rfl ?_
  refine qr_iload_n o (q_dm dm_X1_run 8 rfl) rfl ?_
  refine qr_icmp_ge (tgt := 243) o (q_dm dm_X1_run 9 rfl) (by decide) ?_ ?_
  · exact qr_loc (q_leS (q_leN (q_leN (q_leS (q_leN (q_leN (q_leN (q_leN q_le0)))))))) (w_X1_run_243 n j r hj hr o a3 M)
  · refine qr_aload_n o (q_dm dm_X1_run 10 rfl) rfl ?_
    refine qr_getf (kf := 4) o cf_X1 (sh34 j r) rfl (Nat.le_of_ble_eq_true rfl) fl_X1_95 (q_dm dm_X1_run 11 rfl) ?_
    refine qr_if_ne (tgt := 243) o (q_dm dm_X1_run 12 rfl) (by decide) ?_ ?_
    · exact qr_loc (q_leS (q_leN (q_leN (q_leS (q_leN (q_leN (q_leN (q_leN q_le0)))))))) (w_X1_run_243 n j r hj hr o a3 M)
    · refine qr_aload_n o (q_dm dm_X1_run 13 rfl) rfl ?_
      refine qr_getr (kf := 3) o cf_X1 (sh34 j r) rfl (Nat.le_of_ble_eq_true rfl) fl_X1_24 (q_dm dm_X1_run 14 rfl) ?_
      refine qr_getr (kf := 0) o cf_X3 (shW0 j r hj) rfl (Nat.le_of_ble_eq_true rfl) fl_X1_99 (q_dm dm_X1_run 15 rfl) ?_
      refine qr_iload o (q_dm dm_X1_run 16 rfl) rfl ?_
      refine qr_iald o (shW1 j r hj) (q_dm dm_X1_run 17 rfl) ?_
      refine qr_lt (fun x1 => ?_)
      refine qs_istore (L' := [some (.inr (some 34)), none, some (.inl a2), some (.inl a3), some (.inl a4), some (.inl x1), none, none]) o (q_dm dm_X1_run 18 rfl) (Nat.le_of_ble_eq_true rfl) rfl ?_
      refine qr_aload_n o (q_dm dm_X1_run 19 rfl) rfl ?_
      refine qr_getr (kf := 3) o cf_X1 (sh34 j r) rfl (Nat.le_of_ble_eq_true rfl) fl_X1_24 (q_dm dm_X1_run 20 rfl) ?_
      refine qr_getr (kf := 1) o cf_X3 (shW0 j r hj) rfl (Nat.le_of_ble_eq_true rfl) fl_X1_102 (q_dm dm_X1_run 21 rfl) ?_
      refine qr_iload o (q_dm dm_X1_run 22 rfl) rfl ?_
      refine qr_iald o (shW2 j r hj) (q_dm dm_X1_run 23 rfl) ?_
      refine qr_lt (fun x2 => ?_)
      refine qs_istore (L' := [some (.inr (some 34)), none, some (.inl a2), some (.inl a3), some (.inl a4), some (.inl x1), some (.inl x2), none]) o (q_dm dm_X1_run 24 rfl) (Nat.le_of_ble_eq_true rfl) rfl ?_
      refine qr_iload o (q_dm dm_X1_run 25 rfl) rfl ?_
      refine qr_if_eq (tgt := 58) o (q_dm dm_X1_run 26 rfl) (by decide) ?_ ?_
      · exact qr_loc (q_leS (q_leN (q_leS (q_leS (q_leS (q_leS (q_leS (q_leN q_le0)))))))) (w_X1_run_58 n j r hj hr o K10 hK10 a2 a3 a4 x1 x2 M)
      · refine qr_iload o (q_dm dm_X1_run 27 rfl) rfl ?_
        refine qr_iconst o (q_dm dm_X1_run 28 rfl) ic_1 ?_
        refine qr_icmp_ne (tgt := 93) o (q_dm dm_X1_run 29 rfl) (by decide) ?_ ?_
        · refine qr_iload o (q_dm dm_X1_run 47 rfl) rfl ?_
          refine qr_bipush o (q_dm dm_X1_run 48 rfl) bi_32 ?_
          refine qr_icmp_lt (tgt := 139) o (q_dm dm_X1_run 49 rfl) (by decide) ?_ ?_
          · exact qr_loc (q_leS (q_leN (q_leS (q_leS (q_leS (q_leS (q_leS (q_leN q_le0)))))))) (w_X1_run_139 n j r hj hr o K10 hK10 a2 a3 a4 x1 x2 M)
          · refine qr_iload_n o (q_dm dm_X1_run 50 rfl) rfl ?_
            refine qr_iconst o (q_dm dm_X1_run 51 rfl) ic_2 ?_
            refine qr_icmp_lt (tgt := 139) o (q_dm dm_X1_run 52 rfl) (by decide) ?_ ?_
            · exact qr_loc (q_leS (q_leN (q_leS (q_leS (q_leS (q_leS (q_leS (q_leN q_le0)))))))) (w_X1_run_139 n j r hj hr o K10 hK10 a2 a3 a4 x1 x2 M)
            · refine qs_iincl2 (L' := fun x3 => [some (.inr (some 34)), none, some (.inl a2), some (.inl x3), some (.inl a4), some (.inl x1), some (.inl x2), none]) o (q_dm dm_X1_run 53 rfl) rfl ic_m1 (Nat.le_of_ble_eq_true rfl) (fun _ => rfl) (fun x3 => ?_)
              refine qr_aload_n o (q_dm dm_X1_run 54 rfl) rfl ?_
              refine qr_getr (kf := 2) o cf_X1 (sh34 j r) rfl (Nat.le_of_ble_eq_true rfl) fl_X1_18 (q_dm dm_X1_run 55 rfl) ?_
              refine qr_iload_n o (q_dm dm_X1_run 56 rfl) rfl ?_
              refine qr_iconst o (q_dm dm_X1_run 57 rfl) ic_1 ?_
              refine qr_isub o (q_dm dm_X1_run 58 rfl) ?_
              refine qr_aload_n o (q_dm dm_X1_run 59 rfl) rfl ?_
              refine qr_iload o (q_dm dm_X1_run 60 rfl) rfl ?_
              refine qr_aload_n o (q_dm dm_X1_run 61 rfl) rfl ?_
              refine qr_getr (kf := 2) o cf_X1 (sh34 j r) rfl (Nat.le_of_ble_eq_true rfl) fl_X1_18 (q_dm dm_X1_run 62 rfl) ?_
              refine qr_iload_n o (q_dm dm_X1_run 63 rfl) rfl ?_
              refine qr_iconst o (q_dm dm_X1_run 64 rfl) ic_1 ?_
              refine qr_isub o (q_dm dm_X1_run 65 rfl) ?_
              refine qr_iald o (sh36 j r) (q_dm dm_X1_run 66 rfl) ?_
              refine qr_aload_n o (q_dm dm_X1_run 67 rfl) rfl ?_
              refine qr_getr (kf := 2) o cf_X1 (sh34 j r) rfl (Nat.le_of_ble_eq_true rfl) fl_X1_18 (q_dm dm_X1_run 68 rfl) ?_
              refine qr_iload_n o (q_dm dm_X1_run 69 rfl) rfl ?_
              refine qr_iald o (sh36 j r) (q_dm dm_X1_run 70 rfl) ?_
              refine qr_callv_i (As := [.inl x1, .inl (M 36 (x3 - (1 : Int32)).toNatClampNeg), .inl (M 36 x3.toNatClampNeg)]) (S := [.inl (x3 - (1 : Int32)), .inr (some 36)]) o (a_X1_reckon g k.2.1 n j r hj hr x1 (M 36 (x3 - (1 : Int32)).toNatClampNeg) (M 36 x3.toNatClampNeg) M) (Nat.le_of_ble_eq_true rfl) zv_X1_reckon rfl cf_X1 (sh34 j r) ml_X1_105 (Nat.le_of_ble_eq_true rfl) (q_dm dm_X1_run 71 rfl) (fun r4 m5 => ?_)
              refine qr_iast o (sh36 j r) (q_dm dm_X1_run 72 rfl) ?_
              refine qr_letm (fun m6 => ?_)
              refine qr_goto (tgt := 237) o (q_dm dm_X1_run 73 rfl) (by decide) ?_
              refine qs_iincl2 (L' := fun x7 => [some (.inr (some 34)), none, some (.inl a2), some (.inl x3), some (.inl x7), some (.inl x1), some (.inl x2), none]) o (q_dm dm_X1_run 131 rfl) rfl ic_1 (Nat.le_of_ble_eq_true rfl) (fun _ => rfl) (fun x7 => ?_)
              refine qr_goto (tgt := 10) o (q_dm dm_X1_run 132 rfl) (by decide) ?_
              exact qr_loc (q_leS (q_leN (q_leS (q_leS (q_leS (q_leN (q_leN (q_leN q_le0)))))))) (hK10 a2 x3 x7 m6)
        · exact qr_loc (q_leS (q_leN (q_leS (q_leS (q_leS (q_leS (q_leS (q_leN q_le0)))))))) (w_X1_run_58 n j r hj hr o K10 hK10 a2 a3 a4 x1 x2 M)

def f_X1_run_10 (n : Nat) (j : Nat) : Nat → Int32 → Int32 → Int32 → qM → qR
  | 0, _, _, _, _ => none
  | m + 1, a2, a3, a4, M => b_X1_run_10 n j (f_X1_run_10 n j m) a2 a3 a4 M
theorem w_X1_run_10 {g : qG} {k : qK} (n : Nat) (j r : Nat) (hj : q_isLaw j) (hr : q_isLaw r) (o : qOk g 1 zX1_run k) : ∀ (m : Nat) (a2 a3 a4 : Int32) (M : qM), qAE g k zX1_run (qL j r) 10 [some (.inr (some 34)), none, some (.inl a2), some (.inl a3), some (.inl a4), none, none, none] [] (qL j r, M) (f_X1_run_10 n j m a2 a3 a4 M) := by
  intro m
  induction m with
  | zero =>
    intro a2 a3 a4 M
    exact qr_none
  | succ m ih =>
    intro a2 a3 a4 M
    exact wb_X1_run_10 n j r hj hr o (f_X1_run_10 n j m) ih a2 a3 a4 M
def f_X1_run (n : Nat) (j : Nat) (a1 a2 : Int32) (M : qM) : qR :=
  qlm (mu M 34 4 (0 : Int32)) (fun m1 => f_X1_run_10 n j n a2 (0 : Int32) a1 m1)
set_option maxRecDepth 4000 in
theorem w_X1_run {g : qG} {k : qK} (n : Nat) (j r : Nat) (hj : q_isLaw j) (hr : q_isLaw r) (o : qOk g 1 zX1_run k) (a1 a2 : Int32) (M : qM) : qAE g k zX1_run (qL j r) 0 [some (.inr (some 34)), some (.inl a1), some (.inl a2), none, none, none, none, none] [] (qL j r, M) (f_X1_run n j a1 a2 M) := by
  unfold f_X1_run
  refine qr_iconst o (q_dm dm_X1_run 0 rfl) ic_0 ?_
  refine qs_istore_n (L' := [some (.inr (some 34)), some (.inl a1), some (.inl a2), some (.inl (0 : Int32)), none, none, none, none]) o (q_dm dm_X1_run 1 rfl) (Nat.le_of_ble_eq_true rfl) rfl ?_
  refine qr_aload_n o (q_dm dm_X1_run 2 rfl) rfl ?_
  refine qr_iconst o (q_dm dm_X1_run 3 rfl) ic_0 ?_
  refine qr_putz (kf := 4) o cf_X1 (sh34 j r) rfl (Nat.le_of_ble_eq_true rfl) fl_X1_95 rfl (by decide +kernel) (by decide) (q_dm dm_X1_run 4 rfl) ?_
  refine qr_letm (fun m1 => ?_)
  refine qr_iload_n o (q_dm dm_X1_run 5 rfl) rfl ?_
  refine qs_istore (L' := [some (.inr (some 34)), some (.inl a1), some (.inl a2), some (.inl (0 : Int32)), some (.inl a1), none, none, none]) o (q_dm dm_X1_run 6 rfl) (Nat.le_of_ble_eq_true rfl) rfl ?_
  exact qr_loc (q_leS (q_leN (q_leS (q_leS (q_leS (q_leN (q_leN (q_leN q_le0)))))))) (w_X1_run_10 n j r hj hr o n a2 (0 : Int32) a1 m1)

theorem a_X1_run (g : qG) (l : Launch) (n : Nat) (j r : Nat) (hj : q_isLaw j) (hr : q_isLaw r) (a1 a2 : Int32) (M : qM) : qAM g l 1 zX1_run (qL j r) [.inr (some 34), .inl a1, .inl a2] (qL j r, M) (f_X1_run n j a1 a2 M) :=
  qAM.of zv_X1_run.1 (by show 3 ≤ 8; decide) (fun k hk o => w_X1_run n j r hj hr o a1 a2 M)
def tb_X1_amount : List (Nat × Instr × Nat) := [(0, (.iload_n 3, 1)), (1, (.istore 4, 2)), (3, (.iconst 0, 1)), (4, (.istore 5, 2)), (6, (.iload 5, 2)), (8, (.aload_n 0, 1)), (9, (.getfield 24, 3)), (12, (.getfield 61, 3)), (15, (.if_icmp .ge 86, 3)), (18, (.aload_n 0, 1)), (19, (.getfield 24, 3)), (22, (.getfield 65, 3)), (25, (.iload 5, 2)), (27, (.iaload, 1)), (28, (.iload_n 1, 1)), (29, (.if_icmp .ne 66, 3)), (32, (.iconst 0, 1)), (33, (.istore 4, 2)), (35, (.aload_n 0, 1)), (36, (.aload_n 0, 1)), (37, (.getfield 24, 3)), (40, (.getfield 68, 3)), (43, (.iload 5, 2)), (45, (.iaload, 1)), (46, (.aload_n 0, 1)), (47, (.getfield 24, 3)), (50, (.getfield 71, 3)), (53, (.iload 5, 2)), (55, (.iaload, 1)), (56, (.invokevirtual 74, 3)), (59, (.ifCond .eq 36, 3)), (62, (.iconst 0, 1)), (63, (.iload_n 2, 1)), (64, (.aload_n 0, 1)), (65, (.aload_n 0, 1)), (66, (.getfield 24, 3)), (69, (.getfield 78, 3)), (72, (.iload 5, 2)), (74, (.iaload, 1)), (75, (.aload_n 0, 1)), (76, (.getfield 24, 3)), (79, (.getfield 68, 3)), (82, (.iload 5, 2)), (84, (.iaload, 1)), (85, (.invokevirtual 74, 3)), (88, (.invokestatic 81, 3)), (91, (.invokestatic 86, 3)), (94, (.ireturn, 1)), (95, (.iinc 5 1, 3)), (98, (.goto (-92), 3)), (101, (.iload 4, 2)), (103, (.ireturn, 1))]
theorem dm_X1_amount : ∀ q ∈ tb_X1_amount, decode zX1_amount.2.1 q.1 = .ok q.2 := by decide +kernel
def b_X1_amount_6 (n : Nat) (j : Nat) (K6 : Int32 → Int32 → Int32 → Int32 → qM → qR) (a1 a2 a4 a5 : Int32) (M : qM) : qR :=
  (if (M j 7) ≤ a5 then some (a4, M) else qg a5 16 ((if (M (j + 3) a5.toNatClampNeg) = a1 then qg a5 16 (qg a5 16 (qc (f_X1_run n j (M (j + 5) a5.toNatClampNeg) (M (j + 6) a5.toNatClampNeg) M) (fun r2 m3 => (if r2 = (0 : Int32) then ql (a5 + (1 : Int32)) (fun x4 => K6 a1 a2 (0 : Int32) x4 m3) else qg a5 16 (qg a5 16 (qc (f_X1_run n j (m3 (j + 4) a5.toNatClampNeg) (m3 (j + 5) a5.toNatClampNeg) m3) (fun r5 m6 => some ((qmax (0 : Int32) (qmin a2 r5)), m6)))))))) else ql (a5 + (1 : Int32)) (fun x1 => K6 a1 a2 a4 x1 M))))
set_option maxRecDepth 4000 in
theorem wb_X1_amount_6 {g : qG} {k : qK} (n : Nat) (j r : Nat) (hj : q_isLaw j) (hr : q_isLaw r) (o : qOk g 2 zX1_amount k) (K6 : Int32 → Int32 → Int32 → Int32 → qM → qR) (hK6 : ∀ (a1 a2 a4 a5 : Int32) (M : qM), qAE g k zX1_amount (qL j r) 6 [some (.inr (some 34)), some (.inl a1), some (.inl a2), none, some (.inl a4), some (.inl a5)] [] (qL j r, M) (K6 a1 a2 a4 a5 M)) (a1 a2 a4 a5 : Int32) (M : qM) : qAE g k zX1_amount (qL j r) 6 [some (.inr (some 34)), some (.inl a1), some (.inl a2), none, some (.inl a4), some (.inl a5)] [] (qL j r, M) (b_X1_amount_6 n j K6 a1 a2 a4 a5 M) := by
  unfold b_X1_amount_6
  refine qr_iload o (q_dm dm_X1_amount 4 rfl) rfl ?_
  refine qr_aload_n o (q_dm dm_X1_amount 5 rfl) rfl ?_
  refine qr_getr (kf := 3) o cf_X1 (sh34 j r) rfl (Nat.le_of_ble_eq_true rfl) fl_X1_24 (q_dm dm_X1_amount 6 rfl) ?_
  refine qr_getf (kf := 7) o cf_X3 (shW0 j r hj) rfl (Nat.le_of_ble_eq_true rfl) fl_X1_61 (q_dm dm_X1_amount 7 rfl) ?_
  refine qr_icmp_ge (tgt := 101) o (q_dm dm_X1_amount 8 rfl) (by decide) ?_ ?_
  · refine qr_iload o (q_dm dm_X1_amount 50 rfl) rfl ?_
    exact qr_iret o rfl rfl (q_dm dm_X1_amount 51 rfl)
  · refine qr_aload_n o (q_dm dm_X1_amount 9 rfl) rfl ?_
    refine qr_getr (kf := 3) o cf_X1 (sh34 j r) rfl (Nat.le_of_ble_eq_true rfl) fl_X1_24 (q_dm dm_X1_amount 10 rfl) ?_
    refine qr_getr (kf := 2) o cf_X3 (shW0 j r hj) rfl (Nat.le_of_ble_eq_true rfl) fl_X1_65 (q_dm dm_X1_amount 11 rfl) ?_
    refine qr_iload o (q_dm dm_X1_amount 12 rfl) rfl ?_
    refine qr_iald o (shW3 j r hj) (q_dm dm_X1_amount 13 rfl) ?_
    refine qr_iload_n o (q_dm dm_X1_amount 14 rfl) rfl ?_
    refine qr_icmp_ne (tgt := 95) o (q_dm dm_X1_amount 15 rfl) (by decide) ?_ ?_
    · refine qs_iincl2 (L' := fun x1 => [some (.inr (some 34)), some (.inl a1), some (.inl a2), none, some (.inl a4), some (.inl x1)]) o (q_dm dm_X1_amount 48 rfl) rfl ic_1 (Nat.le_of_ble_eq_true rfl) (fun _ => rfl) (fun x1 => ?_)
      refine qr_goto (tgt := 6) o (q_dm dm_X1_amount 49 rfl) (by decide) ?_
      exact qr_loc (q_leS (q_leS (q_leS (q_leN (q_leS (q_leS q_le0)))))) (hK6 a1 a2 a4 x1 M)
    · refine qr_iconst o (q_dm dm_X1_amount 16 rfl) ic_0 ?_
      refine qs_istore (L' := [some (.inr (some 34)), some (.inl a1), some (.inl a2), none, some (.inl (0 : Int32)), some (.inl a5)]) o (q_dm dm_X1_amount 17 rfl) (Nat.le_of_ble_eq_true rfl) rfl ?_
      refine qr_aload_n o (q_dm dm_X1_amount 18 rfl) rfl ?_
      refine qr_aload_n o (q_dm dm_X1_amount 19 rfl) rfl ?_
      refine qr_getr (kf := 3) o cf_X1 (sh34 j r) rfl (Nat.le_of_ble_eq_true rfl) fl_X1_24 (q_dm dm_X1_amount 20 rfl) ?_
      refine qr_getr (kf := 4) o cf_X3 (shW0 j r hj) rfl (Nat.le_of_ble_eq_true rfl) fl_X1_68 (q_dm dm_X1_amount 21 rfl) ?_
      refine qr_iload o (q_dm dm_X1_amount 22 rfl) rfl ?_
      refine qr_iald o (shW5 j r hj) (q_dm dm_X1_amount 23 rfl) ?_
      refine qr_aload_n o (q_dm dm_X1_amount 24 rfl) rfl ?_
      refine qr_getr (kf := 3) o cf_X1 (sh34 j r) rfl (Nat.le_of_ble_eq_true rfl) fl_X1_24 (q_dm dm_X1_amount 25 rfl) ?_
      refine qr_getr (kf := 5) o cf_X3 (shW0 j r hj) rfl (Nat.le_of_ble_eq_true rfl) fl_X1_71 (q_dm dm_X1_amount 26 rfl) ?_
      refine qr_iload o (q_dm dm_X1_amount 27 rfl) rfl ?_
      refine qr_iald o (shW6 j r hj) (q_dm dm_X1_amount 28 rfl) ?_
      refine qr_callv_i (As := [.inl (M (j + 5) a5.toNatClampNeg), .inl (M (j + 6) a5.toNatClampNeg)]) (S := []) o (a_X1_run g k.2.1 n j r hj hr (M (j + 5) a5.toNatClampNeg) (M (j + 6) a5.toNatClampNeg) M) (Nat.le_of_ble_eq_true rfl) zv_X1_run rfl cf_X1 (sh34 j r) ml_X1_74 (Nat.le_of_ble_eq_true rfl) (q_dm dm_X1_amount 29 rfl) (fun r2 m3 => ?_)
      refine qr_if_eq (tgt := 95) o (q_dm dm_X1_amount 30 rfl) (by decide) ?_ ?_
      · refine qs_iincl2 (L' := fun x4 => [some (.inr (some 34)), some (.inl a1), some (.inl a2), none, some (.inl (0 : Int32)), some (.inl x4)]) o (q_dm dm_X1_amount 48 rfl) rfl ic_1 (Nat.le_of_ble_eq_true rfl) (fun _ => rfl) (fun x4 => ?_)
        refine qr_goto (tgt := 6) o (q_dm dm_X1_amount 49 rfl) (by decide) ?_
        exact qr_loc (q_leS (q_leS (q_leS (q_leN (q_leS (q_leS q_le0)))))) (hK6 a1 a2 (0 : Int32) x4 m3)
      · refine qr_iconst o (q_dm dm_X1_amount 31 rfl) ic_0 ?_
        refine qr_iload_n o (q_dm dm_X1_amount 32 rfl) rfl ?_
        refine qr_aload_n o (q_dm dm_X1_amount 33 rfl) rfl ?_
        refine qr_aload_n o (q_dm dm_X1_amount 34 rfl) rfl ?_
        refine qr_getr (kf := 3) o cf_X1 (sh34 j r) rfl (Nat.le_of_ble_eq_true rfl) fl_X1_24 (q_dm dm_X1_amount 35 rfl) ?_
        refine qr_getr (kf := 3) o cf_X3 (shW0 j r hj) rfl (Nat.le_of_ble_eq_true rfl) fl_X1_78 (q_dm dm_X1_amount 36 rfl) ?_
        refine qr_iload o (q_dm dm_X1_amount 37 rfl) rfl ?_
        refine qr_iald o (shW4 j r hj) (q_dm dm_X1_amount 38 rfl) ?_
        refine qr_aload_n o (q_dm dm_X1_amount 39 rfl) rfl ?_
        refine qr_getr (kf := 3) o cf_X1 (sh34 j r) rfl (Nat.le_of_ble_eq_true rfl) fl_X1_24 (q_dm dm_X1_amount 40 rfl) ?_
        refine qr_getr (kf := 4) o cf_X3 (shW0 j r hj) rfl (Nat.le_of_ble_eq_true rfl) fl_X1_68 (q_dm dm_X1_amount 41 rfl) ?_
        refine qr_iload o (q_dm dm_X1_amount 42 rfl) rfl ?_
        refine qr_iald o (shW5 j r hj) (q_dm dm_X1_amount 43 rfl) ?_
        refine qr_callv_i (As := [.inl (m3 (j + 4) a5.toNatClampNeg), .inl (m3 (j + 5) a5.toNatClampNeg)]) (S := [.inl a2, .inl (0 : Int32)]) o (a_X1_run g k.2.1 n j r hj hr (m3 (j + 4) a5.toNatClampNeg) (m3 (j + 5) a5.toNatClampNeg) m3) (Nat.le_of_ble_eq_true rfl) zv_X1_run rfl cf_X1 (sh34 j r) ml_X1_74 (Nat.le_of_ble_eq_true rfl) (q_dm dm_X1_amount 44 rfl) (fun r5 m6 => ?_)
        refine qr_min o ml_X1_81 (by omega) (Nat.le_of_ble_eq_true rfl) (q_dm dm_X1_amount 45 rfl) ?_
        refine qr_max o ml_X1_86 (by omega) (Nat.le_of_ble_eq_true rfl) (q_dm dm_X1_amount 46 rfl) ?_
        exact qr_iret o rfl rfl (q_dm dm_X1_amount 47 rfl)

def f_X1_amount_6 (n : Nat) (j : Nat) : Nat → Int32 → Int32 → Int32 → Int32 → qM → qR
  | 0, _, _, _, _, _ => none
  | m + 1, a1, a2, a4, a5, M => b_X1_amount_6 n j (f_X1_amount_6 n j m) a1 a2 a4 a5 M
theorem w_X1_amount_6 {g : qG} {k : qK} (n : Nat) (j r : Nat) (hj : q_isLaw j) (hr : q_isLaw r) (o : qOk g 2 zX1_amount k) : ∀ (m : Nat) (a1 a2 a4 a5 : Int32) (M : qM), qAE g k zX1_amount (qL j r) 6 [some (.inr (some 34)), some (.inl a1), some (.inl a2), none, some (.inl a4), some (.inl a5)] [] (qL j r, M) (f_X1_amount_6 n j m a1 a2 a4 a5 M) := by
  intro m
  induction m with
  | zero =>
    intro a1 a2 a4 a5 M
    exact qr_none
  | succ m ih =>
    intro a1 a2 a4 a5 M
    exact wb_X1_amount_6 n j r hj hr o (f_X1_amount_6 n j m) ih a1 a2 a4 a5 M
def f_X1_amount (n : Nat) (j : Nat) (a1 a2 a3 : Int32) (M : qM) : qR :=
  f_X1_amount_6 n j n a1 a2 a3 (0 : Int32) M
set_option maxRecDepth 4000 in
theorem w_X1_amount {g : qG} {k : qK} (n : Nat) (j r : Nat) (hj : q_isLaw j) (hr : q_isLaw r) (o : qOk g 2 zX1_amount k) (a1 a2 a3 : Int32) (M : qM) : qAE g k zX1_amount (qL j r) 0 [some (.inr (some 34)), some (.inl a1), some (.inl a2), some (.inl a3), none, none] [] (qL j r, M) (f_X1_amount n j a1 a2 a3 M) := by
  unfold f_X1_amount
  refine qr_iload_n o (q_dm dm_X1_amount 0 rfl) rfl ?_
  refine qs_istore (L' := [some (.inr (some 34)), some (.inl a1), some (.inl a2), some (.inl a3), some (.inl a3), none]) o (q_dm dm_X1_amount 1 rfl) (Nat.le_of_ble_eq_true rfl) rfl ?_
  refine qr_iconst o (q_dm dm_X1_amount 2 rfl) ic_0 ?_
  refine qs_istore (L' := [some (.inr (some 34)), some (.inl a1), some (.inl a2), some (.inl a3), some (.inl a3), some (.inl (0 : Int32))]) o (q_dm dm_X1_amount 3 rfl) (Nat.le_of_ble_eq_true rfl) rfl ?_
  exact qr_loc (q_leS (q_leS (q_leS (q_leN (q_leS (q_leS q_le0)))))) (w_X1_amount_6 n j r hj hr o n a1 a2 a3 (0 : Int32) M)

theorem a_X1_amount (g : qG) (l : Launch) (n : Nat) (j r : Nat) (hj : q_isLaw j) (hr : q_isLaw r) (a1 a2 a3 : Int32) (M : qM) : qAM g l 2 zX1_amount (qL j r) [.inr (some 34), .inl a1, .inl a2, .inl a3] (qL j r, M) (f_X1_amount n j a1 a2 a3 M) :=
  qAM.of zv_X1_amount.1 (by show 4 ≤ 6; decide) (fun k hk o => w_X1_amount n j r hj hr o a1 a2 a3 M)
def tb_X0_forget : List (Nat × Instr × Nat) := [(0, (.iconst 0, 1)), (1, (.istore 4, 2)), (3, (.iload 4, 2)), (5, (.bipush 12, 2)), (7, (.if_icmp .ge 93, 3)), (10, (.iload_n 2, 1)), (11, (.bipush 12, 2)), (13, (.imul, 1)), (14, (.iload 4, 2)), (16, (.iadd, 1)), (17, (.istore 5, 2)), (19, (.iload_n 3, 1)), (20, (.iload 4, 2)), (22, (.ishr, 1)), (23, (.iconst 1, 1)), (24, (.iand, 1)), (25, (.iconst 1, 1)), (26, (.if_icmp .ne 68, 3)), (29, (.aload_n 1, 1)), (30, (.getfield 73, 3)), (33, (.iload 5, 2)), (35, (.iaload, 1)), (36, (.ifCond .le 58, 3)), (39, (.aload_n 0, 1)), (40, (.aload_n 1, 1)), (41, (.iload_n 2, 1)), (42, (.iload 4, 2)), (44, (.bipush 8, 2)), (46, (.invokevirtual 41, 3)), (49, (.aload_n 0, 1)), (50, (.getfield 15, 3)), (53, (.bipush 102, 2)), (55, (.sipush 999, 3)), (58, (.iconst 0, 1)), (59, (.invokevirtual 69, 3)), (62, (.istore 6, 2)), (64, (.iload 6, 2)), (66, (.ifCond .le 28, 3)), (69, (.aload_n 1, 1)), (70, (.getfield 19, 3)), (73, (.aload_n 1, 1)), (74, (.getfield 138, 3)), (77, (.iload 5, 2)), (79, (.iaload, 1)), (80, (.isub, 1)), (81, (.iload 6, 2)), (83, (.if_icmp .lt 11, 3)), (86, (.aload_n 1, 1)), (87, (.getfield 73, 3)), (90, (.iload 5, 2)), (92, (.iconst 0, 1)), (93, (.iastore, 1)), (94, (.iinc 4 1, 3)), (97, (.goto (-94), 3)), (100, (.return_, 1))]
theorem dm_X0_forget : ∀ q ∈ tb_X0_forget, decode zX0_forget.2.1 q.1 = .ok q.2 := by decide +kernel
def b_X0_forget_3 (n : Nat) (t j : Nat) (K3 : Int32 → Int32 → Int32 → qM → qR) (a2 a3 a4 : Int32) (M : qM) : qR :=
  (if (12 : Int32) ≤ a4 then some (0, M) else ql ((a2 * (12 : Int32)) + a4) (fun x1 => (if ((a3 >>> (a4 &&& 31)) &&& (1 : Int32)) = (1 : Int32) then qg x1 96 ((if (M (t + 2) x1.toNatClampNeg) ≤ (0 : Int32) then ql (a4 + (1 : Int32)) (fun x3 => K3 a2 a3 x3 M) else qc (f_X0_tellAll n t a2 a4 (8 : Int32) M) (fun _ m4 => qc (f_X1_amount n j (102 : Int32) (999 : Int32) (0 : Int32) m4) (fun r5 m6 => (if r5 ≤ (0 : Int32) then ql (a4 + (1 : Int32)) (fun x7 => K3 a2 a3 x7 m6) else qg x1 96 ((if ((m6 t 9) - (m6 (t + 3) x1.toNatClampNeg)) < r5 then ql (a4 + (1 : Int32)) (fun x8 => K3 a2 a3 x8 m6) else qg x1 96 (qlm (mu m6 (t + 2) x1.toNatClampNeg (0 : Int32)) (fun m9 => ql (a4 + (1 : Int32)) (fun x10 => K3 a2 a3 x10 m9)))))))))) else ql (a4 + (1 : Int32)) (fun x2 => K3 a2 a3 x2 M))))
set_option maxRecDepth 4000 in
theorem wb_X0_forget_3 {g : qG} {k : qK} (n : Nat) (j r : Nat) (hj : q_isLaw j) (hr : q_isLaw r) {t : Nat} (ht : q_isTown t) (o : qOk g 3 zX0_forget k) (K3 : Int32 → Int32 → Int32 → qM → qR) (hK3 : ∀ (a2 a3 a4 : Int32) (M : qM), qAE g k zX0_forget (qL j r) 3 [some (.inr (some 44)), some (.inr (some t)), some (.inl a2), some (.inl a3), some (.inl a4), none, none] [] (qL j r, M) (K3 a2 a3 a4 M)) (a2 a3 a4 : Int32) (M : qM) : qAE g k zX0_forget (qL j r) 3 [some (.inr (some 44)), some (.inr (some t)), some (.inl a2), some (.inl a3), some (.inl a4), none, none] [] (qL j r, M) (b_X0_forget_3 n t j K3 a2 a3 a4 M) := by
  unfold b_X0_forget_3
  refine qr_iload o (q_dm dm_X0_forget 2 rfl) rfl ?_
  refine qr_bipush o (q_dm dm_X0_forget 3 rfl) bi_12 ?_
  refine qr_icmp_ge (tgt := 100) o (q_dm dm_X0_forget 4 rfl) (by decide) ?_ ?_
  · exact qr_vret o rfl (q_dm dm_X0_forget 54 rfl)
  · refine qr_iload_n o (q_dm dm_X0_forget 5 rfl) rfl ?_
    refine qr_bipush o (q_dm dm_X0_forget 6 rfl) bi_12 ?_
    refine qr_imul o (q_dm dm_X0_forget 7 rfl) ?_
    refine qr_iload o (q_dm dm_X0_forget 8 rfl) rfl ?_
    refine qr_iadd o (q_dm dm_X0_forget 9 rfl) ?_
    refine qr_lt (fun x1 => ?_)
    refine qs_istore (L' := [some (.inr (some 44)), some (.inr (some t)), some (.inl a2), some (.inl a3), some (.inl a4), some (.inl x1), none]) o (q_dm dm_X0_forget 10 rfl) (Nat.le_of_ble_eq_true rfl) rfl ?_
    refine qr_iload_n o (q_dm dm_X0_forget 11 rfl) rfl ?_
    refine qr_iload o (q_dm dm_X0_forget 12 rfl) rfl ?_
    refine qr_ishr o (q_dm dm_X0_forget 13 rfl) ?_
    refine qr_iconst o (q_dm dm_X0_forget 14 rfl) ic_1 ?_
    refine qr_iand o (q_dm dm_X0_forget 15 rfl) ?_
    refine qr_iconst o (q_dm dm_X0_forget 16 rfl) ic_1 ?_
    refine qr_icmp_ne (tgt := 94) o (q_dm dm_X0_forget 17 rfl) (by decide) ?_ ?_
    · refine qs_iincl2 (L' := fun x2 => [some (.inr (some 44)), some (.inr (some t)), some (.inl a2), some (.inl a3), some (.inl x2), some (.inl x1), none]) o (q_dm dm_X0_forget 52 rfl) rfl ic_1 (Nat.le_of_ble_eq_true rfl) (fun _ => rfl) (fun x2 => ?_)
      refine qr_goto (tgt := 3) o (q_dm dm_X0_forget 53 rfl) (by decide) ?_
      exact qr_loc (q_leS (q_leS (q_leS (q_leS (q_leS (q_leN (q_leN q_le0))))))) (hK3 a2 a3 x2 M)
    · refine qr_aload_n o (q_dm dm_X0_forget 18 rfl) rfl ?_
      refine qr_getr (kf := 1) o cf_X10 (shT0 j r ht) rfl (Nat.le_of_ble_eq_true rfl) fl_X0_73 (q_dm dm_X0_forget 19 rfl) ?_
      refine qr_iload o (q_dm dm_X0_forget 20 rfl) rfl ?_
      refine qr_iald o (shT2 j r ht) (q_dm dm_X0_forget 21 rfl) ?_
      refine qr_if_le (tgt := 94) o (q_dm dm_X0_forget 22 rfl) (by decide) ?_ ?_
      · refine qs_iincl2 (L' := fun x3 => [some (.inr (some 44)), some (.inr (some t)), some (.inl a2), some (.inl a3), some (.inl x3), some (.inl x1), none]) o (q_dm dm_X0_forget 52 rfl) rfl ic_1 (Nat.le_of_ble_eq_true rfl) (fun _ => rfl) (fun x3 => ?_)
        refine qr_goto (tgt := 3) o (q_dm dm_X0_forget 53 rfl) (by decide) ?_
        exact qr_loc (q_leS (q_leS (q_leS (q_leS (q_leS (q_leN (q_leN q_le0))))))) (hK3 a2 a3 x3 M)
      · refine qr_aload_n o (q_dm dm_X0_forget 23 rfl) rfl ?_
        refine qr_aload_n o (q_dm dm_X0_forget 24 rfl) rfl ?_
        refine qr_iload_n o (q_dm dm_X0_forget 25 rfl) rfl ?_
        refine qr_iload o (q_dm dm_X0_forget 26 rfl) rfl ?_
        refine qr_bipush o (q_dm dm_X0_forget 27 rfl) bi_8 ?_
        refine qr_callv_v (As := [.inr (some t), .inl a2, .inl a4, .inl (8 : Int32)]) (S := []) o (a_X0_tellAll g k.2.1 n j r hj hr ht a2 a4 (8 : Int32) M) (Nat.le_of_ble_eq_true rfl) zv_X0_tellAll rfl cf_X0 (sh44 j r) ml_X0_41 (Nat.le_of_ble_eq_true rfl) (q_dm dm_X0_forget 28 rfl) (fun _ m4 => ?_)
        refine qr_aload_n o (q_dm dm_X0_forget 29 rfl) rfl ?_
        refine qr_getr (kf := 1) o cf_X0 (sh44 j r) rfl (Nat.le_of_ble_eq_true rfl) fl_X0_15 (q_dm dm_X0_forget 30 rfl) ?_
        refine qr_bipush o (q_dm dm_X0_forget 31 rfl) bi_102 ?_
        refine qr_sipush o (q_dm dm_X0_forget 32 rfl) si_999 ?_
        refine qr_iconst o (q_dm dm_X0_forget 33 rfl) ic_0 ?_
        refine qr_callv_i (As := [.inl (102 : Int32), .inl (999 : Int32), .inl (0 : Int32)]) (S := []) o (a_X1_amount g k.2.1 n j r hj hr (102 : Int32) (999 : Int32) (0 : Int32) m4) (Nat.le_of_ble_eq_true rfl) zv_X1_amount rfl cf_X1 (sh34 j r) ml_X0_69 (Nat.le_of_ble_eq_true rfl) (q_dm dm_X0_forget 34 rfl) (fun r5 m6 => ?_)
        refine qs_istore (L' := [some (.inr (some 44)), some (.inr (some t)), some (.inl a2), some (.inl a3), some (.inl a4), some (.inl x1), some (.inl r5)]) o (q_dm dm_X0_forget 35 rfl) (Nat.le_of_ble_eq_true rfl) rfl ?_
        refine qr_iload o (q_dm dm_X0_forget 36 rfl) rfl ?_
        refine qr_if_le (tgt := 94) o (q_dm dm_X0_forget 37 rfl) (by decide) ?_ ?_
        · refine qs_iincl2 (L' := fun x7 => [some (.inr (some 44)), some (.inr (some t)), some (.inl a2), some (.inl a3), some (.inl x7), some (.inl x1), some (.inl r5)]) o (q_dm dm_X0_forget 52 rfl) rfl ic_1 (Nat.le_of_ble_eq_true rfl) (fun _ => rfl) (fun x7 => ?_)
          refine qr_goto (tgt := 3) o (q_dm dm_X0_forget 53 rfl) (by decide) ?_
          exact qr_loc (q_leS (q_leS (q_leS (q_leS (q_leS (q_leN (q_leN q_le0))))))) (hK3 a2 a3 x7 m6)
        · refine qr_aload_n o (q_dm dm_X0_forget 38 rfl) rfl ?_
          refine qr_getf (kf := 9) o cf_X10 (shT0 j r ht) rfl (Nat.le_of_ble_eq_true rfl) fl_X0_19 (q_dm dm_X0_forget 39 rfl) ?_
          refine qr_aload_n o (q_dm dm_X0_forget 40 rfl) rfl ?_
          refine qr_getr (kf := 2) o cf_X10 (shT0 j r ht) rfl (Nat.le_of_ble_eq_true rfl) fl_X0_138 (q_dm dm_X0_forget 41 rfl) ?_
          refine qr_iload o (q_dm dm_X0_forget 42 rfl) rfl ?_
          refine qr_iald o (shT3 j r ht) (q_dm dm_X0_forget 43 rfl) ?_
          refine qr_isub o (q_dm dm_X0_forget 44 rfl) ?_
          refine qr_iload o (q_dm dm_X0_forget 45 rfl) rfl ?_
          refine qr_icmp_lt (tgt := 94) o (q_dm dm_X0_forget 46 rfl) (by decide) ?_ ?_
          · refine qs_iincl2 (L' := fun x8 => [some (.inr (some 44)), some (.inr (some t)), some (.inl a2), some (.inl a3), some (.inl x8), some (.inl x1), some (.inl r5)]) o (q_dm dm_X0_forget 52 rfl) rfl ic_1 (Nat.le_of_ble_eq_true rfl) (fun _ => rfl) (fun x8 => ?_)
            refine qr_goto (tgt := 3) o (q_dm dm_X0_forget 53 rfl) (by decide) ?_
            exact qr_loc (q_leS (q_leS (q_leS (q_leS (q_leS (q_leN (q_leN q_le0))))))) (hK3 a2 a3 x8 m6)
          · refine qr_aload_n o (q_dm dm_X0_forget 47 rfl) rfl ?_
            refine qr_getr (kf := 1) o cf_X10 (shT0 j r ht) rfl (Nat.le_of_ble_eq_true rfl) fl_X0_73 (q_dm dm_X0_forget 48 rfl) ?_
            refine qr_iload o (q_dm dm_X0_forget 49 rfl) rfl ?_
            refine qr_iconst o (q_dm dm_X0_forget 50 rfl) ic_0 ?_
            refine qr_iast o (shT2 j r ht) (q_dm dm_X0_forget 51 rfl) ?_
            refine qr_letm (fun m9 => ?_)
            refine qs_iincl2 (L' := fun x10 => [some (.inr (some 44)), some (.inr (some t)), some (.inl a2), some (.inl a3), some (.inl x10), some (.inl x1), some (.inl r5)]) o (q_dm dm_X0_forget 52 rfl) rfl ic_1 (Nat.le_of_ble_eq_true rfl) (fun _ => rfl) (fun x10 => ?_)
            refine qr_goto (tgt := 3) o (q_dm dm_X0_forget 53 rfl) (by decide) ?_
            exact qr_loc (q_leS (q_leS (q_leS (q_leS (q_leS (q_leN (q_leN q_le0))))))) (hK3 a2 a3 x10 m9)

def f_X0_forget_3 (n : Nat) (t j : Nat) : Nat → Int32 → Int32 → Int32 → qM → qR
  | 0, _, _, _, _ => none
  | m + 1, a2, a3, a4, M => b_X0_forget_3 n t j (f_X0_forget_3 n t j m) a2 a3 a4 M
theorem w_X0_forget_3 {g : qG} {k : qK} (n : Nat) (j r : Nat) (hj : q_isLaw j) (hr : q_isLaw r) {t : Nat} (ht : q_isTown t) (o : qOk g 3 zX0_forget k) : ∀ (m : Nat) (a2 a3 a4 : Int32) (M : qM), qAE g k zX0_forget (qL j r) 3 [some (.inr (some 44)), some (.inr (some t)), some (.inl a2), some (.inl a3), some (.inl a4), none, none] [] (qL j r, M) (f_X0_forget_3 n t j m a2 a3 a4 M) := by
  intro m
  induction m with
  | zero =>
    intro a2 a3 a4 M
    exact qr_none
  | succ m ih =>
    intro a2 a3 a4 M
    exact wb_X0_forget_3 n j r hj hr ht o (f_X0_forget_3 n t j m) ih a2 a3 a4 M
def f_X0_forget (n : Nat) (t j : Nat) (a2 a3 : Int32) (M : qM) : qR :=
  f_X0_forget_3 n t j n a2 a3 (0 : Int32) M
set_option maxRecDepth 4000 in
theorem w_X0_forget {g : qG} {k : qK} (n : Nat) (j r : Nat) (hj : q_isLaw j) (hr : q_isLaw r) {t : Nat} (ht : q_isTown t) (o : qOk g 3 zX0_forget k) (a2 a3 : Int32) (M : qM) : qAE g k zX0_forget (qL j r) 0 [some (.inr (some 44)), some (.inr (some t)), some (.inl a2), some (.inl a3), none, none, none] [] (qL j r, M) (f_X0_forget n t j a2 a3 M) := by
  unfold f_X0_forget
  refine qr_iconst o (q_dm dm_X0_forget 0 rfl) ic_0 ?_
  refine qs_istore (L' := [some (.inr (some 44)), some (.inr (some t)), some (.inl a2), some (.inl a3), some (.inl (0 : Int32)), none, none]) o (q_dm dm_X0_forget 1 rfl) (Nat.le_of_ble_eq_true rfl) rfl ?_
  exact qr_loc (q_leS (q_leS (q_leS (q_leS (q_leS (q_leN (q_leN q_le0))))))) (w_X0_forget_3 n j r hj hr ht o n a2 a3 (0 : Int32) M)

theorem a_X0_forget (g : qG) (l : Launch) (n : Nat) (j r : Nat) (hj : q_isLaw j) (hr : q_isLaw r) {t : Nat} (ht : q_isTown t) (a2 a3 : Int32) (M : qM) : qAM g l 3 zX0_forget (qL j r) [.inr (some 44), .inr (some t), .inl a2, .inl a3] (qL j r, M) (f_X0_forget n t j a2 a3 M) :=
  qAM.of zv_X0_forget.1 (by show 4 ≤ 7; decide) (fun k hk o => w_X0_forget n j r hj hr ht o a2 a3 M)
def tb_X10_addCounted : List (Nat × Instr × Nat) := [(0, (.iload_n 1, 1)), (1, (.bipush 12, 2)), (3, (.imul, 1)), (4, (.iload_n 2, 1)), (5, (.iadd, 1)), (6, (.istore_n 3, 1)), (7, (.aload_n 0, 1)), (8, (.getfield 21, 3)), (11, (.iload_n 3, 1)), (12, (.sipush 999, 3)), (15, (.aload_n 0, 1)), (16, (.getfield 21, 3)), (19, (.iload_n 3, 1)), (20, (.iaload, 1)), (21, (.iconst 1, 1)), (22, (.iadd, 1)), (23, (.invokestatic 55, 3)), (26, (.iastore, 1)), (27, (.return_, 1))]
theorem dm_X10_addCounted : ∀ q ∈ tb_X10_addCounted, decode zX10_addCounted.2.1 q.1 = .ok q.2 := by decide +kernel
def f_X10_addCounted (n : Nat) (t : Nat) (a1 a2 : Int32) (M : qM) : qR :=
  ql ((a1 * (12 : Int32)) + a2) (fun x1 => qg x1 96 (qg x1 96 (qlm (mu M (t + 4) x1.toNatClampNeg (qmin (999 : Int32) ((M (t + 4) x1.toNatClampNeg) + (1 : Int32)))) (fun m2 => some (0, m2)))))
set_option maxRecDepth 4000 in
theorem w_X10_addCounted {g : qG} {k : qK} (n : Nat) (j r : Nat) (hj : q_isLaw j) (hr : q_isLaw r) {t : Nat} (ht : q_isTown t) (o : qOk g 1 zX10_addCounted k) (a1 a2 : Int32) (M : qM) : qAE g k zX10_addCounted (qL j r) 0 [some (.inr (some t)), some (.inl a1), some (.inl a2), none] [] (qL j r, M) (f_X10_addCounted n t a1 a2 M) := by
  unfold f_X10_addCounted
  refine qr_iload_n o (q_dm dm_X10_addCounted 0 rfl) rfl ?_
  refine qr_bipush o (q_dm dm_X10_addCounted 1 rfl) bi_12 ?_
  refine qr_imul o (q_dm dm_X10_addCounted 2 rfl) ?_
  refine qr_iload_n o (q_dm dm_X10_addCounted 3 rfl) rfl ?_
  refine qr_iadd o (q_dm dm_X10_addCounted 4 rfl) ?_
  refine qr_lt (fun x1 => ?_)
  refine qs_istore_n (L' := [some (.inr (some t)), some (.inl a1), some (.inl a2), some (.inl x1)]) o (q_dm dm_X10_addCounted 5 rfl) (Nat.le_of_ble_eq_true rfl) rfl ?_
  refine qr_aload_n o (q_dm dm_X10_addCounted 6 rfl) rfl ?_
  refine qr_getr (kf := 3) o cf_X10 (shT0 j r ht) rfl (Nat.le_of_ble_eq_true rfl) fl_X10_21 (q_dm dm_X10_addCounted 7 rfl) ?_
  refine qr_iload_n o (q_dm dm_X10_addCounted 8 rfl) rfl ?_
  refine qr_sipush o (q_dm dm_X10_addCounted 9 rfl) si_999 ?_
  refine qr_aload_n o (q_dm dm_X10_addCounted 10 rfl) rfl ?_
  refine qr_getr (kf := 3) o cf_X10 (shT0 j r ht) rfl (Nat.le_of_ble_eq_true rfl) fl_X10_21 (q_dm dm_X10_addCounted 11 rfl) ?_
  refine qr_iload_n o (q_dm dm_X10_addCounted 12 rfl) rfl ?_
  refine qr_iald o (shT4 j r ht) (q_dm dm_X10_addCounted 13 rfl) ?_
  refine qr_iconst o (q_dm dm_X10_addCounted 14 rfl) ic_1 ?_
  refine qr_iadd o (q_dm dm_X10_addCounted 15 rfl) ?_
  refine qr_min o ml_X10_55 (by omega) (Nat.le_of_ble_eq_true rfl) (q_dm dm_X10_addCounted 16 rfl) ?_
  refine qr_iast o (shT4 j r ht) (q_dm dm_X10_addCounted 17 rfl) ?_
  refine qr_letm (fun m2 => ?_)
  exact qr_vret o rfl (q_dm dm_X10_addCounted 18 rfl)

theorem a_X10_addCounted (g : qG) (l : Launch) (n : Nat) (j r : Nat) (hj : q_isLaw j) (hr : q_isLaw r) {t : Nat} (ht : q_isTown t) (a1 a2 : Int32) (M : qM) : qAM g l 1 zX10_addCounted (qL j r) [.inr (some t), .inl a1, .inl a2] (qL j r, M) (f_X10_addCounted n t a1 a2 M) :=
  qAM.of zv_X10_addCounted.1 (by show 3 ≤ 4; decide) (fun k hk o => w_X10_addCounted n j r hj hr ht o a1 a2 M)
