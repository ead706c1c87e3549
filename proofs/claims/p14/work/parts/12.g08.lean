def tb_X3_addClause : List (Nat × Instr × Nat) := [(0, (.aload_n 0, 1)), (1, (.getfield 34, 3)), (4, (.bipush 16, 2)), (6, (.if_icmp .ge 56, 3)), (9, (.aload_n 0, 1)), (10, (.getfield 18, 3)), (13, (.aload_n 0, 1)), (14, (.getfield 34, 3)), (17, (.iload_n 1, 1)), (18, (.iastore, 1)), (19, (.aload_n 0, 1)), (20, (.getfield 21, 3)), (23, (.aload_n 0, 1)), (24, (.getfield 34, 3)), (27, (.iload_n 2, 1)), (28, (.iastore, 1)), (29, (.aload_n 0, 1)), (30, (.getfield 24, 3)), (33, (.aload_n 0, 1)), (34, (.getfield 34, 3)), (37, (.iload_n 3, 1)), (38, (.iastore, 1)), (39, (.aload_n 0, 1)), (40, (.getfield 27, 3)), (43, (.aload_n 0, 1)), (44, (.getfield 34, 3)), (47, (.aload_n 0, 1)), (48, (.getfield 30, 3)), (51, (.iastore, 1)), (52, (.aload_n 0, 1)), (53, (.dup, 1)), (54, (.getfield 34, 3)), (57, (.iconst 1, 1)), (58, (.iadd, 1)), (59, (.putfield 34, 3)), (62, (.return_, 1))]
theorem dm_X3_addClause : ∀ q ∈ tb_X3_addClause, decode zX3_addClause.2.1 q.1 = .ok q.2 := by decide +kernel
def f_X3_addClause (n : Nat) (w : Nat) (a1 a2 a3 : Int32) (M : qM) : qR :=
  (if (16 : Int32) ≤ (M w 7) then some (0, M) else qg (M w 7) 16 (qlm (mu M (w + 3) (M w 7).toNatClampNeg a1) (fun m1 => qg (m1 w 7) 16 (qlm (mu m1 (w + 4) (m1 w 7).toNatClampNeg a2) (fun m2 => qg (m2 w 7) 16 (qlm (mu m2 (w + 5) (m2 w 7).toNatClampNeg a3) (fun m3 => qg (m3 w 7) 16 (qlm (mu m3 (w + 6) (m3 w 7).toNatClampNeg (m3 w 6)) (fun m4 => qlm (mu m4 w 7 ((m4 w 7) + (1 : Int32))) (fun m5 => some (0, m5)))))))))))
set_option maxRecDepth 4000 in
theorem w_X3_addClause {g : qG} {k : qK} (n : Nat) (j r : Nat) (hj : q_isLaw j) (hr : q_isLaw r) {w : Nat} (hw : q_isLaw w) (o : qOk g 0 zX3_addClause k) (a1 a2 a3 : Int32) (M : qM) : qAE g k zX3_addClause (qL j r) 0 [some (.inr (some w)), some (.inl a1), some (.inl a2), some (.inl a3)] [] (qL j r, M) (f_X3_addClause n w a1 a2 a3 M) := by
  unfold f_X3_addClause
  refine qr_aload_n o (q_dm dm_X3_addClause 0 rfl) rfl ?_
  refine qr_getf (kf := 7) o cf_X3 (shW0 j r hw) rfl (Nat.le_of_ble_eq_true rfl) fl_X3_34 (q_dm dm_X3_addClause 1 rfl) ?_
  refine qr_bipush o (q_dm dm_X3_addClause 2 rfl) bi_16 ?_
  refine qr_icmp_ge (tgt := 62) o (q_dm dm_X3_addClause 3 rfl) (by decide) ?_ ?_
  · exact qr_vret o rfl (q_dm dm_X3_addClause 35 rfl)
  · refine qr_aload_n o (q_dm dm_X3_addClause 4 rfl) rfl ?_
    refine qr_getr (kf := 2) o cf_X3 (shW0 j r hw) rfl (Nat.le_of_ble_eq_true rfl) fl_X3_18 (q_dm dm_X3_addClause 5 rfl) ?_
    refine qr_aload_n o (q_dm dm_X3_addClause 6 rfl) rfl ?_
    refine qr_getf (kf := 7) o cf_X3 (shW0 j r hw) rfl (Nat.le_of_ble_eq_true rfl) fl_X3_34 (q_dm dm_X3_addClause 7 rfl) ?_
    refine qr_iload_n o (q_dm dm_X3_addClause 8 rfl) rfl ?_
    refine qr_iast o (shW3 j r hw) (q_dm dm_X3_addClause 9 rfl) ?_
    refine qr_letm (fun m1 => ?_)
    refine qr_aload_n o (q_dm dm_X3_addClause 10 rfl) rfl ?_
    refine qr_getr (kf := 3) o cf_X3 (shW0 j r hw) rfl (Nat.le_of_ble_eq_true rfl) fl_X3_21 (q_dm dm_X3_addClause 11 rfl) ?_
    refine qr_aload_n o (q_dm dm_X3_addClause 12 rfl) rfl ?_
    refine qr_getf (kf := 7) o cf_X3 (shW0 j r hw) rfl (Nat.le_of_ble_eq_true rfl) fl_X3_34 (q_dm dm_X3_addClause 13 rfl) ?_
    refine qr_iload_n o (q_dm dm_X3_addClause 14 rfl) rfl ?_
    refine qr_iast o (shW4 j r hw) (q_dm dm_X3_addClause 15 rfl) ?_
    refine qr_letm (fun m2 => ?_)
    refine qr_aload_n o (q_dm dm_X3_addClause 16 rfl) rfl ?_
    refine qr_getr (kf := 4) o cf_X3 (shW0 j r hw) rfl (Nat.le_of_ble_eq_true rfl) fl_X3_24 (q_dm dm_X3_addClause 17 rfl) ?_
    refine qr_aload_n o (q_dm dm_X3_addClause 18 rfl) rfl ?_
    refine qr_getf (kf := 7) o cf_X3 (shW0 j r hw) rfl (Nat.le_of_ble_eq_true rfl) fl_X3_34 (q_dm dm_X3_addClause 19 rfl) ?_
    refine qr_iload_n o (q_dm dm_X3_addClause 20 rfl) rfl ?_
    refine qr_iast o (shW5 j r hw) (q_dm dm_X3_addClause 21 rfl) ?_
    refine qr_letm (fun m3 => ?_)
    refine qr_aload_n o (q_dm dm_X3_addClause 22 rfl) rfl ?_
    refine qr_getr (kf := 5) o cf_X3 (shW0 j r hw) rfl (Nat.le_of_ble_eq_true rfl) fl_X3_27 (q_dm dm_X3_addClause 23 rfl) ?_
    refine qr_aload_n o (q_dm dm_X3_addClause 24 rfl) rfl ?_
    refine qr_getf (kf := 7) o cf_X3 (shW0 j r hw) rfl (Nat.le_of_ble_eq_true rfl) fl_X3_34 (q_dm dm_X3_addClause 25 rfl) ?_
    refine qr_aload_n o (q_dm dm_X3_addClause 26 rfl) rfl ?_
    refine qr_getf (kf := 6) o cf_X3 (shW0 j r hw) rfl (Nat.le_of_ble_eq_true rfl) fl_X3_30 (q_dm dm_X3_addClause 27 rfl) ?_
    refine qr_iast o (shW6 j r hw) (q_dm dm_X3_addClause 28 rfl) ?_
    refine qr_letm (fun m4 => ?_)
    refine qr_aload_n o (q_dm dm_X3_addClause 29 rfl) rfl ?_
    refine qr_dup o (q_dm dm_X3_addClause 30 rfl) ?_
    refine qr_getf (kf := 7) o cf_X3 (shW0 j r hw) rfl (Nat.le_of_ble_eq_true rfl) fl_X3_34 (q_dm dm_X3_addClause 31 rfl) ?_
    refine qr_iconst o (q_dm dm_X3_addClause 32 rfl) ic_1 ?_
    refine qr_iadd o (q_dm dm_X3_addClause 33 rfl) ?_
    refine qr_putf (kf := 7) o cf_X3 (shW0 j r hw) rfl (Nat.le_of_ble_eq_true rfl) fl_X3_34 rfl (by decide +kernel) (q_dm dm_X3_addClause 34 rfl) ?_
    refine qr_letm (fun m5 => ?_)
    exact qr_vret o rfl (q_dm dm_X3_addClause 35 rfl)

theorem a_X3_addClause (g : qG) (l : Launch) (n : Nat) (j r : Nat) (hj : q_isLaw j) (hr : q_isLaw r) {w : Nat} (hw : q_isLaw w) (a1 a2 a3 : Int32) (M : qM) : qAM g l 0 zX3_addClause (qL j r) [.inr (some w), .inl a1, .inl a2, .inl a3] (qL j r, M) (f_X3_addClause n w a1 a2 a3 M) :=
  qAM.of zv_X3_addClause.1 (by show 4 ≤ 4; decide) (fun k hk o => w_X3_addClause n j r hj hr hw o a1 a2 a3 M)
def tb_X3_add : List (Nat × Instr × Nat) := [(0, (.aload_n 0, 1)), (1, (.getfield 30, 3)), (4, (.sipush 240, 3)), (7, (.if_icmp .ge 33, 3)), (10, (.aload_n 0, 1)), (11, (.getfield 9, 3)), (14, (.aload_n 0, 1)), (15, (.getfield 30, 3)), (18, (.iload_n 1, 1)), (19, (.iastore, 1)), (20, (.aload_n 0, 1)), (21, (.getfield 15, 3)), (24, (.aload_n 0, 1)), (25, (.getfield 30, 3)), (28, (.iload_n 2, 1)), (29, (.iastore, 1)), (30, (.aload_n 0, 1)), (31, (.dup, 1)), (32, (.getfield 30, 3)), (35, (.iconst 1, 1)), (36, (.iadd, 1)), (37, (.putfield 30, 3)), (40, (.aload_n 0, 1)), (41, (.getfield 30, 3)), (44, (.iconst 1, 1)), (45, (.isub, 1)), (46, (.ireturn, 1))]
theorem dm_X3_add : ∀ q ∈ tb_X3_add, decode zX3_add.2.1 q.1 = .ok q.2 := by decide +kernel
def f_X3_add (n : Nat) (w : Nat) (a1 a2 : Int32) (M : qM) : qR :=
  (if (240 : Int32) ≤ (M w 6) then some (((M w 6) - (1 : Int32)), M) else qg (M w 6) 240 (qlm (mu M (w + 1) (M w 6).toNatClampNeg a1) (fun m1 => qg (m1 w 6) 240 (qlm (mu m1 (w + 2) (m1 w 6).toNatClampNeg a2) (fun m2 => qlm (mu m2 w 6 ((m2 w 6) + (1 : Int32))) (fun m3 => some (((m3 w 6) - (1 : Int32)), m3)))))))
set_option maxRecDepth 4000 in
theorem w_X3_add {g : qG} {k : qK} (n : Nat) (j r : Nat) (hj : q_isLaw j) (hr : q_isLaw r) {w : Nat} (hw : q_isLaw w) (o : qOk g 0 zX3_add k) (a1 a2 : Int32) (M : qM) : qAE g k zX3_add (qL j r) 0 [some (.inr (some w)), some (.inl a1), some (.inl a2)] [] (qL j r, M) (f_X3_add n w a1 a2 M) := by
  unfold f_X3_add
  refine qr_aload_n o (q_dm dm_X3_add 0 rfl) rfl ?_
  refine qr_getf (kf := 6) o cf_X3 (shW0 j r hw) rfl (Nat.le_of_ble_eq_true rfl) fl_X3_30 (q_dm dm_X3_add 1 rfl) ?_
  refine qr_sipush o (q_dm dm_X3_add 2 rfl) si_240 ?_
  refine qr_icmp_ge (tgt := 40) o (q_dm dm_X3_add 3 rfl) (by decide) ?_ ?_
  · refine qr_aload_n o (q_dm dm_X3_add 22 rfl) rfl ?_
    refine qr_getf (kf := 6) o cf_X3 (shW0 j r hw) rfl (Nat.le_of_ble_eq_true rfl) fl_X3_30 (q_dm dm_X3_add 23 rfl) ?_
    refine qr_iconst o (q_dm dm_X3_add 24 rfl) ic_1 ?_
    refine qr_isub o (q_dm dm_X3_add 25 rfl) ?_
    exact qr_iret o rfl rfl (q_dm dm_X3_add 26 rfl)
  · refine qr_aload_n o (q_dm dm_X3_add 4 rfl) rfl ?_
    refine qr_getr (kf := 0) o cf_X3 (shW0 j r hw) rfl (Nat.le_of_ble_eq_true rfl) fl_X3_9 (q_dm dm_X3_add 5 rfl) ?_
    refine qr_aload_n o (q_dm dm_X3_add 6 rfl) rfl ?_
    refine qr_getf (kf := 6) o cf_X3 (shW0 j r hw) rfl (Nat.le_of_ble_eq_true rfl) fl_X3_30 (q_dm dm_X3_add 7 rfl) ?_
    refine qr_iload_n o (q_dm dm_X3_add 8 rfl) rfl ?_
    refine qr_iast o (shW1 j r hw) (q_dm dm_X3_add 9 rfl) ?_
    refine qr_letm (fun m1 => ?_)
    refine qr_aload_n o (q_dm dm_X3_add 10 rfl) rfl ?_
    refine qr_getr (kf := 1) o cf_X3 (shW0 j r hw) rfl (Nat.le_of_ble_eq_true rfl) fl_X3_15 (q_dm dm_X3_add 11 rfl) ?_
    refine qr_aload_n o (q_dm dm_X3_add 12 rfl) rfl ?_
    refine qr_getf (kf := 6) o cf_X3 (shW0 j r hw) rfl (Nat.le_of_ble_eq_true rfl) fl_X3_30 (q_dm dm_X3_add 13 rfl) ?_
    refine qr_iload_n o (q_dm dm_X3_add 14 rfl) rfl ?_
    refine qr_iast o (shW2 j r hw) (q_dm dm_X3_add 15 rfl) ?_
    refine qr_letm (fun m2 => ?_)
    refine qr_aload_n o (q_dm dm_X3_add 16 rfl) rfl ?_
    refine qr_dup o (q_dm dm_X3_add 17 rfl) ?_
    refine qr_getf (kf := 6) o cf_X3 (shW0 j r hw) rfl (Nat.le_of_ble_eq_true rfl) fl_X3_30 (q_dm dm_X3_add 18 rfl) ?_
    refine qr_iconst o (q_dm dm_X3_add 19 rfl) ic_1 ?_
    refine qr_iadd o (q_dm dm_X3_add 20 rfl) ?_
    refine qr_putf (kf := 6) o cf_X3 (shW0 j r hw) rfl (Nat.le_of_ble_eq_true rfl) fl_X3_30 rfl (by decide +kernel) (q_dm dm_X3_add 21 rfl) ?_
    refine qr_letm (fun m3 => ?_)
    refine qr_aload_n o (q_dm dm_X3_add 22 rfl) rfl ?_
    refine qr_getf (kf := 6) o cf_X3 (shW0 j r hw) rfl (Nat.le_of_ble_eq_true rfl) fl_X3_30 (q_dm dm_X3_add 23 rfl) ?_
    refine qr_iconst o (q_dm dm_X3_add 24 rfl) ic_1 ?_
    refine qr_isub o (q_dm dm_X3_add 25 rfl) ?_
    exact qr_iret o rfl rfl (q_dm dm_X3_add 26 rfl)

theorem a_X3_add (g : qG) (l : Launch) (n : Nat) (j r : Nat) (hj : q_isLaw j) (hr : q_isLaw r) {w : Nat} (hw : q_isLaw w) (a1 a2 : Int32) (M : qM) : qAM g l 0 zX3_add (qL j r) [.inr (some w), .inl a1, .inl a2] (qL j r, M) (f_X3_add n w a1 a2 M) :=
  qAM.of zv_X3_add.1 (by show 3 ≤ 3; decide) (fun k hk o => w_X3_add n j r hj hr hw o a1 a2 M)
def tb_X3_skipToHere : List (Nat × Instr × Nat) := [(0, (.iload_n 1, 1)), (1, (.ifCond .lt 23, 3)), (4, (.iload_n 1, 1)), (5, (.aload_n 0, 1)), (6, (.getfield 30, 3)), (9, (.if_icmp .ge 15, 3)), (12, (.aload_n 0, 1)), (13, (.getfield 15, 3)), (16, (.iload_n 1, 1)), (17, (.aload_n 0, 1)), (18, (.getfield 30, 3)), (21, (.iconst 1, 1)), (22, (.isub, 1)), (23, (.iastore, 1)), (24, (.return_, 1))]
theorem dm_X3_skipToHere : ∀ q ∈ tb_X3_skipToHere, decode zX3_skipToHere.2.1 q.1 = .ok q.2 := by decide +kernel
def f_X3_skipToHere (n : Nat) (w : Nat) (a1 : Int32) (M : qM) : qR :=
  (if a1 < (0 : Int32) then some (0, M) else (if (M w 6) ≤ a1 then some (0, M) else qg a1 240 (qlm (mu M (w + 2) a1.toNatClampNeg ((M w 6) - (1 : Int32))) (fun m1 => some (0, m1)))))
set_option maxRecDepth 4000 in
theorem w_X3_skipToHere {g : qG} {k : qK} (n : Nat) (j r : Nat) (hj : q_isLaw j) (hr : q_isLaw r) {w : Nat} (hw : q_isLaw w) (o : qOk g 0 zX3_skipToHere k) (a1 : Int32) (M : qM) : qAE g k zX3_skipToHere (qL j r) 0 [some (.inr (some w)), some (.inl a1)] [] (qL j r, M) (f_X3_skipToHere n w a1 M) := by
  unfold f_X3_skipToHere
  refine qr_iload_n o (q_dm dm_X3_skipToHere 0 rfl) rfl ?_
  refine qr_if_lt (tgt := 24) o (q_dm dm_X3_skipToHere 1 rfl) (by decide) ?_ ?_
  · exact qr_vret o rfl (q_dm dm_X3_skipToHere 14 rfl)
  · refine qr_iload_n o (q_dm dm_X3_skipToHere 2 rfl) rfl ?_
    refine qr_aload_n o (q_dm dm_X3_skipToHere 3 rfl) rfl ?_
    refine qr_getf (kf := 6) o cf_X3 (shW0 j r hw) rfl (Nat.le_of_ble_eq_true rfl) fl_X3_30 (q_dm dm_X3_skipToHere 4 rfl) ?_
    refine qr_icmp_ge (tgt := 24) o (q_dm dm_X3_skipToHere 5 rfl) (by decide) ?_ ?_
    · exact qr_vret o rfl (q_dm dm_X3_skipToHere 14 rfl)
    · refine qr_aload_n o (q_dm dm_X3_skipToHere 6 rfl) rfl ?_
      refine qr_getr (kf := 1) o cf_X3 (shW0 j r hw) rfl (Nat.le_of_ble_eq_true rfl) fl_X3_15 (q_dm dm_X3_skipToHere 7 rfl) ?_
      refine qr_iload_n o (q_dm dm_X3_skipToHere 8 rfl) rfl ?_
      refine qr_aload_n o (q_dm dm_X3_skipToHere 9 rfl) rfl ?_
      refine qr_getf (kf := 6) o cf_X3 (shW0 j r hw) rfl (Nat.le_of_ble_eq_true rfl) fl_X3_30 (q_dm dm_X3_skipToHere 10 rfl) ?_
      refine qr_iconst o (q_dm dm_X3_skipToHere 11 rfl) ic_1 ?_
      refine qr_isub o (q_dm dm_X3_skipToHere 12 rfl) ?_
      refine qr_iast o (shW2 j r hw) (q_dm dm_X3_skipToHere 13 rfl) ?_
      refine qr_letm (fun m1 => ?_)
      exact qr_vret o rfl (q_dm dm_X3_skipToHere 14 rfl)

theorem a_X3_skipToHere (g : qG) (l : Launch) (n : Nat) (j r : Nat) (hj : q_isLaw j) (hr : q_isLaw r) {w : Nat} (hw : q_isLaw w) (a1 : Int32) (M : qM) : qAM g l 0 zX3_skipToHere (qL j r) [.inr (some w), .inl a1] (qL j r, M) (f_X3_skipToHere n w a1 M) :=
  qAM.of zv_X3_skipToHere.1 (by show 2 ≤ 2; decide) (fun k hk o => w_X3_skipToHere n j r hj hr hw o a1 M)
def tb_X9_fails : List (Nat × Instr × Nat) := [(0, (.aload_n 0, 1)), (1, (.sipush (-1000), 3)), (4, (.iload_n 1, 1)), (5, (.imul, 1)), (6, (.iload_n 2, 1)), (7, (.isub, 1)), (8, (.putfield 35, 3)), (11, (.iconst 0, 1)), (12, (.ireturn, 1))]
theorem dm_X9_fails : ∀ q ∈ tb_X9_fails, decode zX9_fails.2.1 q.1 = .ok q.2 := by decide +kernel
def f_X9_fails (n : Nat) (a1 a2 : Int32) (M : qM) : qR :=
  qlm (mu M 1 4 (((-1000 : Int32) * a1) - a2)) (fun m1 => some ((0 : Int32), m1))
set_option maxRecDepth 4000 in
theorem w_X9_fails {g : qG} {k : qK} (n : Nat) (j r : Nat) (hj : q_isLaw j) (hr : q_isLaw r) (o : qOk g 0 zX9_fails k) (a1 a2 : Int32) (M : qM) : qAE g k zX9_fails (qL j r) 0 [some (.inr (some 1)), some (.inl a1), some (.inl a2)] [] (qL j r, M) (f_X9_fails n a1 a2 M) := by
  unfold f_X9_fails
  refine qr_aload_n o (q_dm dm_X9_fails 0 rfl) rfl ?_
  refine qr_sipush o (q_dm dm_X9_fails 1 rfl) si_m1000 ?_
  refine qr_iload_n o (q_dm dm_X9_fails 2 rfl) rfl ?_
  refine qr_imul o (q_dm dm_X9_fails 3 rfl) ?_
  refine qr_iload_n o (q_dm dm_X9_fails 4 rfl) rfl ?_
  refine qr_isub o (q_dm dm_X9_fails 5 rfl) ?_
  refine qr_putf (kf := 4) o cf_X9 (sh1 j r) rfl (Nat.le_of_ble_eq_true rfl) fl_X9_35 rfl (by decide +kernel) (q_dm dm_X9_fails 6 rfl) ?_
  refine qr_letm (fun m1 => ?_)
  refine qr_iconst o (q_dm dm_X9_fails 7 rfl) ic_0 ?_
  exact qr_iret o rfl (by decide) (q_dm dm_X9_fails 8 rfl)

theorem a_X9_fails (g : qG) (l : Launch) (n : Nat) (j r : Nat) (hj : q_isLaw j) (hr : q_isLaw r) (a1 a2 : Int32) (M : qM) : qAM g l 0 zX9_fails (qL j r) [.inr (some 1), .inl a1, .inl a2] (qL j r, M) (f_X9_fails n a1 a2 M) :=
  qAM.of zv_X9_fails.1 (by show 3 ≤ 3; decide) (fun k hk o => w_X9_fails n j r hj hr o a1 a2 M)
def tb_X4_opens : List (Nat × Instr × Nat) := [(0, (.iload_n 1, 1)), (1, (.bipush 6, 2)), (3, (.if_icmp .lt 19, 3)), (6, (.aload_n 0, 1)), (7, (.getfield 18, 3)), (10, (.iconst 5, 1)), (11, (.aload_n 0, 1)), (12, (.getfield 18, 3)), (15, (.getfield 53, 3)), (18, (.invokevirtual 56, 3)), (21, (.ireturn, 1)), (22, (.aload_n 0, 1)), (23, (.getfield 18, 3)), (26, (.dup, 1)), (27, (.getfield 53, 3)), (30, (.iconst 1, 1)), (31, (.iadd, 1)), (32, (.putfield 53, 3)), (35, (.iconst 1, 1)), (36, (.ireturn, 1))]
theorem dm_X4_opens : ∀ q ∈ tb_X4_opens, decode zX4_opens.2.1 q.1 = .ok q.2 := by decide +kernel
def f_X4_opens (n : Nat) (a1 : Int32) (M : qM) : qR :=
  (if a1 < (6 : Int32) then qlm (mu M 1 3 ((M 1 3) + (1 : Int32))) (fun m1 => some ((1 : Int32), m1)) else qc (f_X9_fails n (5 : Int32) (M 1 3) M) (fun r2 m3 => qb r2 (some (r2, m3))))
set_option maxRecDepth 4000 in
theorem w_X4_opens {g : qG} {k : qK} (n : Nat) (j r : Nat) (hj : q_isLaw j) (hr : q_isLaw r) (o : qOk g 1 zX4_opens k) (a1 : Int32) (M : qM) : qAE g k zX4_opens (qL j r) 0 [some (.inr (some 45)), some (.inl a1)] [] (qL j r, M) (f_X4_opens n a1 M) := by
  unfold f_X4_opens
  refine qr_iload_n o (q_dm dm_X4_opens 0 rfl) rfl ?_
  refine qr_bipush o (q_dm dm_X4_opens 1 rfl) bi_6 ?_
  refine qr_icmp_lt (tgt := 22) o (q_dm dm_X4_opens 2 rfl) (by decide) ?_ ?_
  · refine qr_aload_n o (q_dm dm_X4_opens 11 rfl) rfl ?_
    refine qr_getr (kf := 0) o cf_X4 (sh45 j r) rfl (Nat.le_of_ble_eq_true rfl) fl_X4_18 (q_dm dm_X4_opens 12 rfl) ?_
    refine qr_dup o (q_dm dm_X4_opens 13 rfl) ?_
    refine qr_getf (kf := 3) o cf_X9 (sh1 j r) rfl (Nat.le_of_ble_eq_true rfl) fl_X4_53 (q_dm dm_X4_opens 14 rfl) ?_
    refine qr_iconst o (q_dm dm_X4_opens 15 rfl) ic_1 ?_
    refine qr_iadd o (q_dm dm_X4_opens 16 rfl) ?_
    refine qr_putf (kf := 3) o cf_X9 (sh1 j r) rfl (Nat.le_of_ble_eq_true rfl) fl_X4_53 rfl (by decide +kernel) (q_dm dm_X4_opens 17 rfl) ?_
    refine qr_letm (fun m1 => ?_)
    refine qr_iconst o (q_dm dm_X4_opens 18 rfl) ic_1 ?_
    exact qr_iret o rfl (by decide) (q_dm dm_X4_opens 19 rfl)
  · refine qr_aload_n o (q_dm dm_X4_opens 3 rfl) rfl ?_
    refine qr_getr (kf := 0) o cf_X4 (sh45 j r) rfl (Nat.le_of_ble_eq_true rfl) fl_X4_18 (q_dm dm_X4_opens 4 rfl) ?_
    refine qr_iconst o (q_dm dm_X4_opens 5 rfl) ic_5 ?_
    refine qr_aload_n o (q_dm dm_X4_opens 6 rfl) rfl ?_
    refine qr_getr (kf := 0) o cf_X4 (sh45 j r) rfl (Nat.le_of_ble_eq_true rfl) fl_X4_18 (q_dm dm_X4_opens 7 rfl) ?_
    refine qr_getf (kf := 3) o cf_X9 (sh1 j r) rfl (Nat.le_of_ble_eq_true rfl) fl_X4_53 (q_dm dm_X4_opens 8 rfl) ?_
    refine qr_callv_i (As := [.inl (5 : Int32), .inl (M 1 3)]) (S := []) o (a_X9_fails g k.2.1 n j r hj hr (5 : Int32) (M 1 3) M) (Nat.le_of_ble_eq_true rfl) zv_X9_fails rfl cf_X9 (sh1 j r) ml_X4_56 (Nat.le_of_ble_eq_true rfl) (q_dm dm_X4_opens 9 rfl) (fun r2 m3 => ?_)
    exact qr_zret o rfl (q_dm dm_X4_opens 10 rfl)

theorem a_X4_opens (g : qG) (l : Launch) (n : Nat) (j r : Nat) (hj : q_isLaw j) (hr : q_isLaw r) (a1 : Int32) (M : qM) : qAM g l 1 zX4_opens (qL j r) [.inr (some 45), .inl a1] (qL j r, M) (f_X4_opens n a1 M) :=
  qAM.of zv_X4_opens.1 (by show 2 ≤ 2; decide) (fun k hk o => w_X4_opens n j r hj hr o a1 M)
def tb_X9_sign : List (Nat × Instr × Nat) := [(0, (.aload_n 0, 1)), (1, (.getfield 32, 3)), (4, (.ifCond .lt 26, 3)), (7, (.aload_n 0, 1)), (8, (.getfield 32, 3)), (11, (.aload_n 0, 1)), (12, (.getfield 29, 3)), (15, (.if_icmp .ge 15, 3)), (18, (.aload_n 0, 1)), (19, (.getfield 9, 3)), (22, (.aload_n 0, 1)), (23, (.getfield 32, 3)), (26, (.iaload, 1)), (27, (.goto 4, 3)), (30, (.iconst (-1), 1)), (31, (.ireturn, 1))]
theorem dm_X9_sign : ∀ q ∈ tb_X9_sign, decode zX9_sign.2.1 q.1 = .ok q.2 := by decide +kernel
def f_X9_sign (n : Nat) (M : qM) : qR :=
  (if (M 1 3) < (0 : Int32) then some ((-1 : Int32), M) else (if (M 1 2) ≤ (M 1 3) then some ((-1 : Int32), M) else qg (M 1 3) 260 (some ((M 2 (M 1 3).toNatClampNeg), M))))
set_option maxRecDepth 4000 in
theorem w_X9_sign {g : qG} {k : qK} (n : Nat) (j r : Nat) (hj : q_isLaw j) (hr : q_isLaw r) (o : qOk g 0 zX9_sign k) (M : qM) : qAE g k zX9_sign (qL j r) 0 [some (.inr (some 1))] [] (qL j r, M) (f_X9_sign n  M) := by
  unfold f_X9_sign
  refine qr_aload_n o (q_dm dm_X9_sign 0 rfl) rfl ?_
  refine qr_getf (kf := 3) o cf_X9 (sh1 j r) rfl (Nat.le_of_ble_eq_true rfl) fl_X9_32 (q_dm dm_X9_sign 1 rfl) ?_
  refine qr_if_lt (tgt := 30) o (q_dm dm_X9_sign 2 rfl) (by decide) ?_ ?_
  · refine qr_iconst o (q_dm dm_X9_sign 14 rfl) ic_m1 ?_
    exact qr_iret o rfl rfl (q_dm dm_X9_sign 15 rfl)
  · refine qr_aload_n o (q_dm dm_X9_sign 3 rfl) rfl ?_
    refine qr_getf (kf := 3) o cf_X9 (sh1 j r) rfl (Nat.le_of_ble_eq_true rfl) fl_X9_32 (q_dm dm_X9_sign 4 rfl) ?_
    refine qr_aload_n o (q_dm dm_X9_sign 5 rfl) rfl ?_
    refine qr_getf (kf := 2) o cf_X9 (sh1 j r) rfl (Nat.le_of_ble_eq_true rfl) fl_X9_29 (q_dm dm_X9_sign 6 rfl) ?_
    refine qr_icmp_ge (tgt := 30) o (q_dm dm_X9_sign 7 rfl) (by decide) ?_ ?_
    · refine qr_iconst o (q_dm dm_X9_sign 14 rfl) ic_m1 ?_
      exact qr_iret o rfl rfl (q_dm dm_X9_sign 15 rfl)
    · refine qr_aload_n o (q_dm dm_X9_sign 8 rfl) rfl ?_
      refine qr_getr (kf := 0) o cf_X9 (sh1 j r) rfl (Nat.le_of_ble_eq_true rfl) fl_X9_9 (q_dm dm_X9_sign 9 rfl) ?_
      refine qr_aload_n o (q_dm dm_X9_sign 10 rfl) rfl ?_
      refine qr_getf (kf := 3) o cf_X9 (sh1 j r) rfl (Nat.le_of_ble_eq_true rfl) fl_X9_32 (q_dm dm_X9_sign 11 rfl) ?_
      refine qr_iald o (sh2 j r) (q_dm dm_X9_sign 12 rfl) ?_
      refine qr_goto (tgt := 31) o (q_dm dm_X9_sign 13 rfl) (by decide) ?_
      exact qr_iret o rfl rfl (q_dm dm_X9_sign 15 rfl)

theorem a_X9_sign (g : qG) (l : Launch) (n : Nat) (j r : Nat) (hj : q_isLaw j) (hr : q_isLaw r) (M : qM) : qAM g l 0 zX9_sign (qL j r) [.inr (some 1)] (qL j r, M) (f_X9_sign n  M) :=
  qAM.of zv_X9_sign.1 (by show 1 ≤ 1; decide) (fun k hk o => w_X9_sign n j r hj hr o  M)
def tb_X9_digit : List (Nat × Instr × Nat) := [(0, (.aload_n 0, 1)), (1, (.invokevirtual 38, 3)), (4, (.istore_n 1, 1)), (5, (.iload_n 1, 1)), (6, (.bipush 48, 2)), (8, (.if_icmp .lt 16, 3)), (11, (.iload_n 1, 1)), (12, (.bipush 57, 2)), (14, (.if_icmp .gt 10, 3)), (17, (.iload_n 1, 1)), (18, (.bipush 48, 2)), (20, (.isub, 1)), (21, (.goto 4, 3)), (24, (.iconst (-1), 1)), (25, (.ireturn, 1))]
theorem dm_X9_digit : ∀ q ∈ tb_X9_digit, decode zX9_digit.2.1 q.1 = .ok q.2 := by decide +kernel
def f_X9_digit (n : Nat) (M : qM) : qR :=
  qc (f_X9_sign n  M) (fun r1 m2 => (if r1 < (48 : Int32) then some ((-1 : Int32), m2) else (if (57 : Int32) < r1 then some ((-1 : Int32), m2) else some ((r1 - (48 : Int32)), m2))))
set_option maxRecDepth 4000 in
theorem w_X9_digit {g : qG} {k : qK} (n : Nat) (j r : Nat) (hj : q_isLaw j) (hr : q_isLaw r) (o : qOk g 1 zX9_digit k) (M : qM) : qAE g k zX9_digit (qL j r) 0 [some (.inr (some 1)), none] [] (qL j r, M) (f_X9_digit n  M) := by
  unfold f_X9_digit
  refine qr_aload_n o (q_dm dm_X9_digit 0 rfl) rfl ?_
  refine qr_callv_i (As := []) (S := []) o (a_X9_sign g k.2.1 n j r hj hr  M) (Nat.le_of_ble_eq_true rfl) zv_X9_sign rfl cf_X9 (sh1 j r) ml_X9_38 (Nat.le_of_ble_eq_true rfl) (q_dm dm_X9_digit 1 rfl) (fun r1 m2 => ?_)
  refine qs_istore_n (L' := [some (.inr (some 1)), some (.inl r1)]) o (q_dm dm_X9_digit 2 rfl) (Nat.le_of_ble_eq_true rfl) rfl ?_
  refine qr_iload_n o (q_dm dm_X9_digit 3 rfl) rfl ?_
  refine qr_bipush o (q_dm dm_X9_digit 4 rfl) bi_48 ?_
  refine qr_icmp_lt (tgt := 24) o (q_dm dm_X9_digit 5 rfl) (by decide) ?_ ?_
  · refine qr_iconst o (q_dm dm_X9_digit 13 rfl) ic_m1 ?_
    exact qr_iret o rfl rfl (q_dm dm_X9_digit 14 rfl)
  · refine qr_iload_n o (q_dm dm_X9_digit 6 rfl) rfl ?_
    refine qr_bipush o (q_dm dm_X9_digit 7 rfl) bi_57 ?_
    refine qr_icmp_gt (tgt := 24) o (q_dm dm_X9_digit 8 rfl) (by decide) ?_ ?_
    · refine qr_iconst o (q_dm dm_X9_digit 13 rfl) ic_m1 ?_
      exact qr_iret o rfl rfl (q_dm dm_X9_digit 14 rfl)
    · refine qr_iload_n o (q_dm dm_X9_digit 9 rfl) rfl ?_
      refine qr_bipush o (q_dm dm_X9_digit 10 rfl) bi_48 ?_
      refine qr_isub o (q_dm dm_X9_digit 11 rfl) ?_
      refine qr_goto (tgt := 25) o (q_dm dm_X9_digit 12 rfl) (by decide) ?_
      exact qr_iret o rfl rfl (q_dm dm_X9_digit 14 rfl)

theorem a_X9_digit (g : qG) (l : Launch) (n : Nat) (j r : Nat) (hj : q_isLaw j) (hr : q_isLaw r) (M : qM) : qAM g l 1 zX9_digit (qL j r) [.inr (some 1)] (qL j r, M) (f_X9_digit n  M) :=
  qAM.of zv_X9_digit.1 (by show 1 ≤ 2; decide) (fun k hk o => w_X9_digit n j r hj hr o  M)
def tb_X4_readNumber : List (Nat × Instr × Nat) := [(0, (.iconst 0, 1)), (1, (.istore_n 1, 1)), (2, (.iconst 0, 1)), (3, (.istore_n 2, 1)), (4, (.iload_n 2, 1)), (5, (.iconst 5, 1)), (6, (.if_icmp .ge 46, 3)), (9, (.aload_n 0, 1)), (10, (.getfield 18, 3)), (13, (.invokevirtual 98, 3)), (16, (.iconst (-1), 1)), (17, (.if_icmp .eq 35, 3)), (20, (.bipush 10, 2)), (22, (.iload_n 1, 1)), (23, (.imul, 1)), (24, (.aload_n 0, 1)), (25, (.getfield 18, 3)), (28, (.invokevirtual 98, 3)), (31, (.iadd, 1)), (32, (.istore_n 1, 1)), (33, (.aload_n 0, 1)), (34, (.getfield 18, 3)), (37, (.dup, 1)), (38, (.getfield 53, 3)), (41, (.iconst 1, 1)), (42, (.iadd, 1)), (43, (.putfield 53, 3)), (46, (.iinc 2 1, 3)), (49, (.goto (-45), 3)), (52, (.aload_n 0, 1)), (53, (.getfield 18, 3)), (56, (.invokevirtual 98, 3)), (59, (.iconst (-1), 1)), (60, (.if_icmp .eq 19, 3)), (63, (.aload_n 0, 1)), (64, (.getfield 18, 3)), (67, (.iconst 2, 1)), (68, (.aload_n 0, 1)), (69, (.getfield 18, 3)), (72, (.getfield 53, 3)), (75, (.invokevirtual 56, 3)), (78, (.ireturn, 1)), (79, (.aload_n 0, 1)), (80, (.getfield 12, 3)), (83, (.iconst 0, 1)), (84, (.iload_n 1, 1)), (85, (.invokevirtual 79, 3)), (88, (.pop, 1)), (89, (.iconst 1, 1)), (90, (.ireturn, 1))]
theorem dm_X4_readNumber : ∀ q ∈ tb_X4_readNumber, decode zX4_readNumber.2.1 q.1 = .ok q.2 := by decide +kernel
def f_X4_readNumber_52 (n : Nat) (r : Nat) (a1 : Int32) (M : qM) : qR :=
  qc (f_X9_digit n  M) (fun r1 m2 => (if r1 = (-1 : Int32) then qc (f_X3_add n r (0 : Int32) a1 m2) (fun r3 m4 => some ((1 : Int32), m4)) else qc (f_X9_fails n (2 : Int32) (m2 1 3) m2) (fun r5 m6 => qb r5 (some (r5, m6)))))
set_option maxRecDepth 4000 in
theorem w_X4_readNumber_52 {g : qG} {k : qK} (n : Nat) (j r : Nat) (hj : q_isLaw j) (hr : q_isLaw r) (o : qOk g 2 zX4_readNumber k) (a1 : Int32) (M : qM) : qAE g k zX4_readNumber (qL j r) 52 [some (.inr (some 45)), some (.inl a1), none] [] (qL j r, M) (f_X4_readNumber_52 n r a1 M) := by
  unfold f_X4_readNumber_52
  refine qr_aload_n o (q_dm dm_X4_readNumber 29 rfl) rfl ?_
  refine qr_getr (kf := 0) o cf_X4 (sh45 j r) rfl (Nat.le_of_ble_eq_true rfl) fl_X4_18 (q_dm dm_X4_readNumber 30 rfl) ?_
  refine qr_callv_i (As := []) (S := []) o (a_X9_digit g k.2.1 n j r hj hr  M) (Nat.le_of_ble_eq_true rfl) zv_X9_digit rfl cf_X9 (sh1 j r) ml_X4_98 (Nat.le_of_ble_eq_true rfl) (q_dm dm_X4_readNumber 31 rfl) (fun r1 m2 => ?_)
  refine qr_iconst o (q_dm dm_X4_readNumber 32 rfl) ic_m1 ?_
  refine qr_icmp_eq (tgt := 79) o (q_dm dm_X4_readNumber 33 rfl) (by decide) ?_ ?_
  · refine qr_aload_n o (q_dm dm_X4_readNumber 42 rfl) rfl ?_
    refine qr_getr (kf := 1) o cf_X4 (sh45 j r) rfl (Nat.le_of_ble_eq_true rfl) fl_X4_12 (q_dm dm_X4_readNumber 43 rfl) ?_
    refine qr_iconst o (q_dm dm_X4_readNumber 44 rfl) ic_0 ?_
    refine qr_iload_n o (q_dm dm_X4_readNumber 45 rfl) rfl ?_
    refine qr_callv_i (As := [.inl (0 : Int32), .inl a1]) (S := []) o (a_X3_add g k.2.1 n j r hj hr hr (0 : Int32) a1 m2) (Nat.le_of_ble_eq_true rfl) zv_X3_add rfl cf_X3 (shW0 j r hr) ml_X4_79 (Nat.le_of_ble_eq_true rfl) (q_dm dm_X4_readNumber 46 rfl) (fun r3 m4 => ?_)
    refine qr_pop o (q_dm dm_X4_readNumber 47 rfl) ?_
    refine qr_iconst o (q_dm dm_X4_readNumber 48 rfl) ic_1 ?_
    exact qr_iret o rfl (by decide) (q_dm dm_X4_readNumber 49 rfl)
  · refine qr_aload_n o (q_dm dm_X4_readNumber 34 rfl) rfl ?_
    refine qr_getr (kf := 0) o cf_X4 (sh45 j r) rfl (Nat.le_of_ble_eq_true rfl) fl_X4_18 (q_dm dm_X4_readNumber 35 rfl) ?_
    refine qr_iconst o (q_dm dm_X4_readNumber 36 rfl) ic_2 ?_
    refine qr_aload_n o (q_dm dm_X4_readNumber 37 rfl) rfl ?_
    refine qr_getr (kf := 0) o cf_X4 (sh45 j r) rfl (Nat.le_of_ble_eq_true rfl) fl_X4_18 (q_dm dm_X4_readNumber 38 rfl) ?_
    refine qr_getf (kf := 3) o cf_X9 (sh1 j r) rfl (Nat.le_of_ble_eq_true rfl) fl_X4_53 (q_dm dm_X4_readNumber 39 rfl) ?_
    refine qr_callv_i (As := [.inl (2 : Int32), .inl (m2 1 3)]) (S := []) o (a_X9_fails g k.2.1 n j r hj hr (2 : Int32) (m2 1 3) m2) (Nat.le_of_ble_eq_true rfl) zv_X9_fails rfl cf_X9 (sh1 j r) ml_X4_56 (Nat.le_of_ble_eq_true rfl) (q_dm dm_X4_readNumber 40 rfl) (fun r5 m6 => ?_)
    exact qr_zret o rfl (q_dm dm_X4_readNumber 41 rfl)

def b_X4_readNumber_4 (n : Nat) (r : Nat) (K4 : Int32 → Int32 → qM → qR) (a1 a2 : Int32) (M : qM) : qR :=
  (if (5 : Int32) ≤ a2 then f_X4_readNumber_52 n r a1 M else qc (f_X9_digit n  M) (fun r1 m2 => (if r1 = (-1 : Int32) then f_X4_readNumber_52 n r a1 m2 else qc (f_X9_digit n  m2) (fun r3 m4 => ql (((10 : Int32) * a1) + r3) (fun x5 => qlm (mu m4 1 3 ((m4 1 3) + (1 : Int32))) (fun m6 => ql (a2 + (1 : Int32)) (fun x7 => K4 x5 x7 m6)))))))
set_option maxRecDepth 4000 in
theorem wb_X4_readNumber_4 {g : qG} {k : qK} (n : Nat) (j r : Nat) (hj : q_isLaw j) (hr : q_isLaw r) (o : qOk g 2 zX4_readNumber k) (K4 : Int32 → Int32 → qM → qR) (hK4 : ∀ (a1 a2 : Int32) (M : qM), qAE g k zX4_readNumber (qL j r) 4 [some (.inr (some 45)), some (.inl a1), some (.inl a2)] [] (qL j r, M) (K4 a1 a2 M)) (a1 a2 : Int32) (M : qM) : qAE g k zX4_readNumber (qL j r) 4 [some (.inr (some 45)), some (.inl a1), some (.inl a2)] [] (qL j r, M) (b_X4_readNumber_4 n r K4 a1 a2 M) := by
  unfold b_X4_readNumber_4
  refine qr_iload_n o (q_dm dm_X4_readNumber 4 rfl) rfl ?_
  refine qr_iconst o (q_dm dm_X4_readNumber 5 rfl) ic_5 ?_
  refine qr_icmp_ge (tgt := 52) o (q_dm dm_X4_readNumber 6 rfl) (by decide) ?_ ?_
  · exact qr_loc (q_leS (q_leS (q_leN q_le0))) (w_X4_readNumber_52 n j r hj hr o a1 M)
  · refine qr_aload_n o (q_dm dm_X4_readNumber 7 rfl) rfl ?_
    refine qr_getr (kf := 0) o cf_X4 (sh45 j r) rfl (Nat.le_of_ble_eq_true rfl) fl_X4_18 (q_dm dm_X4_readNumber 8 rfl) ?_
    refine qr_callv_i (As := []) (S := []) o (a_X9_digit g k.2.1 n j r hj hr  M) (Nat.le_of_ble_eq_true rfl) zv_X9_digit rfl cf_X9 (sh1 j r) ml_X4_98 (Nat.le_of_ble_eq_true rfl) (q_dm dm_X4_readNumber 9 rfl) (fun r1 m2 => ?_)
    refine qr_iconst o (q_dm dm_X4_readNumber 10 rfl) ic_m1 ?_
    refine qr_icmp_eq (tgt := 52) o (q_dm dm_X4_readNumber 11 rfl) (by decide) ?_ ?_
    · exact qr_loc (q_leS (q_leS (q_leN q_le0))) (w_X4_readNumber_52 n j r hj hr o a1 m2)
    · refine qr_bipush o (q_dm dm_X4_readNumber 12 rfl) bi_10 ?_
      refine qr_iload_n o (q_dm dm_X4_readNumber 13 rfl) rfl ?_
      refine qr_imul o (q_dm dm_X4_readNumber 14 rfl) ?_
      refine qr_aload_n o (q_dm dm_X4_readNumber 15 rfl) rfl ?_
      refine qr_getr (kf := 0) o cf_X4 (sh45 j r) rfl (Nat.le_of_ble_eq_true rfl) fl_X4_18 (q_dm dm_X4_readNumber 16 rfl) ?_
      refine qr_callv_i (As := []) (S := [.inl ((10 : Int32) * a1)]) o (a_X9_digit g k.2.1 n j r hj hr  m2) (Nat.le_of_ble_eq_true rfl) zv_X9_digit rfl cf_X9 (sh1 j r) ml_X4_98 (Nat.le_of_ble_eq_true rfl) (q_dm dm_X4_readNumber 17 rfl) (fun r3 m4 => ?_)
      refine qr_iadd o (q_dm dm_X4_readNumber 18 rfl) ?_
      refine qr_lt (fun x5 => ?_)
      refine qs_istore_n (L' := [some (.inr (some 45)), some (.inl x5), some (.inl a2)]) o (q_dm dm_X4_readNumber 19 rfl) (Nat.le_of_ble_eq_true rfl) rfl ?_
      refine qr_aload_n o (q_dm dm_X4_readNumber 20 rfl) rfl ?_
      refine qr_getr (kf := 0) o cf_X4 (sh45 j r) rfl (Nat.le_of_ble_eq_true rfl) fl_X4_18 (q_dm dm_X4_readNumber 21 rfl) ?_
      refine qr_dup o (q_dm dm_X4_readNumber 22 rfl) ?_
      refine qr_getf (kf := 3) o cf_X9 (sh1 j r) rfl (Nat.le_of_ble_eq_true rfl) fl_X4_53 (q_dm dm_X4_readNumber 23 rfl) ?_
      refine qr_iconst o (q_dm dm_X4_readNumber 24 rfl) ic_1 ?_
      refine qr_iadd o (q_dm dm_X4_readNumber 25 rfl) ?_
      refine qr_putf (kf := 3) o cf_X9 (sh1 j r) rfl (Nat.le_of_ble_eq_true rfl) fl_X4_53 rfl (by decide +kernel) (q_dm dm_X4_readNumber 26 rfl) ?_
      refine qr_letm (fun m6 => ?_)
      refine qs_iincl2 (L' := fun x7 => [some (.inr (some 45)), some (.inl x5), some (.inl x7)]) o (q_dm dm_X4_readNumber 27 rfl) rfl ic_1 (Nat.le_of_ble_eq_true rfl) (fun _ => rfl) (fun x7 => ?_)
      refine qr_goto (tgt := 4) o (q_dm dm_X4_readNumber 28 rfl) (by decide) ?_
      exact qr_loc (q_leS (q_leS (q_leS q_le0))) (hK4 x5 x7 m6)

def f_X4_readNumber_4 (n : Nat) (r : Nat) : Nat → Int32 → Int32 → qM → qR
  | 0, _, _, _ => none
  | m + 1, a1, a2, M => b_X4_readNumber_4 n r (f_X4_readNumber_4 n r m) a1 a2 M
theorem w_X4_readNumber_4 {g : qG} {k : qK} (n : Nat) (j r : Nat) (hj : q_isLaw j) (hr : q_isLaw r) (o : qOk g 2 zX4_readNumber k) : ∀ (m : Nat) (a1 a2 : Int32) (M : qM), qAE g k zX4_readNumber (qL j r) 4 [some (.inr (some 45)), some (.inl a1), some (.inl a2)] [] (qL j r, M) (f_X4_readNumber_4 n r m a1 a2 M) := by
  intro m
  induction m with
  | zero =>
    intro a1 a2 M
    exact qr_none
  | succ m ih =>
    intro a1 a2 M
    exact wb_X4_readNumber_4 n j r hj hr o (f_X4_readNumber_4 n r m) ih a1 a2 M
def f_X4_readNumber (n : Nat) (r : Nat) (M : qM) : qR :=
  f_X4_readNumber_4 n r n (0 : Int32) (0 : Int32) M
set_option maxRecDepth 4000 in
theorem w_X4_readNumber {g : qG} {k : qK} (n : Nat) (j r : Nat) (hj : q_isLaw j) (hr : q_isLaw r) (o : qOk g 2 zX4_readNumber k) (M : qM) : qAE g k zX4_readNumber (qL j r) 0 [some (.inr (some 45)), none, none] [] (qL j r, M) (f_X4_readNumber n r  M) := by
  unfold f_X4_readNumber
  refine qr_iconst o (q_dm dm_X4_readNumber 0 rfl) ic_0 ?_
  refine qs_istore_n (L' := [some (.inr (some 45)), some (.inl (0 : Int32)), none]) o (q_dm dm_X4_readNumber 1 rfl) (Nat.le_of_ble_eq_true rfl) rfl ?_
  refine qr_iconst o (q_dm dm_X4_readNumber 2 rfl) ic_0 ?_
  refine qs_istore_n (L' := [some (.inr (some 45)), some (.inl (0 : Int32)), some (.inl (0 : Int32))]) o (q_dm dm_X4_readNumber 3 rfl) (Nat.le_of_ble_eq_true rfl) rfl ?_
  exact qr_loc (q_leS (q_leS (q_leS q_le0))) (w_X4_readNumber_4 n j r hj hr o n (0 : Int32) (0 : Int32) M)

theorem a_X4_readNumber (g : qG) (l : Launch) (n : Nat) (j r : Nat) (hj : q_isLaw j) (hr : q_isLaw r) (M : qM) : qAM g l 2 zX4_readNumber (qL j r) [.inr (some 45)] (qL j r, M) (f_X4_readNumber n r  M) :=
  qAM.of zv_X4_readNumber.1 (by show 1 ≤ 3; decide) (fun k hk o => w_X4_readNumber n j r hj hr o  M)
def tb_X9_takes : List (Nat × Instr × Nat) := [(0, (.aload_n 0, 1)), (1, (.invokevirtual 38, 3)), (4, (.iload_n 1, 1)), (5, (.if_icmp .eq 5, 3)), (8, (.iconst 0, 1)), (9, (.ireturn, 1)), (10, (.aload_n 0, 1)), (11, (.dup, 1)), (12, (.getfield 32, 3)), (15, (.iconst 1, 1)), (16, (.iadd, 1)), (17, (.putfield 32, 3)), (20, (.iconst 1, 1)), (21, (.ireturn, 1))]
theorem dm_X9_takes : ∀ q ∈ tb_X9_takes, decode zX9_takes.2.1 q.1 = .ok q.2 := by decide +kernel
def f_X9_takes (n : Nat) (a1 : Int32) (M : qM) : qR :=
  qc (f_X9_sign n  M) (fun r1 m2 => (if r1 = a1 then qlm (mu m2 1 3 ((m2 1 3) + (1 : Int32))) (fun m3 => some ((1 : Int32), m3)) else some ((0 : Int32), m2)))
set_option maxRecDepth 4000 in
theorem w_X9_takes {g : qG} {k : qK} (n : Nat) (j r : Nat) (hj : q_isLaw j) (hr : q_isLaw r) (o : qOk g 1 zX9_takes k) (a1 : Int32) (M : qM) : qAE g k zX9_takes (qL j r) 0 [some (.inr (some 1)), some (.inl a1)] [] (qL j r, M) (f_X9_takes n a1 M) := by
  unfold f_X9_takes
  refine qr_aload_n o (q_dm dm_X9_takes 0 rfl) rfl ?_
  refine qr_callv_i (As := []) (S := []) o (a_X9_sign g k.2.1 n j r hj hr  M) (Nat.le_of_ble_eq_true rfl) zv_X9_sign rfl cf_X9 (sh1 j r) ml_X9_38 (Nat.le_of_ble_eq_true rfl) (q_dm dm_X9_takes 1 rfl) (fun r1 m2 => ?_)
  refine qr_iload_n o (q_dm dm_X9_takes 2 rfl) rfl ?_
  refine qr_icmp_eq (tgt := 10) o (q_dm dm_X9_takes 3 rfl) (by decide) ?_ ?_
  · refine qr_aload_n o (q_dm dm_X9_takes 6 rfl) rfl ?_
    refine qr_dup o (q_dm dm_X9_takes 7 rfl) ?_
    refine qr_getf (kf := 3) o cf_X9 (sh1 j r) rfl (Nat.le_of_ble_eq_true rfl) fl_X9_32 (q_dm dm_X9_takes 8 rfl) ?_
    refine qr_iconst o (q_dm dm_X9_takes 9 rfl) ic_1 ?_
    refine qr_iadd o (q_dm dm_X9_takes 10 rfl) ?_
    refine qr_putf (kf := 3) o cf_X9 (sh1 j r) rfl (Nat.le_of_ble_eq_true rfl) fl_X9_32 rfl (by decide +kernel) (q_dm dm_X9_takes 11 rfl) ?_
    refine qr_letm (fun m3 => ?_)
    refine qr_iconst o (q_dm dm_X9_takes 12 rfl) ic_1 ?_
    exact qr_iret o rfl (by decide) (q_dm dm_X9_takes 13 rfl)
  · refine qr_iconst o (q_dm dm_X9_takes 4 rfl) ic_0 ?_
    exact qr_iret o rfl (by decide) (q_dm dm_X9_takes 5 rfl)

theorem a_X9_takes (g : qG) (l : Launch) (n : Nat) (j r : Nat) (hj : q_isLaw j) (hr : q_isLaw r) (a1 : Int32) (M : qM) : qAM g l 1 zX9_takes (qL j r) [.inr (some 1), .inl a1] (qL j r, M) (f_X9_takes n a1 M) :=
  qAM.of zv_X9_takes.1 (by show 2 ≤ 2; decide) (fun k hk o => w_X9_takes n j r hj hr o a1 M)
def tb_X9_mustTake : List (Nat × Instr × Nat) := [(0, (.aload_n 0, 1)), (1, (.iload_n 1, 1)), (2, (.invokevirtual 42, 3)), (5, (.ifCond .ne 15, 3)), (8, (.aload_n 0, 1)), (9, (.iconst 1, 1)), (10, (.aload_n 0, 1)), (11, (.getfield 32, 3)), (14, (.invokevirtual 46, 3)), (17, (.ifCond .eq 7, 3)), (20, (.iconst 1, 1)), (21, (.goto 4, 3)), (24, (.iconst 0, 1)), (25, (.ireturn, 1))]
theorem dm_X9_mustTake : ∀ q ∈ tb_X9_mustTake, decode zX9_mustTake.2.1 q.1 = .ok q.2 := by decide +kernel
def f_X9_mustTake (n : Nat) (a1 : Int32) (M : qM) : qR :=
  qc (f_X9_takes n a1 M) (fun r1 m2 => (if r1 = (0 : Int32) then qc (f_X9_fails n (1 : Int32) (m2 1 3) m2) (fun r3 m4 => (if r3 = (0 : Int32) then some ((0 : Int32), m4) else some ((1 : Int32), m4))) else some ((1 : Int32), m2)))
set_option maxRecDepth 4000 in
theorem w_X9_mustTake {g : qG} {k : qK} (n : Nat) (j r : Nat) (hj : q_isLaw j) (hr : q_isLaw r) (o : qOk g 2 zX9_mustTake k) (a1 : Int32) (M : qM) : qAE g k zX9_mustTake (qL j r) 0 [some (.inr (some 1)), some (.inl a1)] [] (qL j r, M) (f_X9_mustTake n a1 M) := by
  unfold f_X9_mustTake
  refine qr_aload_n o (q_dm dm_X9_mustTake 0 rfl) rfl ?_
  refine qr_iload_n o (q_dm dm_X9_mustTake 1 rfl) rfl ?_
  refine qr_callv_i (As := [.inl a1]) (S := []) o (a_X9_takes g k.2.1 n j r hj hr a1 M) (Nat.le_of_ble_eq_true rfl) zv_X9_takes rfl cf_X9 (sh1 j r) ml_X9_42 (Nat.le_of_ble_eq_true rfl) (q_dm dm_X9_mustTake 2 rfl) (fun r1 m2 => ?_)
  refine qr_if_ne (tgt := 20) o (q_dm dm_X9_mustTake 3 rfl) (by decide) ?_ ?_
  · refine qr_iconst o (q_dm dm_X9_mustTake 10 rfl) ic_1 ?_
    refine qr_goto (tgt := 25) o (q_dm dm_X9_mustTake 11 rfl) (by decide) ?_
    exact qr_iret o rfl (by decide) (q_dm dm_X9_mustTake 13 rfl)
  · refine qr_aload_n o (q_dm dm_X9_mustTake 4 rfl) rfl ?_
    refine qr_iconst o (q_dm dm_X9_mustTake 5 rfl) ic_1 ?_
    refine qr_aload_n o (q_dm dm_X9_mustTake 6 rfl) rfl ?_
    refine qr_getf (kf := 3) o cf_X9 (sh1 j r) rfl (Nat.le_of_ble_eq_true rfl) fl_X9_32 (q_dm dm_X9_mustTake 7 rfl) ?_
    refine qr_callv_i (As := [.inl (1 : Int32), .inl (m2 1 3)]) (S := []) o (a_X9_fails g k.2.1 n j r hj hr (1 : Int32) (m2 1 3) m2) (Nat.le_of_ble_eq_true rfl) zv_X9_fails rfl cf_X9 (sh1 j r) ml_X9_46 (Nat.le_of_ble_eq_true rfl) (q_dm dm_X9_mustTake 8 rfl) (fun r3 m4 => ?_)
    refine qr_if_eq (tgt := 24) o (q_dm dm_X9_mustTake 9 rfl) (by decide) ?_ ?_
    · refine qr_iconst o (q_dm dm_X9_mustTake 12 rfl) ic_0 ?_
      exact qr_iret o rfl (by decide) (q_dm dm_X9_mustTake 13 rfl)
    · refine qr_iconst o (q_dm dm_X9_mustTake 10 rfl) ic_1 ?_
      refine qr_goto (tgt := 25) o (q_dm dm_X9_mustTake 11 rfl) (by decide) ?_
      exact qr_iret o rfl (by decide) (q_dm dm_X9_mustTake 13 rfl)

theorem a_X9_mustTake (g : qG) (l : Launch) (n : Nat) (j r : Nat) (hj : q_isLaw j) (hr : q_isLaw r) (a1 : Int32) (M : qM) : qAM g l 2 zX9_mustTake (qL j r) [.inr (some 1), .inl a1] (qL j r, M) (f_X9_mustTake n a1 M) :=
  qAM.of zv_X9_mustTake.1 (by show 2 ≤ 2; decide) (fun k hk o => w_X9_mustTake n j r hj hr o a1 M)
def tb_X4_readFactor : List (Nat × Instr × Nat) := [(0, (.aload_n 0, 1)), (1, (.getfield 18, 3)), (4, (.invokevirtual 49, 3)), (7, (.istore_n 2, 1)), (8, (.iload_n 2, 1)), (9, (.bipush 91, 2)), (11, (.if_icmp .ne 39, 3)), (14, (.aload_n 0, 1)), (15, (.iload_n 1, 1)), (16, (.invokevirtual 89, 3)), (19, (.ifCond .eq 29, 3)), (22, (.aload_n 0, 1)), (23, (.iload_n 1, 1)), (24, (.iconst 1, 1)), (25, (.iadd, 1)), (26, (.invokevirtual 63, 3)), (29, (.ifCond .eq 19, 3)), (32, (.aload_n 0, 1)), (33, (.getfield 18, 3)), (36, (.bipush 93, 2)), (38, (.invokevirtual 66, 3)), (41, (.ifCond .eq 7, 3)), (44, (.iconst 1, 1)), (45, (.goto 4, 3)), (48, (.iconst 0, 1)), (49, (.ireturn, 1)), (50, (.aload_n 0, 1)), (51, (.getfield 18, 3)), (54, (.invokevirtual 98, 3)), (57, (.iconst (-1), 1)), (58, (.if_icmp .eq 8, 3)), (61, (.aload_n 0, 1)), (62, (.invokevirtual 101, 3)), (65, (.ireturn, 1)), (66, (.iconst 0, 1)), (67, (.istore_n 3, 1)), (68, (.iload_n 3, 1)), (69, (.getstatic 104, 3)), (72, (.arraylength, 1)), (73, (.if_icmp .ge 43, 3)), (76, (.getstatic 104, 3)), (79, (.iload_n 3, 1)), (80, (.iaload, 1)), (81, (.iload_n 2, 1)), (82, (.if_icmp .ne 28, 3)), (85, (.aload_n 0, 1)), (86, (.getfield 18, 3)), (89, (.dup, 1)), (90, (.getfield 53, 3)), (93, (.iconst 1, 1)), (94, (.iadd, 1)), (95, (.putfield 53, 3)), (98, (.aload_n 0, 1)), (99, (.getfield 12, 3)), (102, (.iconst 1, 1)), (103, (.iload_n 3, 1)), (104, (.invokevirtual 79, 3)), (107, (.pop, 1)), (108, (.iconst 1, 1)), (109, (.ireturn, 1)), (110, (.iinc 3 1, 3)), (113, (.goto (-45), 3)), (116, (.aload_n 0, 1)), (117, (.getfield 18, 3)), (120, (.iconst 1, 1)), (121, (.aload_n 0, 1)), (122, (.getfield 18, 3)), (125, (.getfield 53, 3)), (128, (.invokevirtual 56, 3)), (131, (.ireturn, 1))]
theorem dm_X4_readFactor : ∀ q ∈ tb_X4_readFactor, decode zX4_readFactor.2.1 q.1 = .ok q.2 := by decide +kernel
def b_X4_readFactor_68 (n : Nat) (r : Nat) (F_X4_readSum : Int32 → qM → qR) (K68 : Int32 → Int32 → qM → qR) (a2 a3 : Int32) (M : qM) : qR :=
  (if (12 : Int32) ≤ a3 then qc (f_X9_fails n (1 : Int32) (M 1 3) M) (fun r1 m2 => qb r1 (some (r1, m2))) else qg a3 12 ((if (q_let a3.toNatClampNeg) = a2 then qlm (mu M 1 3 ((M 1 3) + (1 : Int32))) (fun m4 => qc (f_X3_add n r (1 : Int32) a3 m4) (fun r5 m6 => some ((1 : Int32), m6))) else ql (a3 + (1 : Int32)) (fun x3 => K68 a2 x3 M))))
set_option maxRecDepth 4000 in
theorem wb_X4_readFactor_68 {g : qG} {k : qK} (n : Nat) (j r : Nat) (hj : q_isLaw j) (hr : q_isLaw r) {d1 d : Nat} (hd1 : d1 + 1 ≤ d) (hdn : 3 ≤ d) (F_X4_readSum : Int32 → qM → qR) (hF_X4_readSum : ∀ (b1 : Int32) (M : qM), qAM g k.2.1 d1 zX4_readSum (qL j r) [.inr (some 45), .inl b1] (qL j r, M) (F_X4_readSum b1 M)) (o : qOk g d zX4_readFactor k) (K68 : Int32 → Int32 → qM → qR) (hK68 : ∀ (a2 a3 : Int32) (M : qM), qAE g k zX4_readFactor (qL j r) 68 [some (.inr (some 45)), none, some (.inl a2), some (.inl a3)] [] (qL j r, M) (K68 a2 a3 M)) (a2 a3 : Int32) (M : qM) : qAE g k zX4_readFactor (qL j r) 68 [some (.inr (some 45)), none, some (.inl a2), some (.inl a3)] [] (qL j r, M) (b_X4_readFactor_68 n r F_X4_readSum K68 a2 a3 M) := by
  unfold b_X4_readFactor_68
  refine qr_iload_n o (q_dm dm_X4_readFactor 36 rfl) rfl ?_
  refine qr_gets o rfl (q_dm dm_X4_readFactor 37 rfl) ?_
  refine qr_llen o (q_dm dm_X4_readFactor 38 rfl) ?_
  refine qr_icmp_ge (tgt := 116) o (q_dm dm_X4_readFactor 39 rfl) (by decide) ?_ ?_
  · refine qr_aload_n o (q_dm dm_X4_readFactor 62 rfl) rfl ?_
    refine qr_getr (kf := 0) o cf_X4 (sh45 j r) rfl (Nat.le_of_ble_eq_true rfl) fl_X4_18 (q_dm dm_X4_readFactor 63 rfl) ?_
    refine qr_iconst o (q_dm dm_X4_readFactor 64 rfl) ic_1 ?_
    refine qr_aload_n o (q_dm dm_X4_readFactor 65 rfl) rfl ?_
    refine qr_getr (kf := 0) o cf_X4 (sh45 j r) rfl (Nat.le_of_ble_eq_true rfl) fl_X4_18 (q_dm dm_X4_readFactor 66 rfl) ?_
    refine qr_getf (kf := 3) o cf_X9 (sh1 j r) rfl (Nat.le_of_ble_eq_true rfl) fl_X4_53 (q_dm dm_X4_readFactor 67 rfl) ?_
    refine qr_callv_i (As := [.inl (1 : Int32), .inl (M 1 3)]) (S := []) o (a_X9_fails g k.2.1 n j r hj hr (1 : Int32) (M 1 3) M) (by omega) zv_X9_fails rfl cf_X9 (sh1 j r) ml_X4_56 (Nat.le_of_ble_eq_true rfl) (q_dm dm_X4_readFactor 68 rfl) (fun r1 m2 => ?_)
    exact qr_zret o rfl (q_dm dm_X4_readFactor 69 rfl)
  · refine qr_gets o rfl (q_dm dm_X4_readFactor 40 rfl) ?_
    refine qr_iload_n o (q_dm dm_X4_readFactor 41 rfl) rfl ?_
    refine qr_lald o (q_dm dm_X4_readFactor 42 rfl) ?_
    refine qr_iload_n o (q_dm dm_X4_readFactor 43 rfl) rfl ?_
    refine qr_icmp_ne (tgt := 110) o (q_dm dm_X4_readFactor 44 rfl) (by decide) ?_ ?_
    · refine qs_iincl2 (L' := fun x3 => [some (.inr (some 45)), none, some (.inl a2), some (.inl x3)]) o (q_dm dm_X4_readFactor 60 rfl) rfl ic_1 (Nat.le_of_ble_eq_true rfl) (fun _ => rfl) (fun x3 => ?_)
      refine qr_goto (tgt := 68) o (q_dm dm_X4_readFactor 61 rfl) (by decide) ?_
      exact qr_loc (q_leS (q_leN (q_leS (q_leS q_le0)))) (hK68 a2 x3 M)
    · refine qr_aload_n o (q_dm dm_X4_readFactor 45 rfl) rfl ?_
      refine qr_getr (kf := 0) o cf_X4 (sh45 j r) rfl (Nat.le_of_ble_eq_true rfl) fl_X4_18 (q_dm dm_X4_readFactor 46 rfl) ?_
      refine qr_dup o (q_dm dm_X4_readFactor 47 rfl) ?_
      refine qr_getf (kf := 3) o cf_X9 (sh1 j r) rfl (Nat.le_of_ble_eq_true rfl) fl_X4_53 (q_dm dm_X4_readFactor 48 rfl) ?_
      refine qr_iconst o (q_dm dm_X4_readFactor 49 rfl) ic_1 ?_
      refine qr_iadd o (q_dm dm_X4_readFactor 50 rfl) ?_
      refine qr_putf (kf := 3) o cf_X9 (sh1 j r) rfl (Nat.le_of_ble_eq_true rfl) fl_X4_53 rfl (by decide +kernel) (q_dm dm_X4_readFactor 51 rfl) ?_
      refine qr_letm (fun m4 => ?_)
      refine qr_aload_n o (q_dm dm_X4_readFactor 52 rfl) rfl ?_
      refine qr_getr (kf := 1) o cf_X4 (sh45 j r) rfl (Nat.le_of_ble_eq_true rfl) fl_X4_12 (q_dm dm_X4_readFactor 53 rfl) ?_
      refine qr_iconst o (q_dm dm_X4_readFactor 54 rfl) ic_1 ?_
      refine qr_iload_n o (q_dm dm_X4_readFactor 55 rfl) rfl ?_
      refine qr_callv_i (As := [.inl (1 : Int32), .inl a3]) (S := []) o (a_X3_add g k.2.1 n j r hj hr hr (1 : Int32) a3 m4) (by omega) zv_X3_add rfl cf_X3 (shW0 j r hr) ml_X4_79 (Nat.le_of_ble_eq_true rfl) (q_dm dm_X4_readFactor 56 rfl) (fun r5 m6 => ?_)
      refine qr_pop o (q_dm dm_X4_readFactor 57 rfl) ?_
      refine qr_iconst o (q_dm dm_X4_readFactor 58 rfl) ic_1 ?_
      exact qr_iret o rfl (by decide) (q_dm dm_X4_readFactor 59 rfl)

def f_X4_readFactor_68 (n : Nat) (r : Nat) (F_X4_readSum : Int32 → qM → qR) : Nat → Int32 → Int32 → qM → qR
  | 0, _, _, _ => none
  | m + 1, a2, a3, M => b_X4_readFactor_68 n r F_X4_readSum (f_X4_readFactor_68 n r F_X4_readSum m) a2 a3 M
theorem w_X4_readFactor_68 {g : qG} {k : qK} (n : Nat) (j r : Nat) (hj : q_isLaw j) (hr : q_isLaw r) {d1 d : Nat} (hd1 : d1 + 1 ≤ d) (hdn : 3 ≤ d) (F_X4_readSum : Int32 → qM → qR) (hF_X4_readSum : ∀ (b1 : Int32) (M : qM), qAM g k.2.1 d1 zX4_readSum (qL j r) [.inr (some 45), .inl b1] (qL j r, M) (F_X4_readSum b1 M)) (o : qOk g d zX4_readFactor k) : ∀ (m : Nat) (a2 a3 : Int32) (M : qM), qAE g k zX4_readFactor (qL j r) 68 [some (.inr (some 45)), none, some (.inl a2), some (.inl a3)] [] (qL j r, M) (f_X4_readFactor_68 n r F_X4_readSum m a2 a3 M) := by
  intro m
  induction m with
  | zero =>
    intro a2 a3 M
    exact qr_none
  | succ m ih =>
    intro a2 a3 M
    exact wb_X4_readFactor_68 n j r hj hr hd1 hdn F_X4_readSum hF_X4_readSum o (f_X4_readFactor_68 n r F_X4_readSum m) ih a2 a3 M
def fo_X4_readFactor (n : Nat) (r : Nat) (F_X4_readSum : Int32 → qM → qR) (a1 : Int32) (M : qM) : qR :=
  qc (f_X9_sign n  M) (fun r1 m2 => (if r1 = (91 : Int32) then qc (f_X4_opens n a1 m2) (fun r7 m8 => (if r7 = (0 : Int32) then some ((0 : Int32), m8) else qc (F_X4_readSum (a1 + (1 : Int32)) m8) (fun r9 m10 => (if r9 = (0 : Int32) then some ((0 : Int32), m10) else qc (f_X9_mustTake n (93 : Int32) m10) (fun r11 m12 => (if r11 = (0 : Int32) then some ((0 : Int32), m12) else some ((1 : Int32), m12))))))) else qc (f_X9_digit n  m2) (fun r3 m4 => (if r3 = (-1 : Int32) then f_X4_readFactor_68 n r F_X4_readSum n r1 (0 : Int32) m4 else qc (f_X4_readNumber n r m4) (fun r5 m6 => qb r5 (some (r5, m6)))))))
set_option maxRecDepth 4000 in
theorem w_X4_readFactor {g : qG} {k : qK} (n : Nat) (j r : Nat) (hj : q_isLaw j) (hr : q_isLaw r) {d1 d : Nat} (hd1 : d1 + 1 ≤ d) (hdn : 3 ≤ d) (F_X4_readSum : Int32 → qM → qR) (hF_X4_readSum : ∀ (b1 : Int32) (M : qM), qAM g k.2.1 d1 zX4_readSum (qL j r) [.inr (some 45), .inl b1] (qL j r, M) (F_X4_readSum b1 M)) (o : qOk g d zX4_readFactor k) (a1 : Int32) (M : qM) : qAE g k zX4_readFactor (qL j r) 0 [some (.inr (some 45)), some (.inl a1), none, none] [] (qL j r, M) (fo_X4_readFactor n r F_X4_readSum a1 M) := by
  unfold fo_X4_readFactor
  refine qr_aload_n o (q_dm dm_X4_readFactor 0 rfl) rfl ?_
  refine qr_getr (kf := 0) o cf_X4 (sh45 j r) rfl (Nat.le_of_ble_eq_true rfl) fl_X4_18 (q_dm dm_X4_readFactor 1 rfl) ?_
  refine qr_callv_i (As := []) (S := []) o (a_X9_sign g k.2.1 n j r hj hr  M) (by omega) zv_X9_sign rfl cf_X9 (sh1 j r) ml_X4_49 (Nat.le_of_ble_eq_true rfl) (q_dm dm_X4_readFactor 2 rfl) (fun r1 m2 => ?_)
  refine qs_istore_n (L' := [some (.inr (some 45)), some (.inl a1), some (.inl r1), none]) o (q_dm dm_X4_readFactor 3 rfl) (Nat.le_of_ble_eq_true rfl) rfl ?_
  refine qr_iload_n o (q_dm dm_X4_readFactor 4 rfl) rfl ?_
  refine qr_bipush o (q_dm dm_X4_readFactor 5 rfl) bi_91 ?_
  refine qr_icmp_ne (tgt := 50) o (q_dm dm_X4_readFactor 6 rfl) (by decide) ?_ ?_
  · refine qr_aload_n o (q_dm dm_X4_readFactor 26 rfl) rfl ?_
    refine qr_getr (kf := 0) o cf_X4 (sh45 j r) rfl (Nat.le_of_ble_eq_true rfl) fl_X4_18 (q_dm dm_X4_readFactor 27 rfl) ?_
    refine qr_callv_i (As := []) (S := []) o (a_X9_digit g k.2.1 n j r hj hr  m2) (by omega) zv_X9_digit rfl cf_X9 (sh1 j r) ml_X4_98 (Nat.le_of_ble_eq_true rfl) (q_dm dm_X4_readFactor 28 rfl) (fun r3 m4 => ?_)
    refine qr_iconst o (q_dm dm_X4_readFactor 29 rfl) ic_m1 ?_
    refine qr_icmp_eq (tgt := 66) o (q_dm dm_X4_readFactor 30 rfl) (by decide) ?_ ?_
    · refine qr_iconst o (q_dm dm_X4_readFactor 34 rfl) ic_0 ?_
      refine qs_istore_n (L' := [some (.inr (some 45)), some (.inl a1), some (.inl r1), some (.inl (0 : Int32))]) o (q_dm dm_X4_readFactor 35 rfl) (Nat.le_of_ble_eq_true rfl) rfl ?_
      exact qr_loc (q_leS (q_leN (q_leS (q_leS q_le0)))) (w_X4_readFactor_68 n j r hj hr hd1 hdn F_X4_readSum hF_X4_readSum o n r1 (0 : Int32) m4)
    · refine qr_aload_n o (q_dm dm_X4_readFactor 31 rfl) rfl ?_
      refine qr_callv_i (As := []) (S := []) o (a_X4_readNumber g k.2.1 n j r hj hr  m4) (by omega) zv_X4_readNumber rfl cf_X4 (sh45 j r) ml_X4_101 (Nat.le_of_ble_eq_true rfl) (q_dm dm_X4_readFactor 32 rfl) (fun r5 m6 => ?_)
      exact qr_zret o rfl (q_dm dm_X4_readFactor 33 rfl)
  · refine qr_aload_n o (q_dm dm_X4_readFactor 7 rfl) rfl ?_
    refine qr_iload_n o (q_dm dm_X4_readFactor 8 rfl) rfl ?_
    refine qr_callv_i (As := [.inl a1]) (S := []) o (a_X4_opens g k.2.1 n j r hj hr a1 m2) (by omega) zv_X4_opens rfl cf_X4 (sh45 j r) ml_X4_89 (Nat.le_of_ble_eq_true rfl) (q_dm dm_X4_readFactor 9 rfl) (fun r7 m8 => ?_)
    refine qr_if_eq (tgt := 48) o (q_dm dm_X4_readFactor 10 rfl) (by decide) ?_ ?_
    · refine qr_iconst o (q_dm dm_X4_readFactor 24 rfl) ic_0 ?_
      exact qr_iret o rfl (by decide) (q_dm dm_X4_readFactor 25 rfl)
    · refine qr_aload_n o (q_dm dm_X4_readFactor 11 rfl) rfl ?_
      refine qr_iload_n o (q_dm dm_X4_readFactor 12 rfl) rfl ?_
      refine qr_iconst o (q_dm dm_X4_readFactor 13 rfl) ic_1 ?_
      refine qr_iadd o (q_dm dm_X4_readFactor 14 rfl) ?_
      refine qr_callv_i (As := [.inl (a1 + (1 : Int32))]) (S := []) o (hF_X4_readSum (a1 + (1 : Int32)) m8) (by omega) zv_X4_readSum rfl cf_X4 (sh45 j r) ml_X4_63 (Nat.le_of_ble_eq_true rfl) (q_dm dm_X4_readFactor 15 rfl) (fun r9 m10 => ?_)
      refine qr_if_eq (tgt := 48) o (q_dm dm_X4_readFactor 16 rfl) (by decide) ?_ ?_
      · refine qr_iconst o (q_dm dm_X4_readFactor 24 rfl) ic_0 ?_
        exact qr_iret o rfl (by decide) (q_dm dm_X4_readFactor 25 rfl)
      · refine qr_aload_n o (q_dm dm_X4_readFactor 17 rfl) rfl ?_
        refine qr_getr (kf := 0) o cf_X4 (sh45 j r) rfl (Nat.le_of_ble_eq_true rfl) fl_X4_18 (q_dm dm_X4_readFactor 18 rfl) ?_
        refine qr_bipush o (q_dm dm_X4_readFactor 19 rfl) bi_93 ?_
        refine qr_callv_i (As := [.inl (93 : Int32)]) (S := []) o (a_X9_mustTake g k.2.1 n j r hj hr (93 : Int32) m10) (by omega) zv_X9_mustTake rfl cf_X9 (sh1 j r) ml_X4_66 (Nat.le_of_ble_eq_true rfl) (q_dm dm_X4_readFactor 20 rfl) (fun r11 m12 => ?_)
        refine qr_if_eq (tgt := 48) o (q_dm dm_X4_readFactor 21 rfl) (by decide) ?_ ?_
        · refine qr_iconst o (q_dm dm_X4_readFactor 24 rfl) ic_0 ?_
          exact qr_iret o rfl (by decide) (q_dm dm_X4_readFactor 25 rfl)
        · refine qr_iconst o (q_dm dm_X4_readFactor 22 rfl) ic_1 ?_
          refine qr_goto (tgt := 49) o (q_dm dm_X4_readFactor 23 rfl) (by decide) ?_
          exact qr_iret o rfl (by decide) (q_dm dm_X4_readFactor 25 rfl)

theorem ao_X4_readFactor (g : qG) (l : Launch) (n : Nat) (j r : Nat) (hj : q_isLaw j) (hr : q_isLaw r) {d1 d : Nat} (hd1 : d1 + 1 ≤ d) (hdn : 3 ≤ d) (F_X4_readSum : Int32 → qM → qR) (hF_X4_readSum : ∀ (b1 : Int32) (M : qM), qAM g l d1 zX4_readSum (qL j r) [.inr (some 45), .inl b1] (qL j r, M) (F_X4_readSum b1 M)) (a1 : Int32) (M : qM) : qAM g l d zX4_readFactor (qL j r) [.inr (some 45), .inl a1] (qL j r, M) (fo_X4_readFactor n r F_X4_readSum a1 M) :=
  qAM.of zv_X4_readFactor.1 (by show 2 ≤ 4; decide) (fun k hk o => by subst hk; exact w_X4_readFactor n j r hj hr hd1 hdn F_X4_readSum hF_X4_readSum o a1 M)
def tb_X4_readProduct : List (Nat × Instr × Nat) := [(0, (.aload_n 0, 1)), (1, (.iload_n 1, 1)), (2, (.invokevirtual 95, 3)), (5, (.istore_n 2, 1)), (6, (.iconst 0, 1)), (7, (.istore_n 3, 1)), (8, (.iload_n 3, 1)), (9, (.sipush 240, 3)), (12, (.if_icmp .ge 75, 3)), (15, (.iload_n 2, 1)), (16, (.ifCond .eq 71, 3)), (19, (.aload_n 0, 1)), (20, (.getfield 18, 3)), (23, (.invokevirtual 49, 3)), (26, (.istore 4, 2)), (28, (.iload 4, 2)), (30, (.bipush 42, 2)), (32, (.if_icmp .eq 19, 3)), (35, (.iload 4, 2)), (37, (.bipush 47, 2)), (39, (.if_icmp .eq 12, 3)), (42, (.iload 4, 2)), (44, (.bipush 37, 2)), (46, (.if_icmp .eq 5, 3)), (49, (.iconst 1, 1)), (50, (.ireturn, 1)), (51, (.aload_n 0, 1)), (52, (.getfield 18, 3)), (55, (.dup, 1)), (56, (.getfield 53, 3)), (59, (.iconst 1, 1)), (60, (.iadd, 1)), (61, (.putfield 53, 3)), (64, (.aload_n 0, 1)), (65, (.iload_n 1, 1)), (66, (.invokevirtual 95, 3)), (69, (.istore_n 2, 1)), (70, (.aload_n 0, 1)), (71, (.getfield 12, 3)), (74, (.iload 4, 2)), (76, (.iconst 0, 1)), (77, (.invokevirtual 79, 3)), (80, (.pop, 1)), (81, (.iinc 3 1, 3)), (84, (.goto (-76), 3)), (87, (.iload_n 2, 1)), (88, (.ireturn, 1))]
theorem dm_X4_readProduct : ∀ q ∈ tb_X4_readProduct, decode zX4_readProduct.2.1 q.1 = .ok q.2 := by decide +kernel
def f_X4_readProduct_51 (n : Nat) (r : Nat) (F_X4_readFactor : Int32 → qM → qR) (K8 : Int32 → Int32 → Int32 → qM → qR) (a1 a3 a4 : Int32) (M : qM) : qR :=
  qlm (mu M 1 3 ((M 1 3) + (1 : Int32))) (fun m1 => qc (F_X4_readFactor a1 m1) (fun r2 m3 => qc (f_X3_add n r a4 (0 : Int32) m3) (fun r4 m5 => ql (a3 + (1 : Int32)) (fun x6 => K8 a1 r2 x6 m5))))
set_option maxRecDepth 4000 in
theorem w_X4_readProduct_51 {g : qG} {k : qK} (n : Nat) (j r : Nat) (hj : q_isLaw j) (hr : q_isLaw r) {d1 d : Nat} (hd1 : d1 + 1 ≤ d) (hdn : 3 ≤ d) (F_X4_readFactor : Int32 → qM → qR) (hF_X4_readFactor : ∀ (b1 : Int32) (M : qM), qAM g k.2.1 d1 zX4_readFactor (qL j r) [.inr (some 45), .inl b1] (qL j r, M) (F_X4_readFactor b1 M)) (o : qOk g d zX4_readProduct k) (K8 : Int32 → Int32 → Int32 → qM → qR) (hK8 : ∀ (a1 a2 a3 : Int32) (M : qM), qAE g k zX4_readProduct (qL j r) 8 [some (.inr (some 45)), some (.inl a1), some (.inl a2), some (.inl a3), none] [] (qL j r, M) (K8 a1 a2 a3 M)) (a1 a3 a4 : Int32) (M : qM) : qAE g k zX4_readProduct (qL j r) 51 [some (.inr (some 45)), some (.inl a1), none, some (.inl a3), some (.inl a4)] [] (qL j r, M) (f_X4_readProduct_51 n r F_X4_readFactor K8 a1 a3 a4 M) := by
  unfold f_X4_readProduct_51
  refine qr_aload_n o (q_dm dm_X4_readProduct 26 rfl) rfl ?_
  refine qr_getr (kf := 0) o cf_X4 (sh45 j r) rfl (Nat.le_of_ble_eq_true rfl) fl_X4_18 (q_dm dm_X4_readProduct 27 rfl) ?_
  refine qr_dup o (q_dm dm_X4_readProduct 28 rfl) ?_
  refine qr_getf (kf := 3) o cf_X9 (sh1 j r) rfl (Nat.le_of_ble_eq_true rfl) fl_X4_53 (q_dm dm_X4_readProduct 29 rfl) ?_
  refine qr_iconst o (q_dm dm_X4_readProduct 30 rfl) ic_1 ?_
  refine qr_iadd o (q_dm dm_X4_readProduct 31 rfl) ?_
  refine qr_putf (kf := 3) o cf_X9 (sh1 j r) rfl (Nat.le_of_ble_eq_true rfl) fl_X4_53 rfl (by decide +kernel) (q_dm dm_X4_readProduct 32 rfl) ?_
  refine qr_letm (fun m1 => ?_)
  refine qr_aload_n o (q_dm dm_X4_readProduct 33 rfl) rfl ?_
  refine qr_iload_n o (q_dm dm_X4_readProduct 34 rfl) rfl ?_
  refine qr_callv_i (As := [.inl a1]) (S := []) o (hF_X4_readFactor a1 m1) (by omega) zv_X4_readFactor rfl cf_X4 (sh45 j r) ml_X4_95 (Nat.le_of_ble_eq_true rfl) (q_dm dm_X4_readProduct 35 rfl) (fun r2 m3 => ?_)
  refine qs_istore_n (L' := [some (.inr (some 45)), some (.inl a1), some (.inl r2), some (.inl a3), some (.inl a4)]) o (q_dm dm_X4_readProduct 36 rfl) (Nat.le_of_ble_eq_true rfl) rfl ?_
  refine qr_aload_n o (q_dm dm_X4_readProduct 37 rfl) rfl ?_
  refine qr_getr (kf := 1) o cf_X4 (sh45 j r) rfl (Nat.le_of_ble_eq_true rfl) fl_X4_12 (q_dm dm_X4_readProduct 38 rfl) ?_
  refine qr_iload o (q_dm dm_X4_readProduct 39 rfl) rfl ?_
  refine qr_iconst o (q_dm dm_X4_readProduct 40 rfl) ic_0 ?_
  refine qr_callv_i (As := [.inl a4, .inl (0 : Int32)]) (S := []) o (a_X3_add g k.2.1 n j r hj hr hr a4 (0 : Int32) m3) (by omega) zv_X3_add rfl cf_X3 (shW0 j r hr) ml_X4_79 (Nat.le_of_ble_eq_true rfl) (q_dm dm_X4_readProduct 41 rfl) (fun r4 m5 => ?_)
  refine qr_pop o (q_dm dm_X4_readProduct 42 rfl) ?_
  refine qs_iincl2 (L' := fun x6 => [some (.inr (some 45)), some (.inl a1), some (.inl r2), some (.inl x6), some (.inl a4)]) o (q_dm dm_X4_readProduct 43 rfl) rfl ic_1 (Nat.le_of_ble_eq_true rfl) (fun _ => rfl) (fun x6 => ?_)
  refine qr_goto (tgt := 8) o (q_dm dm_X4_readProduct 44 rfl) (by decide) ?_
  exact qr_loc (q_leS (q_leS (q_leS (q_leS (q_leN q_le0))))) (hK8 a1 r2 x6 m5)

def b_X4_readProduct_8 (n : Nat) (r : Nat) (F_X4_readFactor : Int32 → qM → qR) (K8 : Int32 → Int32 → Int32 → qM → qR) (a1 a2 a3 : Int32) (M : qM) : qR :=
  (if (240 : Int32) ≤ a3 then qb a2 (some (a2, M)) else (if a2 = (0 : Int32) then qb a2 (some (a2, M)) else qc (f_X9_sign n  M) (fun r1 m2 => (if r1 = (42 : Int32) then f_X4_readProduct_51 n r F_X4_readFactor K8 a1 a3 r1 m2 else (if r1 = (47 : Int32) then f_X4_readProduct_51 n r F_X4_readFactor K8 a1 a3 r1 m2 else (if r1 = (37 : Int32) then f_X4_readProduct_51 n r F_X4_readFactor K8 a1 a3 r1 m2 else some ((1 : Int32), m2)))))))
set_option maxRecDepth 4000 in
theorem wb_X4_readProduct_8 {g : qG} {k : qK} (n : Nat) (j r : Nat) (hj : q_isLaw j) (hr : q_isLaw r) {d1 d : Nat} (hd1 : d1 + 1 ≤ d) (hdn : 3 ≤ d) (F_X4_readFactor : Int32 → qM → qR) (hF_X4_readFactor : ∀ (b1 : Int32) (M : qM), qAM g k.2.1 d1 zX4_readFactor (qL j r) [.inr (some 45), .inl b1] (qL j r, M) (F_X4_readFactor b1 M)) (o : qOk g d zX4_readProduct k) (K8 : Int32 → Int32 → Int32 → qM → qR) (hK8 : ∀ (a1 a2 a3 : Int32) (M : qM), qAE g k zX4_readProduct (qL j r) 8 [some (.inr (some 45)), some (.inl a1), some (.inl a2), some (.inl a3), none] [] (qL j r, M) (K8 a1 a2 a3 M)) (a1 a2 a3 : Int32) (M : qM) : qAE g k zX4_readProduct (qL j r) 8 [some (.inr (some 45)), some (.inl a1), some (.inl a2), some (.inl a3), none] [] (qL j r, M) (b_X4_readProduct_8 n r F_X4_readFactor K8 a1 a2 a3 M) := by
  unfold b_X4_readProduct_8
  refine qr_iload_n o (q_dm dm_X4_readProduct 6 rfl) rfl ?_
  refine qr_sipush o (q_dm dm_X4_readProduct 7 rfl) si_240 ?_
  refine qr_icmp_ge (tgt := 87) o (q_dm dm_X4_readProduct 8 rfl) (by decide) ?_ ?_
  · refine qr_iload_n o (q_dm dm_X4_readProduct 45 rfl) rfl ?_
    exact qr_zret o rfl (q_dm dm_X4_readProduct 46 rfl)
  · refine qr_iload_n o (q_dm dm_X4_readProduct 9 rfl) rfl ?_
    refine qr_if_eq (tgt := 87) o (q_dm dm_X4_readProduct 10 rfl) (by decide) ?_ ?_
    · refine qr_iload_n o (q_dm dm_X4_readProduct 45 rfl) rfl ?_
      exact qr_zret o rfl (q_dm dm_X4_readProduct 46 rfl)
    · refine qr_aload_n o (q_dm dm_X4_readProduct 11 rfl) rfl ?_
      refine qr_getr (kf := 0) o cf_X4 (sh45 j r) rfl (Nat.le_of_ble_eq_true rfl) fl_X4_18 (q_dm dm_X4_readProduct 12 rfl) ?_
      refine qr_callv_i (As := []) (S := []) o (a_X9_sign g k.2.1 n j r hj hr  M) (by omega) zv_X9_sign rfl cf_X9 (sh1 j r) ml_X4_49 (Nat.le_of_ble_eq_true rfl) (q_dm dm_X4_readProduct 13 rfl) (fun r1 m2 => ?_)
      refine qs_istore (L' := [some (.inr (some 45)), some (.inl a1), some (.inl a2), some (.inl a3), some (.inl r1)]) o (q_dm dm_X4_readProduct 14 rfl) (Nat.le_of_ble_eq_true rfl) rfl ?_
      refine qr_iload o (q_dm dm_X4_readProduct 15 rfl) rfl ?_
      refine qr_bipush o (q_dm dm_X4_readProduct 16 rfl) bi_42 ?_
      refine qr_icmp_eq (tgt := 51) o (q_dm dm_X4_readProduct 17 rfl) (by decide) ?_ ?_
      · exact qr_loc (q_leS (q_leS (q_leN (q_leS (q_leS q_le0))))) (w_X4_readProduct_51 n j r hj hr hd1 hdn F_X4_readFactor hF_X4_readFactor o K8 hK8 a1 a3 r1 m2)
      · refine qr_iload o (q_dm dm_X4_readProduct 18 rfl) rfl ?_
        refine qr_bipush o (q_dm dm_X4_readProduct 19 rfl) bi_47 ?_
        refine qr_icmp_eq (tgt := 51) o (q_dm dm_X4_readProduct 20 rfl) (by decide) ?_ ?_
        · exact qr_loc (q_leS (q_leS (q_leN (q_leS (q_leS q_le0))))) (w_X4_readProduct_51 n j r hj hr hd1 hdn F_X4_readFactor hF_X4_readFactor o K8 hK8 a1 a3 r1 m2)
        · refine qr_iload o (q_dm dm_X4_readProduct 21 rfl) rfl ?_
          refine qr_bipush o (q_dm dm_X4_readProduct 22 rfl) bi_37 ?_
          refine qr_icmp_eq (tgt := 51) o (q_dm dm_X4_readProduct 23 rfl) (by decide) ?_ ?_
          · exact qr_loc (q_leS (q_leS (q_leN (q_leS (q_leS q_le0))))) (w_X4_readProduct_51 n j r hj hr hd1 hdn F_X4_readFactor hF_X4_readFactor o K8 hK8 a1 a3 r1 m2)
          · refine qr_iconst o (q_dm dm_X4_readProduct 24 rfl) ic_1 ?_
            exact qr_iret o rfl (by decide) (q_dm dm_X4_readProduct 25 rfl)

def f_X4_readProduct_8 (n : Nat) (r : Nat) (F_X4_readFactor : Int32 → qM → qR) : Nat → Int32 → Int32 → Int32 → qM → qR
  | 0, _, _, _, _ => none
  | m + 1, a1, a2, a3, M => b_X4_readProduct_8 n r F_X4_readFactor (f_X4_readProduct_8 n r F_X4_readFactor m) a1 a2 a3 M
theorem w_X4_readProduct_8 {g : qG} {k : qK} (n : Nat) (j r : Nat) (hj : q_isLaw j) (hr : q_isLaw r) {d1 d : Nat} (hd1 : d1 + 1 ≤ d) (hdn : 3 ≤ d) (F_X4_readFactor : Int32 → qM → qR) (hF_X4_readFactor : ∀ (b1 : Int32) (M : qM), qAM g k.2.1 d1 zX4_readFactor (qL j r) [.inr (some 45), .inl b1] (qL j r, M) (F_X4_readFactor b1 M)) (o : qOk g d zX4_readProduct k) : ∀ (m : Nat) (a1 a2 a3 : Int32) (M : qM), qAE g k zX4_readProduct (qL j r) 8 [some (.inr (some 45)), some (.inl a1), some (.inl a2), some (.inl a3), none] [] (qL j r, M) (f_X4_readProduct_8 n r F_X4_readFactor m a1 a2 a3 M) := by
  intro m
  induction m with
  | zero =>
    intro a1 a2 a3 M
    exact qr_none
  | succ m ih =>
    intro a1 a2 a3 M
    exact wb_X4_readProduct_8 n j r hj hr hd1 hdn F_X4_readFactor hF_X4_readFactor o (f_X4_readProduct_8 n r F_X4_readFactor m) ih a1 a2 a3 M
def fo_X4_readProduct (n : Nat) (r : Nat) (F_X4_readFactor : Int32 → qM → qR) (a1 : Int32) (M : qM) : qR :=
  qc (F_X4_readFactor a1 M) (fun r1 m2 => f_X4_readProduct_8 n r F_X4_readFactor n a1 r1 (0 : Int32) m2)
set_option maxRecDepth 4000 in
theorem w_X4_readProduct {g : qG} {k : qK} (n : Nat) (j r : Nat) (hj : q_isLaw j) (hr : q_isLaw r) {d1 d : Nat} (hd1 : d1 + 1 ≤ d) (hdn : 3 ≤ d) (F_X4_readFactor : Int32 → qM → qR) (hF_X4_readFactor : ∀ (b1 : Int32) (M : qM), qAM g k.2.1 d1 zX4_readFactor (qL j r) [.inr (some 45), .inl b1] (qL j r, M) (F_X4_readFactor b1 M)) (o : qOk g d zX4_readProduct k) (a1 : Int32) (M : qM) : qAE g k zX4_readProduct (qL j r) 0 [some (.inr (some 45)), some (.inl a1), none, none, none] [] (qL j r, M) (fo_X4_readProduct n r F_X4_readFactor a1 M) := by
  unfold fo_X4_readProduct
  refine qr_aload_n o (q_dm dm_X4_readProduct 0 rfl) rfl ?_
  refine qr_iload_n o (q_dm dm_X4_readProduct 1 rfl) rfl ?_
  refine qr_callv_i (As := [.inl a1]) (S := []) o (hF_X4_readFactor a1 M) (by omega) zv_X4_readFactor rfl cf_X4 (sh45 j r) ml_X4_95 (Nat.le_of_ble_eq_true rfl) (q_dm dm_X4_readProduct 2 rfl) (fun r1 m2 => ?_)
  refine qs_istore_n (L' := [some (.inr (some 45)), some (.inl a1), some (.inl r1), none, none]) o (q_dm dm_X4_readProduct 3 rfl) (Nat.le_of_ble_eq_true rfl) rfl ?_
  refine qr_iconst o (q_dm dm_X4_readProduct 4 rfl) ic_0 ?_
  refine qs_istore_n (L' := [some (.inr (some 45)), some (.inl a1), some (.inl r1), some (.inl (0 : Int32)), none]) o (q_dm dm_X4_readProduct 5 rfl) (Nat.le_of_ble_eq_true rfl) rfl ?_
  exact qr_loc (q_leS (q_leS (q_leS (q_leS (q_leN q_le0))))) (w_X4_readProduct_8 n j r hj hr hd1 hdn F_X4_readFactor hF_X4_readFactor o n a1 r1 (0 : Int32) m2)

theorem ao_X4_readProduct (g : qG) (l : Launch) (n : Nat) (j r : Nat) (hj : q_isLaw j) (hr : q_isLaw r) {d1 d : Nat} (hd1 : d1 + 1 ≤ d) (hdn : 3 ≤ d) (F_X4_readFactor : Int32 → qM → qR) (hF_X4_readFactor : ∀ (b1 : Int32) (M : qM), qAM g l d1 zX4_readFactor (qL j r) [.inr (some 45), .inl b1] (qL j r, M) (F_X4_readFactor b1 M)) (a1 : Int32) (M : qM) : qAM g l d zX4_readProduct (qL j r) [.inr (some 45), .inl a1] (qL j r, M) (fo_X4_readProduct n r F_X4_readFactor a1 M) :=
  qAM.of zv_X4_readProduct.1 (by show 2 ≤ 5; decide) (fun k hk o => by subst hk; exact w_X4_readProduct n j r hj hr hd1 hdn F_X4_readFactor hF_X4_readFactor o a1 M)
def tb_X4_readSum : List (Nat × Instr × Nat) := [(0, (.aload_n 0, 1)), (1, (.iload_n 1, 1)), (2, (.invokevirtual 92, 3)), (5, (.istore_n 2, 1)), (6, (.iconst 0, 1)), (7, (.istore_n 3, 1)), (8, (.iload_n 3, 1)), (9, (.sipush 240, 3)), (12, (.if_icmp .ge 68, 3)), (15, (.iload_n 2, 1)), (16, (.ifCond .eq 64, 3)), (19, (.aload_n 0, 1)), (20, (.getfield 18, 3)), (23, (.invokevirtual 49, 3)), (26, (.istore 4, 2)), (28, (.iload 4, 2)), (30, (.bipush 43, 2)), (32, (.if_icmp .eq 12, 3)), (35, (.iload 4, 2)), (37, (.bipush 45, 2)), (39, (.if_icmp .eq 5, 3)), (42, (.iconst 1, 1)), (43, (.ireturn, 1)), (44, (.aload_n 0, 1)), (45, (.getfield 18, 3)), (48, (.dup, 1)), (49, (.getfield 53, 3)), (52, (.iconst 1, 1)), (53, (.iadd, 1)), (54, (.putfield 53, 3)), (57, (.aload_n 0, 1)), (58, (.iload_n 1, 1)), (59, (.invokevirtual 92, 3)), (62, (.istore_n 2, 1)), (63, (.aload_n 0, 1)), (64, (.getfield 12, 3)), (67, (.iload 4, 2)), (69, (.iconst 0, 1)), (70, (.invokevirtual 79, 3)), (73, (.pop, 1)), (74, (.iinc 3 1, 3)), (77, (.goto (-69), 3)), (80, (.iload_n 2, 1)), (81, (.ireturn, 1))]
theorem dm_X4_readSum : ∀ q ∈ tb_X4_readSum, decode zX4_readSum.2.1 q.1 = .ok q.2 := by decide +kernel
def f_X4_readSum_44 (n : Nat) (r : Nat) (F_X4_readProduct : Int32 → qM → qR) (K8 : Int32 → Int32 → Int32 → qM → qR) (a1 a3 a4 : Int32) (M : qM) : qR :=
  qlm (mu M 1 3 ((M 1 3) + (1 : Int32))) (fun m1 => qc (F_X4_readProduct a1 m1) (fun r2 m3 => qc (f_X3_add n r a4 (0 : Int32) m3) (fun r4 m5 => ql (a3 + (1 : Int32)) (fun x6 => K8 a1 r2 x6 m5))))
set_option maxRecDepth 4000 in
theorem w_X4_readSum_44 {g : qG} {k : qK} (n : Nat) (j r : Nat) (hj : q_isLaw j) (hr : q_isLaw r) {d1 d : Nat} (hd1 : d1 + 1 ≤ d) (hdn : 3 ≤ d) (F_X4_readProduct : Int32 → qM → qR) (hF_X4_readProduct : ∀ (b1 : Int32) (M : qM), qAM g k.2.1 d1 zX4_readProduct (qL j r) [.inr (some 45), .inl b1] (qL j r, M) (F_X4_readProduct b1 M)) (o : qOk g d zX4_readSum k) (K8 : Int32 → Int32 → Int32 → qM → qR) (hK8 : ∀ (a1 a2 a3 : Int32) (M : qM), qAE g k zX4_readSum (qL j r) 8 [some (.inr (some 45)), some (.inl a1), some (.inl a2), some (.inl a3), none] [] (qL j r, M) (K8 a1 a2 a3 M)) (a1 a3 a4 : Int32) (M : qM) : qAE g k zX4_readSum (qL j r) 44 [some (.inr (some 45)), some (.inl a1), none, some (.inl a3), some (.inl a4)] [] (qL j r, M) (f_X4_readSum_44 n r F_X4_readProduct K8 a1 a3 a4 M) := by
  unfold f_X4_readSum_44
  refine qr_aload_n o (q_dm dm_X4_readSum 23 rfl) rfl ?_
  refine qr_getr (kf := 0) o cf_X4 (sh45 j r) rfl (Nat.le_of_ble_eq_true rfl) fl_X4_18 (q_dm dm_X4_readSum 24 rfl) ?_
  refine qr_dup o (q_dm dm_X4_readSum 25 rfl) ?_
  refine qr_getf (kf := 3) o cf_X9 (sh1 j r) rfl (Nat.le_of_ble_eq_true rfl) fl_X4_53 (q_dm dm_X4_readSum 26 rfl) ?_
  refine qr_iconst o (q_dm dm_X4_readSum 27 rfl) ic_1 ?_
  refine qr_iadd o (q_dm dm_X4_readSum 28 rfl) ?_
  refine qr_putf (kf := 3) o cf_X9 (sh1 j r) rfl (Nat.le_of_ble_eq_true rfl) fl_X4_53 rfl (by decide +kernel) (q_dm dm_X4_readSum 29 rfl) ?_
  refine qr_letm (fun m1 => ?_)
  refine qr_aload_n o (q_dm dm_X4_readSum 30 rfl) rfl ?_
  refine qr_iload_n o (q_dm dm_X4_readSum 31 rfl) rfl ?_
  refine qr_callv_i (As := [.inl a1]) (S := []) o (hF_X4_readProduct a1 m1) (by omega) zv_X4_readProduct rfl cf_X4 (sh45 j r) ml_X4_92 (Nat.le_of_ble_eq_true rfl) (q_dm dm_X4_readSum 32 rfl) (fun r2 m3 => ?_)
  refine qs_istore_n (L' := [some (.inr (some 45)), some (.inl a1), some (.inl r2), some (.inl a3), some (.inl a4)]) o (q_dm dm_X4_readSum 33 rfl) (Nat.le_of_ble_eq_true rfl) rfl ?_
  refine qr_aload_n o (q_dm dm_X4_readSum 34 rfl) rfl ?_
  refine qr_getr (kf := 1) o cf_X4 (sh45 j r) rfl (Nat.le_of_ble_eq_true rfl) fl_X4_12 (q_dm dm_X4_readSum 35 rfl) ?_
  refine qr_iload o (q_dm dm_X4_readSum 36 rfl) rfl ?_
  refine qr_iconst o (q_dm dm_X4_readSum 37 rfl) ic_0 ?_
  refine qr_callv_i (As := [.inl a4, .inl (0 : Int32)]) (S := []) o (a_X3_add g k.2.1 n j r hj hr hr a4 (0 : Int32) m3) (by omega) zv_X3_add rfl cf_X3 (shW0 j r hr) ml_X4_79 (Nat.le_of_ble_eq_true rfl) (q_dm dm_X4_readSum 38 rfl) (fun r4 m5 => ?_)
  refine qr_pop o (q_dm dm_X4_readSum 39 rfl) ?_
  refine qs_iincl2 (L' := fun x6 => [some (.inr (some 45)), some (.inl a1), some (.inl r2), some (.inl x6), some (.inl a4)]) o (q_dm dm_X4_readSum 40 rfl) rfl ic_1 (Nat.le_of_ble_eq_true rfl) (fun _ => rfl) (fun x6 => ?_)
  refine qr_goto (tgt := 8) o (q_dm dm_X4_readSum 41 rfl) (by decide) ?_
  exact qr_loc (q_leS (q_leS (q_leS (q_leS (q_leN q_le0))))) (hK8 a1 r2 x6 m5)

def b_X4_readSum_8 (n : Nat) (r : Nat) (F_X4_readProduct : Int32 → qM → qR) (K8 : Int32 → Int32 → Int32 → qM → qR) (a1 a2 a3 : Int32) (M : qM) : qR :=
  (if (240 : Int32) ≤ a3 then qb a2 (some (a2, M)) else (if a2 = (0 : Int32) then qb a2 (some (a2, M)) else qc (f_X9_sign n  M) (fun r1 m2 => (if r1 = (43 : Int32) then f_X4_readSum_44 n r F_X4_readProduct K8 a1 a3 r1 m2 else (if r1 = (45 : Int32) then f_X4_readSum_44 n r F_X4_readProduct K8 a1 a3 r1 m2 else some ((1 : Int32), m2))))))
set_option maxRecDepth 4000 in
theorem wb_X4_readSum_8 {g : qG} {k : qK} (n : Nat) (j r : Nat) (hj : q_isLaw j) (hr : q_isLaw r) {d1 d : Nat} (hd1 : d1 + 1 ≤ d) (hdn : 3 ≤ d) (F_X4_readProduct : Int32 → qM → qR) (hF_X4_readProduct : ∀ (b1 : Int32) (M : qM), qAM g k.2.1 d1 zX4_readProduct (qL j r) [.inr (some 45), .inl b1] (qL j r, M) (F_X4_readProduct b1 M)) (o : qOk g d zX4_readSum k) (K8 : Int32 → Int32 → Int32 → qM → qR) (hK8 : ∀ (a1 a2 a3 : Int32) (M : qM), qAE g k zX4_readSum (qL j r) 8 [some (.inr (some 45)), some (.inl a1), some (.inl a2), some (.inl a3), none] [] (qL j r, M) (K8 a1 a2 a3 M)) (a1 a2 a3 : Int32) (M : qM) : qAE g k zX4_readSum (qL j r) 8 [some (.inr (some 45)), some (.inl a1), some (.inl a2), some (.inl a3), none] [] (qL j r, M) (b_X4_readSum_8 n r F_X4_readProduct K8 a1 a2 a3 M) := by
  unfold b_X4_readSum_8
  refine qr_iload_n o (q_dm dm_X4_readSum 6 rfl) rfl ?_
  refine qr_sipush o (q_dm dm_X4_readSum 7 rfl) si_240 ?_
  refine qr_icmp_ge (tgt := 80) o (q_dm dm_X4_readSum 8 rfl) (by decide) ?_ ?_
  · refine qr_iload_n o (q_dm dm_X4_readSum 42 rfl) rfl ?_
    exact qr_zret o rfl (q_dm dm_X4_readSum 43 rfl)
  · refine qr_iload_n o (q_dm dm_X4_readSum 9 rfl) rfl ?_
    refine qr_if_eq (tgt := 80) o (q_dm dm_X4_readSum 10 rfl) (by decide) ?_ ?_
    · refine qr_iload_n o (q_dm dm_X4_readSum 42 rfl) rfl ?_
      exact qr_zret o rfl (q_dm dm_X4_readSum 43 rfl)
    · refine qr_aload_n o (q_dm dm_X4_readSum 11 rfl) rfl ?_
      refine qr_getr (kf := 0) o cf_X4 (sh45 j r) rfl (Nat.le_of_ble_eq_true rfl) fl_X4_18 (q_dm dm_X4_readSum 12 rfl) ?_
      refine qr_callv_i (As := []) (S := []) o (a_X9_sign g k.2.1 n j r hj hr  M) (by omega) zv_X9_sign rfl cf_X9 (sh1 j r) ml_X4_49 (Nat.le_of_ble_eq_true rfl) (q_dm dm_X4_readSum 13 rfl) (fun r1 m2 => ?_)
      refine qs_istore (L' := [some (.inr (some 45)), some (.inl a1), some (.inl a2), some (.inl a3), some (.inl r1)]) o (q_dm dm_X4_readSum 14 rfl) (Nat.le_of_ble_eq_true rfl) rfl ?_
      refine qr_iload o (q_dm dm_X4_readSum 15 rfl) rfl ?_
      refine qr_bipush o (q_dm dm_X4_readSum 16 rfl) bi_43 ?_
      refine qr_icmp_eq (tgt := 44) o (q_dm dm_X4_readSum 17 rfl) (by decide) ?_ ?_
      · exact qr_loc (q_leS (q_leS (q_leN (q_leS (q_leS q_le0))))) (w_X4_readSum_44 n j r hj hr hd1 hdn F_X4_readProduct hF_X4_readProduct o K8 hK8 a1 a3 r1 m2)
      · refine qr_iload o (q_dm dm_X4_readSum 18 rfl) rfl ?_
        refine qr_bipush o (q_dm dm_X4_readSum 19 rfl) bi_45 ?_
        refine qr_icmp_eq (tgt := 44) o (q_dm dm_X4_readSum 20 rfl) (by decide) ?_ ?_
        · exact qr_loc (q_leS (q_leS (q_leN (q_leS (q_leS q_le0))))) (w_X4_readSum_44 n j r hj hr hd1 hdn F_X4_readProduct hF_X4_readProduct o K8 hK8 a1 a3 r1 m2)
        · refine qr_iconst o (q_dm dm_X4_readSum 21 rfl) ic_1 ?_
          exact qr_iret o rfl (by decide) (q_dm dm_X4_readSum 22 rfl)

def f_X4_readSum_8 (n : Nat) (r : Nat) (F_X4_readProduct : Int32 → qM → qR) : Nat → Int32 → Int32 → Int32 → qM → qR
  | 0, _, _, _, _ => none
  | m + 1, a1, a2, a3, M => b_X4_readSum_8 n r F_X4_readProduct (f_X4_readSum_8 n r F_X4_readProduct m) a1 a2 a3 M
theorem w_X4_readSum_8 {g : qG} {k : qK} (n : Nat) (j r : Nat) (hj : q_isLaw j) (hr : q_isLaw r) {d1 d : Nat} (hd1 : d1 + 1 ≤ d) (hdn : 3 ≤ d) (F_X4_readProduct : Int32 → qM → qR) (hF_X4_readProduct : ∀ (b1 : Int32) (M : qM), qAM g k.2.1 d1 zX4_readProduct (qL j r) [.inr (some 45), .inl b1] (qL j r, M) (F_X4_readProduct b1 M)) (o : qOk g d zX4_readSum k) : ∀ (m : Nat) (a1 a2 a3 : Int32) (M : qM), qAE g k zX4_readSum (qL j r) 8 [some (.inr (some 45)), some (.inl a1), some (.inl a2), some (.inl a3), none] [] (qL j r, M) (f_X4_readSum_8 n r F_X4_readProduct m a1 a2 a3 M) := by
  intro m
  induction m with
  | zero =>
    intro a1 a2 a3 M
    exact qr_none
  | succ m ih =>
    intro a1 a2 a3 M
    exact wb_X4_readSum_8 n j r hj hr hd1 hdn F_X4_readProduct hF_X4_readProduct o (f_X4_readSum_8 n r F_X4_readProduct m) ih a1 a2 a3 M
def fo_X4_readSum (n : Nat) (r : Nat) (F_X4_readProduct : Int32 → qM → qR) (a1 : Int32) (M : qM) : qR :=
  qc (F_X4_readProduct a1 M) (fun r1 m2 => f_X4_readSum_8 n r F_X4_readProduct n a1 r1 (0 : Int32) m2)
set_option maxRecDepth 4000 in
theorem w_X4_readSum {g : qG} {k : qK} (n : Nat) (j r : Nat) (hj : q_isLaw j) (hr : q_isLaw r) {d1 d : Nat} (hd1 : d1 + 1 ≤ d) (hdn : 3 ≤ d) (F_X4_readProduct : Int32 → qM → qR) (hF_X4_readProduct : ∀ (b1 : Int32) (M : qM), qAM g k.2.1 d1 zX4_readProduct (qL j r) [.inr (some 45), .inl b1] (qL j r, M) (F_X4_readProduct b1 M)) (o : qOk g d zX4_readSum k) (a1 : Int32) (M : qM) : qAE g k zX4_readSum (qL j r) 0 [some (.inr (some 45)), some (.inl a1), none, none, none] [] (qL j r, M) (fo_X4_readSum n r F_X4_readProduct a1 M) := by
  unfold fo_X4_readSum
  refine qr_aload_n o (q_dm dm_X4_readSum 0 rfl) rfl ?_
  refine qr_iload_n o (q_dm dm_X4_readSum 1 rfl) rfl ?_
  refine qr_callv_i (As := [.inl a1]) (S := []) o (hF_X4_readProduct a1 M) (by omega) zv_X4_readProduct rfl cf_X4 (sh45 j r) ml_X4_92 (Nat.le_of_ble_eq_true rfl) (q_dm dm_X4_readSum 2 rfl) (fun r1 m2 => ?_)
  refine qs_istore_n (L' := [some (.inr (some 45)), some (.inl a1), some (.inl r1), none, none]) o (q_dm dm_X4_readSum 3 rfl) (Nat.le_of_ble_eq_true rfl) rfl ?_
  refine qr_iconst o (q_dm dm_X4_readSum 4 rfl) ic_0 ?_
  refine qs_istore_n (L' := [some (.inr (some 45)), some (.inl a1), some (.inl r1), some (.inl (0 : Int32)), none]) o (q_dm dm_X4_readSum 5 rfl) (Nat.le_of_ble_eq_true rfl) rfl ?_
  exact qr_loc (q_leS (q_leS (q_leS (q_leS (q_leN q_le0))))) (w_X4_readSum_8 n j r hj hr hd1 hdn F_X4_readProduct hF_X4_readProduct o n a1 r1 (0 : Int32) m2)

theorem ao_X4_readSum (g : qG) (l : Launch) (n : Nat) (j r : Nat) (hj : q_isLaw j) (hr : q_isLaw r) {d1 d : Nat} (hd1 : d1 + 1 ≤ d) (hdn : 3 ≤ d) (F_X4_readProduct : Int32 → qM → qR) (hF_X4_readProduct : ∀ (b1 : Int32) (M : qM), qAM g l d1 zX4_readProduct (qL j r) [.inr (some 45), .inl b1] (qL j r, M) (F_X4_readProduct b1 M)) (a1 : Int32) (M : qM) : qAM g l d zX4_readSum (qL j r) [.inr (some 45), .inl a1] (qL j r, M) (fo_X4_readSum n r F_X4_readProduct a1 M) :=
  qAM.of zv_X4_readSum.1 (by show 2 ≤ 5; decide) (fun k hk o => by subst hk; exact w_X4_readSum n j r hj hr hd1 hdn F_X4_readProduct hF_X4_readProduct o a1 M)
def rc_X4_readFactor (n : Nat) (r : Nat) : Nat → Nat → Int32 → qM → qR
  | 0, _, _, _ => none
  | m + 1, 0, a1, M => fo_X4_readFactor n r (rc_X4_readFactor n r m 2) a1 M
  | m + 1, 1, a1, M => fo_X4_readProduct n r (rc_X4_readFactor n r m 0) a1 M
  | m + 1, _, a1, M => fo_X4_readSum n r (rc_X4_readFactor n r m 1) a1 M

theorem rc_X4_readFactor_ok (g : qG) (l : Launch) (n : Nat) (j r : Nat) (hj : q_isLaw j) (hr : q_isLaw r) : ∀ m : Nat, (∀ (a1 : Int32) (M : qM), qAM g l (3 + m) zX4_readFactor (qL j r) [.inr (some 45), .inl a1] (qL j r, M) (rc_X4_readFactor n r m 0 a1 M)) ∧ (∀ (a1 : Int32) (M : qM), qAM g l (3 + m) zX4_readProduct (qL j r) [.inr (some 45), .inl a1] (qL j r, M) (rc_X4_readFactor n r m 1 a1 M)) ∧ (∀ (a1 : Int32) (M : qM), qAM g l (3 + m) zX4_readSum (qL j r) [.inr (some 45), .inl a1] (qL j r, M) (rc_X4_readFactor n r m 2 a1 M)) := by
  intro m
  induction m with
  | zero => exact ⟨(fun _ _ _ _ h => by cases h), (fun _ _ _ _ h => by cases h), (fun _ _ _ _ h => by cases h)⟩
  | succ m ih =>
    exact ⟨(fun a1 M => ao_X4_readFactor g l n j r hj hr (d1 := 3 + m) (d := 3 + (m + 1)) (Nat.le_refl _) (Nat.le_add_right _ _) (rc_X4_readFactor n r m 2) ih.2.2 a1 M),
      (fun a1 M => ao_X4_readProduct g l n j r hj hr (d1 := 3 + m) (d := 3 + (m + 1)) (Nat.le_refl _) (Nat.le_add_right _ _) (rc_X4_readFactor n r m 0) ih.1 a1 M),
      (fun a1 M => ao_X4_readSum g l n j r hj hr (d1 := 3 + m) (d := 3 + (m + 1)) (Nat.le_refl _) (Nat.le_add_right _ _) (rc_X4_readFactor n r m 1) ih.2.1 a1 M)⟩

def f_X4_readFactor (n : Nat) (r : Nat) (a1 : Int32) (M : qM) : qR := rc_X4_readFactor n r 30 0 a1 M
theorem a_X4_readFactor (g : qG) (l : Launch) (n : Nat) (j r : Nat) (hj : q_isLaw j) (hr : q_isLaw r) (a1 : Int32) (M : qM) : qAM g l 33 zX4_readFactor (qL j r) [.inr (some 45), .inl a1] (qL j r, M) (f_X4_readFactor n r a1 M) := (rc_X4_readFactor_ok g l n j r hj hr 30).1 a1 M
def f_X4_readProduct (n : Nat) (r : Nat) (a1 : Int32) (M : qM) : qR := rc_X4_readFactor n r 30 1 a1 M
theorem a_X4_readProduct (g : qG) (l : Launch) (n : Nat) (j r : Nat) (hj : q_isLaw j) (hr : q_isLaw r) (a1 : Int32) (M : qM) : qAM g l 33 zX4_readProduct (qL j r) [.inr (some 45), .inl a1] (qL j r, M) (f_X4_readProduct n r a1 M) := (rc_X4_readFactor_ok g l n j r hj hr 30).2.1 a1 M
def f_X4_readSum (n : Nat) (r : Nat) (a1 : Int32) (M : qM) : qR := rc_X4_readFactor n r 30 2 a1 M
theorem a_X4_readSum (g : qG) (l : Launch) (n : Nat) (j r : Nat) (hj : q_isLaw j) (hr : q_isLaw r) (a1 : Int32) (M : qM) : qAM g l 33 zX4_readSum (qL j r) [.inr (some 45), .inl a1] (qL j r, M) (f_X4_readSum n r a1 M) := (rc_X4_readFactor_ok g l n j r hj hr 30).2.2 a1 M
def tb_X4_readPiece : List (Nat × Instr × Nat) := [(0, (.aload_n 0, 1)), (1, (.getfield 18, 3)), (4, (.invokevirtual 49, 3)), (7, (.bipush 40, 2)), (9, (.if_icmp .ne 39, 3)), (12, (.aload_n 0, 1)), (13, (.iload_n 1, 1)), (14, (.invokevirtual 89, 3)), (17, (.ifCond .eq 29, 3)), (20, (.aload_n 0, 1)), (21, (.iload_n 1, 1)), (22, (.iconst 1, 1)), (23, (.iadd, 1)), (24, (.invokevirtual 69, 3)), (27, (.ifCond .eq 19, 3)), (30, (.aload_n 0, 1)), (31, (.getfield 18, 3)), (34, (.bipush 41, 2)), (36, (.invokevirtual 66, 3)), (39, (.ifCond .eq 7, 3)), (42, (.iconst 1, 1)), (43, (.goto 4, 3)), (46, (.iconst 0, 1)), (47, (.ireturn, 1)), (48, (.aload_n 0, 1)), (49, (.getfield 18, 3)), (52, (.invokevirtual 49, 3)), (55, (.bipush 33, 2)), (57, (.if_icmp .ne 39, 3)), (60, (.aload_n 0, 1)), (61, (.iload_n 1, 1)), (62, (.invokevirtual 89, 3)), (65, (.ifCond .eq 17, 3)), (68, (.aload_n 0, 1)), (69, (.iload_n 1, 1)), (70, (.iconst 1, 1)), (71, (.iadd, 1)), (72, (.invokevirtual 86, 3)), (75, (.ifCond .eq 7, 3)), (78, (.iconst 1, 1)), (79, (.goto 4, 3)), (82, (.iconst 0, 1)), (83, (.istore_n 2, 1)), (84, (.aload_n 0, 1)), (85, (.getfield 12, 3)), (88, (.iconst 2, 1)), (89, (.iconst 0, 1)), (90, (.invokevirtual 79, 3)), (93, (.pop, 1)), (94, (.iload_n 2, 1)), (95, (.ireturn, 1)), (96, (.aload_n 0, 1)), (97, (.iload_n 1, 1)), (98, (.invokevirtual 63, 3)), (101, (.ifCond .ne 5, 3)), (104, (.iconst 0, 1)), (105, (.ireturn, 1)), (106, (.aload_n 0, 1)), (107, (.getfield 18, 3)), (110, (.invokevirtual 49, 3)), (113, (.istore_n 2, 1)), (114, (.iload_n 2, 1)), (115, (.bipush 60, 2)), (117, (.if_icmp .eq 31, 3)), (120, (.iload_n 2, 1)), (121, (.bipush 62, 2)), (123, (.if_icmp .eq 25, 3)), (126, (.iload_n 2, 1)), (127, (.bipush 61, 2)), (129, (.if_icmp .eq 19, 3)), (132, (.aload_n 0, 1)), (133, (.getfield 18, 3)), (136, (.iconst 1, 1)), (137, (.aload_n 0, 1)), (138, (.getfield 18, 3)), (141, (.getfield 53, 3)), (144, (.invokevirtual 56, 3)), (147, (.ireturn, 1)), (148, (.aload_n 0, 1)), (149, (.getfield 18, 3)), (152, (.dup, 1)), (153, (.getfield 53, 3)), (156, (.iconst 1, 1)), (157, (.iadd, 1)), (158, (.putfield 53, 3)), (161, (.aload_n 0, 1)), (162, (.iload_n 1, 1)), (163, (.invokevirtual 63, 3)), (166, (.istore_n 3, 1)), (167, (.aload_n 0, 1)), (168, (.getfield 12, 3)), (171, (.iload_n 2, 1)), (172, (.iconst 0, 1)), (173, (.invokevirtual 79, 3)), (176, (.pop, 1)), (177, (.iload_n 3, 1)), (178, (.ireturn, 1))]
theorem dm_X4_readPiece : ∀ q ∈ tb_X4_readPiece, decode zX4_readPiece.2.1 q.1 = .ok q.2 := by decide +kernel
def f_X4_readPiece_148 (n : Nat) (r : Nat) (F_X4_readCondition : Int32 → qM → qR) (F_X4_readPiece : Int32 → qM → qR) (a1 a2 : Int32) (M : qM) : qR :=
  qlm (mu M 1 3 ((M 1 3) + (1 : Int32))) (fun m1 => qc (f_X4_readSum n r a1 m1) (fun r2 m3 => qc (f_X3_add n r a2 (0 : Int32) m3) (fun r4 m5 => qb r2 (some (r2, m5)))))
set_option maxRecDepth 4000 in
theorem w_X4_readPiece_148 {g : qG} {k : qK} (n : Nat) (j r : Nat) (hj : q_isLaw j) (hr : q_isLaw r) {d1 d : Nat} (hd1 : d1 + 1 ≤ d) (hdn : 34 ≤ d) (F_X4_readCondition : Int32 → qM → qR) (F_X4_readPiece : Int32 → qM → qR) (hF_X4_readCondition : ∀ (b1 : Int32) (M : qM), qAM g k.2.1 d1 zX4_readCondition (qL j r) [.inr (some 45), .inl b1] (qL j r, M) (F_X4_readCondition b1 M)) (hF_X4_readPiece : ∀ (b1 : Int32) (M : qM), qAM g k.2.1 d1 zX4_readPiece (qL j r) [.inr (some 45), .inl b1] (qL j r, M) (F_X4_readPiece b1 M)) (o : qOk g d zX4_readPiece k) (a1 a2 : Int32) (M : qM) : qAE g k zX4_readPiece (qL j r) 148 [some (.inr (some 45)), some (.inl a1), some (.inl a2), none] [] (qL j r, M) (f_X4_readPiece_148 n r F_X4_readCondition F_X4_readPiece a1 a2 M) := by
  unfold f_X4_readPiece_148
  refine qr_aload_n o (q_dm dm_X4_readPiece 78 rfl) rfl ?_
  refine qr_getr (kf := 0) o cf_X4 (sh45 j r) rfl (Nat.le_of_ble_eq_true rfl) fl_X4_18 (q_dm dm_X4_readPiece 79 rfl) ?_
  refine qr_dup o (q_dm dm_X4_readPiece 80 rfl) ?_
  refine qr_getf (kf := 3) o cf_X9 (sh1 j r) rfl (Nat.le_of_ble_eq_true rfl) fl_X4_53 (q_dm dm_X4_readPiece 81 rfl) ?_
  refine qr_iconst o (q_dm dm_X4_readPiece 82 rfl) ic_1 ?_
  refine qr_iadd o (q_dm dm_X4_readPiece 83 rfl) ?_
  refine qr_putf (kf := 3) o cf_X9 (sh1 j r) rfl (Nat.le_of_ble_eq_true rfl) fl_X4_53 rfl (by decide +kernel) (q_dm dm_X4_readPiece 84 rfl) ?_
  refine qr_letm (fun m1 => ?_)
  refine qr_aload_n o (q_dm dm_X4_readPiece 85 rfl) rfl ?_
  refine qr_iload_n o (q_dm dm_X4_readPiece 86 rfl) rfl ?_
  refine qr_callv_i (As := [.inl a1]) (S := []) o (a_X4_readSum g k.2.1 n j r hj hr a1 m1) (by omega) zv_X4_readSum rfl cf_X4 (sh45 j r) ml_X4_63 (Nat.le_of_ble_eq_true rfl) (q_dm dm_X4_readPiece 87 rfl) (fun r2 m3 => ?_)
  refine qs_istore_n (L' := [some (.inr (some 45)), some (.inl a1), some (.inl a2), some (.inl r2)]) o (q_dm dm_X4_readPiece 88 rfl) (Nat.le_of_ble_eq_true rfl) rfl ?_
  refine qr_aload_n o (q_dm dm_X4_readPiece 89 rfl) rfl ?_
  refine qr_getr (kf := 1) o cf_X4 (sh45 j r) rfl (Nat.le_of_ble_eq_true rfl) fl_X4_12 (q_dm dm_X4_readPiece 90 rfl) ?_
  refine qr_iload_n o (q_dm dm_X4_readPiece 91 rfl) rfl ?_
  refine qr_iconst o (q_dm dm_X4_readPiece 92 rfl) ic_0 ?_
  refine qr_callv_i (As := [.inl a2, .inl (0 : Int32)]) (S := []) o (a_X3_add g k.2.1 n j r hj hr hr a2 (0 : Int32) m3) (by omega) zv_X3_add rfl cf_X3 (shW0 j r hr) ml_X4_79 (Nat.le_of_ble_eq_true rfl) (q_dm dm_X4_readPiece 93 rfl) (fun r4 m5 => ?_)
  refine qr_pop o (q_dm dm_X4_readPiece 94 rfl) ?_
  refine qr_iload_n o (q_dm dm_X4_readPiece 95 rfl) rfl ?_
  exact qr_zret o rfl (q_dm dm_X4_readPiece 96 rfl)

def f_X4_readPiece_83 (n : Nat) (r : Nat) (F_X4_readCondition : Int32 → qM → qR) (F_X4_readPiece : Int32 → qM → qR) (s0 : Int32) (M : qM) : qR :=
  qc (f_X3_add n r (2 : Int32) (0 : Int32) M) (fun r1 m2 => qb s0 (some (s0, m2)))
set_option maxRecDepth 4000 in
theorem w_X4_readPiece_83 {g : qG} {k : qK} (n : Nat) (j r : Nat) (hj : q_isLaw j) (hr : q_isLaw r) {d1 d : Nat} (hd1 : d1 + 1 ≤ d) (hdn : 34 ≤ d) (F_X4_readCondition : Int32 → qM → qR) (F_X4_readPiece : Int32 → qM → qR) (hF_X4_readCondition : ∀ (b1 : Int32) (M : qM), qAM g k.2.1 d1 zX4_readCondition (qL j r) [.inr (some 45), .inl b1] (qL j r, M) (F_X4_readCondition b1 M)) (hF_X4_readPiece : ∀ (b1 : Int32) (M : qM), qAM g k.2.1 d1 zX4_readPiece (qL j r) [.inr (some 45), .inl b1] (qL j r, M) (F_X4_readPiece b1 M)) (o : qOk g d zX4_readPiece k) (s0 : Int32) (M : qM) : qAE g k zX4_readPiece (qL j r) 83 [some (.inr (some 45)), none, none, none] [.inl s0] (qL j r, M) (f_X4_readPiece_83 n r F_X4_readCondition F_X4_readPiece s0 M) := by
  unfold f_X4_readPiece_83
  refine qs_istore_n (L' := [some (.inr (some 45)), none, some (.inl s0), none]) o (q_dm dm_X4_readPiece 42 rfl) (Nat.le_of_ble_eq_true rfl) rfl ?_
  refine qr_aload_n o (q_dm dm_X4_readPiece 43 rfl) rfl ?_
  refine qr_getr (kf := 1) o cf_X4 (sh45 j r) rfl (Nat.le_of_ble_eq_true rfl) fl_X4_12 (q_dm dm_X4_readPiece 44 rfl) ?_
  refine qr_iconst o (q_dm dm_X4_readPiece 45 rfl) ic_2 ?_
  refine qr_iconst o (q_dm dm_X4_readPiece 46 rfl) ic_0 ?_
  refine qr_callv_i (As := [.inl (2 : Int32), .inl (0 : Int32)]) (S := []) o (a_X3_add g k.2.1 n j r hj hr hr (2 : Int32) (0 : Int32) M) (by omega) zv_X3_add rfl cf_X3 (shW0 j r hr) ml_X4_79 (Nat.le_of_ble_eq_true rfl) (q_dm dm_X4_readPiece 47 rfl) (fun r1 m2 => ?_)
  refine qr_pop o (q_dm dm_X4_readPiece 48 rfl) ?_
  refine qr_iload_n o (q_dm dm_X4_readPiece 49 rfl) rfl ?_
  exact qr_zret o rfl (q_dm dm_X4_readPiece 50 rfl)

def f_X4_readPiece_82 (n : Nat) (r : Nat) (F_X4_readCondition : Int32 → qM → qR) (F_X4_readPiece : Int32 → qM → qR) (M : qM) : qR :=
  f_X4_readPiece_83 n r F_X4_readCondition F_X4_readPiece (0 : Int32) M
set_option maxRecDepth 4000 in
theorem w_X4_readPiece_82 {g : qG} {k : qK} (n : Nat) (j r : Nat) (hj : q_isLaw j) (hr : q_isLaw r) {d1 d : Nat} (hd1 : d1 + 1 ≤ d) (hdn : 34 ≤ d) (F_X4_readCondition : Int32 → qM → qR) (F_X4_readPiece : Int32 → qM → qR) (hF_X4_readCondition : ∀ (b1 : Int32) (M : qM), qAM g k.2.1 d1 zX4_readCondition (qL j r) [.inr (some 45), .inl b1] (qL j r, M) (F_X4_readCondition b1 M)) (hF_X4_readPiece : ∀ (b1 : Int32) (M : qM), qAM g k.2.1 d1 zX4_readPiece (qL j r) [.inr (some 45), .inl b1] (qL j r, M) (F_X4_readPiece b1 M)) (o : qOk g d zX4_readPiece k) (M : qM) : qAE g k zX4_readPiece (qL j r) 82 [some (.inr (some 45)), none, none, none] [] (qL j r, M) (f_X4_readPiece_82 n r F_X4_readCondition F_X4_readPiece  M) := by
  unfold f_X4_readPiece_82
  refine qr_iconst o (q_dm dm_X4_readPiece 41 rfl) ic_0 ?_
  exact qr_loc (q_leS (q_leN (q_leN (q_leN q_le0)))) (w_X4_readPiece_83 n j r hj hr hd1 hdn F_X4_readCondition F_X4_readPiece hF_X4_readCondition hF_X4_readPiece o (0 : Int32) M)

def fo_X4_readPiece (n : Nat) (r : Nat) (F_X4_readCondition : Int32 → qM → qR) (F_X4_readPiece : Int32 → qM → qR) (a1 : Int32) (M : qM) : qR :=
  qc (f_X9_sign n  M) (fun r1 m2 => (if r1 = (40 : Int32) then qc (f_X4_opens n a1 m2) (fun r15 m16 => (if r15 = (0 : Int32) then some ((0 : Int32), m16) else qc (F_X4_readCondition (a1 + (1 : Int32)) m16) (fun r17 m18 => (if r17 = (0 : Int32) then some ((0 : Int32), m18) else qc (f_X9_mustTake n (41 : Int32) m18) (fun r19 m20 => (if r19 = (0 : Int32) then some ((0 : Int32), m20) else some ((1 : Int32), m20))))))) else qc (f_X9_sign n  m2) (fun r3 m4 => (if r3 = (33 : Int32) then qc (f_X4_opens n a1 m4) (fun r11 m12 => (if r11 = (0 : Int32) then f_X4_readPiece_82 n r F_X4_readCondition F_X4_readPiece  m12 else qc (F_X4_readPiece (a1 + (1 : Int32)) m12) (fun r13 m14 => (if r13 = (0 : Int32) then f_X4_readPiece_82 n r F_X4_readCondition F_X4_readPiece  m14 else f_X4_readPiece_83 n r F_X4_readCondition F_X4_readPiece (1 : Int32) m14)))) else qc (f_X4_readSum n r a1 m4) (fun r5 m6 => (if r5 = (0 : Int32) then some ((0 : Int32), m6) else qc (f_X9_sign n  m6) (fun r7 m8 => (if r7 = (60 : Int32) then f_X4_readPiece_148 n r F_X4_readCondition F_X4_readPiece a1 r7 m8 else (if r7 = (62 : Int32) then f_X4_readPiece_148 n r F_X4_readCondition F_X4_readPiece a1 r7 m8 else (if r7 = (61 : Int32) then f_X4_readPiece_148 n r F_X4_readCondition F_X4_readPiece a1 r7 m8 else qc (f_X9_fails n (1 : Int32) (m8 1 3) m8) (fun r9 m10 => qb r9 (some (r9, m10)))))))))))))
set_option maxRecDepth 4000 in
theorem w_X4_readPiece {g : qG} {k : qK} (n : Nat) (j r : Nat) (hj : q_isLaw j) (hr : q_isLaw r) {d1 d : Nat} (hd1 : d1 + 1 ≤ d) (hdn : 34 ≤ d) (F_X4_readCondition : Int32 → qM → qR) (F_X4_readPiece : Int32 → qM → qR) (hF_X4_readCondition : ∀ (b1 : Int32) (M : qM), qAM g k.2.1 d1 zX4_readCondition (qL j r) [.inr (some 45), .inl b1] (qL j r, M) (F_X4_readCondition b1 M)) (hF_X4_readPiece : ∀ (b1 : Int32) (M : qM), qAM g k.2.1 d1 zX4_readPiece (qL j r) [.inr (some 45), .inl b1] (qL j r, M) (F_X4_readPiece b1 M)) (o : qOk g d zX4_readPiece k) (a1 : Int32) (M : qM) : qAE g k zX4_readPiece (qL j r) 0 [some (.inr (some 45)), some (.inl a1), none, none] [] (qL j r, M) (fo_X4_readPiece n r F_X4_readCondition F_X4_readPiece a1 M) := by
  unfold fo_X4_readPiece
  refine qr_aload_n o (q_dm dm_X4_readPiece 0 rfl) rfl ?_
  refine qr_getr (kf := 0) o cf_X4 (sh45 j r) rfl (Nat.le_of_ble_eq_true rfl) fl_X4_18 (q_dm dm_X4_readPiece 1 rfl) ?_
  refine qr_callv_i (As := []) (S := []) o (a_X9_sign g k.2.1 n j r hj hr  M) (by omega) zv_X9_sign rfl cf_X9 (sh1 j r) ml_X4_49 (Nat.le_of_ble_eq_true rfl) (q_dm dm_X4_readPiece 2 rfl) (fun r1 m2 => ?_)
  refine qr_bipush o (q_dm dm_X4_readPiece 3 rfl) bi_40 ?_
  refine qr_icmp_ne (tgt := 48) o (q_dm dm_X4_readPiece 4 rfl) (by decide) ?_ ?_
  · refine qr_aload_n o (q_dm dm_X4_readPiece 24 rfl) rfl ?_
    refine qr_getr (kf := 0) o cf_X4 (sh45 j r) rfl (Nat.le_of_ble_eq_true rfl) fl_X4_18 (q_dm dm_X4_readPiece 25 rfl) ?_
    refine qr_callv_i (As := []) (S := []) o (a_X9_sign g k.2.1 n j r hj hr  m2) (by omega) zv_X9_sign rfl cf_X9 (sh1 j r) ml_X4_49 (Nat.le_of_ble_eq_true rfl) (q_dm dm_X4_readPiece 26 rfl) (fun r3 m4 => ?_)
    refine qr_bipush o (q_dm dm_X4_readPiece 27 rfl) bi_33 ?_
    refine qr_icmp_ne (tgt := 96) o (q_dm dm_X4_readPiece 28 rfl) (by decide) ?_ ?_
    · refine qr_aload_n o (q_dm dm_X4_readPiece 51 rfl) rfl ?_
      refine qr_iload_n o (q_dm dm_X4_readPiece 52 rfl) rfl ?_
      refine qr_callv_i (As := [.inl a1]) (S := []) o (a_X4_readSum g k.2.1 n j r hj hr a1 m4) (by omega) zv_X4_readSum rfl cf_X4 (sh45 j r) ml_X4_63 (Nat.le_of_ble_eq_true rfl) (q_dm dm_X4_readPiece 53 rfl) (fun r5 m6 => ?_)
      refine qr_if_ne (tgt := 106) o (q_dm dm_X4_readPiece 54 rfl) (by decide) ?_ ?_
      · refine qr_aload_n o (q_dm dm_X4_readPiece 57 rfl) rfl ?_
        refine qr_getr (kf := 0) o cf_X4 (sh45 j r) rfl (Nat.le_of_ble_eq_true rfl) fl_X4_18 (q_dm dm_X4_readPiece 58 rfl) ?_
        refine qr_callv_i (As := []) (S := []) o (a_X9_sign g k.2.1 n j r hj hr  m6) (by omega) zv_X9_sign rfl cf_X9 (sh1 j r) ml_X4_49 (Nat.le_of_ble_eq_true rfl) (q_dm dm_X4_readPiece 59 rfl) (fun r7 m8 => ?_)
        refine qs_istore_n (L' := [some (.inr (some 45)), some (.inl a1), some (.inl r7), none]) o (q_dm dm_X4_readPiece 60 rfl) (Nat.le_of_ble_eq_true rfl) rfl ?_
        refine qr_iload_n o (q_dm dm_X4_readPiece 61 rfl) rfl ?_
        refine qr_bipush o (q_dm dm_X4_readPiece 62 rfl) bi_60 ?_
        refine qr_icmp_eq (tgt := 148) o (q_dm dm_X4_readPiece 63 rfl) (by decide) ?_ ?_
        · exact qr_loc (q_leS (q_leS (q_leS (q_leN q_le0)))) (w_X4_readPiece_148 n j r hj hr hd1 hdn F_X4_readCondition F_X4_readPiece hF_X4_readCondition hF_X4_readPiece o a1 r7 m8)
        · refine qr_iload_n o (q_dm dm_X4_readPiece 64 rfl) rfl ?_
          refine qr_bipush o (q_dm dm_X4_readPiece 65 rfl) bi_62 ?_
          refine qr_icmp_eq (tgt := 148) o (q_dm dm_X4_readPiece 66 rfl) (by decide) ?_ ?_
          · exact qr_loc (q_leS (q_leS (q_leS (q_leN q_le0)))) (w_X4_readPiece_148 n j r hj hr hd1 hdn F_X4_readCondition F_X4_readPiece hF_X4_readCondition hF_X4_readPiece o a1 r7 m8)
          · refine qr_iload_n o (q_dm dm_X4_readPiece 67 rfl) rfl ?_
            refine qr_bipush o (q_dm dm_X4_readPiece 68 rfl) bi_61 ?_
            refine qr_icmp_eq (tgt := 148) o (q_dm dm_X4_readPiece 69 rfl) (by decide) ?_ ?_
            · exact qr_loc (q_leS (q_leS (q_leS (q_leN q_le0)))) (w_X4_readPiece_148 n j r hj hr hd1 hdn F_X4_readCondition F_X4_readPiece hF_X4_readCondition hF_X4_readPiece o a1 r7 m8)
            · refine qr_aload_n o (q_dm dm_X4_readPiece 70 rfl) rfl ?_
              refine qr_getr (kf := 0) o cf_X4 (sh45 j r) rfl (Nat.le_of_ble_eq_true rfl) fl_X4_18 (q_dm dm_X4_readPiece 71 rfl) ?_
              refine qr_iconst o (q_dm dm_X4_readPiece 72 rfl) ic_1 ?_
              refine qr_aload_n o (q_dm dm_X4_readPiece 73 rfl) rfl ?_
              refine qr_getr (kf := 0) o cf_X4 (sh45 j r) rfl (Nat.le_of_ble_eq_true rfl) fl_X4_18 (q_dm dm_X4_readPiece 74 rfl) ?_
              refine qr_getf (kf := 3) o cf_X9 (sh1 j r) rfl (Nat.le_of_ble_eq_true rfl) fl_X4_53 (q_dm dm_X4_readPiece 75 rfl) ?_
              refine qr_callv_i (As := [.inl (1 : Int32), .inl (m8 1 3)]) (S := []) o (a_X9_fails g k.2.1 n j r hj hr (1 : Int32) (m8 1 3) m8) (by omega) zv_X9_fails rfl cf_X9 (sh1 j r) ml_X4_56 (Nat.le_of_ble_eq_true rfl) (q_dm dm_X4_readPiece 76 rfl) (fun r9 m10 => ?_)
              exact qr_zret o rfl (q_dm dm_X4_readPiece 77 rfl)
      · refine qr_iconst o (q_dm dm_X4_readPiece 55 rfl) ic_0 ?_
        exact qr_iret o rfl (by decide) (q_dm dm_X4_readPiece 56 rfl)
    · refine qr_aload_n o (q_dm dm_X4_readPiece 29 rfl) rfl ?_
      refine qr_iload_n o (q_dm dm_X4_readPiece 30 rfl) rfl ?_
      refine qr_callv_i (As := [.inl a1]) (S := []) o (a_X4_opens g k.2.1 n j r hj hr a1 m4) (by omega) zv_X4_opens rfl cf_X4 (sh45 j r) ml_X4_89 (Nat.le_of_ble_eq_true rfl) (q_dm dm_X4_readPiece 31 rfl) (fun r11 m12 => ?_)
      refine qr_if_eq (tgt := 82) o (q_dm dm_X4_readPiece 32 rfl) (by decide) ?_ ?_
      · exact qr_loc (q_leS (q_leN (q_leN (q_leN q_le0)))) (w_X4_readPiece_82 n j r hj hr hd1 hdn F_X4_readCondition F_X4_readPiece hF_X4_readCondition hF_X4_readPiece o  m12)
      · refine qr_aload_n o (q_dm dm_X4_readPiece 33 rfl) rfl ?_
        refine qr_iload_n o (q_dm dm_X4_readPiece 34 rfl) rfl ?_
        refine qr_iconst o (q_dm dm_X4_readPiece 35 rfl) ic_1 ?_
        refine qr_iadd o (q_dm dm_X4_readPiece 36 rfl) ?_
        refine qr_callv_i (As := [.inl (a1 + (1 : Int32))]) (S := []) o (hF_X4_readPiece (a1 + (1 : Int32)) m12) (by omega) zv_X4_readPiece rfl cf_X4 (sh45 j r) ml_X4_86 (Nat.le_of_ble_eq_true rfl) (q_dm dm_X4_readPiece 37 rfl) (fun r13 m14 => ?_)
        refine qr_if_eq (tgt := 82) o (q_dm dm_X4_readPiece 38 rfl) (by decide) ?_ ?_
        · exact qr_loc (q_leS (q_leN (q_leN (q_leN q_le0)))) (w_X4_readPiece_82 n j r hj hr hd1 hdn F_X4_readCondition F_X4_readPiece hF_X4_readCondition hF_X4_readPiece o  m14)
        · refine qr_iconst o (q_dm dm_X4_readPiece 39 rfl) ic_1 ?_
          refine qr_goto (tgt := 83) o (q_dm dm_X4_readPiece 40 rfl) (by decide) ?_
          exact qr_loc (q_leS (q_leN (q_leN (q_leN q_le0)))) (w_X4_readPiece_83 n j r hj hr hd1 hdn F_X4_readCondition F_X4_readPiece hF_X4_readCondition hF_X4_readPiece o (1 : Int32) m14)
  · refine qr_aload_n o (q_dm dm_X4_readPiece 5 rfl) rfl ?_
    refine qr_iload_n o (q_dm dm_X4_readPiece 6 rfl) rfl ?_
    refine qr_callv_i (As := [.inl a1]) (S := []) o (a_X4_opens g k.2.1 n j r hj hr a1 m2) (by omega) zv_X4_opens rfl cf_X4 (sh45 j r) ml_X4_89 (Nat.le_of_ble_eq_true rfl) (q_dm dm_X4_readPiece 7 rfl) (fun r15 m16 => ?_)
    refine qr_if_eq (tgt := 46) o (q_dm dm_X4_readPiece 8 rfl) (by decide) ?_ ?_
    · refine qr_iconst o (q_dm dm_X4_readPiece 22 rfl) ic_0 ?_
      exact qr_iret o rfl (by decide) (q_dm dm_X4_readPiece 23 rfl)
    · refine qr_aload_n o (q_dm dm_X4_readPiece 9 rfl) rfl ?_
      refine qr_iload_n o (q_dm dm_X4_readPiece 10 rfl) rfl ?_
      refine qr_iconst o (q_dm dm_X4_readPiece 11 rfl) ic_1 ?_
      refine qr_iadd o (q_dm dm_X4_readPiece 12 rfl) ?_
      refine qr_callv_i (As := [.inl (a1 + (1 : Int32))]) (S := []) o (hF_X4_readCondition (a1 + (1 : Int32)) m16) (by omega) zv_X4_readCondition rfl cf_X4 (sh45 j r) ml_X4_69 (Nat.le_of_ble_eq_true rfl) (q_dm dm_X4_readPiece 13 rfl) (fun r17 m18 => ?_)
      refine qr_if_eq (tgt := 46) o (q_dm dm_X4_readPiece 14 rfl) (by decide) ?_ ?_
      · refine qr_iconst o (q_dm dm_X4_readPiece 22 rfl) ic_0 ?_
        exact qr_iret o rfl (by decide) (q_dm dm_X4_readPiece 23 rfl)
      · refine qr_aload_n o (q_dm dm_X4_readPiece 15 rfl) rfl ?_
        refine qr_getr (kf := 0) o cf_X4 (sh45 j r) rfl (Nat.le_of_ble_eq_true rfl) fl_X4_18 (q_dm dm_X4_readPiece 16 rfl) ?_
        refine qr_bipush o (q_dm dm_X4_readPiece 17 rfl) bi_41 ?_
        refine qr_callv_i (As := [.inl (41 : Int32)]) (S := []) o (a_X9_mustTake g k.2.1 n j r hj hr (41 : Int32) m18) (by omega) zv_X9_mustTake rfl cf_X9 (sh1 j r) ml_X4_66 (Nat.le_of_ble_eq_true rfl) (q_dm dm_X4_readPiece 18 rfl) (fun r19 m20 => ?_)
        refine qr_if_eq (tgt := 46) o (q_dm dm_X4_readPiece 19 rfl) (by decide) ?_ ?_
        · refine qr_iconst o (q_dm dm_X4_readPiece 22 rfl) ic_0 ?_
          exact qr_iret o rfl (by decide) (q_dm dm_X4_readPiece 23 rfl)
        · refine qr_iconst o (q_dm dm_X4_readPiece 20 rfl) ic_1 ?_
          refine qr_goto (tgt := 47) o (q_dm dm_X4_readPiece 21 rfl) (by decide) ?_
          exact qr_iret o rfl (by decide) (q_dm dm_X4_readPiece 23 rfl)

theorem ao_X4_readPiece (g : qG) (l : Launch) (n : Nat) (j r : Nat) (hj : q_isLaw j) (hr : q_isLaw r) {d1 d : Nat} (hd1 : d1 + 1 ≤ d) (hdn : 34 ≤ d) (F_X4_readCondition : Int32 → qM → qR) (F_X4_readPiece : Int32 → qM → qR) (hF_X4_readCondition : ∀ (b1 : Int32) (M : qM), qAM g l d1 zX4_readCondition (qL j r) [.inr (some 45), .inl b1] (qL j r, M) (F_X4_readCondition b1 M)) (hF_X4_readPiece : ∀ (b1 : Int32) (M : qM), qAM g l d1 zX4_readPiece (qL j r) [.inr (some 45), .inl b1] (qL j r, M) (F_X4_readPiece b1 M)) (a1 : Int32) (M : qM) : qAM g l d zX4_readPiece (qL j r) [.inr (some 45), .inl a1] (qL j r, M) (fo_X4_readPiece n r F_X4_readCondition F_X4_readPiece a1 M) :=
  qAM.of zv_X4_readPiece.1 (by show 2 ≤ 4; decide) (fun k hk o => by subst hk; exact w_X4_readPiece n j r hj hr hd1 hdn F_X4_readCondition F_X4_readPiece hF_X4_readCondition hF_X4_readPiece o a1 M)

def tb_X4_readPart : List (Nat × Instr × Nat) := [(0, (.aload_n 0, 1)), (1, (.iload_n 1, 1)), (2, (.invokevirtual 86, 3)), (5, (.ifCond .ne 5, 3)), (8, (.iconst 0, 1)), (9, (.ireturn, 1)), (10, (.iconst 0, 1)), (11, (.istore_n 2, 1)), (12, (.iload_n 2, 1)), (13, (.sipush 240, 3)), (16, (.if_icmp .ge 49, 3)), (19, (.aload_n 0, 1)), (20, (.getfield 18, 3)), (23, (.bipush 38, 2)), (25, (.invokevirtual 35, 3)), (28, (.ifCond .eq 37, 3)), (31, (.aload_n 0, 1)), (32, (.getfield 12, 3)), (35, (.iconst 3, 1)), (36, (.iconst 0, 1)), (37, (.invokevirtual 79, 3)), (40, (.istore_n 3, 1)), (41, (.aload_n 0, 1)), (42, (.iload_n 1, 1)), (43, (.invokevirtual 86, 3)), (46, (.ifCond .ne 5, 3)), (49, (.iconst 0, 1)), (50, (.ireturn, 1)), (51, (.aload_n 0, 1)), (52, (.getfield 12, 3)), (55, (.iload_n 3, 1)), (56, (.invokevirtual 83, 3)), (59, (.iinc 2 1, 3)), (62, (.goto (-50), 3)), (65, (.iconst 1, 1)), (66, (.ireturn, 1))]
theorem dm_X4_readPart : ∀ q ∈ tb_X4_readPart, decode zX4_readPart.2.1 q.1 = .ok q.2 := by decide +kernel
def b_X4_readPart_12 (n : Nat) (r : Nat) (F_X4_readPiece : Int32 → qM → qR) (K12 : Int32 → Int32 → qM → qR) (a1 a2 : Int32) (M : qM) : qR :=
  (if (240 : Int32) ≤ a2 then some ((1 : Int32), M) else qc (f_X9_takes n (38 : Int32) M) (fun r1 m2 => (if r1 = (0 : Int32) then some ((1 : Int32), m2) else qc (f_X3_add n r (3 : Int32) (0 : Int32) m2) (fun r3 m4 => qc (F_X4_readPiece a1 m4) (fun r5 m6 => (if r5 = (0 : Int32) then some ((0 : Int32), m6) else qc (f_X3_skipToHere n r r3 m6) (fun _ m7 => ql (a2 + (1 : Int32)) (fun x8 => K12 a1 x8 m7))))))))
set_option maxRecDepth 4000 in
theorem wb_X4_readPart_12 {g : qG} {k : qK} (n : Nat) (j r : Nat) (hj : q_isLaw j) (hr : q_isLaw r) {d1 d : Nat} (hd1 : d1 + 1 ≤ d) (hdn : 34 ≤ d) (F_X4_readPiece : Int32 → qM → qR) (hF_X4_readPiece : ∀ (b1 : Int32) (M : qM), qAM g k.2.1 d1 zX4_readPiece (qL j r) [.inr (some 45), .inl b1] (qL j r, M) (F_X4_readPiece b1 M)) (o : qOk g d zX4_readPart k) (K12 : Int32 → Int32 → qM → qR) (hK12 : ∀ (a1 a2 : Int32) (M : qM), qAE g k zX4_readPart (qL j r) 12 [some (.inr (some 45)), some (.inl a1), some (.inl a2), none] [] (qL j r, M) (K12 a1 a2 M)) (a1 a2 : Int32) (M : qM) : qAE g k zX4_readPart (qL j r) 12 [some (.inr (some 45)), some (.inl a1), some (.inl a2), none] [] (qL j r, M) (b_X4_readPart_12 n r F_X4_readPiece K12 a1 a2 M) := by
  unfold b_X4_readPart_12
  refine qr_iload_n o (q_dm dm_X4_readPart 8 rfl) rfl ?_
  refine qr_sipush o (q_dm dm_X4_readPart 9 rfl) si_240 ?_
  refine qr_icmp_ge (tgt := 65) o (q_dm dm_X4_readPart 10 rfl) (by decide) ?_ ?_
  · refine qr_iconst o (q_dm dm_X4_readPart 34 rfl) ic_1 ?_
    exact qr_iret o rfl (by decide) (q_dm dm_X4_readPart 35 rfl)
  · refine qr_aload_n o (q_dm dm_X4_readPart 11 rfl) rfl ?_
    refine qr_getr (kf := 0) o cf_X4 (sh45 j r) rfl (Nat.le_of_ble_eq_true rfl) fl_X4_18 (q_dm dm_X4_readPart 12 rfl) ?_
    refine qr_bipush o (q_dm dm_X4_readPart 13 rfl) bi_38 ?_
    refine qr_callv_i (As := [.inl (38 : Int32)]) (S := []) o (a_X9_takes g k.2.1 n j r hj hr (38 : Int32) M) (by omega) zv_X9_takes rfl cf_X9 (sh1 j r) ml_X4_35 (Nat.le_of_ble_eq_true rfl) (q_dm dm_X4_readPart 14 rfl) (fun r1 m2 => ?_)
    refine qr_if_eq (tgt := 65) o (q_dm dm_X4_readPart 15 rfl) (by decide) ?_ ?_
    · refine qr_iconst o (q_dm dm_X4_readPart 34 rfl) ic_1 ?_
      exact qr_iret o rfl (by decide) (q_dm dm_X4_readPart 35 rfl)
    · refine qr_aload_n o (q_dm dm_X4_readPart 16 rfl) rfl ?_
      refine qr_getr (kf := 1) o cf_X4 (sh45 j r) rfl (Nat.le_of_ble_eq_true rfl) fl_X4_12 (q_dm dm_X4_readPart 17 rfl) ?_
      refine qr_iconst o (q_dm dm_X4_readPart 18 rfl) ic_3 ?_
      refine qr_iconst o (q_dm dm_X4_readPart 19 rfl) ic_0 ?_
      refine qr_callv_i (As := [.inl (3 : Int32), .inl (0 : Int32)]) (S := []) o (a_X3_add g k.2.1 n j r hj hr hr (3 : Int32) (0 : Int32) m2) (by omega) zv_X3_add rfl cf_X3 (shW0 j r hr) ml_X4_79 (Nat.le_of_ble_eq_true rfl) (q_dm dm_X4_readPart 20 rfl) (fun r3 m4 => ?_)
      refine qs_istore_n (L' := [some (.inr (some 45)), some (.inl a1), some (.inl a2), some (.inl r3)]) o (q_dm dm_X4_readPart 21 rfl) (Nat.le_of_ble_eq_true rfl) rfl ?_
      refine qr_aload_n o (q_dm dm_X4_readPart 22 rfl) rfl ?_
      refine qr_iload_n o (q_dm dm_X4_readPart 23 rfl) rfl ?_
      refine qr_callv_i (As := [.inl a1]) (S := []) o (hF_X4_readPiece a1 m4) (by omega) zv_X4_readPiece rfl cf_X4 (sh45 j r) ml_X4_86 (Nat.le_of_ble_eq_true rfl) (q_dm dm_X4_readPart 24 rfl) (fun r5 m6 => ?_)
      refine qr_if_ne (tgt := 51) o (q_dm dm_X4_readPart 25 rfl) (by decide) ?_ ?_
      · refine qr_aload_n o (q_dm dm_X4_readPart 28 rfl) rfl ?_
        refine qr_getr (kf := 1) o cf_X4 (sh45 j r) rfl (Nat.le_of_ble_eq_true rfl) fl_X4_12 (q_dm dm_X4_readPart 29 rfl) ?_
        refine qr_iload_n o (q_dm dm_X4_readPart 30 rfl) rfl ?_
        refine qr_callv_v (As := [.inl r3]) (S := []) o (a_X3_skipToHere g k.2.1 n j r hj hr hr r3 m6) (by omega) zv_X3_skipToHere rfl cf_X3 (shW0 j r hr) ml_X4_83 (Nat.le_of_ble_eq_true rfl) (q_dm dm_X4_readPart 31 rfl) (fun _ m7 => ?_)
        refine qs_iincl2 (L' := fun x8 => [some (.inr (some 45)), some (.inl a1), some (.inl x8), some (.inl r3)]) o (q_dm dm_X4_readPart 32 rfl) rfl ic_1 (Nat.le_of_ble_eq_true rfl) (fun _ => rfl) (fun x8 => ?_)
        refine qr_goto (tgt := 12) o (q_dm dm_X4_readPart 33 rfl) (by decide) ?_
        exact qr_loc (q_leS (q_leS (q_leS (q_leN q_le0)))) (hK12 a1 x8 m7)
      · refine qr_iconst o (q_dm dm_X4_readPart 26 rfl) ic_0 ?_
        exact qr_iret o rfl (by decide) (q_dm dm_X4_readPart 27 rfl)

def f_X4_readPart_12 (n : Nat) (r : Nat) (F_X4_readPiece : Int32 → qM → qR) : Nat → Int32 → Int32 → qM → qR
  | 0, _, _, _ => none
  | m + 1, a1, a2, M => b_X4_readPart_12 n r F_X4_readPiece (f_X4_readPart_12 n r F_X4_readPiece m) a1 a2 M
theorem w_X4_readPart_12 {g : qG} {k : qK} (n : Nat) (j r : Nat) (hj : q_isLaw j) (hr : q_isLaw r) {d1 d : Nat} (hd1 : d1 + 1 ≤ d) (hdn : 34 ≤ d) (F_X4_readPiece : Int32 → qM → qR) (hF_X4_readPiece : ∀ (b1 : Int32) (M : qM), qAM g k.2.1 d1 zX4_readPiece (qL j r) [.inr (some 45), .inl b1] (qL j r, M) (F_X4_readPiece b1 M)) (o : qOk g d zX4_readPart k) : ∀ (m : Nat) (a1 a2 : Int32) (M : qM), qAE g k zX4_readPart (qL j r) 12 [some (.inr (some 45)), some (.inl a1), some (.inl a2), none] [] (qL j r, M) (f_X4_readPart_12 n r F_X4_readPiece m a1 a2 M) := by
  intro m
  induction m with
  | zero =>
    intro a1 a2 M
    exact qr_none
  | succ m ih =>
    intro a1 a2 M
    exact wb_X4_readPart_12 n j r hj hr hd1 hdn F_X4_readPiece hF_X4_readPiece o (f_X4_readPart_12 n r F_X4_readPiece m) ih a1 a2 M
def fo_X4_readPart (n : Nat) (r : Nat) (F_X4_readPiece : Int32 → qM → qR) (a1 : Int32) (M : qM) : qR :=
  qc (F_X4_readPiece a1 M) (fun r1 m2 => (if r1 = (0 : Int32) then some ((0 : Int32), m2) else f_X4_readPart_12 n r F_X4_readPiece n a1 (0 : Int32) m2))
set_option maxRecDepth 4000 in
theorem w_X4_readPart {g : qG} {k : qK} (n : Nat) (j r : Nat) (hj : q_isLaw j) (hr : q_isLaw r) {d1 d : Nat} (hd1 : d1 + 1 ≤ d) (hdn : 34 ≤ d) (F_X4_readPiece : Int32 → qM → qR) (hF_X4_readPiece : ∀ (b1 : Int32) (M : qM), qAM g k.2.1 d1 zX4_readPiece (qL j r) [.inr (some 45), .inl b1] (qL j r, M) (F_X4_readPiece b1 M)) (o : qOk g d zX4_readPart k) (a1 : Int32) (M : qM) : qAE g k zX4_readPart (qL j r) 0 [some (.inr (some 45)), some (.inl a1), none, none] [] (qL j r, M) (fo_X4_readPart n r F_X4_readPiece a1 M) := by
  unfold fo_X4_readPart
  refine qr_aload_n o (q_dm dm_X4_readPart 0 rfl) rfl ?_
  refine qr_iload_n o (q_dm dm_X4_readPart 1 rfl) rfl ?_
  refine qr_callv_i (As := [.inl a1]) (S := []) o (hF_X4_readPiece a1 M) (by omega) zv_X4_readPiece rfl cf_X4 (sh45 j r) ml_X4_86 (Nat.le_of_ble_eq_true rfl) (q_dm dm_X4_readPart 2 rfl) (fun r1 m2 => ?_)
  refine qr_if_ne (tgt := 10) o (q_dm dm_X4_readPart 3 rfl) (by decide) ?_ ?_
  · refine qr_iconst o (q_dm dm_X4_readPart 6 rfl) ic_0 ?_
    refine qs_istore_n (L' := [some (.inr (some 45)), some (.inl a1), some (.inl (0 : Int32)), none]) o (q_dm dm_X4_readPart 7 rfl) (Nat.le_of_ble_eq_true rfl) rfl ?_
    exact qr_loc (q_leS (q_leS (q_leS (q_leN q_le0)))) (w_X4_readPart_12 n j r hj hr hd1 hdn F_X4_readPiece hF_X4_readPiece o n a1 (0 : Int32) m2)
  · refine qr_iconst o (q_dm dm_X4_readPart 4 rfl) ic_0 ?_
    exact qr_iret o rfl (by decide) (q_dm dm_X4_readPart 5 rfl)

theorem ao_X4_readPart (g : qG) (l : Launch) (n : Nat) (j r : Nat) (hj : q_isLaw j) (hr : q_isLaw r) {d1 d : Nat} (hd1 : d1 + 1 ≤ d) (hdn : 34 ≤ d) (F_X4_readPiece : Int32 → qM → qR) (hF_X4_readPiece : ∀ (b1 : Int32) (M : qM), qAM g l d1 zX4_readPiece (qL j r) [.inr (some 45), .inl b1] (qL j r, M) (F_X4_readPiece b1 M)) (a1 : Int32) (M : qM) : qAM g l d zX4_readPart (qL j r) [.inr (some 45), .inl a1] (qL j r, M) (fo_X4_readPart n r F_X4_readPiece a1 M) :=
  qAM.of zv_X4_readPart.1 (by show 2 ≤ 4; decide) (fun k hk o => by subst hk; exact w_X4_readPart n j r hj hr hd1 hdn F_X4_readPiece hF_X4_readPiece o a1 M)
def tb_X4_readCondition : List (Nat × Instr × Nat) := [(0, (.aload_n 0, 1)), (1, (.iload_n 1, 1)), (2, (.invokevirtual 76, 3)), (5, (.ifCond .ne 5, 3)), (8, (.iconst 0, 1)), (9, (.ireturn, 1)), (10, (.iconst 0, 1)), (11, (.istore_n 2, 1)), (12, (.iload_n 2, 1)), (13, (.sipush 240, 3)), (16, (.if_icmp .ge 49, 3)), (19, (.aload_n 0, 1)), (20, (.getfield 18, 3)), (23, (.bipush 124, 2)), (25, (.invokevirtual 35, 3)), (28, (.ifCond .eq 37, 3)), (31, (.aload_n 0, 1)), (32, (.getfield 12, 3)), (35, (.iconst 4, 1)), (36, (.iconst 0, 1)), (37, (.invokevirtual 79, 3)), (40, (.istore_n 3, 1)), (41, (.aload_n 0, 1)), (42, (.iload_n 1, 1)), (43, (.invokevirtual 76, 3)), (46, (.ifCond .ne 5, 3)), (49, (.iconst 0, 1)), (50, (.ireturn, 1)), (51, (.aload_n 0, 1)), (52, (.getfield 12, 3)), (55, (.iload_n 3, 1)), (56, (.invokevirtual 83, 3)), (59, (.iinc 2 1, 3)), (62, (.goto (-50), 3)), (65, (.iconst 1, 1)), (66, (.ireturn, 1))]
theorem dm_X4_readCondition : ∀ q ∈ tb_X4_readCondition, decode zX4_readCondition.2.1 q.1 = .ok q.2 := by decide +kernel
def b_X4_readCondition_12 (n : Nat) (r : Nat) (F_X4_readPart : Int32 → qM → qR) (K12 : Int32 → Int32 → qM → qR) (a1 a2 : Int32) (M : qM) : qR :=
  (if (240 : Int32) ≤ a2 then some ((1 : Int32), M) else qc (f_X9_takes n (124 : Int32) M) (fun r1 m2 => (if r1 = (0 : Int32) then some ((1 : Int32), m2) else qc (f_X3_add n r (4 : Int32) (0 : Int32) m2) (fun r3 m4 => qc (F_X4_readPart a1 m4) (fun r5 m6 => (if r5 = (0 : Int32) then some ((0 : Int32), m6) else qc (f_X3_skipToHere n r r3 m6) (fun _ m7 => ql (a2 + (1 : Int32)) (fun x8 => K12 a1 x8 m7))))))))
set_option maxRecDepth 4000 in
theorem wb_X4_readCondition_12 {g : qG} {k : qK} (n : Nat) (j r : Nat) (hj : q_isLaw j) (hr : q_isLaw r) {d1 d : Nat} (hd1 : d1 + 1 ≤ d) (hdn : 34 ≤ d) (F_X4_readPart : Int32 → qM → qR) (hF_X4_readPart : ∀ (b1 : Int32) (M : qM), qAM g k.2.1 d1 zX4_readPart (qL j r) [.inr (some 45), .inl b1] (qL j r, M) (F_X4_readPart b1 M)) (o : qOk g d zX4_readCondition k) (K12 : Int32 → Int32 → qM → qR) (hK12 : ∀ (a1 a2 : Int32) (M : qM), qAE g k zX4_readCondition (qL j r) 12 [some (.inr (some 45)), some (.inl a1), some (.inl a2), none] [] (qL j r, M) (K12 a1 a2 M)) (a1 a2 : Int32) (M : qM) : qAE g k zX4_readCondition (qL j r) 12 [some (.inr (some 45)), some (.inl a1), some (.inl a2), none] [] (qL j r, M) (b_X4_readCondition_12 n r F_X4_readPart K12 a1 a2 M) := by
  unfold b_X4_readCondition_12
  refine qr_iload_n o (q_dm dm_X4_readCondition 8 rfl) rfl ?_
  refine qr_sipush o (q_dm dm_X4_readCondition 9 rfl) si_240 ?_
  refine qr_icmp_ge (tgt := 65) o (q_dm dm_X4_readCondition 10 rfl) (by decide) ?_ ?_
  · refine qr_iconst o (q_dm dm_X4_readCondition 34 rfl) ic_1 ?_
    exact qr_iret o rfl (by decide) (q_dm dm_X4_readCondition 35 rfl)
  · refine qr_aload_n o (q_dm dm_X4_readCondition 11 rfl) rfl ?_
    refine qr_getr (kf := 0) o cf_X4 (sh45 j r) rfl (Nat.le_of_ble_eq_true rfl) fl_X4_18 (q_dm dm_X4_readCondition 12 rfl) ?_
    refine qr_bipush o (q_dm dm_X4_readCondition 13 rfl) bi_124 ?_
    refine qr_callv_i (As := [.inl (124 : Int32)]) (S := []) o (a_X9_takes g k.2.1 n j r hj hr (124 : Int32) M) (by omega) zv_X9_takes rfl cf_X9 (sh1 j r) ml_X4_35 (Nat.le_of_ble_eq_true rfl) (q_dm dm_X4_readCondition 14 rfl) (fun r1 m2 => ?_)
    refine qr_if_eq (tgt := 65) o (q_dm dm_X4_readCondition 15 rfl) (by decide) ?_ ?_
    · refine qr_iconst o (q_dm dm_X4_readCondition 34 rfl) ic_1 ?_
      exact qr_iret o rfl (by decide) (q_dm dm_X4_readCondition 35 rfl)
    · refine qr_aload_n o (q_dm dm_X4_readCondition 16 rfl) rfl ?_
      refine qr_getr (kf := 1) o cf_X4 (sh45 j r) rfl (Nat.le_of_ble_eq_true rfl) fl_X4_12 (q_dm dm_X4_readCondition 17 rfl) ?_
      refine qr_iconst o (q_dm dm_X4_readCondition 18 rfl) ic_4 ?_
      refine qr_iconst o (q_dm dm_X4_readCondition 19 rfl) ic_0 ?_
      refine qr_callv_i (As := [.inl (4 : Int32), .inl (0 : Int32)]) (S := []) o (a_X3_add g k.2.1 n j r hj hr hr (4 : Int32) (0 : Int32) m2) (by omega) zv_X3_add rfl cf_X3 (shW0 j r hr) ml_X4_79 (Nat.le_of_ble_eq_true rfl) (q_dm dm_X4_readCondition 20 rfl) (fun r3 m4 => ?_)
      refine qs_istore_n (L' := [some (.inr (some 45)), some (.inl a1), some (.inl a2), some (.inl r3)]) o (q_dm dm_X4_readCondition 21 rfl) (Nat.le_of_ble_eq_true rfl) rfl ?_
      refine qr_aload_n o (q_dm dm_X4_readCondition 22 rfl) rfl ?_
      refine qr_iload_n o (q_dm dm_X4_readCondition 23 rfl) rfl ?_
      refine qr_callv_i (As := [.inl a1]) (S := []) o (hF_X4_readPart a1 m4) (by omega) zv_X4_readPart rfl cf_X4 (sh45 j r) ml_X4_76 (Nat.le_of_ble_eq_true rfl) (q_dm dm_X4_readCondition 24 rfl) (fun r5 m6 => ?_)
      refine qr_if_ne (tgt := 51) o (q_dm dm_X4_readCondition 25 rfl) (by decide) ?_ ?_
      · refine qr_aload_n o (q_dm dm_X4_readCondition 28 rfl) rfl ?_
        refine qr_getr (kf := 1) o cf_X4 (sh45 j r) rfl (Nat.le_of_ble_eq_true rfl) fl_X4_12 (q_dm dm_X4_readCondition 29 rfl) ?_
        refine qr_iload_n o (q_dm dm_X4_readCondition 30 rfl) rfl ?_
        refine qr_callv_v (As := [.inl r3]) (S := []) o (a_X3_skipToHere g k.2.1 n j r hj hr hr r3 m6) (by omega) zv_X3_skipToHere rfl cf_X3 (shW0 j r hr) ml_X4_83 (Nat.le_of_ble_eq_true rfl) (q_dm dm_X4_readCondition 31 rfl) (fun _ m7 => ?_)
        refine qs_iincl2 (L' := fun x8 => [some (.inr (some 45)), some (.inl a1), some (.inl x8), some (.inl r3)]) o (q_dm dm_X4_readCondition 32 rfl) rfl ic_1 (Nat.le_of_ble_eq_true rfl) (fun _ => rfl) (fun x8 => ?_)
        refine qr_goto (tgt := 12) o (q_dm dm_X4_readCondition 33 rfl) (by decide) ?_
        exact qr_loc (q_leS (q_leS (q_leS (q_leN q_le0)))) (hK12 a1 x8 m7)
      · refine qr_iconst o (q_dm dm_X4_readCondition 26 rfl) ic_0 ?_
        exact qr_iret o rfl (by decide) (q_dm dm_X4_readCondition 27 rfl)

def f_X4_readCondition_12 (n : Nat) (r : Nat) (F_X4_readPart : Int32 → qM → qR) : Nat → Int32 → Int32 → qM → qR
  | 0, _, _, _ => none
  | m + 1, a1, a2, M => b_X4_readCondition_12 n r F_X4_readPart (f_X4_readCondition_12 n r F_X4_readPart m) a1 a2 M
theorem w_X4_readCondition_12 {g : qG} {k : qK} (n : Nat) (j r : Nat) (hj : q_isLaw j) (hr : q_isLaw r) {d1 d : Nat} (hd1 : d1 + 1 ≤ d) (hdn : 34 ≤ d) (F_X4_readPart : Int32 → qM → qR) (hF_X4_readPart : ∀ (b1 : Int32) (M : qM), qAM g k.2.1 d1 zX4_readPart (qL j r) [.inr (some 45), .inl b1] (qL j r, M) (F_X4_readPart b1 M)) (o : qOk g d zX4_readCondition k) : ∀ (m : Nat) (a1 a2 : Int32) (M : qM), qAE g k zX4_readCondition (qL j r) 12 [some (.inr (some 45)), some (.inl a1), some (.inl a2), none] [] (qL j r, M) (f_X4_readCondition_12 n r F_X4_readPart m a1 a2 M) := by
  intro m
  induction m with
  | zero =>
    intro a1 a2 M
    exact qr_none
  | succ m ih =>
    intro a1 a2 M
    exact wb_X4_readCondition_12 n j r hj hr hd1 hdn F_X4_readPart hF_X4_readPart o (f_X4_readCondition_12 n r F_X4_readPart m) ih a1 a2 M
def fo_X4_readCondition (n : Nat) (r : Nat) (F_X4_readPart : Int32 → qM → qR) (a1 : Int32) (M : qM) : qR :=
  qc (F_X4_readPart a1 M) (fun r1 m2 => (if r1 = (0 : Int32) then some ((0 : Int32), m2) else f_X4_readCondition_12 n r F_X4_readPart n a1 (0 : Int32) m2))
set_option maxRecDepth 4000 in
theorem w_X4_readCondition {g : qG} {k : qK} (n : Nat) (j r : Nat) (hj : q_isLaw j) (hr : q_isLaw r) {d1 d : Nat} (hd1 : d1 + 1 ≤ d) (hdn : 34 ≤ d) (F_X4_readPart : Int32 → qM → qR) (hF_X4_readPart : ∀ (b1 : Int32) (M : qM), qAM g k.2.1 d1 zX4_readPart (qL j r) [.inr (some 45), .inl b1] (qL j r, M) (F_X4_readPart b1 M)) (o : qOk g d zX4_readCondition k) (a1 : Int32) (M : qM) : qAE g k zX4_readCondition (qL j r) 0 [some (.inr (some 45)), some (.inl a1), none, none] [] (qL j r, M) (fo_X4_readCondition n r F_X4_readPart a1 M) := by
  unfold fo_X4_readCondition
  refine qr_aload_n o (q_dm dm_X4_readCondition 0 rfl) rfl ?_
  refine qr_iload_n o (q_dm dm_X4_readCondition 1 rfl) rfl ?_
  refine qr_callv_i (As := [.inl a1]) (S := []) o (hF_X4_readPart a1 M) (by omega) zv_X4_readPart rfl cf_X4 (sh45 j r) ml_X4_76 (Nat.le_of_ble_eq_true rfl) (q_dm dm_X4_readCondition 2 rfl) (fun r1 m2 => ?_)
  refine qr_if_ne (tgt := 10) o (q_dm dm_X4_readCondition 3 rfl) (by decide) ?_ ?_
  · refine qr_iconst o (q_dm dm_X4_readCondition 6 rfl) ic_0 ?_
    refine qs_istore_n (L' := [some (.inr (some 45)), some (.inl a1), some (.inl (0 : Int32)), none]) o (q_dm dm_X4_readCondition 7 rfl) (Nat.le_of_ble_eq_true rfl) rfl ?_
    exact qr_loc (q_leS (q_leS (q_leS (q_leN q_le0)))) (w_X4_readCondition_12 n j r hj hr hd1 hdn F_X4_readPart hF_X4_readPart o n a1 (0 : Int32) m2)
  · refine qr_iconst o (q_dm dm_X4_readCondition 4 rfl) ic_0 ?_
    exact qr_iret o rfl (by decide) (q_dm dm_X4_readCondition 5 rfl)

theorem ao_X4_readCondition (g : qG) (l : Launch) (n : Nat) (j r : Nat) (hj : q_isLaw j) (hr : q_isLaw r) {d1 d : Nat} (hd1 : d1 + 1 ≤ d) (hdn : 34 ≤ d) (F_X4_readPart : Int32 → qM → qR) (hF_X4_readPart : ∀ (b1 : Int32) (M : qM), qAM g l d1 zX4_readPart (qL j r) [.inr (some 45), .inl b1] (qL j r, M) (F_X4_readPart b1 M)) (a1 : Int32) (M : qM) : qAM g l d zX4_readCondition (qL j r) [.inr (some 45), .inl a1] (qL j r, M) (fo_X4_readCondition n r F_X4_readPart a1 M) :=
  qAM.of zv_X4_readCondition.1 (by show 2 ≤ 4; decide) (fun k hk o => by subst hk; exact w_X4_readCondition n j r hj hr hd1 hdn F_X4_readPart hF_X4_readPart o a1 M)
def rc_X4_readPiece (n : Nat) (r : Nat) : Nat → Nat → Int32 → qM → qR
  | 0, _, _, _ => none
  | m + 1, 0, a1, M => fo_X4_readPiece n r (rc_X4_readPiece n r m 2) (rc_X4_readPiece n r m 0) a1 M
  | m + 1, 1, a1, M => fo_X4_readPart n r (rc_X4_readPiece n r m 0) a1 M
  | m + 1, _, a1, M => fo_X4_readCondition n r (rc_X4_readPiece n r m 1) a1 M

theorem rc_X4_readPiece_ok (g : qG) (l : Launch) (n : Nat) (j r : Nat) (hj : q_isLaw j) (hr : q_isLaw r) : ∀ m : Nat, (∀ (a1 : Int32) (M : qM), qAM g l (34 + m) zX4_readPiece (qL j r) [.inr (some 45), .inl a1] (qL j r, M) (rc_X4_readPiece n r m 0 a1 M)) ∧ (∀ (a1 : Int32) (M : qM), qAM g l (34 + m) zX4_readPart (qL j r) [.inr (some 45), .inl a1] (qL j r, M) (rc_X4_readPiece n r m 1 a1 M)) ∧ (∀ (a1 : Int32) (M : qM), qAM g l (34 + m) zX4_readCondition (qL j r) [.inr (some 45), .inl a1] (qL j r, M) (rc_X4_readPiece n r m 2 a1 M)) := by
  intro m
  induction m with
  | zero => exact ⟨(fun _ _ _ _ h => by cases h), (fun _ _ _ _ h => by cases h), (fun _ _ _ _ h => by cases h)⟩
  | succ m ih =>
    exact ⟨(fun a1 M => ao_X4_readPiece g l n j r hj hr (d1 := 34 + m) (d := 34 + (m + 1)) (Nat.le_refl _) (Nat.le_add_right _ _) (rc_X4_readPiece n r m 2) (rc_X4_readPiece n r m 0) ih.2.2 ih.1 a1 M),
      (fun a1 M => ao_X4_readPart g l n j r hj hr (d1 := 34 + m) (d := 34 + (m + 1)) (Nat.le_refl _) (Nat.le_add_right _ _) (rc_X4_readPiece n r m 0) ih.1 a1 M),
      (fun a1 M => ao_X4_readCondition g l n j r hj hr (d1 := 34 + m) (d := 34 + (m + 1)) (Nat.le_refl _) (Nat.le_add_right _ _) (rc_X4_readPiece n r m 1) ih.2.1 a1 M)⟩

def f_X4_readPiece (n : Nat) (r : Nat) (a1 : Int32) (M : qM) : qR := rc_X4_readPiece n r 30 0 a1 M
theorem a_X4_readPiece (g : qG) (l : Launch) (n : Nat) (j r : Nat) (hj : q_isLaw j) (hr : q_isLaw r) (a1 : Int32) (M : qM) : qAM g l 64 zX4_readPiece (qL j r) [.inr (some 45), .inl a1] (qL j r, M) (f_X4_readPiece n r a1 M) := (rc_X4_readPiece_ok g l n j r hj hr 30).1 a1 M
def f_X4_readPart (n : Nat) (r : Nat) (a1 : Int32) (M : qM) : qR := rc_X4_readPiece n r 30 1 a1 M
theorem a_X4_readPart (g : qG) (l : Launch) (n : Nat) (j r : Nat) (hj : q_isLaw j) (hr : q_isLaw r) (a1 : Int32) (M : qM) : qAM g l 64 zX4_readPart (qL j r) [.inr (some 45), .inl a1] (qL j r, M) (f_X4_readPart n r a1 M) := (rc_X4_readPiece_ok g l n j r hj hr 30).2.1 a1 M
def f_X4_readCondition (n : Nat) (r : Nat) (a1 : Int32) (M : qM) : qR := rc_X4_readPiece n r 30 2 a1 M
theorem a_X4_readCondition (g : qG) (l : Launch) (n : Nat) (j r : Nat) (hj : q_isLaw j) (hr : q_isLaw r) (a1 : Int32) (M : qM) : qAM g l 64 zX4_readCondition (qL j r) [.inr (some 45), .inl a1] (qL j r, M) (f_X4_readCondition n r a1 M) := (rc_X4_readPiece_ok g l n j r hj hr 30).2.2 a1 M
def tb_X4_readClause : List (Nat × Instr × Nat) := [(0, (.aload_n 0, 1)), (1, (.getfield 18, 3)), (4, (.invokevirtual 49, 3)), (7, (.istore_n 1, 1)), (8, (.iload_n 1, 1)), (9, (.bipush 97, 2)), (11, (.if_icmp .eq 37, 3)), (14, (.iload_n 1, 1)), (15, (.bipush 118, 2)), (17, (.if_icmp .eq 31, 3)), (20, (.iload_n 1, 1)), (21, (.bipush 102, 2)), (23, (.if_icmp .eq 25, 3)), (26, (.iload_n 1, 1)), (27, (.bipush 99, 2)), (29, (.if_icmp .eq 19, 3)), (32, (.aload_n 0, 1)), (33, (.getfield 18, 3)), (36, (.iconst 1, 1)), (37, (.aload_n 0, 1)), (38, (.getfield 18, 3)), (41, (.getfield 53, 3)), (44, (.invokevirtual 56, 3)), (47, (.ireturn, 1)), (48, (.aload_n 0, 1)), (49, (.getfield 12, 3)), (52, (.getfield 42, 3)), (55, (.bipush 16, 2)), (57, (.if_icmp .lt 19, 3)), (60, (.aload_n 0, 1)), (61, (.getfield 18, 3)), (64, (.iconst 4, 1)), (65, (.aload_n 0, 1)), (66, (.getfield 18, 3)), (69, (.getfield 53, 3)), (72, (.invokevirtual 56, 3)), (75, (.ireturn, 1)), (76, (.aload_n 0, 1)), (77, (.getfield 18, 3)), (80, (.dup, 1)), (81, (.getfield 53, 3)), (84, (.iconst 1, 1)), (85, (.iadd, 1)), (86, (.putfield 53, 3)), (89, (.aload_n 0, 1)), (90, (.getfield 12, 3)), (93, (.getfield 60, 3)), (96, (.istore_n 2, 1)), (97, (.iload_n 1, 1)), (98, (.bipush 97, 2)), (100, (.if_icmp .eq 13, 3)), (103, (.aload_n 0, 1)), (104, (.iconst 0, 1)), (105, (.invokevirtual 63, 3)), (108, (.ifCond .ne 5, 3)), (111, (.iconst 0, 1)), (112, (.ireturn, 1)), (113, (.aload_n 0, 1)), (114, (.getfield 12, 3)), (117, (.getfield 60, 3)), (120, (.istore_n 3, 1)), (121, (.aload_n 0, 1)), (122, (.getfield 18, 3)), (125, (.bipush 40, 2)), (127, (.invokevirtual 66, 3)), (130, (.ifCond .eq 23, 3)), (133, (.aload_n 0, 1)), (134, (.iconst 1, 1)), (135, (.invokevirtual 69, 3)), (138, (.ifCond .eq 15, 3)), (141, (.aload_n 0, 1)), (142, (.getfield 18, 3)), (145, (.bipush 41, 2)), (147, (.invokevirtual 66, 3)), (150, (.ifCond .ne 5, 3)), (153, (.iconst 0, 1)), (154, (.ireturn, 1)), (155, (.aload_n 0, 1)), (156, (.getfield 12, 3)), (159, (.iload_n 1, 1)), (160, (.iload_n 2, 1)), (161, (.iload_n 3, 1)), (162, (.invokevirtual 72, 3)), (165, (.iconst 1, 1)), (166, (.ireturn, 1))]
theorem dm_X4_readClause : ∀ q ∈ tb_X4_readClause, decode zX4_readClause.2.1 q.1 = .ok q.2 := by decide +kernel
def f_X4_readClause_113 (n : Nat) (r : Nat) (a1 a2 : Int32) (M : qM) : qR :=
  ql (M r 6) (fun x1 => qc (f_X9_mustTake n (40 : Int32) M) (fun r2 m3 => (if r2 = (0 : Int32) then some ((0 : Int32), m3) else qc (f_X4_readCondition n r (1 : Int32) m3) (fun r4 m5 => (if r4 = (0 : Int32) then some ((0 : Int32), m5) else qc (f_X9_mustTake n (41 : Int32) m5) (fun r6 m7 => (if r6 = (0 : Int32) then some ((0 : Int32), m7) else qc (f_X3_addClause n r a1 a2 x1 m7) (fun _ m8 => some ((1 : Int32), m8)))))))))
set_option maxRecDepth 4000 in
theorem w_X4_readClause_113 {g : qG} {k : qK} (n : Nat) (j r : Nat) (hj : q_isLaw j) (hr : q_isLaw r) (o : qOk g 65 zX4_readClause k) (a1 a2 : Int32) (M : qM) : qAE g k zX4_readClause (qL j r) 113 [some (.inr (some 45)), some (.inl a1), some (.inl a2), none] [] (qL j r, M) (f_X4_readClause_113 n r a1 a2 M) := by
  unfold f_X4_readClause_113
  refine qr_aload_n o (q_dm dm_X4_readClause 57 rfl) rfl ?_
  refine qr_getr (kf := 1) o cf_X4 (sh45 j r) rfl (Nat.le_of_ble_eq_true rfl) fl_X4_12 (q_dm dm_X4_readClause 58 rfl) ?_
  refine qr_getf (kf := 6) o cf_X3 (shW0 j r hr) rfl (Nat.le_of_ble_eq_true rfl) fl_X4_60 (q_dm dm_X4_readClause 59 rfl) ?_
  refine qr_lt (fun x1 => ?_)
  refine qs_istore_n (L' := [some (.inr (some 45)), some (.inl a1), some (.inl a2), some (.inl x1)]) o (q_dm dm_X4_readClause 60 rfl) (Nat.le_of_ble_eq_true rfl) rfl ?_
  refine qr_aload_n o (q_dm dm_X4_readClause 61 rfl) rfl ?_
  refine qr_getr (kf := 0) o cf_X4 (sh45 j r) rfl (Nat.le_of_ble_eq_true rfl) fl_X4_18 (q_dm dm_X4_readClause 62 rfl) ?_
  refine qr_bipush o (q_dm dm_X4_readClause 63 rfl) bi_40 ?_
  refine qr_callv_i (As := [.inl (40 : Int32)]) (S := []) o (a_X9_mustTake g k.2.1 n j r hj hr (40 : Int32) M) (Nat.le_of_ble_eq_true rfl) zv_X9_mustTake rfl cf_X9 (sh1 j r) ml_X4_66 (Nat.le_of_ble_eq_true rfl) (q_dm dm_X4_readClause 64 rfl) (fun r2 m3 => ?_)
  refine qr_if_eq (tgt := 153) o (q_dm dm_X4_readClause 65 rfl) (by decide) ?_ ?_
  · refine qr_iconst o (q_dm dm_X4_readClause 75 rfl) ic_0 ?_
    exact qr_iret o rfl (by decide) (q_dm dm_X4_readClause 76 rfl)
  · refine qr_aload_n o (q_dm dm_X4_readClause 66 rfl) rfl ?_
    refine qr_iconst o (q_dm dm_X4_readClause 67 rfl) ic_1 ?_
    refine qr_callv_i (As := [.inl (1 : Int32)]) (S := []) o (a_X4_readCondition g k.2.1 n j r hj hr (1 : Int32) m3) (Nat.le_of_ble_eq_true rfl) zv_X4_readCondition rfl cf_X4 (sh45 j r) ml_X4_69 (Nat.le_of_ble_eq_true rfl) (q_dm dm_X4_readClause 68 rfl) (fun r4 m5 => ?_)
    refine qr_if_eq (tgt := 153) o (q_dm dm_X4_readClause 69 rfl) (by decide) ?_ ?_
    · refine qr_iconst o (q_dm dm_X4_readClause 75 rfl) ic_0 ?_
      exact qr_iret o rfl (by decide) (q_dm dm_X4_readClause 76 rfl)
    · refine qr_aload_n o (q_dm dm_X4_readClause 70 rfl) rfl ?_
      refine qr_getr (kf := 0) o cf_X4 (sh45 j r) rfl (Nat.le_of_ble_eq_true rfl) fl_X4_18 (q_dm dm_X4_readClause 71 rfl) ?_
      refine qr_bipush o (q_dm dm_X4_readClause 72 rfl) bi_41 ?_
      refine qr_callv_i (As := [.inl (41 : Int32)]) (S := []) o (a_X9_mustTake g k.2.1 n j r hj hr (41 : Int32) m5) (Nat.le_of_ble_eq_true rfl) zv_X9_mustTake rfl cf_X9 (sh1 j r) ml_X4_66 (Nat.le_of_ble_eq_true rfl) (q_dm dm_X4_readClause 73 rfl) (fun r6 m7 => ?_)
      refine qr_if_ne (tgt := 155) o (q_dm dm_X4_readClause 74 rfl) (by decide) ?_ ?_
      · refine qr_aload_n o (q_dm dm_X4_readClause 77 rfl) rfl ?_
        refine qr_getr (kf := 1) o cf_X4 (sh45 j r) rfl (Nat.le_of_ble_eq_true rfl) fl_X4_12 (q_dm dm_X4_readClause 78 rfl) ?_
        refine qr_iload_n o (q_dm dm_X4_readClause 79 rfl) rfl ?_
        refine qr_iload_n o (q_dm dm_X4_readClause 80 rfl) rfl ?_
        refine qr_iload_n o (q_dm dm_X4_readClause 81 rfl) rfl ?_
        refine qr_callv_v (As := [.inl a1, .inl a2, .inl x1]) (S := []) o (a_X3_addClause g k.2.1 n j r hj hr hr a1 a2 x1 m7) (Nat.le_of_ble_eq_true rfl) zv_X3_addClause rfl cf_X3 (shW0 j r hr) ml_X4_72 (Nat.le_of_ble_eq_true rfl) (q_dm dm_X4_readClause 82 rfl) (fun _ m8 => ?_)
        refine qr_iconst o (q_dm dm_X4_readClause 83 rfl) ic_1 ?_
        exact qr_iret o rfl (by decide) (q_dm dm_X4_readClause 84 rfl)
      · refine qr_iconst o (q_dm dm_X4_readClause 75 rfl) ic_0 ?_
        exact qr_iret o rfl (by decide) (q_dm dm_X4_readClause 76 rfl)

def f_X4_readClause_48 (n : Nat) (r : Nat) (a1 : Int32) (M : qM) : qR :=
  (if (M r 7) < (16 : Int32) then qlm (mu M 1 3 ((M 1 3) + (1 : Int32))) (fun m1 => ql (m1 r 6) (fun x2 => (if a1 = (97 : Int32) then f_X4_readClause_113 n r a1 x2 m1 else qc (f_X4_readSum n r (0 : Int32) m1) (fun r3 m4 => (if r3 = (0 : Int32) then some ((0 : Int32), m4) else f_X4_readClause_113 n r a1 x2 m4))))) else qc (f_X9_fails n (4 : Int32) (M 1 3) M) (fun r5 m6 => qb r5 (some (r5, m6))))
set_option maxRecDepth 4000 in
theorem w_X4_readClause_48 {g : qG} {k : qK} (n : Nat) (j r : Nat) (hj : q_isLaw j) (hr : q_isLaw r) (o : qOk g 65 zX4_readClause k) (a1 : Int32) (M : qM) : qAE g k zX4_readClause (qL j r) 48 [some (.inr (some 45)), some (.inl a1), none, none] [] (qL j r, M) (f_X4_readClause_48 n r a1 M) := by
  unfold f_X4_readClause_48
  refine qr_aload_n o (q_dm dm_X4_readClause 24 rfl) rfl ?_
  refine qr_getr (kf := 1) o cf_X4 (sh45 j r) rfl (Nat.le_of_ble_eq_true rfl) fl_X4_12 (q_dm dm_X4_readClause 25 rfl) ?_
  refine qr_getf (kf := 7) o cf_X3 (shW0 j r hr) rfl (Nat.le_of_ble_eq_true rfl) fl_X4_42 (q_dm dm_X4_readClause 26 rfl) ?_
  refine qr_bipush o (q_dm dm_X4_readClause 27 rfl) bi_16 ?_
  refine qr_icmp_lt (tgt := 76) o (q_dm dm_X4_readClause 28 rfl) (by decide) ?_ ?_
  · refine qr_aload_n o (q_dm dm_X4_readClause 37 rfl) rfl ?_
    refine qr_getr (kf := 0) o cf_X4 (sh45 j r) rfl (Nat.le_of_ble_eq_true rfl) fl_X4_18 (q_dm dm_X4_readClause 38 rfl) ?_
    refine qr_dup o (q_dm dm_X4_readClause 39 rfl) ?_
    refine qr_getf (kf := 3) o cf_X9 (sh1 j r) rfl (Nat.le_of_ble_eq_true rfl) fl_X4_53 (q_dm dm_X4_readClause 40 rfl) ?_
    refine qr_iconst o (q_dm dm_X4_readClause 41 rfl) ic_1 ?_
    refine qr_iadd o (q_dm dm_X4_readClause 42 rfl) ?_
    refine qr_putf (kf := 3) o cf_X9 (sh1 j r) rfl (Nat.le_of_ble_eq_true rfl) fl_X4_53 rfl (by decide +kernel) (q_dm dm_X4_readClause 43 rfl) ?_
    refine qr_letm (fun m1 => ?_)
    refine qr_aload_n o (q_dm dm_X4_readClause 44 rfl) rfl ?_
    refine qr_getr (kf := 1) o cf_X4 (sh45 j r) rfl (Nat.le_of_ble_eq_true rfl) fl_X4_12 (q_dm dm_X4_readClause 45 rfl) ?_
    refine qr_getf (kf := 6) o cf_X3 (shW0 j r hr) rfl (Nat.le_of_ble_eq_true rfl) fl_X4_60 (q_dm dm_X4_readClause 46 rfl) ?_
    refine qr_lt (fun x2 => ?_)
    refine qs_istore_n (L' := [some (.inr (some 45)), some (.inl a1), some (.inl x2), none]) o (q_dm dm_X4_readClause 47 rfl) (Nat.le_of_ble_eq_true rfl) rfl ?_
    refine qr_iload_n o (q_dm dm_X4_readClause 48 rfl) rfl ?_
    refine qr_bipush o (q_dm dm_X4_readClause 49 rfl) bi_97 ?_
    refine qr_icmp_eq (tgt := 113) o (q_dm dm_X4_readClause 50 rfl) (by decide) ?_ ?_
    · exact qr_loc (q_leS (q_leS (q_leS (q_leN q_le0)))) (w_X4_readClause_113 n j r hj hr o a1 x2 m1)
    · refine qr_aload_n o (q_dm dm_X4_readClause 51 rfl) rfl ?_
      refine qr_iconst o (q_dm dm_X4_readClause 52 rfl) ic_0 ?_
      refine qr_callv_i (As := [.inl (0 : Int32)]) (S := []) o (a_X4_readSum g k.2.1 n j r hj hr (0 : Int32) m1) (Nat.le_of_ble_eq_true rfl) zv_X4_readSum rfl cf_X4 (sh45 j r) ml_X4_63 (Nat.le_of_ble_eq_true rfl) (q_dm dm_X4_readClause 53 rfl) (fun r3 m4 => ?_)
      refine qr_if_ne (tgt := 113) o (q_dm dm_X4_readClause 54 rfl) (by decide) ?_ ?_
      · exact qr_loc (q_leS (q_leS (q_leS (q_leN q_le0)))) (w_X4_readClause_113 n j r hj hr o a1 x2 m4)
      · refine qr_iconst o (q_dm dm_X4_readClause 55 rfl) ic_0 ?_
        exact qr_iret o rfl (by decide) (q_dm dm_X4_readClause 56 rfl)
  · refine qr_aload_n o (q_dm dm_X4_readClause 29 rfl) rfl ?_
    refine qr_getr (kf := 0) o cf_X4 (sh45 j r) rfl (Nat.le_of_ble_eq_true rfl) fl_X4_18 (q_dm dm_X4_readClause 30 rfl) ?_
    refine qr_iconst o (q_dm dm_X4_readClause 31 rfl) ic_4 ?_
    refine qr_aload_n o (q_dm dm_X4_readClause 32 rfl) rfl ?_
    refine qr_getr (kf := 0) o cf_X4 (sh45 j r) rfl (Nat.le_of_ble_eq_true rfl) fl_X4_18 (q_dm dm_X4_readClause 33 rfl) ?_
    refine qr_getf (kf := 3) o cf_X9 (sh1 j r) rfl (Nat.le_of_ble_eq_true rfl) fl_X4_53 (q_dm dm_X4_readClause 34 rfl) ?_
    refine qr_callv_i (As := [.inl (4 : Int32), .inl (M 1 3)]) (S := []) o (a_X9_fails g k.2.1 n j r hj hr (4 : Int32) (M 1 3) M) (Nat.le_of_ble_eq_true rfl) zv_X9_fails rfl cf_X9 (sh1 j r) ml_X4_56 (Nat.le_of_ble_eq_true rfl) (q_dm dm_X4_readClause 35 rfl) (fun r5 m6 => ?_)
    exact qr_zret o rfl (q_dm dm_X4_readClause 36 rfl)

def f_X4_readClause (n : Nat) (r : Nat) (M : qM) : qR :=
  qc (f_X9_sign n  M) (fun r1 m2 => (if r1 = (97 : Int32) then f_X4_readClause_48 n r r1 m2 else (if r1 = (118 : Int32) then f_X4_readClause_48 n r r1 m2 else (if r1 = (102 : Int32) then f_X4_readClause_48 n r r1 m2 else (if r1 = (99 : Int32) then f_X4_readClause_48 n r r1 m2 else qc (f_X9_fails n (1 : Int32) (m2 1 3) m2) (fun r3 m4 => qb r3 (some (r3, m4))))))))
set_option maxRecDepth 4000 in
theorem w_X4_readClause {g : qG} {k : qK} (n : Nat) (j r : Nat) (hj : q_isLaw j) (hr : q_isLaw r) (o : qOk g 65 zX4_readClause k) (M : qM) : qAE g k zX4_readClause (qL j r) 0 [some (.inr (some 45)), none, none, none] [] (qL j r, M) (f_X4_readClause n r  M) := by
  unfold f_X4_readClause
  refine qr_aload_n o (q_dm dm_X4_readClause 0 rfl) rfl ?_
  refine qr_getr (kf := 0) o cf_X4 (sh45 j r) rfl (Nat.le_of_ble_eq_true rfl) fl_X4_18 (q_dm dm_X4_readClause 1 rfl) ?_
  refine qr_callv_i (As := []) (S := []) o (a_X9_sign g k.2.1 n j r hj hr  M) (Nat.le_of_ble_eq_true rfl) zv_X9_sign rfl cf_X9 (sh1 j r) ml_X4_49 (Nat.le_of_ble_eq_true rfl) (q_dm dm_X4_readClause 2 rfl) (fun r1 m2 => ?_)
  refine qs_istore_n (L' := [some (.inr (some 45)), some (.inl r1), none, none]) o (q_dm dm_X4_readClause 3 rfl) (Nat.le_of_ble_eq_true rfl) rfl ?_
  refine qr_iload_n o (q_dm dm_X4_readClause 4 rfl) rfl ?_
  refine qr_bipush o (q_dm dm_X4_readClause 5 rfl) bi_97 ?_
  refine qr_icmp_eq (tgt := 48) o (q_dm dm_X4_readClause 6 rfl) (by decide) ?_ ?_
  · exact qr_loc (q_leS (q_leS (q_leN (q_leN q_le0)))) (w_X4_readClause_48 n j r hj hr o r1 m2)
  · refine qr_iload_n o (q_dm dm_X4_readClause 7 rfl) rfl ?_
    refine qr_bipush o (q_dm dm_X4_readClause 8 rfl) bi_118 ?_
    refine qr_icmp_eq (tgt := 48) o (q_dm dm_X4_readClause 9 rfl) (by decide) ?_ ?_
    · exact qr_loc (q_leS (q_leS (q_leN (q_leN q_le0)))) (w_X4_readClause_48 n j r hj hr o r1 m2)
    · refine qr_iload_n o (q_dm dm_X4_readClause 10 rfl) rfl ?_
      refine qr_bipush o (q_dm dm_X4_readClause 11 rfl) bi_102 ?_
      refine qr_icmp_eq (tgt := 48) o (q_dm dm_X4_readClause 12 rfl) (by decide) ?_ ?_
      · exact qr_loc (q_leS (q_leS (q_leN (q_leN q_le0)))) (w_X4_readClause_48 n j r hj hr o r1 m2)
      · refine qr_iload_n o (q_dm dm_X4_readClause 13 rfl) rfl ?_
        refine qr_bipush o (q_dm dm_X4_readClause 14 rfl) bi_99 ?_
        refine qr_icmp_eq (tgt := 48) o (q_dm dm_X4_readClause 15 rfl) (by decide) ?_ ?_
        · exact qr_loc (q_leS (q_leS (q_leN (q_leN q_le0)))) (w_X4_readClause_48 n j r hj hr o r1 m2)
        · refine qr_aload_n o (q_dm dm_X4_readClause 16 rfl) rfl ?_
          refine qr_getr (kf := 0) o cf_X4 (sh45 j r) rfl (Nat.le_of_ble_eq_true rfl) fl_X4_18 (q_dm dm_X4_readClause 17 rfl) ?_
          refine qr_iconst o (q_dm dm_X4_readClause 18 rfl) ic_1 ?_
          refine qr_aload_n o (q_dm dm_X4_readClause 19 rfl) rfl ?_
          refine qr_getr (kf := 0) o cf_X4 (sh45 j r) rfl (Nat.le_of_ble_eq_true rfl) fl_X4_18 (q_dm dm_X4_readClause 20 rfl) ?_
          refine qr_getf (kf := 3) o cf_X9 (sh1 j r) rfl (Nat.le_of_ble_eq_true rfl) fl_X4_53 (q_dm dm_X4_readClause 21 rfl) ?_
          refine qr_callv_i (As := [.inl (1 : Int32), .inl (m2 1 3)]) (S := []) o (a_X9_fails g k.2.1 n j r hj hr (1 : Int32) (m2 1 3) m2) (Nat.le_of_ble_eq_true rfl) zv_X9_fails rfl cf_X9 (sh1 j r) ml_X4_56 (Nat.le_of_ble_eq_true rfl) (q_dm dm_X4_readClause 22 rfl) (fun r3 m4 => ?_)
          exact qr_zret o rfl (q_dm dm_X4_readClause 23 rfl)

theorem a_X4_readClause (g : qG) (l : Launch) (n : Nat) (j r : Nat) (hj : q_isLaw j) (hr : q_isLaw r) (M : qM) : qAM g l 65 zX4_readClause (qL j r) [.inr (some 45)] (qL j r, M) (f_X4_readClause n r  M) :=
  qAM.of zv_X4_readClause.1 (by show 1 ≤ 4; decide) (fun k hk o => w_X4_readClause n j r hj hr o  M)
def tb_X9_mustEnd : List (Nat × Instr × Nat) := [(0, (.aload_n 0, 1)), (1, (.getfield 32, 3)), (4, (.aload_n 0, 1)), (5, (.getfield 29, 3)), (8, (.if_icmp .ge 15, 3)), (11, (.aload_n 0, 1)), (12, (.iconst 1, 1)), (13, (.aload_n 0, 1)), (14, (.getfield 32, 3)), (17, (.invokevirtual 46, 3)), (20, (.ifCond .eq 7, 3)), (23, (.iconst 1, 1)), (24, (.goto 4, 3)), (27, (.iconst 0, 1)), (28, (.ireturn, 1))]
theorem dm_X9_mustEnd : ∀ q ∈ tb_X9_mustEnd, decode zX9_mustEnd.2.1 q.1 = .ok q.2 := by decide +kernel
def f_X9_mustEnd (n : Nat) (M : qM) : qR :=
  (if (M 1 2) ≤ (M 1 3) then some ((1 : Int32), M) else qc (f_X9_fails n (1 : Int32) (M 1 3) M) (fun r1 m2 => (if r1 = (0 : Int32) then some ((0 : Int32), m2) else some ((1 : Int32), m2))))
set_option maxRecDepth 4000 in
theorem w_X9_mustEnd {g : qG} {k : qK} (n : Nat) (j r : Nat) (hj : q_isLaw j) (hr : q_isLaw r) (o : qOk g 1 zX9_mustEnd k) (M : qM) : qAE g k zX9_mustEnd (qL j r) 0 [some (.inr (some 1))] [] (qL j r, M) (f_X9_mustEnd n  M) := by
  unfold f_X9_mustEnd
  refine qr_aload_n o (q_dm dm_X9_mustEnd 0 rfl) rfl ?_
  refine qr_getf (kf := 3) o cf_X9 (sh1 j r) rfl (Nat.le_of_ble_eq_true rfl) fl_X9_32 (q_dm dm_X9_mustEnd 1 rfl) ?_
  refine qr_aload_n o (q_dm dm_X9_mustEnd 2 rfl) rfl ?_
  refine qr_getf (kf := 2) o cf_X9 (sh1 j r) rfl (Nat.le_of_ble_eq_true rfl) fl_X9_29 (q_dm dm_X9_mustEnd 3 rfl) ?_
  refine qr_icmp_ge (tgt := 23) o (q_dm dm_X9_mustEnd 4 rfl) (by decide) ?_ ?_
  · refine qr_iconst o (q_dm dm_X9_mustEnd 11 rfl) ic_1 ?_
    refine qr_goto (tgt := 28) o (q_dm dm_X9_mustEnd 12 rfl) (by decide) ?_
    exact qr_iret o rfl (by decide) (q_dm dm_X9_mustEnd 14 rfl)
  · refine qr_aload_n o (q_dm dm_X9_mustEnd 5 rfl) rfl ?_
    refine qr_iconst o (q_dm dm_X9_mustEnd 6 rfl) ic_1 ?_
    refine qr_aload_n o (q_dm dm_X9_mustEnd 7 rfl) rfl ?_
    refine qr_getf (kf := 3) o cf_X9 (sh1 j r) rfl (Nat.le_of_ble_eq_true rfl) fl_X9_32 (q_dm dm_X9_mustEnd 8 rfl) ?_
    refine qr_callv_i (As := [.inl (1 : Int32), .inl (M 1 3)]) (S := []) o (a_X9_fails g k.2.1 n j r hj hr (1 : Int32) (M 1 3) M) (Nat.le_of_ble_eq_true rfl) zv_X9_fails rfl cf_X9 (sh1 j r) ml_X9_46 (Nat.le_of_ble_eq_true rfl) (q_dm dm_X9_mustEnd 9 rfl) (fun r1 m2 => ?_)
    refine qr_if_eq (tgt := 27) o (q_dm dm_X9_mustEnd 10 rfl) (by decide) ?_ ?_
    · refine qr_iconst o (q_dm dm_X9_mustEnd 13 rfl) ic_0 ?_
      exact qr_iret o rfl (by decide) (q_dm dm_X9_mustEnd 14 rfl)
    · refine qr_iconst o (q_dm dm_X9_mustEnd 11 rfl) ic_1 ?_
      refine qr_goto (tgt := 28) o (q_dm dm_X9_mustEnd 12 rfl) (by decide) ?_
      exact qr_iret o rfl (by decide) (q_dm dm_X9_mustEnd 14 rfl)

theorem a_X9_mustEnd (g : qG) (l : Launch) (n : Nat) (j r : Nat) (hj : q_isLaw j) (hr : q_isLaw r) (M : qM) : qAM g l 1 zX9_mustEnd (qL j r) [.inr (some 1)] (qL j r, M) (f_X9_mustEnd n  M) :=
  qAM.of zv_X9_mustEnd.1 (by show 1 ≤ 1; decide) (fun k hk o => w_X9_mustEnd n j r hj hr o  M)
def tb_X9_openText : List (Nat × Instr × Nat) := [(0, (.aload_n 0, 1)), (1, (.iload_n 1, 1)), (2, (.aload_n 0, 1)), (3, (.getfield 15, 3)), (6, (.invokestatic 23, 3)), (9, (.putfield 29, 3)), (12, (.aload_n 0, 1)), (13, (.iconst 0, 1)), (14, (.putfield 32, 3)), (17, (.aload_n 0, 1)), (18, (.iconst 0, 1)), (19, (.putfield 35, 3)), (22, (.return_, 1))]
theorem dm_X9_openText : ∀ q ∈ tb_X9_openText, decode zX9_openText.2.1 q.1 = .ok q.2 := by decide +kernel
def f_X9_openText (n : Nat) (a1 : Int32) (M : qM) : qR :=
  qlm (mu M 1 2 (qmin a1 (M 1 1))) (fun m1 => qlm (mu m1 1 3 (0 : Int32)) (fun m2 => qlm (mu m2 1 4 (0 : Int32)) (fun m3 => some (0, m3))))
set_option maxRecDepth 4000 in
theorem w_X9_openText {g : qG} {k : qK} (n : Nat) (j r : Nat) (hj : q_isLaw j) (hr : q_isLaw r) (o : qOk g 1 zX9_openText k) (a1 : Int32) (M : qM) : qAE g k zX9_openText (qL j r) 0 [some (.inr (some 1)), some (.inl a1)] [] (qL j r, M) (f_X9_openText n a1 M) := by
  unfold f_X9_openText
  refine qr_aload_n o (q_dm dm_X9_openText 0 rfl) rfl ?_
  refine qr_iload_n o (q_dm dm_X9_openText 1 rfl) rfl ?_
  refine qr_aload_n o (q_dm dm_X9_openText 2 rfl) rfl ?_
  refine qr_getf (kf := 1) o cf_X9 (sh1 j r) rfl (Nat.le_of_ble_eq_true rfl) fl_X9_15 (q_dm dm_X9_openText 3 rfl) ?_
  refine qr_min o ml_X9_23 (by omega) (Nat.le_of_ble_eq_true rfl) (q_dm dm_X9_openText 4 rfl) ?_
  refine qr_putf (kf := 2) o cf_X9 (sh1 j r) rfl (Nat.le_of_ble_eq_true rfl) fl_X9_29 rfl (by decide +kernel) (q_dm dm_X9_openText 5 rfl) ?_
  refine qr_letm (fun m1 => ?_)
  refine qr_aload_n o (q_dm dm_X9_openText 6 rfl) rfl ?_
  refine qr_iconst o (q_dm dm_X9_openText 7 rfl) ic_0 ?_
  refine qr_putf (kf := 3) o cf_X9 (sh1 j r) rfl (Nat.le_of_ble_eq_true rfl) fl_X9_32 rfl (by decide +kernel) (q_dm dm_X9_openText 8 rfl) ?_
  refine qr_letm (fun m2 => ?_)
  refine qr_aload_n o (q_dm dm_X9_openText 9 rfl) rfl ?_
  refine qr_iconst o (q_dm dm_X9_openText 10 rfl) ic_0 ?_
  refine qr_putf (kf := 4) o cf_X9 (sh1 j r) rfl (Nat.le_of_ble_eq_true rfl) fl_X9_35 rfl (by decide +kernel) (q_dm dm_X9_openText 11 rfl) ?_
  refine qr_letm (fun m3 => ?_)
  exact qr_vret o rfl (q_dm dm_X9_openText 12 rfl)

theorem a_X9_openText (g : qG) (l : Launch) (n : Nat) (j r : Nat) (hj : q_isLaw j) (hr : q_isLaw r) (a1 : Int32) (M : qM) : qAM g l 1 zX9_openText (qL j r) [.inr (some 1), .inl a1] (qL j r, M) (f_X9_openText n a1 M) :=
  qAM.of zv_X9_openText.1 (by show 2 ≤ 2; decide) (fun k hk o => w_X9_openText n j r hj hr o a1 M)
def tb_X4_read : List (Nat × Instr × Nat) := [(0, (.aload_n 0, 1)), (1, (.getfield 12, 3)), (4, (.invokevirtual 22, 3)), (7, (.aload_n 0, 1)), (8, (.getfield 18, 3)), (11, (.iload_n 1, 1)), (12, (.invokevirtual 25, 3)), (15, (.iconst 0, 1)), (16, (.istore_n 2, 1)), (17, (.iload_n 2, 1)), (18, (.bipush 16, 2)), (20, (.if_icmp .gt 56, 3)), (23, (.aload_n 0, 1)), (24, (.invokevirtual 31, 3)), (27, (.ifCond .eq 49, 3)), (30, (.aload_n 0, 1)), (31, (.getfield 18, 3)), (34, (.bipush 59, 2)), (36, (.invokevirtual 35, 3)), (39, (.ifCond .ne 31, 3)), (42, (.aload_n 0, 1)), (43, (.getfield 18, 3)), (46, (.invokevirtual 39, 3)), (49, (.ifCond .eq 13, 3)), (52, (.aload_n 0, 1)), (53, (.getfield 12, 3)), (56, (.getfield 42, 3)), (59, (.goto 10, 3)), (62, (.aload_n 0, 1)), (63, (.getfield 18, 3)), (66, (.getfield 46, 3)), (69, (.ireturn, 1)), (70, (.iinc 2 1, 3)), (73, (.goto (-56), 3)), (76, (.aload_n 0, 1)), (77, (.getfield 18, 3)), (80, (.getfield 46, 3)), (83, (.ireturn, 1))]
theorem dm_X4_read : ∀ q ∈ tb_X4_read, decode zX4_read.2.1 q.1 = .ok q.2 := by decide +kernel
def b_X4_read_17 (n : Nat) (r : Nat) (K17 : Int32 → qM → qR) (a2 : Int32) (M : qM) : qR :=
  (if (16 : Int32) < a2 then some ((M 1 4), M) else qc (f_X4_readClause n r M) (fun r1 m2 => (if r1 = (0 : Int32) then some ((m2 1 4), m2) else qc (f_X9_takes n (59 : Int32) m2) (fun r3 m4 => (if r3 = (0 : Int32) then qc (f_X9_mustEnd n  m4) (fun r6 m7 => (if r6 = (0 : Int32) then some ((m7 1 4), m7) else some ((m7 r 7), m7))) else ql (a2 + (1 : Int32)) (fun x5 => K17 x5 m4))))))
set_option maxRecDepth 4000 in
theorem wb_X4_read_17 {g : qG} {k : qK} (n : Nat) (j r : Nat) (hj : q_isLaw j) (hr : q_isLaw r) (o : qOk g 66 zX4_read k) (K17 : Int32 → qM → qR) (hK17 : ∀ (a2 : Int32) (M : qM), qAE g k zX4_read (qL j r) 17 [some (.inr (some 45)), none, some (.inl a2)] [] (qL j r, M) (K17 a2 M)) (a2 : Int32) (M : qM) : qAE g k zX4_read (qL j r) 17 [some (.inr (some 45)), none, some (.inl a2)] [] (qL j r, M) (b_X4_read_17 n r K17 a2 M) := by
  unfold b_X4_read_17
  refine qr_iload_n o (q_dm dm_X4_read 9 rfl) rfl ?_
  refine qr_bipush o (q_dm dm_X4_read 10 rfl) bi_16 ?_
  refine qr_icmp_gt (tgt := 76) o (q_dm dm_X4_read 11 rfl) (by decide) ?_ ?_
  · refine qr_aload_n o (q_dm dm_X4_read 34 rfl) rfl ?_
    refine qr_getr (kf := 0) o cf_X4 (sh45 j r) rfl (Nat.le_of_ble_eq_true rfl) fl_X4_18 (q_dm dm_X4_read 35 rfl) ?_
    refine qr_getf (kf := 4) o cf_X9 (sh1 j r) rfl (Nat.le_of_ble_eq_true rfl) fl_X4_46 (q_dm dm_X4_read 36 rfl) ?_
    exact qr_iret o rfl rfl (q_dm dm_X4_read 37 rfl)
  · refine qr_aload_n o (q_dm dm_X4_read 12 rfl) rfl ?_
    refine qr_callv_i (As := []) (S := []) o (a_X4_readClause g k.2.1 n j r hj hr  M) (Nat.le_of_ble_eq_true rfl) zv_X4_readClause rfl cf_X4 (sh45 j r) ml_X4_31 (Nat.le_of_ble_eq_true rfl) (q_dm dm_X4_read 13 rfl) (fun r1 m2 => ?_)
    refine qr_if_eq (tgt := 76) o (q_dm dm_X4_read 14 rfl) (by decide) ?_ ?_
    · refine qr_aload_n o (q_dm dm_X4_read 34 rfl) rfl ?_
      refine qr_getr (kf := 0) o cf_X4 (sh45 j r) rfl (Nat.le_of_ble_eq_true rfl) fl_X4_18 (q_dm dm_X4_read 35 rfl) ?_
      refine qr_getf (kf := 4) o cf_X9 (sh1 j r) rfl (Nat.le_of_ble_eq_true rfl) fl_X4_46 (q_dm dm_X4_read 36 rfl) ?_
      exact qr_iret o rfl rfl (q_dm dm_X4_read 37 rfl)
    · refine qr_aload_n o (q_dm dm_X4_read 15 rfl) rfl ?_
      refine qr_getr (kf := 0) o cf_X4 (sh45 j r) rfl (Nat.le_of_ble_eq_true rfl) fl_X4_18 (q_dm dm_X4_read 16 rfl) ?_
      refine qr_bipush o (q_dm dm_X4_read 17 rfl) bi_59 ?_
      refine qr_callv_i (As := [.inl (59 : Int32)]) (S := []) o (a_X9_takes g k.2.1 n j r hj hr (59 : Int32) m2) (Nat.le_of_ble_eq_true rfl) zv_X9_takes rfl cf_X9 (sh1 j r) ml_X4_35 (Nat.le_of_ble_eq_true rfl) (q_dm dm_X4_read 18 rfl) (fun r3 m4 => ?_)
      refine qr_if_ne (tgt := 70) o (q_dm dm_X4_read 19 rfl) (by decide) ?_ ?_
      · refine qs_iincl2 (L' := fun x5 => [some (.inr (some 45)), none, some (.inl x5)]) o (q_dm dm_X4_read 32 rfl) rfl ic_1 (Nat.le_of_ble_eq_true rfl) (fun _ => rfl) (fun x5 => ?_)
        refine qr_goto (tgt := 17) o (q_dm dm_X4_read 33 rfl) (by decide) ?_
        exact qr_loc (q_leS (q_leN (q_leS q_le0))) (hK17 x5 m4)
      · refine qr_aload_n o (q_dm dm_X4_read 20 rfl) rfl ?_
        refine qr_getr (kf := 0) o cf_X4 (sh45 j r) rfl (Nat.le_of_ble_eq_true rfl) fl_X4_18 (q_dm dm_X4_read 21 rfl) ?_
        refine qr_callv_i (As := []) (S := []) o (a_X9_mustEnd g k.2.1 n j r hj hr  m4) (Nat.le_of_ble_eq_true rfl) zv_X9_mustEnd rfl cf_X9 (sh1 j r) ml_X4_39 (Nat.le_of_ble_eq_true rfl) (q_dm dm_X4_read 22 rfl) (fun r6 m7 => ?_)
        refine qr_if_eq (tgt := 62) o (q_dm dm_X4_read 23 rfl) (by decide) ?_ ?_
        · refine qr_aload_n o (q_dm dm_X4_read 28 rfl) rfl ?_
          refine qr_getr (kf := 0) o cf_X4 (sh45 j r) rfl (Nat.le_of_ble_eq_true rfl) fl_X4_18 (q_dm dm_X4_read 29 rfl) ?_
          refine qr_getf (kf := 4) o cf_X9 (sh1 j r) rfl (Nat.le_of_ble_eq_true rfl) fl_X4_46 (q_dm dm_X4_read 30 rfl) ?_
          exact qr_iret o rfl rfl (q_dm dm_X4_read 31 rfl)
        · refine qr_aload_n o (q_dm dm_X4_read 24 rfl) rfl ?_
          refine qr_getr (kf := 1) o cf_X4 (sh45 j r) rfl (Nat.le_of_ble_eq_true rfl) fl_X4_12 (q_dm dm_X4_read 25 rfl) ?_
          refine qr_getf (kf := 7) o cf_X3 (shW0 j r hr) rfl (Nat.le_of_ble_eq_true rfl) fl_X4_42 (q_dm dm_X4_read 26 rfl) ?_
          refine qr_goto (tgt := 69) o (q_dm dm_X4_read 27 rfl) (by decide) ?_
          exact qr_iret o rfl rfl (q_dm dm_X4_read 31 rfl)

def f_X4_read_17 (n : Nat) (r : Nat) : Nat → Int32 → qM → qR
  | 0, _, _ => none
  | m + 1, a2, M => b_X4_read_17 n r (f_X4_read_17 n r m) a2 M
theorem w_X4_read_17 {g : qG} {k : qK} (n : Nat) (j r : Nat) (hj : q_isLaw j) (hr : q_isLaw r) (o : qOk g 66 zX4_read k) : ∀ (m : Nat) (a2 : Int32) (M : qM), qAE g k zX4_read (qL j r) 17 [some (.inr (some 45)), none, some (.inl a2)] [] (qL j r, M) (f_X4_read_17 n r m a2 M) := by
  intro m
  induction m with
  | zero =>
    intro a2 M
    exact qr_none
  | succ m ih =>
    intro a2 M
    exact wb_X4_read_17 n j r hj hr o (f_X4_read_17 n r m) ih a2 M
def f_X4_read (n : Nat) (r : Nat) (a1 : Int32) (M : qM) : qR :=
  qc (f_X3_clear n r M) (fun _ m1 => qc (f_X9_openText n a1 m1) (fun _ m2 => f_X4_read_17 n r n (0 : Int32) m2))
set_option maxRecDepth 4000 in
theorem w_X4_read {g : qG} {k : qK} (n : Nat) (j r : Nat) (hj : q_isLaw j) (hr : q_isLaw r) (o : qOk g 66 zX4_read k) (a1 : Int32) (M : qM) : qAE g k zX4_read (qL j r) 0 [some (.inr (some 45)), some (.inl a1), none] [] (qL j r, M) (f_X4_read n r a1 M) := by
  unfold f_X4_read
  refine qr_aload_n o (q_dm dm_X4_read 0 rfl) rfl ?_
  refine qr_getr (kf := 1) o cf_X4 (sh45 j r) rfl (Nat.le_of_ble_eq_true rfl) fl_X4_12 (q_dm dm_X4_read 1 rfl) ?_
  refine qr_callv_v (As := []) (S := []) o (a_X3_clear g k.2.1 n j r hj hr hr M) (Nat.le_of_ble_eq_true rfl) zv_X3_clear rfl cf_X3 (shW0 j r hr) ml_X4_22 (Nat.le_of_ble_eq_true rfl) (q_dm dm_X4_read 2 rfl) (fun _ m1 => ?_)
  refine qr_aload_n o (q_dm dm_X4_read 3 rfl) rfl ?_
  refine qr_getr (kf := 0) o cf_X4 (sh45 j r) rfl (Nat.le_of_ble_eq_true rfl) fl_X4_18 (q_dm dm_X4_read 4 rfl) ?_
  refine qr_iload_n o (q_dm dm_X4_read 5 rfl) rfl ?_
  refine qr_callv_v (As := [.inl a1]) (S := []) o (a_X9_openText g k.2.1 n j r hj hr a1 m1) (Nat.le_of_ble_eq_true rfl) zv_X9_openText rfl cf_X9 (sh1 j r) ml_X4_25 (Nat.le_of_ble_eq_true rfl) (q_dm dm_X4_read 6 rfl) (fun _ m2 => ?_)
  refine qr_iconst o (q_dm dm_X4_read 7 rfl) ic_0 ?_
  refine qs_istore_n (L' := [some (.inr (some 45)), some (.inl a1), some (.inl (0 : Int32))]) o (q_dm dm_X4_read 8 rfl) (Nat.le_of_ble_eq_true rfl) rfl ?_
  exact qr_loc (q_leS (q_leN (q_leS q_le0))) (w_X4_read_17 n j r hj hr o n (0 : Int32) m2)

theorem a_X4_read (g : qG) (l : Launch) (n : Nat) (j r : Nat) (hj : q_isLaw j) (hr : q_isLaw r) (a1 : Int32) (M : qM) : qAM g l 66 zX4_read (qL j r) [.inr (some 45), .inl a1] (qL j r, M) (f_X4_read n r a1 M) :=
  qAM.of zv_X4_read.1 (by show 2 ≤ 3; decide) (fun k hk o => w_X4_read n j r hj hr o a1 M)
def tb_X11_law : List (Nat × Instr × Nat) := [(0, (.iload_n 1, 1)), (1, (.iconst 1, 1)), (2, (.if_icmp .lt 21, 3)), (5, (.iload_n 1, 1)), (6, (.sipush 240, 3)), (9, (.if_icmp .gt 14, 3)), (12, (.iload_n 1, 1)), (13, (.aload_n 0, 1)), (14, (.getfield 10, 3)), (17, (.getfield 112, 3)), (20, (.if_icmp .le 5, 3)), (23, (.iconst (-1), 1)), (24, (.ireturn, 1)), (25, (.aload_n 0, 1)), (26, (.getfield 59, 3)), (29, (.iload_n 1, 1)), (30, (.invokevirtual 119, 3)), (33, (.istore_n 2, 1)), (34, (.aload_n 0, 1)), (35, (.getfield 10, 3)), (38, (.invokevirtual 123, 3)), (41, (.iload_n 2, 1)), (42, (.ifCond .le 33, 3)), (45, (.aload_n 0, 1)), (46, (.getfield 41, 3)), (49, (.getfield 126, 3)), (52, (.astore_n 3, 1)), (53, (.aload_n 0, 1)), (54, (.getfield 41, 3)), (57, (.aload_n 0, 1)), (58, (.getfield 59, 3)), (61, (.getfield 130, 3)), (64, (.putfield 126, 3)), (67, (.aload_n 0, 1)), (68, (.getfield 59, 3)), (71, (.aload_n 3, 1)), (72, (.putfield 130, 3)), (75, (.iload_n 2, 1)), (76, (.ireturn, 1))]
theorem dm_X11_law : ∀ q ∈ tb_X11_law, decode zX11_law.2.1 q.1 = .ok q.2 := by decide +kernel
def f_X11_law (n : Nat) (j r : Nat) (a1 : Int32) (M : qM) : qR :=
  (if a1 < (1 : Int32) then some ((-1 : Int32), M) else (if (240 : Int32) < a1 then some ((-1 : Int32), M) else (if a1 ≤ (M 1 1) then qc (f_X4_read n r a1 M) (fun r1 m2 => qc (f_X9_clear n  m2) (fun _ m3 => (if r1 ≤ (0 : Int32) then some (r1, m3) else none))) else some ((-1 : Int32), M))))
set_option maxRecDepth 4000 in
theorem w_X11_law {g : qG} {k : qK} (n : Nat) (j r : Nat) (hj : q_isLaw j) (hr : q_isLaw r) (o : qOk g 67 zX11_law k) (a1 : Int32) (M : qM) : qAE g k zX11_law (qL j r) 0 [some (.inr (some 0)), some (.inl a1), none, none] [] (qL j r, M) (f_X11_law n j r a1 M) := by
  unfold f_X11_law
  refine qr_iload_n o (q_dm dm_X11_law 0 rfl) rfl ?_
  refine qr_iconst o (q_dm dm_X11_law 1 rfl) ic_1 ?_
  refine qr_icmp_lt (tgt := 23) o (q_dm dm_X11_law 2 rfl) (by decide) ?_ ?_
  · refine qr_iconst o (q_dm dm_X11_law 11 rfl) ic_m1 ?_
    exact qr_iret o rfl rfl (q_dm dm_X11_law 12 rfl)
  · refine qr_iload_n o (q_dm dm_X11_law 3 rfl) rfl ?_
    refine qr_sipush o (q_dm dm_X11_law 4 rfl) si_240 ?_
    refine qr_icmp_gt (tgt := 23) o (q_dm dm_X11_law 5 rfl) (by decide) ?_ ?_
    · refine qr_iconst o (q_dm dm_X11_law 11 rfl) ic_m1 ?_
      exact qr_iret o rfl rfl (q_dm dm_X11_law 12 rfl)
    · refine qr_iload_n o (q_dm dm_X11_law 6 rfl) rfl ?_
      refine qr_aload_n o (q_dm dm_X11_law 7 rfl) rfl ?_
      refine qr_getr (kf := 0) o cf_X11 (sh0 j r) rfl (Nat.le_of_ble_eq_true rfl) fl_X11_10 (q_dm dm_X11_law 8 rfl) ?_
      refine qr_getf (kf := 1) o cf_X9 (sh1 j r) rfl (Nat.le_of_ble_eq_true rfl) fl_X11_112 (q_dm dm_X11_law 9 rfl) ?_
      refine qr_icmp_le (tgt := 25) o (q_dm dm_X11_law 10 rfl) (by decide) ?_ ?_
      · refine qr_aload_n o (q_dm dm_X11_law 13 rfl) rfl ?_
        refine qr_getr (kf := 7) o cf_X11 (sh0 j r) rfl (Nat.le_of_ble_eq_true rfl) fl_X11_59 (q_dm dm_X11_law 14 rfl) ?_
        refine qr_iload_n o (q_dm dm_X11_law 15 rfl) rfl ?_
        refine qr_callv_i (As := [.inl a1]) (S := []) o (a_X4_read g k.2.1 n j r hj hr a1 M) (Nat.le_of_ble_eq_true rfl) zv_X4_read rfl cf_X4 (sh45 j r) ml_X11_119 (Nat.le_of_ble_eq_true rfl) (q_dm dm_X11_law 16 rfl) (fun r1 m2 => ?_)
        refine qs_istore_n (L' := [some (.inr (some 0)), some (.inl a1), some (.inl r1), none]) o (q_dm dm_X11_law 17 rfl) (Nat.le_of_ble_eq_true rfl) rfl ?_
        refine qr_aload_n o (q_dm dm_X11_law 18 rfl) rfl ?_
        refine qr_getr (kf := 0) o cf_X11 (sh0 j r) rfl (Nat.le_of_ble_eq_true rfl) fl_X11_10 (q_dm dm_X11_law 19 rfl) ?_
        refine qr_callv_v (As := []) (S := []) o (a_X9_clear g k.2.1 n j r hj hr  m2) (Nat.le_of_ble_eq_true rfl) zv_X9_clear rfl cf_X9 (sh1 j r) ml_X11_123 (Nat.le_of_ble_eq_true rfl) (q_dm dm_X11_law 20 rfl) (fun _ m3 => ?_)
        refine qr_iload_n o (q_dm dm_X11_law 21 rfl) rfl ?_
        refine qr_if_le (tgt := 75) o (q_dm dm_X11_law 22 rfl) (by decide) ?_ ?_
        · refine qr_iload_n o (q_dm dm_X11_law 37 rfl) rfl ?_
          exact qr_iret o rfl rfl (q_dm dm_X11_law 38 rfl)
        · refine qr_aload_n o (q_dm dm_X11_law 23 rfl) rfl ?_
          refine qr_getr (kf := 5) o cf_X11 (sh0 j r) rfl (Nat.le_of_ble_eq_true rfl) fl_X11_41 (q_dm dm_X11_law 24 rfl) ?_
          refine qr_getr (kf := 3) o cf_X1 (sh34 j r) rfl (Nat.le_of_ble_eq_true rfl) fl_X11_126 (q_dm dm_X11_law 25 rfl) ?_
          refine qs_astore_n (L' := [some (.inr (some 0)), some (.inl a1), some (.inl r1), some (.inr (some j))]) o (q_dm dm_X11_law 26 rfl) (Nat.le_of_ble_eq_true rfl) rfl ?_
          refine qr_aload_n o (q_dm dm_X11_law 27 rfl) rfl ?_
          refine qr_getr (kf := 5) o cf_X11 (sh0 j r) rfl (Nat.le_of_ble_eq_true rfl) fl_X11_41 (q_dm dm_X11_law 28 rfl) ?_
          refine qr_aload_n o (q_dm dm_X11_law 29 rfl) rfl ?_
          refine qr_getr (kf := 7) o cf_X11 (sh0 j r) rfl (Nat.le_of_ble_eq_true rfl) fl_X11_59 (q_dm dm_X11_law 30 rfl) ?_
          refine qr_getr (kf := 1) o cf_X4 (sh45 j r) rfl (Nat.le_of_ble_eq_true rfl) fl_X11_130 (q_dm dm_X11_law 31 rfl) ?_
          exact qr_none
      · refine qr_iconst o (q_dm dm_X11_law 11 rfl) ic_m1 ?_
        exact qr_iret o rfl rfl (q_dm dm_X11_law 12 rfl)

theorem a_X11_law (g : qG) (l : Launch) (n : Nat) (j r : Nat) (hj : q_isLaw j) (hr : q_isLaw r) (a1 : Int32) (M : qM) : qAM g l 67 zX11_law (qL j r) [.inr (some 0), .inl a1] (qL j r, M) (f_X11_law n j r a1 M) :=
  qAM.of zv_X11_law.1 (by show 2 ≤ 4; decide) (fun k hk o => w_X11_law n j r hj hr o a1 M)
def f_X11_lawS (n : Nat) (j r : Nat) (a1 : Int32) (M : qM) : qR :=
  (if a1 < (1 : Int32) then none else (if (240 : Int32) < a1 then none else (if a1 ≤ (M 1 1) then qc (f_X4_read n r a1 M) (fun r1 m2 => qc (f_X9_clear n  m2) (fun _ m3 => (if r1 ≤ (0 : Int32) then none else some (r1, m3)))) else none)))
set_option maxRecDepth 4000 in
theorem w_X11_lawS {g : qG} {k : qK} (n : Nat) (j r : Nat) (hj : q_isLaw j) (hr : q_isLaw r) (o : qOk g 67 zX11_law k) (a1 : Int32) (M : qM) : qAE g k zX11_law (qL r j) 0 [some (.inr (some 0)), some (.inl a1), none, none] [] (qL j r, M) (f_X11_lawS n j r a1 M) := by
  unfold f_X11_lawS
  refine qr_iload_n o (q_dm dm_X11_law 0 rfl) rfl ?_
  refine qr_iconst o (q_dm dm_X11_law 1 rfl) ic_1 ?_
  refine qr_icmp_lt (tgt := 23) o (q_dm dm_X11_law 2 rfl) (by decide) ?_ ?_
  · refine qr_iconst o (q_dm dm_X11_law 11 rfl) ic_m1 ?_
    exact qr_none
  · refine qr_iload_n o (q_dm dm_X11_law 3 rfl) rfl ?_
    refine qr_sipush o (q_dm dm_X11_law 4 rfl) si_240 ?_
    refine qr_icmp_gt (tgt := 23) o (q_dm dm_X11_law 5 rfl) (by decide) ?_ ?_
    · refine qr_iconst o (q_dm dm_X11_law 11 rfl) ic_m1 ?_
      exact qr_none
    · refine qr_iload_n o (q_dm dm_X11_law 6 rfl) rfl ?_
      refine qr_aload_n o (q_dm dm_X11_law 7 rfl) rfl ?_
      refine qr_getr (kf := 0) o cf_X11 (sh0 j r) rfl (Nat.le_of_ble_eq_true rfl) fl_X11_10 (q_dm dm_X11_law 8 rfl) ?_
      refine qr_getf (kf := 1) o cf_X9 (sh1 j r) rfl (Nat.le_of_ble_eq_true rfl) fl_X11_112 (q_dm dm_X11_law 9 rfl) ?_
      refine qr_icmp_le (tgt := 25) o (q_dm dm_X11_law 10 rfl) (by decide) ?_ ?_
      · refine qr_aload_n o (q_dm dm_X11_law 13 rfl) rfl ?_
        refine qr_getr (kf := 7) o cf_X11 (sh0 j r) rfl (Nat.le_of_ble_eq_true rfl) fl_X11_59 (q_dm dm_X11_law 14 rfl) ?_
        refine qr_iload_n o (q_dm dm_X11_law 15 rfl) rfl ?_
        refine qr_callv_i (As := [.inl a1]) (S := []) o (a_X4_read g k.2.1 n j r hj hr a1 M) (Nat.le_of_ble_eq_true rfl) zv_X4_read rfl cf_X4 (sh45 j r) ml_X11_119 (Nat.le_of_ble_eq_true rfl) (q_dm dm_X11_law 16 rfl) (fun r1 m2 => ?_)
        refine qs_istore_n (L' := [some (.inr (some 0)), some (.inl a1), some (.inl r1), none]) o (q_dm dm_X11_law 17 rfl) (Nat.le_of_ble_eq_true rfl) rfl ?_
        refine qr_aload_n o (q_dm dm_X11_law 18 rfl) rfl ?_
        refine qr_getr (kf := 0) o cf_X11 (sh0 j r) rfl (Nat.le_of_ble_eq_true rfl) fl_X11_10 (q_dm dm_X11_law 19 rfl) ?_
        refine qr_callv_v (As := []) (S := []) o (a_X9_clear g k.2.1 n j r hj hr  m2) (Nat.le_of_ble_eq_true rfl) zv_X9_clear rfl cf_X9 (sh1 j r) ml_X11_123 (Nat.le_of_ble_eq_true rfl) (q_dm dm_X11_law 20 rfl) (fun _ m3 => ?_)
        refine qr_iload_n o (q_dm dm_X11_law 21 rfl) rfl ?_
        refine qr_if_le (tgt := 75) o (q_dm dm_X11_law 22 rfl) (by decide) ?_ ?_
        · refine qr_iload_n o (q_dm dm_X11_law 37 rfl) rfl ?_
          exact qr_none
        · refine qr_aload_n o (q_dm dm_X11_law 23 rfl) rfl ?_
          refine qr_getr (kf := 5) o cf_X11 (sh0 j r) rfl (Nat.le_of_ble_eq_true rfl) fl_X11_41 (q_dm dm_X11_law 24 rfl) ?_
          refine qr_getr (kf := 3) o cf_X1 (sh34 j r) rfl (Nat.le_of_ble_eq_true rfl) fl_X11_126 (q_dm dm_X11_law 25 rfl) ?_
          refine qs_astore_n (L' := [some (.inr (some 0)), some (.inl a1), some (.inl r1), some (.inr (some j))]) o (q_dm dm_X11_law 26 rfl) (Nat.le_of_ble_eq_true rfl) rfl ?_
          refine qr_aload_n o (q_dm dm_X11_law 27 rfl) rfl ?_
          refine qr_getr (kf := 5) o cf_X11 (sh0 j r) rfl (Nat.le_of_ble_eq_true rfl) fl_X11_41 (q_dm dm_X11_law 28 rfl) ?_
          refine qr_aload_n o (q_dm dm_X11_law 29 rfl) rfl ?_
          refine qr_getr (kf := 7) o cf_X11 (sh0 j r) rfl (Nat.le_of_ble_eq_true rfl) fl_X11_59 (q_dm dm_X11_law 30 rfl) ?_
          refine qr_getr (kf := 1) o cf_X4 (sh45 j r) rfl (Nat.le_of_ble_eq_true rfl) fl_X11_130 (q_dm dm_X11_law 31 rfl) ?_
          refine qr_putr (j := r) (C2 := "SecondTry$Law") (kf := 3) o cf_X1 (sh34 j r) rfl (Nat.le_of_ble_eq_true rfl) fl_X11_126 rfl (by decide +kernel) (q_dm dm_X11_law 32 rfl) ?_
          show qAE g k zX11_law _ _ _ _ (qL r r, m3) _
          refine qr_aload_n o (q_dm dm_X11_law 33 rfl) rfl ?_
          refine qr_getr (kf := 7) o cf_X11 (sh0 r r) rfl (Nat.le_of_ble_eq_true rfl) fl_X11_59 (q_dm dm_X11_law 34 rfl) ?_
          refine qr_aload_n o (q_dm dm_X11_law 35 rfl) rfl ?_
          refine qr_putr (j := j) (C2 := "SecondTry$Law") (kf := 1) o cf_X4 (sh45 r r) rfl (Nat.le_of_ble_eq_true rfl) fl_X11_130 rfl (by decide +kernel) (q_dm dm_X11_law 36 rfl) ?_
          show qAE g k zX11_law _ _ _ _ (qL r j, m3) _
          refine qr_iload_n o (q_dm dm_X11_law 37 rfl) rfl ?_
          exact qr_iret o rfl rfl (q_dm dm_X11_law 38 rfl)
      · refine qr_iconst o (q_dm dm_X11_law 11 rfl) ic_m1 ?_
        exact qr_none

theorem a_X11_lawS (g : qG) (l : Launch) (n : Nat) (j r : Nat) (hj : q_isLaw j) (hr : q_isLaw r) (a1 : Int32) (M : qM) : qAM g l 67 zX11_law (qL r j) [.inr (some 0), .inl a1] (qL j r, M) (f_X11_lawS n j r a1 M) :=
  qAM.of zv_X11_law.1 (by show 2 ≤ 4; decide) (fun k hk o => w_X11_lawS n j r hj hr o a1 M)

def tb_X1_isLoophole : List (Nat × Instr × Nat) := [(0, (.aload_n 0, 1)), (1, (.bipush 12, 2)), (3, (.iconst 1, 1)), (4, (.iload_n 1, 1)), (5, (.iload 4, 2)), (7, (.invokevirtual 40, 3)), (10, (.iconst 0, 1)), (11, (.istore 5, 2)), (13, (.iload 5, 2)), (15, (.bipush 12, 2)), (17, (.if_icmp .ge 49, 3)), (20, (.iconst 1, 1)), (21, (.iload 5, 2)), (23, (.ishl, 1)), (24, (.istore 6, 2)), (26, (.iload_n 2, 1)), (27, (.iload 6, 2)), (29, (.iand, 1)), (30, (.ifCond .eq 12, 3)), (33, (.aload_n 0, 1)), (34, (.iload 5, 2)), (36, (.invokevirtual 44, 3)), (39, (.ifCond .eq 19, 3)), (42, (.iload_n 3, 1)), (43, (.iload 6, 2)), (45, (.iand, 1)), (46, (.ifCond .eq 14, 3)), (49, (.aload_n 0, 1)), (50, (.iload 5, 2)), (52, (.invokevirtual 44, 3)), (55, (.ifCond .eq 5, 3)), (58, (.iconst 0, 1)), (59, (.ireturn, 1)), (60, (.iinc 5 1, 3)), (63, (.goto (-50), 3)), (66, (.iconst 1, 1)), (67, (.ireturn, 1))]
theorem dm_X1_isLoophole : ∀ q ∈ tb_X1_isLoophole, decode zX1_isLoophole.2.1 q.1 = .ok q.2 := by decide +kernel
def f_X1_isLoophole_42 (n : Nat) (j : Nat) (K13 : Int32 → Int32 → Int32 → qM → qR) (a2 a3 a5 a6 : Int32) (M : qM) : qR :=
  (if (a3 &&& a6) = (0 : Int32) then ql (a5 + (1 : Int32)) (fun x1 => K13 a2 a3 x1 M) else qc (f_X1_isAlike n j a5 M) (fun r2 m3 => (if r2 = (0 : Int32) then ql (a5 + (1 : Int32)) (fun x4 => K13 a2 a3 x4 m3) else some ((0 : Int32), m3))))
set_option maxRecDepth 4000 in
theorem w_X1_isLoophole_42 {g : qG} {k : qK} (n : Nat) (j r : Nat) (hj : q_isLaw j) (hr : q_isLaw r) (o : qOk g 3 zX1_isLoophole k) (K13 : Int32 → Int32 → Int32 → qM → qR) (hK13 : ∀ (a2 a3 a5 : Int32) (M : qM), qAE g k zX1_isLoophole (qL j r) 13 [some (.inr (some 34)), none, some (.inl a2), some (.inl a3), none, some (.inl a5), none] [] (qL j r, M) (K13 a2 a3 a5 M)) (a2 a3 a5 a6 : Int32) (M : qM) : qAE g k zX1_isLoophole (qL j r) 42 [some (.inr (some 34)), none, some (.inl a2), some (.inl a3), none, some (.inl a5), some (.inl a6)] [] (qL j r, M) (f_X1_isLoophole_42 n j K13 a2 a3 a5 a6 M) := by
  unfold f_X1_isLoophole_42
  refine qr_iload_n o (q_dm dm_X1_isLoophole 23 rfl) rfl ?_
  refine qr_iload o (q_dm dm_X1_isLoophole 24 rfl) rfl ?_
  refine qr_iand o (q_dm dm_X1_isLoophole 25 rfl) ?_
  refine qr_if_eq (tgt := 60) o (q_dm dm_X1_isLoophole 26 rfl) (by decide) ?_ ?_
  · refine qs_iincl2 (L' := fun x1 => [some (.inr (some 34)), none, some (.inl a2), some (.inl a3), none, some (.inl x1), some (.inl a6)]) o (q_dm dm_X1_isLoophole 33 rfl) rfl ic_1 (Nat.le_of_ble_eq_true rfl) (fun _ => rfl) (fun x1 => ?_)
    refine qr_goto (tgt := 13) o (q_dm dm_X1_isLoophole 34 rfl) (by decide) ?_
    exact qr_loc (q_leS (q_leN (q_leS (q_leS (q_leN (q_leS (q_leN q_le0))))))) (hK13 a2 a3 x1 M)
  · refine qr_aload_n o (q_dm dm_X1_isLoophole 27 rfl) rfl ?_
    refine qr_iload o (q_dm dm_X1_isLoophole 28 rfl) rfl ?_
    refine qr_callv_i (As := [.inl a5]) (S := []) o (a_X1_isAlike g k.2.1 n j r hj hr a5 M) (Nat.le_of_ble_eq_true rfl) zv_X1_isAlike rfl cf_X1 (sh34 j r) ml_X1_44 (Nat.le_of_ble_eq_true rfl) (q_dm dm_X1_isLoophole 29 rfl) (fun r2 m3 => ?_)
    refine qr_if_eq (tgt := 60) o (q_dm dm_X1_isLoophole 30 rfl) (by decide) ?_ ?_
    · refine qs_iincl2 (L' := fun x4 => [some (.inr (some 34)), none, some (.inl a2), some (.inl a3), none, some (.inl x4), some (.inl a6)]) o (q_dm dm_X1_isLoophole 33 rfl) rfl ic_1 (Nat.le_of_ble_eq_true rfl) (fun _ => rfl) (fun x4 => ?_)
      refine qr_goto (tgt := 13) o (q_dm dm_X1_isLoophole 34 rfl) (by decide) ?_
      exact qr_loc (q_leS (q_leN (q_leS (q_leS (q_leN (q_leS (q_leN q_le0))))))) (hK13 a2 a3 x4 m3)
    · refine qr_iconst o (q_dm dm_X1_isLoophole 31 rfl) ic_0 ?_
      exact qr_iret o rfl (by decide) (q_dm dm_X1_isLoophole 32 rfl)

def b_X1_isLoophole_13 (n : Nat) (j : Nat) (K13 : Int32 → Int32 → Int32 → qM → qR) (a2 a3 a5 : Int32) (M : qM) : qR :=
  (if (12 : Int32) ≤ a5 then some ((1 : Int32), M) else ql ((1 : Int32) <<< (a5 &&& 31)) (fun x1 => (if (a2 &&& x1) = (0 : Int32) then f_X1_isLoophole_42 n j K13 a2 a3 a5 x1 M else qc (f_X1_isAlike n j a5 M) (fun r2 m3 => (if r2 = (0 : Int32) then some ((0 : Int32), m3) else f_X1_isLoophole_42 n j K13 a2 a3 a5 x1 m3)))))
set_option maxRecDepth 4000 in
theorem wb_X1_isLoophole_13 {g : qG} {k : qK} (n : Nat) (j r : Nat) (hj : q_isLaw j) (hr : q_isLaw r) (o : qOk g 3 zX1_isLoophole k) (K13 : Int32 → Int32 → Int32 → qM → qR) (hK13 : ∀ (a2 a3 a5 : Int32) (M : qM), qAE g k zX1_isLoophole (qL j r) 13 [some (.inr (some 34)), none, some (.inl a2), some (.inl a3), none, some (.inl a5), none] [] (qL j r, M) (K13 a2 a3 a5 M)) (a2 a3 a5 : Int32) (M : qM) : qAE g k zX1_isLoophole (qL j r) 13 [some (.inr (some 34)), none, some (.inl a2), some (.inl a3), none, some (.inl a5), none] [] (qL j r, M) (b_X1_isLoophole_13 n j K13 a2 a3 a5 M) := by
  unfold b_X1_isLoophole_13
  refine qr_iload o (q_dm dm_X1_isLoophole 8 rfl) rfl ?_
  refine qr_bipush o (q_dm dm_X1_isLoophole 9 rfl) bi_12 ?_
  refine qr_icmp_ge (tgt := 66) o (q_dm dm_X1_isLoophole 10 rfl) (by decide) ?_ ?_
  · refine qr_iconst o (q_dm dm_X1_isLoophole 35 rfl) ic_1 ?_
    exact qr_iret o rfl (by decide) (q_dm dm_X1_isLoophole 36 rfl)
  · refine qr_iconst o (q_dm dm_X1_isLoophole 11 rfl) ic_1 ?_
    refine qr_iload o (q_dm dm_X1_isLoophole 12 rfl) rfl ?_
    refine qr_ishl o (q_dm dm_X1_isLoophole 13 rfl) ?_
    refine qr_lt (fun x1 => ?_)
    refine qs_istore (L' := [some (.inr (some 34)), none, some (.inl a2), some (.inl a3), none, some (.inl a5), some (.inl x1)]) o (q_dm dm_X1_isLoophole 14 rfl) (Nat.le_of_ble_eq_true rfl) rfl ?_
    refine qr_iload_n o (q_dm dm_X1_isLoophole 15 rfl) rfl ?_
    refine qr_iload o (q_dm dm_X1_isLoophole 16 rfl) rfl ?_
    refine qr_iand o (q_dm dm_X1_isLoophole 17 rfl) ?_
    refine qr_if_eq (tgt := 42) o (q_dm dm_X1_isLoophole 18 rfl) (by decide) ?_ ?_
    · exact qr_loc (q_leS (q_leN (q_leS (q_leS (q_leN (q_leS (q_leS q_le0))))))) (w_X1_isLoophole_42 n j r hj hr o K13 hK13 a2 a3 a5 x1 M)
    · refine qr_aload_n o (q_dm dm_X1_isLoophole 19 rfl) rfl ?_
      refine qr_iload o (q_dm dm_X1_isLoophole 20 rfl) rfl ?_
      refine qr_callv_i (As := [.inl a5]) (S := []) o (a_X1_isAlike g k.2.1 n j r hj hr a5 M) (Nat.le_of_ble_eq_true rfl) zv_X1_isAlike rfl cf_X1 (sh34 j r) ml_X1_44 (Nat.le_of_ble_eq_true rfl) (q_dm dm_X1_isLoophole 21 rfl) (fun r2 m3 => ?_)
      refine qr_if_eq (tgt := 58) o (q_dm dm_X1_isLoophole 22 rfl) (by decide) ?_ ?_
      · refine qr_iconst o (q_dm dm_X1_isLoophole 31 rfl) ic_0 ?_
        exact qr_iret o rfl (by decide) (q_dm dm_X1_isLoophole 32 rfl)
      · exact qr_loc (q_leS (q_leN (q_leS (q_leS (q_leN (q_leS (q_leS q_le0))))))) (w_X1_isLoophole_42 n j r hj hr o K13 hK13 a2 a3 a5 x1 m3)

def f_X1_isLoophole_13 (n : Nat) (j : Nat) : Nat → Int32 → Int32 → Int32 → qM → qR
  | 0, _, _, _, _ => none
  | m + 1, a2, a3, a5, M => b_X1_isLoophole_13 n j (f_X1_isLoophole_13 n j m) a2 a3 a5 M
theorem w_X1_isLoophole_13 {g : qG} {k : qK} (n : Nat) (j r : Nat) (hj : q_isLaw j) (hr : q_isLaw r) (o : qOk g 3 zX1_isLoophole k) : ∀ (m : Nat) (a2 a3 a5 : Int32) (M : qM), qAE g k zX1_isLoophole (qL j r) 13 [some (.inr (some 34)), none, some (.inl a2), some (.inl a3), none, some (.inl a5), none] [] (qL j r, M) (f_X1_isLoophole_13 n j m a2 a3 a5 M) := by
  intro m
  induction m with
  | zero =>
    intro a2 a3 a5 M
    exact qr_none
  | succ m ih =>
    intro a2 a3 a5 M
    exact wb_X1_isLoophole_13 n j r hj hr o (f_X1_isLoophole_13 n j m) ih a2 a3 a5 M
def f_X1_isLoophole (n : Nat) (j : Nat) (a1 a2 a3 a4 : Int32) (M : qM) : qR :=
  qc (f_X1_tellDeed n (12 : Int32) (1 : Int32) a1 a4 M) (fun _ m1 => f_X1_isLoophole_13 n j n a2 a3 (0 : Int32) m1)
set_option maxRecDepth 4000 in
theorem w_X1_isLoophole {g : qG} {k : qK} (n : Nat) (j r : Nat) (hj : q_isLaw j) (hr : q_isLaw r) (o : qOk g 3 zX1_isLoophole k) (a1 a2 a3 a4 : Int32) (M : qM) : qAE g k zX1_isLoophole (qL j r) 0 [some (.inr (some 34)), some (.inl a1), some (.inl a2), some (.inl a3), some (.inl a4), none, none] [] (qL j r, M) (f_X1_isLoophole n j a1 a2 a3 a4 M) := by
  unfold f_X1_isLoophole
  refine qr_aload_n o (q_dm dm_X1_isLoophole 0 rfl) rfl ?_
  refine qr_bipush o (q_dm dm_X1_isLoophole 1 rfl) bi_12 ?_
  refine qr_iconst o (q_dm dm_X1_isLoophole 2 rfl) ic_1 ?_
  refine qr_iload_n o (q_dm dm_X1_isLoophole 3 rfl) rfl ?_
  refine qr_iload o (q_dm dm_X1_isLoophole 4 rfl) rfl ?_
  refine qr_callv_v (As := [.inl (12 : Int32), .inl (1 : Int32), .inl a1, .inl a4]) (S := []) o (a_X1_tellDeed g k.2.1 n j r hj hr (12 : Int32) (1 : Int32) a1 a4 M) (Nat.le_of_ble_eq_true rfl) zv_X1_tellDeed rfl cf_X1 (sh34 j r) ml_X1_40 (Nat.le_of_ble_eq_true rfl) (q_dm dm_X1_isLoophole 5 rfl) (fun _ m1 => ?_)
  refine qr_iconst o (q_dm dm_X1_isLoophole 6 rfl) ic_0 ?_
  refine qs_istore (L' := [some (.inr (some 34)), some (.inl a1), some (.inl a2), some (.inl a3), some (.inl a4), some (.inl (0 : Int32)), none]) o (q_dm dm_X1_isLoophole 7 rfl) (Nat.le_of_ble_eq_true rfl) rfl ?_
  exact qr_loc (q_leS (q_leN (q_leS (q_leS (q_leN (q_leS (q_leN q_le0))))))) (w_X1_isLoophole_13 n j r hj hr o n a2 a3 (0 : Int32) m1)

theorem a_X1_isLoophole (g : qG) (l : Launch) (n : Nat) (j r : Nat) (hj : q_isLaw j) (hr : q_isLaw r) (a1 a2 a3 a4 : Int32) (M : qM) : qAM g l 3 zX1_isLoophole (qL j r) [.inr (some 34), .inl a1, .inl a2, .inl a3, .inl a4] (qL j r, M) (f_X1_isLoophole n j a1 a2 a3 a4 M) :=
  qAM.of zv_X1_isLoophole.1 (by show 5 ≤ 7; decide) (fun k hk o => w_X1_isLoophole n j r hj hr o a1 a2 a3 a4 M)
def tb_X11_loophole : List (Nat × Instr × Nat) := [(0, (.aload_n 0, 1)), (1, (.getfield 19, 3)), (4, (.iload_n 1, 1)), (5, (.invokevirtual 214, 3)), (8, (.ifCond .eq 29, 3)), (11, (.aload_n 0, 1)), (12, (.getfield 19, 3)), (15, (.iload_n 2, 1)), (16, (.invokevirtual 214, 3)), (19, (.ifCond .eq 18, 3)), (22, (.iload_n 1, 1)), (23, (.iload_n 2, 1)), (24, (.iand, 1)), (25, (.ifCond .ne 12, 3)), (28, (.iload_n 3, 1)), (29, (.ifCond .lt 8, 3)), (32, (.iload_n 3, 1)), (33, (.iconst 1, 1)), (34, (.if_icmp .le 5, 3)), (37, (.iconst (-1), 1)), (38, (.ireturn, 1)), (39, (.bipush (-2), 2)), (41, (.istore 4, 2)), (43, (.iconst 0, 1)), (44, (.istore 5, 2)), (46, (.iconst 0, 1)), (47, (.istore 6, 2)), (49, (.iload 6, 2)), (51, (.sipush 255, 3)), (54, (.if_icmp .gt 57, 3)), (57, (.aload_n 0, 1)), (58, (.getfield 41, 3)), (61, (.iload 6, 2)), (63, (.iload_n 1, 1)), (64, (.iload_n 2, 1)), (65, (.aload_n 0, 1)), (66, (.getfield 26, 3)), (69, (.getfield 184, 3)), (72, (.invokevirtual 217, 3)), (75, (.ifCond .eq 30, 3)), (78, (.iinc 5 1, 3)), (81, (.iload 4, 2)), (83, (.bipush (-2), 2)), (85, (.if_icmp .eq 16, 3)), (88, (.iload 6, 2)), (90, (.invokestatic 220, 3)), (93, (.iload 4, 2)), (95, (.invokestatic 220, 3)), (98, (.if_icmp .ge 7, 3)), (101, (.iload 6, 2)), (103, (.istore 4, 2)), (105, (.iinc 6 1, 3)), (108, (.goto (-59), 3)), (111, (.iload_n 3, 1)), (112, (.ifCond .ne 8, 3)), (115, (.iload 4, 2)), (117, (.goto 5, 3)), (120, (.iload 5, 2)), (122, (.ireturn, 1))]
theorem dm_X11_loophole : ∀ q ∈ tb_X11_loophole, decode zX11_loophole.2.1 q.1 = .ok q.2 := by decide +kernel
def f_X11_loophole_101 (n : Nat) (j : Nat) (K49 : Int32 → Int32 → Int32 → Int32 → Int32 → Int32 → qM → qR) (a1 a2 a3 a5 a6 : Int32) (M : qM) : qR :=
  ql (a6 + (1 : Int32)) (fun x1 => K49 a1 a2 a3 a6 a5 x1 M)
set_option maxRecDepth 4000 in
theorem w_X11_loophole_101 {g : qG} {k : qK} (n : Nat) (j r : Nat) (hj : q_isLaw j) (hr : q_isLaw r) (o : qOk g 4 zX11_loophole k) (K49 : Int32 → Int32 → Int32 → Int32 → Int32 → Int32 → qM → qR) (hK49 : ∀ (a1 a2 a3 a4 a5 a6 : Int32) (M : qM), qAE g k zX11_loophole (qL j r) 49 [some (.inr (some 0)), some (.inl a1), some (.inl a2), some (.inl a3), some (.inl a4), some (.inl a5), some (.inl a6)] [] (qL j r, M) (K49 a1 a2 a3 a4 a5 a6 M)) (a1 a2 a3 a5 a6 : Int32) (M : qM) : qAE g k zX11_loophole (qL j r) 101 [some (.inr (some 0)), some (.inl a1), some (.inl a2), some (.inl a3), none, some (.inl a5), some (.inl a6)] [] (qL j r, M) (f_X11_loophole_101 n j K49 a1 a2 a3 a5 a6 M) := by
  unfold f_X11_loophole_101
  refine qr_iload o (q_dm dm_X11_loophole 49 rfl) rfl ?_
  refine qs_istore (L' := [some (.inr (some 0)), some (.inl a1), some (.inl a2), some (.inl a3), some (.inl a6), some (.inl a5), some (.inl a6)]) o (q_dm dm_X11_loophole 50 rfl) (Nat.le_of_ble_eq_true rfl) rfl ?_
  refine qs_iincl2 (L' := fun x1 => [some (.inr (some 0)), some (.inl a1), some (.inl a2), some (.inl a3), some (.inl a6), some (.inl a5), some (.inl x1)]) o (q_dm dm_X11_loophole 51 rfl) rfl ic_1 (Nat.le_of_ble_eq_true rfl) (fun _ => rfl) (fun x1 => ?_)
  refine qr_goto (tgt := 49) o (q_dm dm_X11_loophole 52 rfl) (by decide) ?_
  exact qr_loc (q_leS (q_leS (q_leS (q_leS (q_leS (q_leS (q_leS q_le0))))))) (hK49 a1 a2 a3 a6 a5 x1 M)

def b_X11_loophole_49 (n : Nat) (j : Nat) (K49 : Int32 → Int32 → Int32 → Int32 → Int32 → Int32 → qM → qR) (a1 a2 a3 a4 a5 a6 : Int32) (M : qM) : qR :=
  (if (255 : Int32) < a6 then (if a3 = (0 : Int32) then some (a4, M) else some (a5, M)) else qc (f_X1_isLoophole n j a6 a1 a2 (M 7 9) M) (fun r1 m2 => (if r1 = (0 : Int32) then ql (a6 + (1 : Int32)) (fun x3 => K49 a1 a2 a3 a4 a5 x3 m2) else ql (a5 + (1 : Int32)) (fun x4 => (if a4 = (-2 : Int32) then f_X11_loophole_101 n j K49 a1 a2 a3 x4 a6 m2 else qc (f_J6_bitCount_0f7a4 n a6 m2) (fun r5 m6 => qc (f_J6_bitCount_0f7a4 n a4 m6) (fun r7 m8 => (if r7 ≤ r5 then ql (a6 + (1 : Int32)) (fun x9 => K49 a1 a2 a3 a4 x4 x9 m8) else f_X11_loophole_101 n j K49 a1 a2 a3 x4 a6 m8))))))))
set_option maxRecDepth 4000 in
theorem wb_X11_loophole_49 {g : qG} {k : qK} (n : Nat) (j r : Nat) (hj : q_isLaw j) (hr : q_isLaw r) (o : qOk g 4 zX11_loophole k) (K49 : Int32 → Int32 → Int32 → Int32 → Int32 → Int32 → qM → qR) (hK49 : ∀ (a1 a2 a3 a4 a5 a6 : Int32) (M : qM), qAE g k zX11_loophole (qL j r) 49 [some (.inr (some 0)), some (.inl a1), some (.inl a2), some (.inl a3), some (.inl a4), some (.inl a5), some (.inl a6)] [] (qL j r, M) (K49 a1 a2 a3 a4 a5 a6 M)) (a1 a2 a3 a4 a5 a6 : Int32) (M : qM) : qAE g k zX11_loophole (qL j r) 49 [some (.inr (some 0)), some (.inl a1), some (.inl a2), some (.inl a3), some (.inl a4), some (.inl a5), some (.inl a6)] [] (qL j r, M) (b_X11_loophole_49 n j K49 a1 a2 a3 a4 a5 a6 M) := by
  unfold b_X11_loophole_49
  refine qr_iload o (q_dm dm_X11_loophole 27 rfl) rfl ?_
  refine qr_sipush o (q_dm dm_X11_loophole 28 rfl) si_255 ?_
  refine qr_icmp_gt (tgt := 111) o (q_dm dm_X11_loophole 29 rfl) (by decide) ?_ ?_
  · refine qr_iload_n o (q_dm dm_X11_loophole 53 rfl) rfl ?_
    refine qr_if_ne (tgt := 120) o (q_dm dm_X11_loophole 54 rfl) (by decide) ?_ ?_
    · refine qr_iload o (q_dm dm_X11_loophole 57 rfl) rfl ?_
      exact qr_iret o rfl rfl (q_dm dm_X11_loophole 58 rfl)
    · refine qr_iload o (q_dm dm_X11_loophole 55 rfl) rfl ?_
      refine qr_goto (tgt := 122) o (q_dm dm_X11_loophole 56 rfl) (by decide) ?_
      exact qr_iret o rfl rfl (q_dm dm_X11_loophole 58 rfl)
  · refine qr_aload_n o (q_dm dm_X11_loophole 30 rfl) rfl ?_
    refine qr_getr (kf := 5) o cf_X11 (sh0 j r) rfl (Nat.le_of_ble_eq_true rfl) fl_X11_41 (q_dm dm_X11_loophole 31 rfl) ?_
    refine qr_iload o (q_dm dm_X11_loophole 32 rfl) rfl ?_
    refine qr_iload_n o (q_dm dm_X11_loophole 33 rfl) rfl ?_
    refine qr_iload_n o (q_dm dm_X11_loophole 34 rfl) rfl ?_
    refine qr_aload_n o (q_dm dm_X11_loophole 35 rfl) rfl ?_
    refine qr_getr (kf := 2) o cf_X11 (sh0 j r) rfl (Nat.le_of_ble_eq_true rfl) fl_X11_26 (q_dm dm_X11_loophole 36 rfl) ?_
    refine qr_getf (kf := 9) o cf_X10 (sh7 j r) rfl (Nat.le_of_ble_eq_true rfl) fl_X11_184 (q_dm dm_X11_loophole 37 rfl) ?_
    refine qr_callv_i (As := [.inl a6, .inl a1, .inl a2, .inl (M 7 9)]) (S := []) o (a_X1_isLoophole g k.2.1 n j r hj hr a6 a1 a2 (M 7 9) M) (Nat.le_of_ble_eq_true rfl) zv_X1_isLoophole rfl cf_X1 (sh34 j r) ml_X11_217 (Nat.le_of_ble_eq_true rfl) (q_dm dm_X11_loophole 38 rfl) (fun r1 m2 => ?_)
    refine qr_if_eq (tgt := 105) o (q_dm dm_X11_loophole 39 rfl) (by decide) ?_ ?_
    · refine qs_iincl2 (L' := fun x3 => [some (.inr (some 0)), some (.inl a1), some (.inl a2), some (.inl a3), some (.inl a4), some (.inl a5), some (.inl x3)]) o (q_dm dm_X11_loophole 51 rfl) rfl ic_1 (Nat.le_of_ble_eq_true rfl) (fun _ => rfl) (fun x3 => ?_)
      refine qr_goto (tgt := 49) o (q_dm dm_X11_loophole 52 rfl) (by decide) ?_
      exact qr_loc (q_leS (q_leS (q_leS (q_leS (q_leS (q_leS (q_leS q_le0))))))) (hK49 a1 a2 a3 a4 a5 x3 m2)
    · refine qs_iincl2 (L' := fun x4 => [some (.inr (some 0)), some (.inl a1), some (.inl a2), some (.inl a3), some (.inl a4), some (.inl x4), some (.inl a6)]) o (q_dm dm_X11_loophole 40 rfl) rfl ic_1 (Nat.le_of_ble_eq_true rfl) (fun _ => rfl) (fun x4 => ?_)
      refine qr_iload o (q_dm dm_X11_loophole 41 rfl) rfl ?_
      refine qr_bipush o (q_dm dm_X11_loophole 42 rfl) bi_m2 ?_
      refine qr_icmp_eq (tgt := 101) o (q_dm dm_X11_loophole 43 rfl) (by decide) ?_ ?_
      · exact qr_loc (q_leS (q_leS (q_leS (q_leS (q_leN (q_leS (q_leS q_le0))))))) (w_X11_loophole_101 n j r hj hr o K49 hK49 a1 a2 a3 x4 a6 m2)
      · refine qr_iload o (q_dm dm_X11_loophole 44 rfl) rfl ?_
        refine qr_calls_i (As := [.inl a6]) (S := []) o (a_J6_bitCount_0f7a4 g k.2.1 n j r hj hr a6 m2) (Nat.le_of_ble_eq_true rfl) zs_J6_bitCount_0f7a4 rfl ml_X11_220 (Nat.le_of_ble_eq_true rfl) (q_dm dm_X11_loophole 45 rfl) (fun r5 m6 => ?_)
        refine qr_iload o (q_dm dm_X11_loophole 46 rfl) rfl ?_
        refine qr_calls_i (As := [.inl a4]) (S := [.inl r5]) o (a_J6_bitCount_0f7a4 g k.2.1 n j r hj hr a4 m6) (Nat.le_of_ble_eq_true rfl) zs_J6_bitCount_0f7a4 rfl ml_X11_220 (Nat.le_of_ble_eq_true rfl) (q_dm dm_X11_loophole 47 rfl) (fun r7 m8 => ?_)
        refine qr_icmp_ge (tgt := 105) o (q_dm dm_X11_loophole 48 rfl) (by decide) ?_ ?_
        · refine qs_iincl2 (L' := fun x9 => [some (.inr (some 0)), some (.inl a1), some (.inl a2), some (.inl a3), some (.inl a4), some (.inl x4), some (.inl x9)]) o (q_dm dm_X11_loophole 51 rfl) rfl ic_1 (Nat.le_of_ble_eq_true rfl) (fun _ => rfl) (fun x9 => ?_)
          refine qr_goto (tgt := 49) o (q_dm dm_X11_loophole 52 rfl) (by decide) ?_
          exact qr_loc (q_leS (q_leS (q_leS (q_leS (q_leS (q_leS (q_leS q_le0))))))) (hK49 a1 a2 a3 a4 x4 x9 m8)
        · exact qr_loc (q_leS (q_leS (q_leS (q_leS (q_leN (q_leS (q_leS q_le0))))))) (w_X11_loophole_101 n j r hj hr o K49 hK49 a1 a2 a3 x4 a6 m8)

def f_X11_loophole_49 (n : Nat) (j : Nat) : Nat → Int32 → Int32 → Int32 → Int32 → Int32 → Int32 → qM → qR
  | 0, _, _, _, _, _, _, _ => none
  | m + 1, a1, a2, a3, a4, a5, a6, M => b_X11_loophole_49 n j (f_X11_loophole_49 n j m) a1 a2 a3 a4 a5 a6 M
theorem w_X11_loophole_49 {g : qG} {k : qK} (n : Nat) (j r : Nat) (hj : q_isLaw j) (hr : q_isLaw r) (o : qOk g 4 zX11_loophole k) : ∀ (m : Nat) (a1 a2 a3 a4 a5 a6 : Int32) (M : qM), qAE g k zX11_loophole (qL j r) 49 [some (.inr (some 0)), some (.inl a1), some (.inl a2), some (.inl a3), some (.inl a4), some (.inl a5), some (.inl a6)] [] (qL j r, M) (f_X11_loophole_49 n j m a1 a2 a3 a4 a5 a6 M) := by
  intro m
  induction m with
  | zero =>
    intro a1 a2 a3 a4 a5 a6 M
    exact qr_none
  | succ m ih =>
    intro a1 a2 a3 a4 a5 a6 M
    exact wb_X11_loophole_49 n j r hj hr o (f_X11_loophole_49 n j m) ih a1 a2 a3 a4 a5 a6 M
def f_X11_loophole (n : Nat) (j : Nat) (a1 a2 a3 : Int32) (M : qM) : qR :=
  qc (f_X2_knowsAll n a1 M) (fun r1 m2 => (if r1 = (0 : Int32) then some ((-1 : Int32), m2) else qc (f_X2_knowsAll n a2 m2) (fun r3 m4 => (if r3 = (0 : Int32) then some ((-1 : Int32), m4) else (if (a1 &&& a2) = (0 : Int32) then (if a3 < (0 : Int32) then some ((-1 : Int32), m4) else (if a3 ≤ (1 : Int32) then f_X11_loophole_49 n j n a1 a2 a3 (-2 : Int32) (0 : Int32) (0 : Int32) m4 else some ((-1 : Int32), m4))) else some ((-1 : Int32), m4))))))
set_option maxRecDepth 4000 in
theorem w_X11_loophole {g : qG} {k : qK} (n : Nat) (j r : Nat) (hj : q_isLaw j) (hr : q_isLaw r) (o : qOk g 4 zX11_loophole k) (a1 a2 a3 : Int32) (M : qM) : qAE g k zX11_loophole (qL j r) 0 [some (.inr (some 0)), some (.inl a1), some (.inl a2), some (.inl a3), none, none, none] [] (qL j r, M) (f_X11_loophole n j a1 a2 a3 M) := by
  unfold f_X11_loophole
  refine qr_aload_n o (q_dm dm_X11_loophole 0 rfl) rfl ?_
  refine qr_getr (kf := 1) o cf_X11 (sh0 j r) rfl (Nat.le_of_ble_eq_true rfl) fl_X11_19 (q_dm dm_X11_loophole 1 rfl) ?_
  refine qr_iload_n o (q_dm dm_X11_loophole 2 rfl) rfl ?_
  refine qr_callv_i (As := [.inl a1]) (S := []) o (a_X2_knowsAll g k.2.1 n j r hj hr a1 M) (Nat.le_of_ble_eq_true rfl) zv_X2_knowsAll rfl cf_X2 (sh3 j r) ml_X11_214 (Nat.le_of_ble_eq_true rfl) (q_dm dm_X11_loophole 3 rfl) (fun r1 m2 => ?_)
  refine qr_if_eq (tgt := 37) o (q_dm dm_X11_loophole 4 rfl) (by decide) ?_ ?_
  · refine qr_iconst o (q_dm dm_X11_loophole 19 rfl) ic_m1 ?_
    exact qr_iret o rfl rfl (q_dm dm_X11_loophole 20 rfl)
  · refine qr_aload_n o (q_dm dm_X11_loophole 5 rfl) rfl ?_
    refine qr_getr (kf := 1) o cf_X11 (sh0 j r) rfl (Nat.le_of_ble_eq_true rfl) fl_X11_19 (q_dm dm_X11_loophole 6 rfl) ?_
    refine qr_iload_n o (q_dm dm_X11_loophole 7 rfl) rfl ?_
    refine qr_callv_i (As := [.inl a2]) (S := []) o (a_X2_knowsAll g k.2.1 n j r hj hr a2 m2) (Nat.le_of_ble_eq_true rfl) zv_X2_knowsAll rfl cf_X2 (sh3 j r) ml_X11_214 (Nat.le_of_ble_eq_true rfl) (q_dm dm_X11_loophole 8 rfl) (fun r3 m4 => ?_)
    refine qr_if_eq (tgt := 37) o (q_dm dm_X11_loophole 9 rfl) (by decide) ?_ ?_
    · refine qr_iconst o (q_dm dm_X11_loophole 19 rfl) ic_m1 ?_
      exact qr_iret o rfl rfl (q_dm dm_X11_loophole 20 rfl)
    · refine qr_iload_n o (q_dm dm_X11_loophole 10 rfl) rfl ?_
      refine qr_iload_n o (q_dm dm_X11_loophole 11 rfl) rfl ?_
      refine qr_iand o (q_dm dm_X11_loophole 12 rfl) ?_
      refine qr_if_ne (tgt := 37) o (q_dm dm_X11_loophole 13 rfl) (by decide) ?_ ?_
      · refine qr_iconst o (q_dm dm_X11_loophole 19 rfl) ic_m1 ?_
        exact qr_iret o rfl rfl (q_dm dm_X11_loophole 20 rfl)
      · refine qr_iload_n o (q_dm dm_X11_loophole 14 rfl) rfl ?_
        refine qr_if_lt (tgt := 37) o (q_dm dm_X11_loophole 15 rfl) (by decide) ?_ ?_
        · refine qr_iconst o (q_dm dm_X11_loophole 19 rfl) ic_m1 ?_
          exact qr_iret o rfl rfl (q_dm dm_X11_loophole 20 rfl)
        · refine qr_iload_n o (q_dm dm_X11_loophole 16 rfl) rfl ?_
          refine qr_iconst o (q_dm dm_X11_loophole 17 rfl) ic_1 ?_
          refine qr_icmp_le (tgt := 39) o (q_dm dm_X11_loophole 18 rfl) (by decide) ?_ ?_
          · refine qr_bipush o (q_dm dm_X11_loophole 21 rfl) bi_m2 ?_
            refine qs_istore (L' := [some (.inr (some 0)), some (.inl a1), some (.inl a2), some (.inl a3), some (.inl (-2 : Int32)), none, none]) o (q_dm dm_X11_loophole 22 rfl) (Nat.le_of_ble_eq_true rfl) rfl ?_
            refine qr_iconst o (q_dm dm_X11_loophole 23 rfl) ic_0 ?_
            refine qs_istore (L' := [some (.inr (some 0)), some (.inl a1), some (.inl a2), some (.inl a3), some (.inl (-2 : Int32)), some (.inl (0 : Int32)), none]) o (q_dm dm_X11_loophole 24 rfl) (Nat.le_of_ble_eq_true rfl) rfl ?_
            refine qr_iconst o (q_dm dm_X11_loophole 25 rfl) ic_0 ?_
            refine qs_istore (L' := [some (.inr (some 0)), some (.inl a1), some (.inl a2), some (.inl a3), some (.inl (-2 : Int32)), some (.inl (0 : Int32)), some (.inl (0 : Int32))]) o (q_dm dm_X11_loophole 26 rfl) (Nat.le_of_ble_eq_true rfl) rfl ?_
            exact qr_loc (q_leS (q_leS (q_leS (q_leS (q_leS (q_leS (q_leS q_le0))))))) (w_X11_loophole_49 n j r hj hr o n a1 a2 a3 (-2 : Int32) (0 : Int32) (0 : Int32) m4)
          · refine qr_iconst o (q_dm dm_X11_loophole 19 rfl) ic_m1 ?_
            exact qr_iret o rfl rfl (q_dm dm_X11_loophole 20 rfl)

theorem a_X11_loophole (g : qG) (l : Launch) (n : Nat) (j r : Nat) (hj : q_isLaw j) (hr : q_isLaw r) (a1 a2 a3 : Int32) (M : qM) : qAM g l 4 zX11_loophole (qL j r) [.inr (some 0), .inl a1, .inl a2, .inl a3] (qL j r, M) (f_X11_loophole n j a1 a2 a3 M) :=
  qAM.of zv_X11_loophole.1 (by show 4 ≤ 7; decide) (fun k hk o => w_X11_loophole n j r hj hr o a1 a2 a3 M)
def tb_X11_person : List (Nat × Instr × Nat) := [(0, (.iload_n 1, 1)), (1, (.ifCond .lt 19, 3)), (4, (.iload_n 1, 1)), (5, (.bipush 8, 2)), (7, (.if_icmp .ge 13, 3)), (10, (.iload_n 2, 1)), (11, (.ifCond .lt 9, 3)), (14, (.iload_n 2, 1)), (15, (.ldc 103, 2)), (17, (.if_icmp .le 5, 3)), (20, (.iconst 0, 1)), (21, (.ireturn, 1)), (22, (.aload_n 0, 1)), (23, (.getfield 26, 3)), (26, (.dup, 1)), (27, (.getfield 104, 3)), (30, (.iconst 1, 1)), (31, (.iload_n 1, 1)), (32, (.ishl, 1)), (33, (.ior, 1)), (34, (.putfield 104, 3)), (37, (.aload_n 0, 1)), (38, (.getfield 26, 3)), (41, (.getfield 108, 3)), (44, (.iload_n 1, 1)), (45, (.iload_n 2, 1)), (46, (.iastore, 1)), (47, (.iconst 1, 1)), (48, (.ireturn, 1))]
theorem dm_X11_person : ∀ q ∈ tb_X11_person, decode zX11_person.2.1 q.1 = .ok q.2 := by decide +kernel
def f_X11_person (n : Nat) (a1 a2 : Int32) (M : qM) : qR :=
  (if a1 < (0 : Int32) then some ((0 : Int32), M) else (if (8 : Int32) ≤ a1 then some ((0 : Int32), M) else (if a2 < (0 : Int32) then some ((0 : Int32), M) else (if a2 ≤ (99999 : Int32) then qlm (mu M 7 8 ((M 7 8) ||| ((1 : Int32) <<< (a1 &&& 31)))) (fun m1 => qg a1 8 (qlm (mu m1 8 a1.toNatClampNeg a2) (fun m2 => some ((1 : Int32), m2)))) else some ((0 : Int32), M)))))
set_option maxRecDepth 4000 in
theorem w_X11_person {g : qG} {k : qK} (n : Nat) (j r : Nat) (hj : q_isLaw j) (hr : q_isLaw r) (o : qOk g 0 zX11_person k) (a1 a2 : Int32) (M : qM) : qAE g k zX11_person (qL j r) 0 [some (.inr (some 0)), some (.inl a1), some (.inl a2)] [] (qL j r, M) (f_X11_person n a1 a2 M) := by
  unfold f_X11_person
  refine qr_iload_n o (q_dm dm_X11_person 0 rfl) rfl ?_
  refine qr_if_lt (tgt := 20) o (q_dm dm_X11_person 1 rfl) (by decide) ?_ ?_
  · refine qr_iconst o (q_dm dm_X11_person 10 rfl) ic_0 ?_
    exact qr_iret o rfl (by decide) (q_dm dm_X11_person 11 rfl)
  · refine qr_iload_n o (q_dm dm_X11_person 2 rfl) rfl ?_
    refine qr_bipush o (q_dm dm_X11_person 3 rfl) bi_8 ?_
    refine qr_icmp_ge (tgt := 20) o (q_dm dm_X11_person 4 rfl) (by decide) ?_ ?_
    · refine qr_iconst o (q_dm dm_X11_person 10 rfl) ic_0 ?_
      exact qr_iret o rfl (by decide) (q_dm dm_X11_person 11 rfl)
    · refine qr_iload_n o (q_dm dm_X11_person 5 rfl) rfl ?_
      refine qr_if_lt (tgt := 20) o (q_dm dm_X11_person 6 rfl) (by decide) ?_ ?_
      · refine qr_iconst o (q_dm dm_X11_person 10 rfl) ic_0 ?_
        exact qr_iret o rfl (by decide) (q_dm dm_X11_person 11 rfl)
      · refine qr_iload_n o (q_dm dm_X11_person 7 rfl) rfl ?_
        refine qr_ldc o (q_dm dm_X11_person 8 rfl) kc_X11_103 ?_
        refine qr_icmp_le (tgt := 22) o (q_dm dm_X11_person 9 rfl) (by decide) ?_ ?_
        · refine qr_aload_n o (q_dm dm_X11_person 12 rfl) rfl ?_
          refine qr_getr (kf := 2) o cf_X11 (sh0 j r) rfl (Nat.le_of_ble_eq_true rfl) fl_X11_26 (q_dm dm_X11_person 13 rfl) ?_
          refine qr_dup o (q_dm dm_X11_person 14 rfl) ?_
          refine qr_getf (kf := 8) o cf_X10 (sh7 j r) rfl (Nat.le_of_ble_eq_true rfl) fl_X11_104 (q_dm dm_X11_person 15 rfl) ?_
          refine qr_iconst o (q_dm dm_X11_person 16 rfl) ic_1 ?_
          refine qr_iload_n o (q_dm dm_X11_person 17 rfl) rfl ?_
          refine qr_ishl o (q_dm dm_X11_person 18 rfl) ?_
          refine qr_ior o (q_dm dm_X11_person 19 rfl) ?_
          refine qr_putf (kf := 8) o cf_X10 (sh7 j r) rfl (Nat.le_of_ble_eq_true rfl) fl_X11_104 rfl (by decide +kernel) (q_dm dm_X11_person 20 rfl) ?_
          refine qr_letm (fun m1 => ?_)
          refine qr_aload_n o (q_dm dm_X11_person 21 rfl) rfl ?_
          refine qr_getr (kf := 2) o cf_X11 (sh0 j r) rfl (Nat.le_of_ble_eq_true rfl) fl_X11_26 (q_dm dm_X11_person 22 rfl) ?_
          refine qr_getr (kf := 0) o cf_X10 (sh7 j r) rfl (Nat.le_of_ble_eq_true rfl) fl_X11_108 (q_dm dm_X11_person 23 rfl) ?_
          refine qr_iload_n o (q_dm dm_X11_person 24 rfl) rfl ?_
          refine qr_iload_n o (q_dm dm_X11_person 25 rfl) rfl ?_
          refine qr_iast o (sh8 j r) (q_dm dm_X11_person 26 rfl) ?_
          refine qr_letm (fun m2 => ?_)
          refine qr_iconst o (q_dm dm_X11_person 27 rfl) ic_1 ?_
          exact qr_iret o rfl (by decide) (q_dm dm_X11_person 28 rfl)
        · refine qr_iconst o (q_dm dm_X11_person 10 rfl) ic_0 ?_
          exact qr_iret o rfl (by decide) (q_dm dm_X11_person 11 rfl)

theorem a_X11_person (g : qG) (l : Launch) (n : Nat) (j r : Nat) (hj : q_isLaw j) (hr : q_isLaw r) (a1 a2 : Int32) (M : qM) : qAM g l 0 zX11_person (qL j r) [.inr (some 0), .inl a1, .inl a2] (qL j r, M) (f_X11_person n a1 a2 M) :=
  qAM.of zv_X11_person.1 (by show 3 ≤ 3; decide) (fun k hk o => w_X11_person n j r hj hr o a1 a2 M)
def tb_X6_addStep : List (Nat × Instr × Nat) := [(0, (.aload_n 0, 1)), (1, (.getfield 28, 3)), (4, (.bipush 40, 2)), (6, (.if_icmp .lt 5, 3)), (9, (.iconst 0, 1)), (10, (.ireturn, 1)), (11, (.aload_n 0, 1)), (12, (.getfield 9, 3)), (15, (.aload_n 0, 1)), (16, (.getfield 28, 3)), (19, (.iload_n 1, 1)), (20, (.iastore, 1)), (21, (.aload_n 0, 1)), (22, (.getfield 15, 3)), (25, (.aload_n 0, 1)), (26, (.getfield 28, 3)), (29, (.iload_n 2, 1)), (30, (.iastore, 1)), (31, (.aload_n 0, 1)), (32, (.dup, 1)), (33, (.getfield 28, 3)), (36, (.iconst 1, 1)), (37, (.iadd, 1)), (38, (.putfield 28, 3)), (41, (.iconst 1, 1)), (42, (.ireturn, 1))]
theorem dm_X6_addStep : ∀ q ∈ tb_X6_addStep, decode zX6_addStep.2.1 q.1 = .ok q.2 := by decide +kernel
def f_X6_addStep (n : Nat) (a1 a2 : Int32) (M : qM) : qR :=
  (if (M 53 3) < (40 : Int32) then qg (M 53 3) 40 (qlm (mu M 54 (M 53 3).toNatClampNeg a1) (fun m1 => qg (m1 53 3) 40 (qlm (mu m1 55 (m1 53 3).toNatClampNeg a2) (fun m2 => qlm (mu m2 53 3 ((m2 53 3) + (1 : Int32))) (fun m3 => some ((1 : Int32), m3)))))) else some ((0 : Int32), M))
set_option maxRecDepth 4000 in
theorem w_X6_addStep {g : qG} {k : qK} (n : Nat) (j r : Nat) (hj : q_isLaw j) (hr : q_isLaw r) (o : qOk g 0 zX6_addStep k) (a1 a2 : Int32) (M : qM) : qAE g k zX6_addStep (qL j r) 0 [some (.inr (some 53)), some (.inl a1), some (.inl a2)] [] (qL j r, M) (f_X6_addStep n a1 a2 M) := by
  unfold f_X6_addStep
  refine qr_aload_n o (q_dm dm_X6_addStep 0 rfl) rfl ?_
  refine qr_getf (kf := 3) o cf_X6 (sh53 j r) rfl (Nat.le_of_ble_eq_true rfl) fl_X6_28 (q_dm dm_X6_addStep 1 rfl) ?_
  refine qr_bipush o (q_dm dm_X6_addStep 2 rfl) bi_40 ?_
  refine qr_icmp_lt (tgt := 11) o (q_dm dm_X6_addStep 3 rfl) (by decide) ?_ ?_
  · refine qr_aload_n o (q_dm dm_X6_addStep 6 rfl) rfl ?_
    refine qr_getr (kf := 1) o cf_X6 (sh53 j r) rfl (Nat.le_of_ble_eq_true rfl) fl_X6_9 (q_dm dm_X6_addStep 7 rfl) ?_
    refine qr_aload_n o (q_dm dm_X6_addStep 8 rfl) rfl ?_
    refine qr_getf (kf := 3) o cf_X6 (sh53 j r) rfl (Nat.le_of_ble_eq_true rfl) fl_X6_28 (q_dm dm_X6_addStep 9 rfl) ?_
    refine qr_iload_n o (q_dm dm_X6_addStep 10 rfl) rfl ?_
    refine qr_iast o (sh54 j r) (q_dm dm_X6_addStep 11 rfl) ?_
    refine qr_letm (fun m1 => ?_)
    refine qr_aload_n o (q_dm dm_X6_addStep 12 rfl) rfl ?_
    refine qr_getr (kf := 2) o cf_X6 (sh53 j r) rfl (Nat.le_of_ble_eq_true rfl) fl_X6_15 (q_dm dm_X6_addStep 13 rfl) ?_
    refine qr_aload_n o (q_dm dm_X6_addStep 14 rfl) rfl ?_
    refine qr_getf (kf := 3) o cf_X6 (sh53 j r) rfl (Nat.le_of_ble_eq_true rfl) fl_X6_28 (q_dm dm_X6_addStep 15 rfl) ?_
    refine qr_iload_n o (q_dm dm_X6_addStep 16 rfl) rfl ?_
    refine qr_iast o (sh55 j r) (q_dm dm_X6_addStep 17 rfl) ?_
    refine qr_letm (fun m2 => ?_)
    refine qr_aload_n o (q_dm dm_X6_addStep 18 rfl) rfl ?_
    refine qr_dup o (q_dm dm_X6_addStep 19 rfl) ?_
    refine qr_getf (kf := 3) o cf_X6 (sh53 j r) rfl (Nat.le_of_ble_eq_true rfl) fl_X6_28 (q_dm dm_X6_addStep 20 rfl) ?_
    refine qr_iconst o (q_dm dm_X6_addStep 21 rfl) ic_1 ?_
    refine qr_iadd o (q_dm dm_X6_addStep 22 rfl) ?_
    refine qr_putf (kf := 3) o cf_X6 (sh53 j r) rfl (Nat.le_of_ble_eq_true rfl) fl_X6_28 rfl (by decide +kernel) (q_dm dm_X6_addStep 23 rfl) ?_
    refine qr_letm (fun m3 => ?_)
    refine qr_iconst o (q_dm dm_X6_addStep 24 rfl) ic_1 ?_
    exact qr_iret o rfl (by decide) (q_dm dm_X6_addStep 25 rfl)
  · refine qr_iconst o (q_dm dm_X6_addStep 4 rfl) ic_0 ?_
    exact qr_iret o rfl (by decide) (q_dm dm_X6_addStep 5 rfl)

theorem a_X6_addStep (g : qG) (l : Launch) (n : Nat) (j r : Nat) (hj : q_isLaw j) (hr : q_isLaw r) (a1 a2 : Int32) (M : qM) : qAM g l 0 zX6_addStep (qL j r) [.inr (some 53), .inl a1, .inl a2] (qL j r, M) (f_X6_addStep n a1 a2 M) :=
  qAM.of zv_X6_addStep.1 (by show 3 ≤ 3; decide) (fun k hk o => w_X6_addStep n j r hj hr o a1 a2 M)

def tb_X6_readTry : List (Nat × Instr × Nat) := [(0, (.aload_n 0, 1)), (1, (.getfield 18, 3)), (4, (.getfield 56, 3)), (7, (.istore_n 1, 1)), (8, (.aload_n 0, 1)), (9, (.getfield 18, 3)), (12, (.invokevirtual 66, 3)), (15, (.istore_n 2, 1)), (16, (.iload_n 2, 1)), (17, (.iconst (-1), 1)), (18, (.if_icmp .ne 13, 3)), (21, (.aload_n 0, 1)), (22, (.getfield 18, 3)), (25, (.iconst 1, 1)), (26, (.iload_n 1, 1)), (27, (.invokevirtual 59, 3)), (30, (.ireturn, 1)), (31, (.aload_n 0, 1)), (32, (.getfield 18, 3)), (35, (.dup, 1)), (36, (.getfield 56, 3)), (39, (.iconst 1, 1)), (40, (.iadd, 1)), (41, (.putfield 56, 3)), (44, (.aload_n 0, 1)), (45, (.getfield 18, 3)), (48, (.invokevirtual 66, 3)), (51, (.iconst (-1), 1)), (52, (.if_icmp .eq 29, 3)), (55, (.bipush 10, 2)), (57, (.iload_n 2, 1)), (58, (.imul, 1)), (59, (.aload_n 0, 1)), (60, (.getfield 18, 3)), (63, (.invokevirtual 66, 3)), (66, (.iadd, 1)), (67, (.istore_n 2, 1)), (68, (.aload_n 0, 1)), (69, (.getfield 18, 3)), (72, (.dup, 1)), (73, (.getfield 56, 3)), (76, (.iconst 1, 1)), (77, (.iadd, 1)), (78, (.putfield 56, 3)), (81, (.iload_n 2, 1)), (82, (.bipush 12, 2)), (84, (.if_icmp .lt 13, 3)), (87, (.aload_n 0, 1)), (88, (.getfield 18, 3)), (91, (.iconst 3, 1)), (92, (.iload_n 1, 1)), (93, (.invokevirtual 59, 3)), (96, (.ireturn, 1)), (97, (.bipush 8, 2)), (99, (.istore_n 3, 1)), (100, (.aload_n 0, 1)), (101, (.getfield 18, 3)), (104, (.bipush 38, 2)), (106, (.invokevirtual 46, 3)), (109, (.ifCond .eq 60, 3)), (112, (.aload_n 0, 1)), (113, (.getfield 18, 3)), (116, (.invokevirtual 66, 3)), (119, (.istore_n 3, 1)), (120, (.iload_n 3, 1)), (121, (.iconst (-1), 1)), (122, (.if_icmp .eq 9, 3)), (125, (.iload_n 3, 1)), (126, (.bipush 8, 2)), (128, (.if_icmp .lt 28, 3)), (131, (.aload_n 0, 1)), (132, (.getfield 18, 3)), (135, (.iload_n 3, 1)), (136, (.iconst (-1), 1)), (137, (.if_icmp .ne 7, 3)), (140, (.iconst 1, 1)), (141, (.goto 4, 3)), (144, (.iconst 3, 1)), (145, (.aload_n 0, 1)), (146, (.getfield 18, 3)), (149, (.getfield 56, 3)), (152, (.invokevirtual 59, 3)), (155, (.ireturn, 1)), (156, (.aload_n 0, 1)), (157, (.getfield 18, 3)), (160, (.dup, 1)), (161, (.getfield 56, 3)), (164, (.iconst 1, 1)), (165, (.iadd, 1)), (166, (.putfield 56, 3)), (169, (.aload_n 0, 1)), (170, (.iload_n 2, 1)), (171, (.iload_n 3, 1)), (172, (.invokevirtual 72, 3)), (175, (.ifCond .ne 16, 3)), (178, (.aload_n 0, 1)), (179, (.getfield 18, 3)), (182, (.bipush 6, 2)), (184, (.iload_n 1, 1)), (185, (.invokevirtual 59, 3)), (188, (.ifCond .eq 7, 3)), (191, (.iconst 1, 1)), (192, (.goto 4, 3)), (195, (.iconst 0, 1)), (196, (.ireturn, 1))]
theorem dm_X6_readTry : ∀ q ∈ tb_X6_readTry, decode zX6_readTry.2.1 q.1 = .ok q.2 := by decide +kernel
def f_X6_readTry_169 (n : Nat) (a1 a2 a3 : Int32) (M : qM) : qR :=
  qc (f_X6_addStep n a2 a3 M) (fun r1 m2 => (if r1 = (0 : Int32) then qc (f_X9_fails n (6 : Int32) a1 m2) (fun r3 m4 => (if r3 = (0 : Int32) then some ((0 : Int32), m4) else some ((1 : Int32), m4))) else some ((1 : Int32), m2)))
set_option maxRecDepth 4000 in
theorem w_X6_readTry_169 {g : qG} {k : qK} (n : Nat) (j r : Nat) (hj : q_isLaw j) (hr : q_isLaw r) (o : qOk g 2 zX6_readTry k) (a1 a2 a3 : Int32) (M : qM) : qAE g k zX6_readTry (qL j r) 169 [some (.inr (some 53)), some (.inl a1), some (.inl a2), some (.inl a3)] [] (qL j r, M) (f_X6_readTry_169 n a1 a2 a3 M) := by
  unfold f_X6_readTry_169
  refine qr_aload_n o (q_dm dm_X6_readTry 90 rfl) rfl ?_
  refine qr_iload_n o (q_dm dm_X6_readTry 91 rfl) rfl ?_
  refine qr_iload_n o (q_dm dm_X6_readTry 92 rfl) rfl ?_
  refine qr_callv_i (As := [.inl a2, .inl a3]) (S := []) o (a_X6_addStep g k.2.1 n j r hj hr a2 a3 M) (Nat.le_of_ble_eq_true rfl) zv_X6_addStep rfl cf_X6 (sh53 j r) ml_X6_72 (Nat.le_of_ble_eq_true rfl) (q_dm dm_X6_readTry 93 rfl) (fun r1 m2 => ?_)
  refine qr_if_ne (tgt := 191) o (q_dm dm_X6_readTry 94 rfl) (by decide) ?_ ?_
  · refine qr_iconst o (q_dm dm_X6_readTry 101 rfl) ic_1 ?_
    refine qr_goto (tgt := 196) o (q_dm dm_X6_readTry 102 rfl) (by decide) ?_
    exact qr_iret o rfl (by decide) (q_dm dm_X6_readTry 104 rfl)
  · refine qr_aload_n o (q_dm dm_X6_readTry 95 rfl) rfl ?_
    refine qr_getr (kf := 0) o cf_X6 (sh53 j r) rfl (Nat.le_of_ble_eq_true rfl) fl_X6_18 (q_dm dm_X6_readTry 96 rfl) ?_
    refine qr_bipush o (q_dm dm_X6_readTry 97 rfl) bi_6 ?_
    refine qr_iload_n o (q_dm dm_X6_readTry 98 rfl) rfl ?_
    refine qr_callv_i (As := [.inl (6 : Int32), .inl a1]) (S := []) o (a_X9_fails g k.2.1 n j r hj hr (6 : Int32) a1 m2) (Nat.le_of_ble_eq_true rfl) zv_X9_fails rfl cf_X9 (sh1 j r) ml_X6_59 (Nat.le_of_ble_eq_true rfl) (q_dm dm_X6_readTry 99 rfl) (fun r3 m4 => ?_)
    refine qr_if_eq (tgt := 195) o (q_dm dm_X6_readTry 100 rfl) (by decide) ?_ ?_
    · refine qr_iconst o (q_dm dm_X6_readTry 103 rfl) ic_0 ?_
      exact qr_iret o rfl (by decide) (q_dm dm_X6_readTry 104 rfl)
    · refine qr_iconst o (q_dm dm_X6_readTry 101 rfl) ic_1 ?_
      refine qr_goto (tgt := 196) o (q_dm dm_X6_readTry 102 rfl) (by decide) ?_
      exact qr_iret o rfl (by decide) (q_dm dm_X6_readTry 104 rfl)

def f_X6_readTry_145 (n : Nat) (s1 : Int32) (M : qM) : qR :=
  qc (f_X9_fails n s1 (M 1 3) M) (fun r1 m2 => qb r1 (some (r1, m2)))
set_option maxRecDepth 4000 in
theorem w_X6_readTry_145 {g : qG} {k : qK} (n : Nat) (j r : Nat) (hj : q_isLaw j) (hr : q_isLaw r) (o : qOk g 2 zX6_readTry k) (s1 : Int32) (M : qM) : qAE g k zX6_readTry (qL j r) 145 [some (.inr (some 53)), none, none, none] [.inl s1, .inr (some 1)] (qL j r, M) (f_X6_readTry_145 n s1 M) := by
  unfold f_X6_readTry_145
  refine qr_aload_n o (q_dm dm_X6_readTry 78 rfl) rfl ?_
  refine qr_getr (kf := 0) o cf_X6 (sh53 j r) rfl (Nat.le_of_ble_eq_true rfl) fl_X6_18 (q_dm dm_X6_readTry 79 rfl) ?_
  refine qr_getf (kf := 3) o cf_X9 (sh1 j r) rfl (Nat.le_of_ble_eq_true rfl) fl_X6_56 (q_dm dm_X6_readTry 80 rfl) ?_
  refine qr_callv_i (As := [.inl s1, .inl (M 1 3)]) (S := []) o (a_X9_fails g k.2.1 n j r hj hr s1 (M 1 3) M) (Nat.le_of_ble_eq_true rfl) zv_X9_fails rfl cf_X9 (sh1 j r) ml_X6_59 (Nat.le_of_ble_eq_true rfl) (q_dm dm_X6_readTry 81 rfl) (fun r1 m2 => ?_)
  exact qr_zret o rfl (q_dm dm_X6_readTry 82 rfl)

def f_X6_readTry_131 (n : Nat) (a3 : Int32) (M : qM) : qR :=
  (if a3 = (-1 : Int32) then f_X6_readTry_145 n (1 : Int32) M else f_X6_readTry_145 n (3 : Int32) M)
set_option maxRecDepth 4000 in
theorem w_X6_readTry_131 {g : qG} {k : qK} (n : Nat) (j r : Nat) (hj : q_isLaw j) (hr : q_isLaw r) (o : qOk g 2 zX6_readTry k) (a3 : Int32) (M : qM) : qAE g k zX6_readTry (qL j r) 131 [some (.inr (some 53)), none, none, some (.inl a3)] [] (qL j r, M) (f_X6_readTry_131 n a3 M) := by
  unfold f_X6_readTry_131
  refine qr_aload_n o (q_dm dm_X6_readTry 70 rfl) rfl ?_
  refine qr_getr (kf := 0) o cf_X6 (sh53 j r) rfl (Nat.le_of_ble_eq_true rfl) fl_X6_18 (q_dm dm_X6_readTry 71 rfl) ?_
  refine qr_iload_n o (q_dm dm_X6_readTry 72 rfl) rfl ?_
  refine qr_iconst o (q_dm dm_X6_readTry 73 rfl) ic_m1 ?_
  refine qr_icmp_ne (tgt := 144) o (q_dm dm_X6_readTry 74 rfl) (by decide) ?_ ?_
  · refine qr_iconst o (q_dm dm_X6_readTry 77 rfl) ic_3 ?_
    exact qr_loc (q_leS (q_leN (q_leN (q_leN q_le0)))) (w_X6_readTry_145 n j r hj hr o (3 : Int32) M)
  · refine qr_iconst o (q_dm dm_X6_readTry 75 rfl) ic_1 ?_
    refine qr_goto (tgt := 145) o (q_dm dm_X6_readTry 76 rfl) (by decide) ?_
    exact qr_loc (q_leS (q_leN (q_leN (q_leN q_le0)))) (w_X6_readTry_145 n j r hj hr o (1 : Int32) M)

def f_X6_readTry_81 (n : Nat) (a1 a2 : Int32) (M : qM) : qR :=
  (if a2 < (12 : Int32) then qc (f_X9_takes n (38 : Int32) M) (fun r1 m2 => (if r1 = (0 : Int32) then f_X6_readTry_169 n a1 a2 (8 : Int32) m2 else qc (f_X9_digit n  m2) (fun r3 m4 => (if r3 = (-1 : Int32) then f_X6_readTry_131 n r3 m4 else (if r3 < (8 : Int32) then qlm (mu m4 1 3 ((m4 1 3) + (1 : Int32))) (fun m5 => f_X6_readTry_169 n a1 a2 r3 m5) else f_X6_readTry_131 n r3 m4))))) else qc (f_X9_fails n (3 : Int32) a1 M) (fun r6 m7 => qb r6 (some (r6, m7))))
set_option maxRecDepth 4000 in
theorem w_X6_readTry_81 {g : qG} {k : qK} (n : Nat) (j r : Nat) (hj : q_isLaw j) (hr : q_isLaw r) (o : qOk g 2 zX6_readTry k) (a1 a2 : Int32) (M : qM) : qAE g k zX6_readTry (qL j r) 81 [some (.inr (some 53)), some (.inl a1), some (.inl a2), none] [] (qL j r, M) (f_X6_readTry_81 n a1 a2 M) := by
  unfold f_X6_readTry_81
  refine qr_iload_n o (q_dm dm_X6_readTry 44 rfl) rfl ?_
  refine qr_bipush o (q_dm dm_X6_readTry 45 rfl) bi_12 ?_
  refine qr_icmp_lt (tgt := 97) o (q_dm dm_X6_readTry 46 rfl) (by decide) ?_ ?_
  · refine qr_bipush o (q_dm dm_X6_readTry 53 rfl) bi_8 ?_
    refine qs_istore_n (L' := [some (.inr (some 53)), some (.inl a1), some (.inl a2), some (.inl (8 : Int32))]) o (q_dm dm_X6_readTry 54 rfl) (Nat.le_of_ble_eq_true rfl) rfl ?_
    refine qr_aload_n o (q_dm dm_X6_readTry 55 rfl) rfl ?_
    refine qr_getr (kf := 0) o cf_X6 (sh53 j r) rfl (Nat.le_of_ble_eq_true rfl) fl_X6_18 (q_dm dm_X6_readTry 56 rfl) ?_
    refine qr_bipush o (q_dm dm_X6_readTry 57 rfl) bi_38 ?_
    refine qr_callv_i (As := [.inl (38 : Int32)]) (S := []) o (a_X9_takes g k.2.1 n j r hj hr (38 : Int32) M) (Nat.le_of_ble_eq_true rfl) zv_X9_takes rfl cf_X9 (sh1 j r) ml_X6_46 (Nat.le_of_ble_eq_true rfl) (q_dm dm_X6_readTry 58 rfl) (fun r1 m2 => ?_)
    refine qr_if_eq (tgt := 169) o (q_dm dm_X6_readTry 59 rfl) (by decide) ?_ ?_
    · exact qr_loc (q_leS (q_leS (q_leS (q_leS q_le0)))) (w_X6_readTry_169 n j r hj hr o a1 a2 (8 : Int32) m2)
    · refine qr_aload_n o (q_dm dm_X6_readTry 60 rfl) rfl ?_
      refine qr_getr (kf := 0) o cf_X6 (sh53 j r) rfl (Nat.le_of_ble_eq_true rfl) fl_X6_18 (q_dm dm_X6_readTry 61 rfl) ?_
      refine qr_callv_i (As := []) (S := []) o (a_X9_digit g k.2.1 n j r hj hr  m2) (Nat.le_of_ble_eq_true rfl) zv_X9_digit rfl cf_X9 (sh1 j r) ml_X6_66 (Nat.le_of_ble_eq_true rfl) (q_dm dm_X6_readTry 62 rfl) (fun r3 m4 => ?_)
      refine qs_istore_n (L' := [some (.inr (some 53)), some (.inl a1), some (.inl a2), some (.inl r3)]) o (q_dm dm_X6_readTry 63 rfl) (Nat.le_of_ble_eq_true rfl) rfl ?_
      refine qr_iload_n o (q_dm dm_X6_readTry 64 rfl) rfl ?_
      refine qr_iconst o (q_dm dm_X6_readTry 65 rfl) ic_m1 ?_
      refine qr_icmp_eq (tgt := 131) o (q_dm dm_X6_readTry 66 rfl) (by decide) ?_ ?_
      · exact qr_loc (q_leS (q_leN (q_leN (q_leS q_le0)))) (w_X6_readTry_131 n j r hj hr o r3 m4)
      · refine qr_iload_n o (q_dm dm_X6_readTry 67 rfl) rfl ?_
        refine qr_bipush o (q_dm dm_X6_readTry 68 rfl) bi_8 ?_
        refine qr_icmp_lt (tgt := 156) o (q_dm dm_X6_readTry 69 rfl) (by decide) ?_ ?_
        · refine qr_aload_n o (q_dm dm_X6_readTry 83 rfl) rfl ?_
          refine qr_getr (kf := 0) o cf_X6 (sh53 j r) rfl (Nat.le_of_ble_eq_true rfl) fl_X6_18 (q_dm dm_X6_readTry 84 rfl) ?_
          refine qr_dup o (q_dm dm_X6_readTry 85 rfl) ?_
          refine qr_getf (kf := 3) o cf_X9 (sh1 j r) rfl (Nat.le_of_ble_eq_true rfl) fl_X6_56 (q_dm dm_X6_readTry 86 rfl) ?_
          refine qr_iconst o (q_dm dm_X6_readTry 87 rfl) ic_1 ?_
          refine qr_iadd o (q_dm dm_X6_readTry 88 rfl) ?_
          refine qr_putf (kf := 3) o cf_X9 (sh1 j r) rfl (Nat.le_of_ble_eq_true rfl) fl_X6_56 rfl (by decide +kernel) (q_dm dm_X6_readTry 89 rfl) ?_
          refine qr_letm (fun m5 => ?_)
          exact qr_loc (q_leS (q_leS (q_leS (q_leS q_le0)))) (w_X6_readTry_169 n j r hj hr o a1 a2 r3 m5)
        · exact qr_loc (q_leS (q_leN (q_leN (q_leS q_le0)))) (w_X6_readTry_131 n j r hj hr o r3 m4)
  · refine qr_aload_n o (q_dm dm_X6_readTry 47 rfl) rfl ?_
    refine qr_getr (kf := 0) o cf_X6 (sh53 j r) rfl (Nat.le_of_ble_eq_true rfl) fl_X6_18 (q_dm dm_X6_readTry 48 rfl) ?_
    refine qr_iconst o (q_dm dm_X6_readTry 49 rfl) ic_3 ?_
    refine qr_iload_n o (q_dm dm_X6_readTry 50 rfl) rfl ?_
    refine qr_callv_i (As := [.inl (3 : Int32), .inl a1]) (S := []) o (a_X9_fails g k.2.1 n j r hj hr (3 : Int32) a1 M) (Nat.le_of_ble_eq_true rfl) zv_X9_fails rfl cf_X9 (sh1 j r) ml_X6_59 (Nat.le_of_ble_eq_true rfl) (q_dm dm_X6_readTry 51 rfl) (fun r6 m7 => ?_)
    exact qr_zret o rfl (q_dm dm_X6_readTry 52 rfl)

def f_X6_readTry (n : Nat) (M : qM) : qR :=
  ql (M 1 3) (fun x1 => qc (f_X9_digit n  M) (fun r2 m3 => (if r2 = (-1 : Int32) then qc (f_X9_fails n (1 : Int32) x1 m3) (fun r11 m12 => qb r11 (some (r11, m12))) else qlm (mu m3 1 3 ((m3 1 3) + (1 : Int32))) (fun m4 => qc (f_X9_digit n  m4) (fun r5 m6 => (if r5 = (-1 : Int32) then f_X6_readTry_81 n x1 r2 m6 else qc (f_X9_digit n  m6) (fun r7 m8 => ql (((10 : Int32) * r2) + r7) (fun x9 => qlm (mu m8 1 3 ((m8 1 3) + (1 : Int32))) (fun m10 => f_X6_readTry_81 n x1 x9 m10)))))))))
set_option maxRecDepth 4000 in
theorem w_X6_readTry {g : qG} {k : qK} (n : Nat) (j r : Nat) (hj : q_isLaw j) (hr : q_isLaw r) (o : qOk g 2 zX6_readTry k) (M : qM) : qAE g k zX6_readTry (qL j r) 0 [some (.inr (some 53)), none, none, none] [] (qL j r, M) (f_X6_readTry n  M) := by
  unfold f_X6_readTry
  refine qr_aload_n o (q_dm dm_X6_readTry 0 rfl) rfl ?_
  refine qr_getr (kf := 0) o cf_X6 (sh53 j r) rfl (Nat.le_of_ble_eq_true rfl) fl_X6_18 (q_dm dm_X6_readTry 1 rfl) ?_
  refine qr_getf (kf := 3) o cf_X9 (sh1 j r) rfl (Nat.le_of_ble_eq_true rfl) fl_X6_56 (q_dm dm_X6_readTry 2 rfl) ?_
  refine qr_lt (fun x1 => ?_)
  refine qs_istore_n (L' := [some (.inr (some 53)), some (.inl x1), none, none]) o (q_dm dm_X6_readTry 3 rfl) (Nat.le_of_ble_eq_true rfl) rfl ?_
  refine qr_aload_n o (q_dm dm_X6_readTry 4 rfl) rfl ?_
  refine qr_getr (kf := 0) o cf_X6 (sh53 j r) rfl (Nat.le_of_ble_eq_true rfl) fl_X6_18 (q_dm dm_X6_readTry 5 rfl) ?_
  refine qr_callv_i (As := []) (S := []) o (a_X9_digit g k.2.1 n j r hj hr  M) (Nat.le_of_ble_eq_true rfl) zv_X9_digit rfl cf_X9 (sh1 j r) ml_X6_66 (Nat.le_of_ble_eq_true rfl) (q_dm dm_X6_readTry 6 rfl) (fun r2 m3 => ?_)
  refine qs_istore_n (L' := [some (.inr (some 53)), some (.inl x1), some (.inl r2), none]) o (q_dm dm_X6_readTry 7 rfl) (Nat.le_of_ble_eq_true rfl) rfl ?_
  refine qr_iload_n o (q_dm dm_X6_readTry 8 rfl) rfl ?_
  refine qr_iconst o (q_dm dm_X6_readTry 9 rfl) ic_m1 ?_
  refine qr_icmp_ne (tgt := 31) o (q_dm dm_X6_readTry 10 rfl) (by decide) ?_ ?_
  · refine qr_aload_n o (q_dm dm_X6_readTry 17 rfl) rfl ?_
    refine qr_getr (kf := 0) o cf_X6 (sh53 j r) rfl (Nat.le_of_ble_eq_true rfl) fl_X6_18 (q_dm dm_X6_readTry 18 rfl) ?_
    refine qr_dup o (q_dm dm_X6_readTry 19 rfl) ?_
    refine qr_getf (kf := 3) o cf_X9 (sh1 j r) rfl (Nat.le_of_ble_eq_true rfl) fl_X6_56 (q_dm dm_X6_readTry 20 rfl) ?_
    refine qr_iconst o (q_dm dm_X6_readTry 21 rfl) ic_1 ?_
    refine qr_iadd o (q_dm dm_X6_readTry 22 rfl) ?_
    refine qr_putf (kf := 3) o cf_X9 (sh1 j r) rfl (Nat.le_of_ble_eq_true rfl) fl_X6_56 rfl (by decide +kernel) (q_dm dm_X6_readTry 23 rfl) ?_
    refine qr_letm (fun m4 => ?_)
    refine qr_aload_n o (q_dm dm_X6_readTry 24 rfl) rfl ?_
    refine qr_getr (kf := 0) o cf_X6 (sh53 j r) rfl (Nat.le_of_ble_eq_true rfl) fl_X6_18 (q_dm dm_X6_readTry 25 rfl) ?_
    refine qr_callv_i (As := []) (S := []) o (a_X9_digit g k.2.1 n j r hj hr  m4) (Nat.le_of_ble_eq_true rfl) zv_X9_digit rfl cf_X9 (sh1 j r) ml_X6_66 (Nat.le_of_ble_eq_true rfl) (q_dm dm_X6_readTry 26 rfl) (fun r5 m6 => ?_)
    refine qr_iconst o (q_dm dm_X6_readTry 27 rfl) ic_m1 ?_
    refine qr_icmp_eq (tgt := 81) o (q_dm dm_X6_readTry 28 rfl) (by decide) ?_ ?_
    · exact qr_loc (q_leS (q_leS (q_leS (q_leN q_le0)))) (w_X6_readTry_81 n j r hj hr o x1 r2 m6)
    · refine qr_bipush o (q_dm dm_X6_readTry 29 rfl) bi_10 ?_
      refine qr_iload_n o (q_dm dm_X6_readTry 30 rfl) rfl ?_
      refine qr_imul o (q_dm dm_X6_readTry 31 rfl) ?_
      refine qr_aload_n o (q_dm dm_X6_readTry 32 rfl) rfl ?_
      refine qr_getr (kf := 0) o cf_X6 (sh53 j r) rfl (Nat.le_of_ble_eq_true rfl) fl_X6_18 (q_dm dm_X6_readTry 33 rfl) ?_
      refine qr_callv_i (As := []) (S := [.inl ((10 : Int32) * r2)]) o (a_X9_digit g k.2.1 n j r hj hr  m6) (Nat.le_of_ble_eq_true rfl) zv_X9_digit rfl cf_X9 (sh1 j r) ml_X6_66 (Nat.le_of_ble_eq_true rfl) (q_dm dm_X6_readTry 34 rfl) (fun r7 m8 => ?_)
      refine qr_iadd o (q_dm dm_X6_readTry 35 rfl) ?_
      refine qr_lt (fun x9 => ?_)
      refine qs_istore_n (L' := [some (.inr (some 53)), some (.inl x1), some (.inl x9), none]) o (q_dm dm_X6_readTry 36 rfl) (Nat.le_of_ble_eq_true rfl) rfl ?_
      refine qr_aload_n o (q_dm dm_X6_readTry 37 rfl) rfl ?_
      refine qr_getr (kf := 0) o cf_X6 (sh53 j r) rfl (Nat.le_of_ble_eq_true rfl) fl_X6_18 (q_dm dm_X6_readTry 38 rfl) ?_
      refine qr_dup o (q_dm dm_X6_readTry 39 rfl) ?_
      refine qr_getf (kf := 3) o cf_X9 (sh1 j r) rfl (Nat.le_of_ble_eq_true rfl) fl_X6_56 (q_dm dm_X6_readTry 40 rfl) ?_
      refine qr_iconst o (q_dm dm_X6_readTry 41 rfl) ic_1 ?_
      refine qr_iadd o (q_dm dm_X6_readTry 42 rfl) ?_
      refine qr_putf (kf := 3) o cf_X9 (sh1 j r) rfl (Nat.le_of_ble_eq_true rfl) fl_X6_56 rfl (by decide +kernel) (q_dm dm_X6_readTry 43 rfl) ?_
      refine qr_letm (fun m10 => ?_)
      exact qr_loc (q_leS (q_leS (q_leS (q_leN q_le0)))) (w_X6_readTry_81 n j r hj hr o x1 x9 m10)
  · refine qr_aload_n o (q_dm dm_X6_readTry 11 rfl) rfl ?_
    refine qr_getr (kf := 0) o cf_X6 (sh53 j r) rfl (Nat.le_of_ble_eq_true rfl) fl_X6_18 (q_dm dm_X6_readTry 12 rfl) ?_
    refine qr_iconst o (q_dm dm_X6_readTry 13 rfl) ic_1 ?_
    refine qr_iload_n o (q_dm dm_X6_readTry 14 rfl) rfl ?_
    refine qr_callv_i (As := [.inl (1 : Int32), .inl x1]) (S := []) o (a_X9_fails g k.2.1 n j r hj hr (1 : Int32) x1 m3) (Nat.le_of_ble_eq_true rfl) zv_X9_fails rfl cf_X9 (sh1 j r) ml_X6_59 (Nat.le_of_ble_eq_true rfl) (q_dm dm_X6_readTry 15 rfl) (fun r11 m12 => ?_)
    exact qr_zret o rfl (q_dm dm_X6_readTry 16 rfl)

theorem a_X6_readTry (g : qG) (l : Launch) (n : Nat) (j r : Nat) (hj : q_isLaw j) (hr : q_isLaw r) (M : qM) : qAM g l 2 zX6_readTry (qL j r) [.inr (some 53)] (qL j r, M) (f_X6_readTry n  M) :=
  qAM.of zv_X6_readTry.1 (by show 1 ≤ 4; decide) (fun k hk o => w_X6_readTry n j r hj hr o  M)
def tb_X6_repeatSteps : List (Nat × Instr × Nat) := [(0, (.aload_n 0, 1)), (1, (.getfield 28, 3)), (4, (.istore_n 3, 1)), (5, (.iconst 1, 1)), (6, (.istore 4, 2)), (8, (.iload 4, 2)), (10, (.iload_n 2, 1)), (11, (.if_icmp .ge 47, 3)), (14, (.iload_n 1, 1)), (15, (.istore 5, 2)), (17, (.iload 5, 2)), (19, (.iload_n 3, 1)), (20, (.if_icmp .ge 32, 3)), (23, (.aload_n 0, 1)), (24, (.aload_n 0, 1)), (25, (.getfield 9, 3)), (28, (.iload 5, 2)), (30, (.iaload, 1)), (31, (.aload_n 0, 1)), (32, (.getfield 15, 3)), (35, (.iload 5, 2)), (37, (.iaload, 1)), (38, (.invokevirtual 72, 3)), (41, (.ifCond .ne 5, 3)), (44, (.iconst 0, 1)), (45, (.ireturn, 1)), (46, (.iinc 5 1, 3)), (49, (.goto (-32), 3)), (52, (.iinc 4 1, 3)), (55, (.goto (-47), 3)), (58, (.iconst 1, 1)), (59, (.ireturn, 1))]
theorem dm_X6_repeatSteps : ∀ q ∈ tb_X6_repeatSteps, decode zX6_repeatSteps.2.1 q.1 = .ok q.2 := by decide +kernel
def b_X6_repeatSteps_17 (n : Nat) (K8 : Int32 → Int32 → Int32 → Int32 → qM → qR) (K17 : Int32 → Int32 → Int32 → Int32 → Int32 → qM → qR) (a1 a2 a3 a4 a5 : Int32) (M : qM) : qR :=
  (if a3 ≤ a5 then ql (a4 + (1 : Int32)) (fun x1 => K8 a1 a2 a3 x1 M) else qg a5 40 (qg a5 40 (qc (f_X6_addStep n (M 54 a5.toNatClampNeg) (M 55 a5.toNatClampNeg) M) (fun r2 m3 => (if r2 = (0 : Int32) then some ((0 : Int32), m3) else ql (a5 + (1 : Int32)) (fun x4 => K17 a1 a2 a3 a4 x4 m3))))))
set_option maxRecDepth 4000 in
theorem wb_X6_repeatSteps_17 {g : qG} {k : qK} (n : Nat) (j r : Nat) (hj : q_isLaw j) (hr : q_isLaw r) (o : qOk g 1 zX6_repeatSteps k) (K8 : Int32 → Int32 → Int32 → Int32 → qM → qR) (hK8 : ∀ (a1 a2 a3 a4 : Int32) (M : qM), qAE g k zX6_repeatSteps (qL j r) 8 [some (.inr (some 53)), some (.inl a1), some (.inl a2), some (.inl a3), some (.inl a4), none] [] (qL j r, M) (K8 a1 a2 a3 a4 M)) (K17 : Int32 → Int32 → Int32 → Int32 → Int32 → qM → qR) (hK17 : ∀ (a1 a2 a3 a4 a5 : Int32) (M : qM), qAE g k zX6_repeatSteps (qL j r) 17 [some (.inr (some 53)), some (.inl a1), some (.inl a2), some (.inl a3), some (.inl a4), some (.inl a5)] [] (qL j r, M) (K17 a1 a2 a3 a4 a5 M)) (a1 a2 a3 a4 a5 : Int32) (M : qM) : qAE g k zX6_repeatSteps (qL j r) 17 [some (.inr (some 53)), some (.inl a1), some (.inl a2), some (.inl a3), some (.inl a4), some (.inl a5)] [] (qL j r, M) (b_X6_repeatSteps_17 n K8 K17 a1 a2 a3 a4 a5 M) := by
  unfold b_X6_repeatSteps_17
  refine qr_iload o (q_dm dm_X6_repeatSteps 10 rfl) rfl ?_
  refine qr_iload_n o (q_dm dm_X6_repeatSteps 11 rfl) rfl ?_
  refine qr_icmp_ge (tgt := 52) o (q_dm dm_X6_repeatSteps 12 rfl) (by decide) ?_ ?_
  · refine qs_iincl2 (L' := fun x1 => [some (.inr (some 53)), some (.inl a1), some (.inl a2), some (.inl a3), some (.inl x1), some (.inl a5)]) o (q_dm dm_X6_repeatSteps 28 rfl) rfl ic_1 (Nat.le_of_ble_eq_true rfl) (fun _ => rfl) (fun x1 => ?_)
    refine qr_goto (tgt := 8) o (q_dm dm_X6_repeatSteps 29 rfl) (by decide) ?_
    exact qr_loc (q_leS (q_leS (q_leS (q_leS (q_leS (q_leN q_le0)))))) (hK8 a1 a2 a3 x1 M)
  · refine qr_aload_n o (q_dm dm_X6_repeatSteps 13 rfl) rfl ?_
    refine qr_aload_n o (q_dm dm_X6_repeatSteps 14 rfl) rfl ?_
    refine qr_getr (kf := 1) o cf_X6 (sh53 j r) rfl (Nat.le_of_ble_eq_true rfl) fl_X6_9 (q_dm dm_X6_repeatSteps 15 rfl) ?_
    refine qr_iload o (q_dm dm_X6_repeatSteps 16 rfl) rfl ?_
    refine qr_iald o (sh54 j r) (q_dm dm_X6_repeatSteps 17 rfl) ?_
    refine qr_aload_n o (q_dm dm_X6_repeatSteps 18 rfl) rfl ?_
    refine qr_getr (kf := 2) o cf_X6 (sh53 j r) rfl (Nat.le_of_ble_eq_true rfl) fl_X6_15 (q_dm dm_X6_repeatSteps 19 rfl) ?_
    refine qr_iload o (q_dm dm_X6_repeatSteps 20 rfl) rfl ?_
    refine qr_iald o (sh55 j r) (q_dm dm_X6_repeatSteps 21 rfl) ?_
    refine qr_callv_i (As := [.inl (M 54 a5.toNatClampNeg), .inl (M 55 a5.toNatClampNeg)]) (S := []) o (a_X6_addStep g k.2.1 n j r hj hr (M 54 a5.toNatClampNeg) (M 55 a5.toNatClampNeg) M) (Nat.le_of_ble_eq_true rfl) zv_X6_addStep rfl cf_X6 (sh53 j r) ml_X6_72 (Nat.le_of_ble_eq_true rfl) (q_dm dm_X6_repeatSteps 22 rfl) (fun r2 m3 => ?_)
    refine qr_if_ne (tgt := 46) o (q_dm dm_X6_repeatSteps 23 rfl) (by decide) ?_ ?_
    · refine qs_iincl2 (L' := fun x4 => [some (.inr (some 53)), some (.inl a1), some (.inl a2), some (.inl a3), some (.inl a4), some (.inl x4)]) o (q_dm dm_X6_repeatSteps 26 rfl) rfl ic_1 (Nat.le_of_ble_eq_true rfl) (fun _ => rfl) (fun x4 => ?_)
      refine qr_goto (tgt := 17) o (q_dm dm_X6_repeatSteps 27 rfl) (by decide) ?_
      exact qr_loc (q_leS (q_leS (q_leS (q_leS (q_leS (q_leS q_le0)))))) (hK17 a1 a2 a3 a4 x4 m3)
    · refine qr_iconst o (q_dm dm_X6_repeatSteps 24 rfl) ic_0 ?_
      exact qr_iret o rfl (by decide) (q_dm dm_X6_repeatSteps 25 rfl)

def f_X6_repeatSteps_17 (n : Nat) (K8 : Int32 → Int32 → Int32 → Int32 → qM → qR) : Nat → Int32 → Int32 → Int32 → Int32 → Int32 → qM → qR
  | 0, _, _, _, _, _, _ => none
  | m + 1, a1, a2, a3, a4, a5, M => b_X6_repeatSteps_17 n K8 (f_X6_repeatSteps_17 n K8 m) a1 a2 a3 a4 a5 M
theorem w_X6_repeatSteps_17 {g : qG} {k : qK} (n : Nat) (j r : Nat) (hj : q_isLaw j) (hr : q_isLaw r) (o : qOk g 1 zX6_repeatSteps k) (K8 : Int32 → Int32 → Int32 → Int32 → qM → qR) (hK8 : ∀ (a1 a2 a3 a4 : Int32) (M : qM), qAE g k zX6_repeatSteps (qL j r) 8 [some (.inr (some 53)), some (.inl a1), some (.inl a2), some (.inl a3), some (.inl a4), none] [] (qL j r, M) (K8 a1 a2 a3 a4 M)) : ∀ (m : Nat) (a1 a2 a3 a4 a5 : Int32) (M : qM), qAE g k zX6_repeatSteps (qL j r) 17 [some (.inr (some 53)), some (.inl a1), some (.inl a2), some (.inl a3), some (.inl a4), some (.inl a5)] [] (qL j r, M) (f_X6_repeatSteps_17 n K8 m a1 a2 a3 a4 a5 M) := by
  intro m
  induction m with
  | zero =>
    intro a1 a2 a3 a4 a5 M
    exact qr_none
  | succ m ih =>
    intro a1 a2 a3 a4 a5 M
    exact wb_X6_repeatSteps_17 n j r hj hr o K8 hK8 (f_X6_repeatSteps_17 n K8 m) ih a1 a2 a3 a4 a5 M
def b_X6_repeatSteps_8 (n : Nat) (K8 : Int32 → Int32 → Int32 → Int32 → qM → qR) (a1 a2 a3 a4 : Int32) (M : qM) : qR :=
  (if a2 ≤ a4 then some ((1 : Int32), M) else f_X6_repeatSteps_17 n K8 n a1 a2 a3 a4 a1 M)
set_option maxRecDepth 4000 in
theorem wb_X6_repeatSteps_8 {g : qG} {k : qK} (n : Nat) (j r : Nat) (hj : q_isLaw j) (hr : q_isLaw r) (o : qOk g 1 zX6_repeatSteps k) (K8 : Int32 → Int32 → Int32 → Int32 → qM → qR) (hK8 : ∀ (a1 a2 a3 a4 : Int32) (M : qM), qAE g k zX6_repeatSteps (qL j r) 8 [some (.inr (some 53)), some (.inl a1), some (.inl a2), some (.inl a3), some (.inl a4), none] [] (qL j r, M) (K8 a1 a2 a3 a4 M)) (a1 a2 a3 a4 : Int32) (M : qM) : qAE g k zX6_repeatSteps (qL j r) 8 [some (.inr (some 53)), some (.inl a1), some (.inl a2), some (.inl a3), some (.inl a4), none] [] (qL j r, M) (b_X6_repeatSteps_8 n K8 a1 a2 a3 a4 M) := by
  unfold b_X6_repeatSteps_8
  refine qr_iload o (q_dm dm_X6_repeatSteps 5 rfl) rfl ?_
  refine qr_iload_n o (q_dm dm_X6_repeatSteps 6 rfl) rfl ?_
  refine qr_icmp_ge (tgt := 58) o (q_dm dm_X6_repeatSteps 7 rfl) (by decide) ?_ ?_
  · refine qr_iconst o (q_dm dm_X6_repeatSteps 30 rfl) ic_1 ?_
    exact qr_iret o rfl (by decide) (q_dm dm_X6_repeatSteps 31 rfl)
  · refine qr_iload_n o (q_dm dm_X6_repeatSteps 8 rfl) rfl ?_
    refine qs_istore (L' := [some (.inr (some 53)), some (.inl a1), some (.inl a2), some (.inl a3), some (.inl a4), some (.inl a1)]) o (q_dm dm_X6_repeatSteps 9 rfl) (Nat.le_of_ble_eq_true rfl) rfl ?_
    exact qr_loc (q_leS (q_leS (q_leS (q_leS (q_leS (q_leS q_le0)))))) (w_X6_repeatSteps_17 n j r hj hr o K8 hK8 n a1 a2 a3 a4 a1 M)

def f_X6_repeatSteps_8 (n : Nat) : Nat → Int32 → Int32 → Int32 → Int32 → qM → qR
  | 0, _, _, _, _, _ => none
  | m + 1, a1, a2, a3, a4, M => b_X6_repeatSteps_8 n (f_X6_repeatSteps_8 n m) a1 a2 a3 a4 M
theorem w_X6_repeatSteps_8 {g : qG} {k : qK} (n : Nat) (j r : Nat) (hj : q_isLaw j) (hr : q_isLaw r) (o : qOk g 1 zX6_repeatSteps k) : ∀ (m : Nat) (a1 a2 a3 a4 : Int32) (M : qM), qAE g k zX6_repeatSteps (qL j r) 8 [some (.inr (some 53)), some (.inl a1), some (.inl a2), some (.inl a3), some (.inl a4), none] [] (qL j r, M) (f_X6_repeatSteps_8 n m a1 a2 a3 a4 M) := by
  intro m
  induction m with
  | zero =>
    intro a1 a2 a3 a4 M
    exact qr_none
  | succ m ih =>
    intro a1 a2 a3 a4 M
    exact wb_X6_repeatSteps_8 n j r hj hr o (f_X6_repeatSteps_8 n m) ih a1 a2 a3 a4 M
def f_X6_repeatSteps (n : Nat) (a1 a2 : Int32) (M : qM) : qR :=
  ql (M 53 3) (fun x1 => f_X6_repeatSteps_8 n n a1 a2 x1 (1 : Int32) M)
set_option maxRecDepth 4000 in
theorem w_X6_repeatSteps {g : qG} {k : qK} (n : Nat) (j r : Nat) (hj : q_isLaw j) (hr : q_isLaw r) (o : qOk g 1 zX6_repeatSteps k) (a1 a2 : Int32) (M : qM) : qAE g k zX6_repeatSteps (qL j r) 0 [some (.inr (some 53)), some (.inl a1), some (.inl a2), none, none, none] [] (qL j r, M) (f_X6_repeatSteps n a1 a2 M) := by
  unfold f_X6_repeatSteps
  refine qr_aload_n o (q_dm dm_X6_repeatSteps 0 rfl) rfl ?_
  refine qr_getf (kf := 3) o cf_X6 (sh53 j r) rfl (Nat.le_of_ble_eq_true rfl) fl_X6_28 (q_dm dm_X6_repeatSteps 1 rfl) ?_
  refine qr_lt (fun x1 => ?_)
  refine qs_istore_n (L' := [some (.inr (some 53)), some (.inl a1), some (.inl a2), some (.inl x1), none, none]) o (q_dm dm_X6_repeatSteps 2 rfl) (Nat.le_of_ble_eq_true rfl) rfl ?_
  refine qr_iconst o (q_dm dm_X6_repeatSteps 3 rfl) ic_1 ?_
  refine qs_istore (L' := [some (.inr (some 53)), some (.inl a1), some (.inl a2), some (.inl x1), some (.inl (1 : Int32)), none]) o (q_dm dm_X6_repeatSteps 4 rfl) (Nat.le_of_ble_eq_true rfl) rfl ?_
  exact qr_loc (q_leS (q_leS (q_leS (q_leS (q_leS (q_leN q_le0)))))) (w_X6_repeatSteps_8 n j r hj hr o n a1 a2 x1 (1 : Int32) M)

theorem a_X6_repeatSteps (g : qG) (l : Launch) (n : Nat) (j r : Nat) (hj : q_isLaw j) (hr : q_isLaw r) (a1 a2 : Int32) (M : qM) : qAM g l 1 zX6_repeatSteps (qL j r) [.inr (some 53), .inl a1, .inl a2] (qL j r, M) (f_X6_repeatSteps n a1 a2 M) :=
  qAM.of zv_X6_repeatSteps.1 (by show 3 ≤ 6; decide) (fun k hk o => w_X6_repeatSteps n j r hj hr o a1 a2 M)
def tb_X6_readStep : List (Nat × Instr × Nat) := [(0, (.aload_n 0, 1)), (1, (.getfield 18, 3)), (4, (.invokevirtual 49, 3)), (7, (.bipush 40, 2)), (9, (.if_icmp .eq 8, 3)), (12, (.aload_n 0, 1)), (13, (.invokevirtual 53, 3)), (16, (.ireturn, 1)), (17, (.aload_n 0, 1)), (18, (.getfield 18, 3)), (21, (.getfield 56, 3)), (24, (.istore_n 2, 1)), (25, (.aload_n 0, 1)), (26, (.getfield 28, 3)), (29, (.istore_n 3, 1)), (30, (.iload_n 1, 1)), (31, (.iconst 3, 1)), (32, (.if_icmp .lt 13, 3)), (35, (.aload_n 0, 1)), (36, (.getfield 18, 3)), (39, (.iconst 5, 1)), (40, (.iload_n 2, 1)), (41, (.invokevirtual 59, 3)), (44, (.ireturn, 1)), (45, (.aload_n 0, 1)), (46, (.getfield 18, 3)), (49, (.dup, 1)), (50, (.getfield 56, 3)), (53, (.iconst 1, 1)), (54, (.iadd, 1)), (55, (.putfield 56, 3)), (58, (.aload_n 0, 1)), (59, (.iload_n 1, 1)), (60, (.iconst 1, 1)), (61, (.iadd, 1)), (62, (.invokevirtual 32, 3)), (65, (.ifCond .eq 15, 3)), (68, (.aload_n 0, 1)), (69, (.getfield 18, 3)), (72, (.bipush 41, 2)), (74, (.invokevirtual 63, 3)), (77, (.ifCond .ne 5, 3)), (80, (.iconst 0, 1)), (81, (.ireturn, 1)), (82, (.aload_n 0, 1)), (83, (.getfield 18, 3)), (86, (.invokevirtual 66, 3)), (89, (.istore 4, 2)), (91, (.iload 4, 2)), (93, (.iconst 2, 1)), (94, (.if_icmp .ge 19, 3)), (97, (.aload_n 0, 1)), (98, (.getfield 18, 3)), (101, (.iconst 1, 1)), (102, (.aload_n 0, 1)), (103, (.getfield 18, 3)), (106, (.getfield 56, 3)), (109, (.invokevirtual 59, 3)), (112, (.ireturn, 1)), (113, (.aload_n 0, 1)), (114, (.getfield 18, 3)), (117, (.dup, 1)), (118, (.getfield 56, 3)), (121, (.iconst 1, 1)), (122, (.iadd, 1)), (123, (.putfield 56, 3)), (126, (.aload_n 0, 1)), (127, (.iload_n 3, 1)), (128, (.iload 4, 2)), (130, (.invokevirtual 69, 3)), (133, (.ifCond .ne 16, 3)), (136, (.aload_n 0, 1)), (137, (.getfield 18, 3)), (140, (.bipush 6, 2)), (142, (.iload_n 2, 1)), (143, (.invokevirtual 59, 3)), (146, (.ifCond .eq 7, 3)), (149, (.iconst 1, 1)), (150, (.goto 4, 3)), (153, (.iconst 0, 1)), (154, (.ireturn, 1))]
theorem dm_X6_readStep : ∀ q ∈ tb_X6_readStep, decode zX6_readStep.2.1 q.1 = .ok q.2 := by decide +kernel
def fo_X6_readStep (n : Nat) (F_X6_readSteps : Int32 → qM → qR) (a1 : Int32) (M : qM) : qR :=
  qc (f_X9_sign n  M) (fun r1 m2 => (if r1 = (40 : Int32) then ql (m2 1 3) (fun x3 => ql (m2 53 3) (fun x4 => (if a1 < (3 : Int32) then qlm (mu m2 1 3 ((m2 1 3) + (1 : Int32))) (fun m5 => qc (F_X6_readSteps (a1 + (1 : Int32)) m5) (fun r6 m7 => (if r6 = (0 : Int32) then some ((0 : Int32), m7) else qc (f_X9_mustTake n (41 : Int32) m7) (fun r8 m9 => (if r8 = (0 : Int32) then some ((0 : Int32), m9) else qc (f_X9_digit n  m9) (fun r10 m11 => (if (2 : Int32) ≤ r10 then qlm (mu m11 1 3 ((m11 1 3) + (1 : Int32))) (fun m12 => qc (f_X6_repeatSteps n x4 r10 m12) (fun r13 m14 => (if r13 = (0 : Int32) then qc (f_X9_fails n (6 : Int32) x3 m14) (fun r15 m16 => (if r15 = (0 : Int32) then some ((0 : Int32), m16) else some ((1 : Int32), m16))) else some ((1 : Int32), m14)))) else qc (f_X9_fails n (1 : Int32) (m11 1 3) m11) (fun r17 m18 => qb r17 (some (r17, m18)))))))))) else qc (f_X9_fails n (5 : Int32) x3 m2) (fun r19 m20 => qb r19 (some (r19, m20)))))) else qc (f_X6_readTry n  m2) (fun r21 m22 => qb r21 (some (r21, m22)))))
set_option maxRecDepth 4000 in
theorem w_X6_readStep {g : qG} {k : qK} (n : Nat) (j r : Nat) (hj : q_isLaw j) (hr : q_isLaw r) {d1 d : Nat} (hd1 : d1 + 1 ≤ d) (hdn : 3 ≤ d) (F_X6_readSteps : Int32 → qM → qR) (hF_X6_readSteps : ∀ (b1 : Int32) (M : qM), qAM g k.2.1 d1 zX6_readSteps (qL j r) [.inr (some 53), .inl b1] (qL j r, M) (F_X6_readSteps b1 M)) (o : qOk g d zX6_readStep k) (a1 : Int32) (M : qM) : qAE g k zX6_readStep (qL j r) 0 [some (.inr (some 53)), some (.inl a1), none, none, none] [] (qL j r, M) (fo_X6_readStep n F_X6_readSteps a1 M) := by
  unfold fo_X6_readStep
  refine qr_aload_n o (q_dm dm_X6_readStep 0 rfl) rfl ?_
  refine qr_getr (kf := 0) o cf_X6 (sh53 j r) rfl (Nat.le_of_ble_eq_true rfl) fl_X6_18 (q_dm dm_X6_readStep 1 rfl) ?_
  refine qr_callv_i (As := []) (S := []) o (a_X9_sign g k.2.1 n j r hj hr  M) (by omega) zv_X9_sign rfl cf_X9 (sh1 j r) ml_X6_49 (Nat.le_of_ble_eq_true rfl) (q_dm dm_X6_readStep 2 rfl) (fun r1 m2 => ?_)
  refine qr_bipush o (q_dm dm_X6_readStep 3 rfl) bi_40 ?_
  refine qr_icmp_eq (tgt := 17) o (q_dm dm_X6_readStep 4 rfl) (by decide) ?_ ?_
  · refine qr_aload_n o (q_dm dm_X6_readStep 8 rfl) rfl ?_
    refine qr_getr (kf := 0) o cf_X6 (sh53 j r) rfl (Nat.le_of_ble_eq_true rfl) fl_X6_18 (q_dm dm_X6_readStep 9 rfl) ?_
    refine qr_getf (kf := 3) o cf_X9 (sh1 j r) rfl (Nat.le_of_ble_eq_true rfl) fl_X6_56 (q_dm dm_X6_readStep 10 rfl) ?_
    refine qr_lt (fun x3 => ?_)
    refine qs_istore_n (L' := [some (.inr (some 53)), some (.inl a1), some (.inl x3), none, none]) o (q_dm dm_X6_readStep 11 rfl) (Nat.le_of_ble_eq_true rfl) rfl ?_
    refine qr_aload_n o (q_dm dm_X6_readStep 12 rfl) rfl ?_
    refine qr_getf (kf := 3) o cf_X6 (sh53 j r) rfl (Nat.le_of_ble_eq_true rfl) fl_X6_28 (q_dm dm_X6_readStep 13 rfl) ?_
    refine qr_lt (fun x4 => ?_)
    refine qs_istore_n (L' := [some (.inr (some 53)), some (.inl a1), some (.inl x3), some (.inl x4), none]) o (q_dm dm_X6_readStep 14 rfl) (Nat.le_of_ble_eq_true rfl) rfl ?_
    refine qr_iload_n o (q_dm dm_X6_readStep 15 rfl) rfl ?_
    refine qr_iconst o (q_dm dm_X6_readStep 16 rfl) ic_3 ?_
    refine qr_icmp_lt (tgt := 45) o (q_dm dm_X6_readStep 17 rfl) (by decide) ?_ ?_
    · refine qr_aload_n o (q_dm dm_X6_readStep 24 rfl) rfl ?_
      refine qr_getr (kf := 0) o cf_X6 (sh53 j r) rfl (Nat.le_of_ble_eq_true rfl) fl_X6_18 (q_dm dm_X6_readStep 25 rfl) ?_
      refine qr_dup o (q_dm dm_X6_readStep 26 rfl) ?_
      refine qr_getf (kf := 3) o cf_X9 (sh1 j r) rfl (Nat.le_of_ble_eq_true rfl) fl_X6_56 (q_dm dm_X6_readStep 27 rfl) ?_
      refine qr_iconst o (q_dm dm_X6_readStep 28 rfl) ic_1 ?_
      refine qr_iadd o (q_dm dm_X6_readStep 29 rfl) ?_
      refine qr_putf (kf := 3) o cf_X9 (sh1 j r) rfl (Nat.le_of_ble_eq_true rfl) fl_X6_56 rfl (by decide +kernel) (q_dm dm_X6_readStep 30 rfl) ?_
      refine qr_letm (fun m5 => ?_)
      refine qr_aload_n o (q_dm dm_X6_readStep 31 rfl) rfl ?_
      refine qr_iload_n o (q_dm dm_X6_readStep 32 rfl) rfl ?_
      refine qr_iconst o (q_dm dm_X6_readStep 33 rfl) ic_1 ?_
      refine qr_iadd o (q_dm dm_X6_readStep 34 rfl) ?_
      refine qr_callv_i (As := [.inl (a1 + (1 : Int32))]) (S := []) o (hF_X6_readSteps (a1 + (1 : Int32)) m5) (by omega) zv_X6_readSteps rfl cf_X6 (sh53 j r) ml_X6_32 (Nat.le_of_ble_eq_true rfl) (q_dm dm_X6_readStep 35 rfl) (fun r6 m7 => ?_)
      refine qr_if_eq (tgt := 80) o (q_dm dm_X6_readStep 36 rfl) (by decide) ?_ ?_
      · refine qr_iconst o (q_dm dm_X6_readStep 42 rfl) ic_0 ?_
        exact qr_iret o rfl (by decide) (q_dm dm_X6_readStep 43 rfl)
      · refine qr_aload_n o (q_dm dm_X6_readStep 37 rfl) rfl ?_
        refine qr_getr (kf := 0) o cf_X6 (sh53 j r) rfl (Nat.le_of_ble_eq_true rfl) fl_X6_18 (q_dm dm_X6_readStep 38 rfl) ?_
        refine qr_bipush o (q_dm dm_X6_readStep 39 rfl) bi_41 ?_
        refine qr_callv_i (As := [.inl (41 : Int32)]) (S := []) o (a_X9_mustTake g k.2.1 n j r hj hr (41 : Int32) m7) (by omega) zv_X9_mustTake rfl cf_X9 (sh1 j r) ml_X6_63 (Nat.le_of_ble_eq_true rfl) (q_dm dm_X6_readStep 40 rfl) (fun r8 m9 => ?_)
        refine qr_if_ne (tgt := 82) o (q_dm dm_X6_readStep 41 rfl) (by decide) ?_ ?_
        · refine qr_aload_n o (q_dm dm_X6_readStep 44 rfl) rfl ?_
          refine qr_getr (kf := 0) o cf_X6 (sh53 j r) rfl (Nat.le_of_ble_eq_true rfl) fl_X6_18 (q_dm dm_X6_readStep 45 rfl) ?_
          refine qr_callv_i (As := []) (S := []) o (a_X9_digit g k.2.1 n j r hj hr  m9) (by omega) zv_X9_digit rfl cf_X9 (sh1 j r) ml_X6_66 (Nat.le_of_ble_eq_true rfl) (q_dm dm_X6_readStep 46 rfl) (fun r10 m11 => ?_)
          refine qs_istore (L' := [some (.inr (some 53)), some (.inl a1), some (.inl x3), some (.inl x4), some (.inl r10)]) o (q_dm dm_X6_readStep 47 rfl) (Nat.le_of_ble_eq_true rfl) rfl ?_
          refine qr_iload o (q_dm dm_X6_readStep 48 rfl) rfl ?_
          refine qr_iconst o (q_dm dm_X6_readStep 49 rfl) ic_2 ?_
          refine qr_icmp_ge (tgt := 113) o (q_dm dm_X6_readStep 50 rfl) (by decide) ?_ ?_
          · refine qr_aload_n o (q_dm dm_X6_readStep 59 rfl) rfl ?_
            refine qr_getr (kf := 0) o cf_X6 (sh53 j r) rfl (Nat.le_of_ble_eq_true rfl) fl_X6_18 (q_dm dm_X6_readStep 60 rfl) ?_
            refine qr_dup o (q_dm dm_X6_readStep 61 rfl) ?_
            refine qr_getf (kf := 3) o cf_X9 (sh1 j r) rfl (Nat.le_of_ble_eq_true rfl) fl_X6_56 (q_dm dm_X6_readStep 62 rfl) ?_
            refine qr_iconst o (q_dm dm_X6_readStep 63 rfl) ic_1 ?_
            refine qr_iadd o (q_dm dm_X6_readStep 64 rfl) ?_
            refine qr_putf (kf := 3) o cf_X9 (sh1 j r) rfl (Nat.le_of_ble_eq_true rfl) fl_X6_56 rfl (by decide +kernel) (q_dm dm_X6_readStep 65 rfl) ?_
            refine qr_letm (fun m12 => ?_)
            refine qr_aload_n o (q_dm dm_X6_readStep 66 rfl) rfl ?_
            refine qr_iload_n o (q_dm dm_X6_readStep 67 rfl) rfl ?_
            refine qr_iload o (q_dm dm_X6_readStep 68 rfl) rfl ?_
            refine qr_callv_i (As := [.inl x4, .inl r10]) (S := []) o (a_X6_repeatSteps g k.2.1 n j r hj hr x4 r10 m12) (by omega) zv_X6_repeatSteps rfl cf_X6 (sh53 j r) ml_X6_69 (Nat.le_of_ble_eq_true rfl) (q_dm dm_X6_readStep 69 rfl) (fun r13 m14 => ?_)
            refine qr_if_ne (tgt := 149) o (q_dm dm_X6_readStep 70 rfl) (by decide) ?_ ?_
            · refine qr_iconst o (q_dm dm_X6_readStep 77 rfl) ic_1 ?_
              refine qr_goto (tgt := 154) o (q_dm dm_X6_readStep 78 rfl) (by decide) ?_
              exact qr_iret o rfl (by decide) (q_dm dm_X6_readStep 80 rfl)
            · refine qr_aload_n o (q_dm dm_X6_readStep 71 rfl) rfl ?_
              refine qr_getr (kf := 0) o cf_X6 (sh53 j r) rfl (Nat.le_of_ble_eq_true rfl) fl_X6_18 (q_dm dm_X6_readStep 72 rfl) ?_
              refine qr_bipush o (q_dm dm_X6_readStep 73 rfl) bi_6 ?_
              refine qr_iload_n o (q_dm dm_X6_readStep 74 rfl) rfl ?_
              refine qr_callv_i (As := [.inl (6 : Int32), .inl x3]) (S := []) o (a_X9_fails g k.2.1 n j r hj hr (6 : Int32) x3 m14) (by omega) zv_X9_fails rfl cf_X9 (sh1 j r) ml_X6_59 (Nat.le_of_ble_eq_true rfl) (q_dm dm_X6_readStep 75 rfl) (fun r15 m16 => ?_)
              refine qr_if_eq (tgt := 153) o (q_dm dm_X6_readStep 76 rfl) (by decide) ?_ ?_
              · refine qr_iconst o (q_dm dm_X6_readStep 79 rfl) ic_0 ?_
                exact qr_iret o rfl (by decide) (q_dm dm_X6_readStep 80 rfl)
              · refine qr_iconst o (q_dm dm_X6_readStep 77 rfl) ic_1 ?_
                refine qr_goto (tgt := 154) o (q_dm dm_X6_readStep 78 rfl) (by decide) ?_
                exact qr_iret o rfl (by decide) (q_dm dm_X6_readStep 80 rfl)
          · refine qr_aload_n o (q_dm dm_X6_readStep 51 rfl) rfl ?_
            refine qr_getr (kf := 0) o cf_X6 (sh53 j r) rfl (Nat.le_of_ble_eq_true rfl) fl_X6_18 (q_dm dm_X6_readStep 52 rfl) ?_
            refine qr_iconst o (q_dm dm_X6_readStep 53 rfl) ic_1 ?_
            refine qr_aload_n o (q_dm dm_X6_readStep 54 rfl) rfl ?_
            refine qr_getr (kf := 0) o cf_X6 (sh53 j r) rfl (Nat.le_of_ble_eq_true rfl) fl_X6_18 (q_dm dm_X6_readStep 55 rfl) ?_
            refine qr_getf (kf := 3) o cf_X9 (sh1 j r) rfl (Nat.le_of_ble_eq_true rfl) fl_X6_56 (q_dm dm_X6_readStep 56 rfl) ?_
            refine qr_callv_i (As := [.inl (1 : Int32), .inl (m11 1 3)]) (S := []) o (a_X9_fails g k.2.1 n j r hj hr (1 : Int32) (m11 1 3) m11) (by omega) zv_X9_fails rfl cf_X9 (sh1 j r) ml_X6_59 (Nat.le_of_ble_eq_true rfl) (q_dm dm_X6_readStep 57 rfl) (fun r17 m18 => ?_)
            exact qr_zret o rfl (q_dm dm_X6_readStep 58 rfl)
        · refine qr_iconst o (q_dm dm_X6_readStep 42 rfl) ic_0 ?_
          exact qr_iret o rfl (by decide) (q_dm dm_X6_readStep 43 rfl)
    · refine qr_aload_n o (q_dm dm_X6_readStep 18 rfl) rfl ?_
      refine qr_getr (kf := 0) o cf_X6 (sh53 j r) rfl (Nat.le_of_ble_eq_true rfl) fl_X6_18 (q_dm dm_X6_readStep 19 rfl) ?_
      refine qr_iconst o (q_dm dm_X6_readStep 20 rfl) ic_5 ?_
      refine qr_iload_n o (q_dm dm_X6_readStep 21 rfl) rfl ?_
      refine qr_callv_i (As := [.inl (5 : Int32), .inl x3]) (S := []) o (a_X9_fails g k.2.1 n j r hj hr (5 : Int32) x3 m2) (by omega) zv_X9_fails rfl cf_X9 (sh1 j r) ml_X6_59 (Nat.le_of_ble_eq_true rfl) (q_dm dm_X6_readStep 22 rfl) (fun r19 m20 => ?_)
      exact qr_zret o rfl (q_dm dm_X6_readStep 23 rfl)
  · refine qr_aload_n o (q_dm dm_X6_readStep 5 rfl) rfl ?_
    refine qr_callv_i (As := []) (S := []) o (a_X6_readTry g k.2.1 n j r hj hr  m2) (by omega) zv_X6_readTry rfl cf_X6 (sh53 j r) ml_X6_53 (Nat.le_of_ble_eq_true rfl) (q_dm dm_X6_readStep 6 rfl) (fun r21 m22 => ?_)
    exact qr_zret o rfl (q_dm dm_X6_readStep 7 rfl)

theorem ao_X6_readStep (g : qG) (l : Launch) (n : Nat) (j r : Nat) (hj : q_isLaw j) (hr : q_isLaw r) {d1 d : Nat} (hd1 : d1 + 1 ≤ d) (hdn : 3 ≤ d) (F_X6_readSteps : Int32 → qM → qR) (hF_X6_readSteps : ∀ (b1 : Int32) (M : qM), qAM g l d1 zX6_readSteps (qL j r) [.inr (some 53), .inl b1] (qL j r, M) (F_X6_readSteps b1 M)) (a1 : Int32) (M : qM) : qAM g l d zX6_readStep (qL j r) [.inr (some 53), .inl a1] (qL j r, M) (fo_X6_readStep n F_X6_readSteps a1 M) :=
  qAM.of zv_X6_readStep.1 (by show 2 ≤ 5; decide) (fun k hk o => by subst hk; exact w_X6_readStep n j r hj hr hd1 hdn F_X6_readSteps hF_X6_readSteps o a1 M)
def tb_X6_readSteps : List (Nat × Instr × Nat) := [(0, (.aload_n 0, 1)), (1, (.iload_n 1, 1)), (2, (.invokevirtual 43, 3)), (5, (.istore_n 2, 1)), (6, (.iconst 0, 1)), (7, (.istore_n 3, 1)), (8, (.iload_n 3, 1)), (9, (.bipush 80, 2)), (11, (.if_icmp .ge 33, 3)), (14, (.iload_n 2, 1)), (15, (.ifCond .eq 29, 3)), (18, (.aload_n 0, 1)), (19, (.getfield 18, 3)), (22, (.bipush 44, 2)), (24, (.invokevirtual 46, 3)), (27, (.ifCond .ne 5, 3)), (30, (.iconst 1, 1)), (31, (.ireturn, 1)), (32, (.aload_n 0, 1)), (33, (.iload_n 1, 1)), (34, (.invokevirtual 43, 3)), (37, (.istore_n 2, 1)), (38, (.iinc 3 1, 3)), (41, (.goto (-33), 3)), (44, (.iload_n 2, 1)), (45, (.ireturn, 1))]
theorem dm_X6_readSteps : ∀ q ∈ tb_X6_readSteps, decode zX6_readSteps.2.1 q.1 = .ok q.2 := by decide +kernel
def b_X6_readSteps_8 (n : Nat) (F_X6_readStep : Int32 → qM → qR) (K8 : Int32 → Int32 → Int32 → qM → qR) (a1 a2 a3 : Int32) (M : qM) : qR :=
  (if (80 : Int32) ≤ a3 then qb a2 (some (a2, M)) else (if a2 = (0 : Int32) then qb a2 (some (a2, M)) else qc (f_X9_takes n (44 : Int32) M) (fun r1 m2 => (if r1 = (0 : Int32) then some ((1 : Int32), m2) else qc (F_X6_readStep a1 m2) (fun r3 m4 => ql (a3 + (1 : Int32)) (fun x5 => K8 a1 r3 x5 m4))))))
set_option maxRecDepth 4000 in
theorem wb_X6_readSteps_8 {g : qG} {k : qK} (n : Nat) (j r : Nat) (hj : q_isLaw j) (hr : q_isLaw r) {d1 d : Nat} (hd1 : d1 + 1 ≤ d) (hdn : 3 ≤ d) (F_X6_readStep : Int32 → qM → qR) (hF_X6_readStep : ∀ (b1 : Int32) (M : qM), qAM g k.2.1 d1 zX6_readStep (qL j r) [.inr (some 53), .inl b1] (qL j r, M) (F_X6_readStep b1 M)) (o : qOk g d zX6_readSteps k) (K8 : Int32 → Int32 → Int32 → qM → qR) (hK8 : ∀ (a1 a2 a3 : Int32) (M : qM), qAE g k zX6_readSteps (qL j r) 8 [some (.inr (some 53)), some (.inl a1), some (.inl a2), some (.inl a3)] [] (qL j r, M) (K8 a1 a2 a3 M)) (a1 a2 a3 : Int32) (M : qM) : qAE g k zX6_readSteps (qL j r) 8 [some (.inr (some 53)), some (.inl a1), some (.inl a2), some (.inl a3)] [] (qL j r, M) (b_X6_readSteps_8 n F_X6_readStep K8 a1 a2 a3 M) := by
  unfold b_X6_readSteps_8
  refine qr_iload_n o (q_dm dm_X6_readSteps 6 rfl) rfl ?_
  refine qr_bipush o (q_dm dm_X6_readSteps 7 rfl) bi_80 ?_
  refine qr_icmp_ge (tgt := 44) o (q_dm dm_X6_readSteps 8 rfl) (by decide) ?_ ?_
  · refine qr_iload_n o (q_dm dm_X6_readSteps 24 rfl) rfl ?_
    exact qr_zret o rfl (q_dm dm_X6_readSteps 25 rfl)
  · refine qr_iload_n o (q_dm dm_X6_readSteps 9 rfl) rfl ?_
    refine qr_if_eq (tgt := 44) o (q_dm dm_X6_readSteps 10 rfl) (by decide) ?_ ?_
    · refine qr_iload_n o (q_dm dm_X6_readSteps 24 rfl) rfl ?_
      exact qr_zret o rfl (q_dm dm_X6_readSteps 25 rfl)
    · refine qr_aload_n o (q_dm dm_X6_readSteps 11 rfl) rfl ?_
      refine qr_getr (kf := 0) o cf_X6 (sh53 j r) rfl (Nat.le_of_ble_eq_true rfl) fl_X6_18 (q_dm dm_X6_readSteps 12 rfl) ?_
      refine qr_bipush o (q_dm dm_X6_readSteps 13 rfl) bi_44 ?_
      refine qr_callv_i (As := [.inl (44 : Int32)]) (S := []) o (a_X9_takes g k.2.1 n j r hj hr (44 : Int32) M) (by omega) zv_X9_takes rfl cf_X9 (sh1 j r) ml_X6_46 (Nat.le_of_ble_eq_true rfl) (q_dm dm_X6_readSteps 14 rfl) (fun r1 m2 => ?_)
      refine qr_if_ne (tgt := 32) o (q_dm dm_X6_readSteps 15 rfl) (by decide) ?_ ?_
      · refine qr_aload_n o (q_dm dm_X6_readSteps 18 rfl) rfl ?_
        refine qr_iload_n o (q_dm dm_X6_readSteps 19 rfl) rfl ?_
        refine qr_callv_i (As := [.inl a1]) (S := []) o (hF_X6_readStep a1 m2) (by omega) zv_X6_readStep rfl cf_X6 (sh53 j r) ml_X6_43 (Nat.le_of_ble_eq_true rfl) (q_dm dm_X6_readSteps 20 rfl) (fun r3 m4 => ?_)
        refine qs_istore_n (L' := [some (.inr (some 53)), some (.inl a1), some (.inl r3), some (.inl a3)]) o (q_dm dm_X6_readSteps 21 rfl) (Nat.le_of_ble_eq_true rfl) rfl ?_
        refine qs_iincl2 (L' := fun x5 => [some (.inr (some 53)), some (.inl a1), some (.inl r3), some (.inl x5)]) o (q_dm dm_X6_readSteps 22 rfl) rfl ic_1 (Nat.le_of_ble_eq_true rfl) (fun _ => rfl) (fun x5 => ?_)
        refine qr_goto (tgt := 8) o (q_dm dm_X6_readSteps 23 rfl) (by decide) ?_
        exact qr_loc (q_leS (q_leS (q_leS (q_leS q_le0)))) (hK8 a1 r3 x5 m4)
      · refine qr_iconst o (q_dm dm_X6_readSteps 16 rfl) ic_1 ?_
        exact qr_iret o rfl (by decide) (q_dm dm_X6_readSteps 17 rfl)

def f_X6_readSteps_8 (n : Nat) (F_X6_readStep : Int32 → qM → qR) : Nat → Int32 → Int32 → Int32 → qM → qR
  | 0, _, _, _, _ => none
  | m + 1, a1, a2, a3, M => b_X6_readSteps_8 n F_X6_readStep (f_X6_readSteps_8 n F_X6_readStep m) a1 a2 a3 M
theorem w_X6_readSteps_8 {g : qG} {k : qK} (n : Nat) (j r : Nat) (hj : q_isLaw j) (hr : q_isLaw r) {d1 d : Nat} (hd1 : d1 + 1 ≤ d) (hdn : 3 ≤ d) (F_X6_readStep : Int32 → qM → qR) (hF_X6_readStep : ∀ (b1 : Int32) (M : qM), qAM g k.2.1 d1 zX6_readStep (qL j r) [.inr (some 53), .inl b1] (qL j r, M) (F_X6_readStep b1 M)) (o : qOk g d zX6_readSteps k) : ∀ (m : Nat) (a1 a2 a3 : Int32) (M : qM), qAE g k zX6_readSteps (qL j r) 8 [some (.inr (some 53)), some (.inl a1), some (.inl a2), some (.inl a3)] [] (qL j r, M) (f_X6_readSteps_8 n F_X6_readStep m a1 a2 a3 M) := by
  intro m
  induction m with
  | zero =>
    intro a1 a2 a3 M
    exact qr_none
  | succ m ih =>
    intro a1 a2 a3 M
    exact wb_X6_readSteps_8 n j r hj hr hd1 hdn F_X6_readStep hF_X6_readStep o (f_X6_readSteps_8 n F_X6_readStep m) ih a1 a2 a3 M
def fo_X6_readSteps (n : Nat) (F_X6_readStep : Int32 → qM → qR) (a1 : Int32) (M : qM) : qR :=
  qc (F_X6_readStep a1 M) (fun r1 m2 => f_X6_readSteps_8 n F_X6_readStep n a1 r1 (0 : Int32) m2)
set_option maxRecDepth 4000 in
theorem w_X6_readSteps {g : qG} {k : qK} (n : Nat) (j r : Nat) (hj : q_isLaw j) (hr : q_isLaw r) {d1 d : Nat} (hd1 : d1 + 1 ≤ d) (hdn : 3 ≤ d) (F_X6_readStep : Int32 → qM → qR) (hF_X6_readStep : ∀ (b1 : Int32) (M : qM), qAM g k.2.1 d1 zX6_readStep (qL j r) [.inr (some 53), .inl b1] (qL j r, M) (F_X6_readStep b1 M)) (o : qOk g d zX6_readSteps k) (a1 : Int32) (M : qM) : qAE g k zX6_readSteps (qL j r) 0 [some (.inr (some 53)), some (.inl a1), none, none] [] (qL j r, M) (fo_X6_readSteps n F_X6_readStep a1 M) := by
  unfold fo_X6_readSteps
  refine qr_aload_n o (q_dm dm_X6_readSteps 0 rfl) rfl ?_
  refine qr_iload_n o (q_dm dm_X6_readSteps 1 rfl) rfl ?_
  refine qr_callv_i (As := [.inl a1]) (S := []) o (hF_X6_readStep a1 M) (by omega) zv_X6_readStep rfl cf_X6 (sh53 j r) ml_X6_43 (Nat.le_of_ble_eq_true rfl) (q_dm dm_X6_readSteps 2 rfl) (fun r1 m2 => ?_)
  refine qs_istore_n (L' := [some (.inr (some 53)), some (.inl a1), some (.inl r1), none]) o (q_dm dm_X6_readSteps 3 rfl) (Nat.le_of_ble_eq_true rfl) rfl ?_
  refine qr_iconst o (q_dm dm_X6_readSteps 4 rfl) ic_0 ?_
  refine qs_istore_n (L' := [some (.inr (some 53)), some (.inl a1), some (.inl r1), some (.inl (0 : Int32))]) o (q_dm dm_X6_readSteps 5 rfl) (Nat.le_of_ble_eq_true rfl) rfl ?_
  exact qr_loc (q_leS (q_leS (q_leS (q_leS q_le0)))) (w_X6_readSteps_8 n j r hj hr hd1 hdn F_X6_readStep hF_X6_readStep o n a1 r1 (0 : Int32) m2)

theorem ao_X6_readSteps (g : qG) (l : Launch) (n : Nat) (j r : Nat) (hj : q_isLaw j) (hr : q_isLaw r) {d1 d : Nat} (hd1 : d1 + 1 ≤ d) (hdn : 3 ≤ d) (F_X6_readStep : Int32 → qM → qR) (hF_X6_readStep : ∀ (b1 : Int32) (M : qM), qAM g l d1 zX6_readStep (qL j r) [.inr (some 53), .inl b1] (qL j r, M) (F_X6_readStep b1 M)) (a1 : Int32) (M : qM) : qAM g l d zX6_readSteps (qL j r) [.inr (some 53), .inl a1] (qL j r, M) (fo_X6_readSteps n F_X6_readStep a1 M) :=
  qAM.of zv_X6_readSteps.1 (by show 2 ≤ 4; decide) (fun k hk o => by subst hk; exact w_X6_readSteps n j r hj hr hd1 hdn F_X6_readStep hF_X6_readStep o a1 M)
def rc_X6_readStep (n : Nat) : Nat → Nat → Int32 → qM → qR
  | 0, _, _, _ => none
  | m + 1, 0, a1, M => fo_X6_readStep n (rc_X6_readStep n m 1) a1 M
  | m + 1, _, a1, M => fo_X6_readSteps n (rc_X6_readStep n m 0) a1 M

theorem rc_X6_readStep_ok (g : qG) (l : Launch) (n : Nat) (j r : Nat) (hj : q_isLaw j) (hr : q_isLaw r) : ∀ m : Nat, (∀ (a1 : Int32) (M : qM), qAM g l (3 + m) zX6_readStep (qL j r) [.inr (some 53), .inl a1] (qL j r, M) (rc_X6_readStep n m 0 a1 M)) ∧ (∀ (a1 : Int32) (M : qM), qAM g l (3 + m) zX6_readSteps (qL j r) [.inr (some 53), .inl a1] (qL j r, M) (rc_X6_readStep n m 1 a1 M)) := by
  intro m
  induction m with
  | zero => exact ⟨(fun _ _ _ _ h => by cases h), (fun _ _ _ _ h => by cases h)⟩
  | succ m ih =>
    exact ⟨(fun a1 M => ao_X6_readStep g l n j r hj hr (d1 := 3 + m) (d := 3 + (m + 1)) (Nat.le_refl _) (Nat.le_add_right _ _) (rc_X6_readStep n m 1) ih.2 a1 M),
      (fun a1 M => ao_X6_readSteps g l n j r hj hr (d1 := 3 + m) (d := 3 + (m + 1)) (Nat.le_refl _) (Nat.le_add_right _ _) (rc_X6_readStep n m 0) ih.1 a1 M)⟩

def f_X6_readStep (n : Nat) (a1 : Int32) (M : qM) : qR := rc_X6_readStep n 14 0 a1 M
theorem a_X6_readStep (g : qG) (l : Launch) (n : Nat) (j r : Nat) (hj : q_isLaw j) (hr : q_isLaw r) (a1 : Int32) (M : qM) : qAM g l 17 zX6_readStep (qL j r) [.inr (some 53), .inl a1] (qL j r, M) (f_X6_readStep n a1 M) := (rc_X6_readStep_ok g l n j r hj hr 14).1 a1 M
def f_X6_readSteps (n : Nat) (a1 : Int32) (M : qM) : qR := rc_X6_readStep n 14 1 a1 M
theorem a_X6_readSteps (g : qG) (l : Launch) (n : Nat) (j r : Nat) (hj : q_isLaw j) (hr : q_isLaw r) (a1 : Int32) (M : qM) : qAM g l 17 zX6_readSteps (qL j r) [.inr (some 53), .inl a1] (qL j r, M) (f_X6_readSteps n a1 M) := (rc_X6_readStep_ok g l n j r hj hr 14).2 a1 M
def tb_X6_read : List (Nat × Instr × Nat) := [(0, (.aload_n 0, 1)), (1, (.getfield 18, 3)), (4, (.iload_n 1, 1)), (5, (.invokevirtual 22, 3)), (8, (.aload_n 0, 1)), (9, (.iconst 0, 1)), (10, (.putfield 28, 3)), (13, (.aload_n 0, 1)), (14, (.iconst 0, 1)), (15, (.invokevirtual 32, 3)), (18, (.ifCond .eq 20, 3)), (21, (.aload_n 0, 1)), (22, (.getfield 18, 3)), (25, (.invokevirtual 36, 3)), (28, (.ifCond .eq 10, 3)), (31, (.aload_n 0, 1)), (32, (.getfield 28, 3)), (35, (.goto 10, 3)), (38, (.aload_n 0, 1)), (39, (.getfield 18, 3)), (42, (.getfield 40, 3)), (45, (.ireturn, 1))]
theorem dm_X6_read : ∀ q ∈ tb_X6_read, decode zX6_read.2.1 q.1 = .ok q.2 := by decide +kernel
def f_X6_read (n : Nat) (a1 : Int32) (M : qM) : qR :=
  qc (f_X9_openText n a1 M) (fun _ m1 => qlm (mu m1 53 3 (0 : Int32)) (fun m2 => qc (f_X6_readSteps n (0 : Int32) m2) (fun r3 m4 => (if r3 = (0 : Int32) then some ((m4 1 4), m4) else qc (f_X9_mustEnd n  m4) (fun r5 m6 => (if r5 = (0 : Int32) then some ((m6 1 4), m6) else some ((m6 53 3), m6)))))))
set_option maxRecDepth 4000 in
theorem w_X6_read {g : qG} {k : qK} (n : Nat) (j r : Nat) (hj : q_isLaw j) (hr : q_isLaw r) (o : qOk g 18 zX6_read k) (a1 : Int32) (M : qM) : qAE g k zX6_read (qL j r) 0 [some (.inr (some 53)), some (.inl a1)] [] (qL j r, M) (f_X6_read n a1 M) := by
  unfold f_X6_read
  refine qr_aload_n o (q_dm dm_X6_read 0 rfl) rfl ?_
  refine qr_getr (kf := 0) o cf_X6 (sh53 j r) rfl (Nat.le_of_ble_eq_true rfl) fl_X6_18 (q_dm dm_X6_read 1 rfl) ?_
  refine qr_iload_n o (q_dm dm_X6_read 2 rfl) rfl ?_
  refine qr_callv_v (As := [.inl a1]) (S := []) o (a_X9_openText g k.2.1 n j r hj hr a1 M) (Nat.le_of_ble_eq_true rfl) zv_X9_openText rfl cf_X9 (sh1 j r) ml_X6_22 (Nat.le_of_ble_eq_true rfl) (q_dm dm_X6_read 3 rfl) (fun _ m1 => ?_)
  refine qr_aload_n o (q_dm dm_X6_read 4 rfl) rfl ?_
  refine qr_iconst o (q_dm dm_X6_read 5 rfl) ic_0 ?_
  refine qr_putf (kf := 3) o cf_X6 (sh53 j r) rfl (Nat.le_of_ble_eq_true rfl) fl_X6_28 rfl (by decide +kernel) (q_dm dm_X6_read 6 rfl) ?_
  refine qr_letm (fun m2 => ?_)
  refine qr_aload_n o (q_dm dm_X6_read 7 rfl) rfl ?_
  refine qr_iconst o (q_dm dm_X6_read 8 rfl) ic_0 ?_
  refine qr_callv_i (As := [.inl (0 : Int32)]) (S := []) o (a_X6_readSteps g k.2.1 n j r hj hr (0 : Int32) m2) (Nat.le_of_ble_eq_true rfl) zv_X6_readSteps rfl cf_X6 (sh53 j r) ml_X6_32 (Nat.le_of_ble_eq_true rfl) (q_dm dm_X6_read 9 rfl) (fun r3 m4 => ?_)
  refine qr_if_eq (tgt := 38) o (q_dm dm_X6_read 10 rfl) (by decide) ?_ ?_
  · refine qr_aload_n o (q_dm dm_X6_read 18 rfl) rfl ?_
    refine qr_getr (kf := 0) o cf_X6 (sh53 j r) rfl (Nat.le_of_ble_eq_true rfl) fl_X6_18 (q_dm dm_X6_read 19 rfl) ?_
    refine qr_getf (kf := 4) o cf_X9 (sh1 j r) rfl (Nat.le_of_ble_eq_true rfl) fl_X6_40 (q_dm dm_X6_read 20 rfl) ?_
    exact qr_iret o rfl rfl (q_dm dm_X6_read 21 rfl)
  · refine qr_aload_n o (q_dm dm_X6_read 11 rfl) rfl ?_
    refine qr_getr (kf := 0) o cf_X6 (sh53 j r) rfl (Nat.le_of_ble_eq_true rfl) fl_X6_18 (q_dm dm_X6_read 12 rfl) ?_
    refine qr_callv_i (As := []) (S := []) o (a_X9_mustEnd g k.2.1 n j r hj hr  m4) (Nat.le_of_ble_eq_true rfl) zv_X9_mustEnd rfl cf_X9 (sh1 j r) ml_X6_36 (Nat.le_of_ble_eq_true rfl) (q_dm dm_X6_read 13 rfl) (fun r5 m6 => ?_)
    refine qr_if_eq (tgt := 38) o (q_dm dm_X6_read 14 rfl) (by decide) ?_ ?_
    · refine qr_aload_n o (q_dm dm_X6_read 18 rfl) rfl ?_
      refine qr_getr (kf := 0) o cf_X6 (sh53 j r) rfl (Nat.le_of_ble_eq_true rfl) fl_X6_18 (q_dm dm_X6_read 19 rfl) ?_
      refine qr_getf (kf := 4) o cf_X9 (sh1 j r) rfl (Nat.le_of_ble_eq_true rfl) fl_X6_40 (q_dm dm_X6_read 20 rfl) ?_
      exact qr_iret o rfl rfl (q_dm dm_X6_read 21 rfl)
    · refine qr_aload_n o (q_dm dm_X6_read 15 rfl) rfl ?_
      refine qr_getf (kf := 3) o cf_X6 (sh53 j r) rfl (Nat.le_of_ble_eq_true rfl) fl_X6_28 (q_dm dm_X6_read 16 rfl) ?_
      refine qr_goto (tgt := 45) o (q_dm dm_X6_read 17 rfl) (by decide) ?_
      exact qr_iret o rfl rfl (q_dm dm_X6_read 21 rfl)

theorem a_X6_read (g : qG) (l : Launch) (n : Nat) (j r : Nat) (hj : q_isLaw j) (hr : q_isLaw r) (a1 : Int32) (M : qM) : qAM g l 18 zX6_read (qL j r) [.inr (some 53), .inl a1] (qL j r, M) (f_X6_read n a1 M) :=
  qAM.of zv_X6_read.1 (by show 2 ≤ 2; decide) (fun k hk o => w_X6_read n j r hj hr o a1 M)
def tb_X11_plan : List (Nat × Instr × Nat) := [(0, (.aload_n 0, 1)), (1, (.getfield 26, 3)), (4, (.iload_n 1, 1)), (5, (.invokevirtual 131, 3)), (8, (.ifCond .eq 25, 3)), (11, (.iload_n 2, 1)), (12, (.iconst 1, 1)), (13, (.if_icmp .lt 20, 3)), (16, (.iload_n 2, 1)), (17, (.bipush 80, 2)), (19, (.if_icmp .gt 14, 3)), (22, (.iload_n 2, 1)), (23, (.aload_n 0, 1)), (24, (.getfield 10, 3)), (27, (.getfield 112, 3)), (30, (.if_icmp .le 5, 3)), (33, (.iconst (-1), 1)), (34, (.ireturn, 1)), (35, (.aload_n 0, 1)), (36, (.getfield 66, 3)), (39, (.iload_n 2, 1)), (40, (.invokevirtual 135, 3)), (43, (.istore_n 3, 1)), (44, (.aload_n 0, 1)), (45, (.getfield 10, 3)), (48, (.invokevirtual 123, 3)), (51, (.iload_n 3, 1)), (52, (.ifCond .le 15, 3)), (55, (.aload_n 0, 1)), (56, (.getfield 26, 3)), (59, (.iload_n 1, 1)), (60, (.aload_n 0, 1)), (61, (.getfield 66, 3)), (64, (.invokevirtual 136, 3)), (67, (.iload_n 3, 1)), (68, (.ireturn, 1))]
theorem dm_X11_plan : ∀ q ∈ tb_X11_plan, decode zX11_plan.2.1 q.1 = .ok q.2 := by decide +kernel
def f_X11_plan (n : Nat) (a1 a2 : Int32) (M : qM) : qR :=
  qc (f_X10_knows n 7 a1 M) (fun r1 m2 => (if r1 = (0 : Int32) then some ((-1 : Int32), m2) else (if a2 < (1 : Int32) then some ((-1 : Int32), m2) else (if (80 : Int32) < a2 then some ((-1 : Int32), m2) else (if a2 ≤ (m2 1 1) then qc (f_X6_read n a2 m2) (fun r3 m4 => qc (f_X9_clear n  m4) (fun _ m5 => (if r3 ≤ (0 : Int32) then some (r3, m5) else qc (f_X10_takePlan n 7 a1 m5) (fun _ m6 => some (r3, m6))))) else some ((-1 : Int32), m2))))))
set_option maxRecDepth 4000 in
theorem w_X11_plan {g : qG} {k : qK} (n : Nat) (j r : Nat) (hj : q_isLaw j) (hr : q_isLaw r) (o : qOk g 19 zX11_plan k) (a1 a2 : Int32) (M : qM) : qAE g k zX11_plan (qL j r) 0 [some (.inr (some 0)), some (.inl a1), some (.inl a2), none] [] (qL j r, M) (f_X11_plan n a1 a2 M) := by
  unfold f_X11_plan
  refine qr_aload_n o (q_dm dm_X11_plan 0 rfl) rfl ?_
  refine qr_getr (kf := 2) o cf_X11 (sh0 j r) rfl (Nat.le_of_ble_eq_true rfl) fl_X11_26 (q_dm dm_X11_plan 1 rfl) ?_
  refine qr_iload_n o (q_dm dm_X11_plan 2 rfl) rfl ?_
  refine qr_callv_i (As := [.inl a1]) (S := []) o (a_X10_knows g k.2.1 n j r hj hr (Or.inl rfl) a1 M) (Nat.le_of_ble_eq_true rfl) zv_X10_knows rfl cf_X10 (sh7 j r) ml_X11_131 (Nat.le_of_ble_eq_true rfl) (q_dm dm_X11_plan 3 rfl) (fun r1 m2 => ?_)
  refine qr_if_eq (tgt := 33) o (q_dm dm_X11_plan 4 rfl) (by decide) ?_ ?_
  · refine qr_iconst o (q_dm dm_X11_plan 16 rfl) ic_m1 ?_
    exact qr_iret o rfl rfl (q_dm dm_X11_plan 17 rfl)
  · refine qr_iload_n o (q_dm dm_X11_plan 5 rfl) rfl ?_
    refine qr_iconst o (q_dm dm_X11_plan 6 rfl) ic_1 ?_
    refine qr_icmp_lt (tgt := 33) o (q_dm dm_X11_plan 7 rfl) (by decide) ?_ ?_
    · refine qr_iconst o (q_dm dm_X11_plan 16 rfl) ic_m1 ?_
      exact qr_iret o rfl rfl (q_dm dm_X11_plan 17 rfl)
    · refine qr_iload_n o (q_dm dm_X11_plan 8 rfl) rfl ?_
      refine qr_bipush o (q_dm dm_X11_plan 9 rfl) bi_80 ?_
      refine qr_icmp_gt (tgt := 33) o (q_dm dm_X11_plan 10 rfl) (by decide) ?_ ?_
      · refine qr_iconst o (q_dm dm_X11_plan 16 rfl) ic_m1 ?_
        exact qr_iret o rfl rfl (q_dm dm_X11_plan 17 rfl)
      · refine qr_iload_n o (q_dm dm_X11_plan 11 rfl) rfl ?_
        refine qr_aload_n o (q_dm dm_X11_plan 12 rfl) rfl ?_
        refine qr_getr (kf := 0) o cf_X11 (sh0 j r) rfl (Nat.le_of_ble_eq_true rfl) fl_X11_10 (q_dm dm_X11_plan 13 rfl) ?_
        refine qr_getf (kf := 1) o cf_X9 (sh1 j r) rfl (Nat.le_of_ble_eq_true rfl) fl_X11_112 (q_dm dm_X11_plan 14 rfl) ?_
        refine qr_icmp_le (tgt := 35) o (q_dm dm_X11_plan 15 rfl) (by decide) ?_ ?_
        · refine qr_aload_n o (q_dm dm_X11_plan 18 rfl) rfl ?_
          refine qr_getr (kf := 8) o cf_X11 (sh0 j r) rfl (Nat.le_of_ble_eq_true rfl) fl_X11_66 (q_dm dm_X11_plan 19 rfl) ?_
          refine qr_iload_n o (q_dm dm_X11_plan 20 rfl) rfl ?_
          refine qr_callv_i (As := [.inl a2]) (S := []) o (a_X6_read g k.2.1 n j r hj hr a2 m2) (Nat.le_of_ble_eq_true rfl) zv_X6_read rfl cf_X6 (sh53 j r) ml_X11_135 (Nat.le_of_ble_eq_true rfl) (q_dm dm_X11_plan 21 rfl) (fun r3 m4 => ?_)
          refine qs_istore_n (L' := [some (.inr (some 0)), some (.inl a1), some (.inl a2), some (.inl r3)]) o (q_dm dm_X11_plan 22 rfl) (Nat.le_of_ble_eq_true rfl) rfl ?_
          refine qr_aload_n o (q_dm dm_X11_plan 23 rfl) rfl ?_
          refine qr_getr (kf := 0) o cf_X11 (sh0 j r) rfl (Nat.le_of_ble_eq_true rfl) fl_X11_10 (q_dm dm_X11_plan 24 rfl) ?_
          refine qr_callv_v (As := []) (S := []) o (a_X9_clear g k.2.1 n j r hj hr  m4) (Nat.le_of_ble_eq_true rfl) zv_X9_clear rfl cf_X9 (sh1 j r) ml_X11_123 (Nat.le_of_ble_eq_true rfl) (q_dm dm_X11_plan 25 rfl) (fun _ m5 => ?_)
          refine qr_iload_n o (q_dm dm_X11_plan 26 rfl) rfl ?_
          refine qr_if_le (tgt := 67) o (q_dm dm_X11_plan 27 rfl) (by decide) ?_ ?_
          · refine qr_iload_n o (q_dm dm_X11_plan 34 rfl) rfl ?_
            exact qr_iret o rfl rfl (q_dm dm_X11_plan 35 rfl)
          · refine qr_aload_n o (q_dm dm_X11_plan 28 rfl) rfl ?_
            refine qr_getr (kf := 2) o cf_X11 (sh0 j r) rfl (Nat.le_of_ble_eq_true rfl) fl_X11_26 (q_dm dm_X11_plan 29 rfl) ?_
            refine qr_iload_n o (q_dm dm_X11_plan 30 rfl) rfl ?_
            refine qr_aload_n o (q_dm dm_X11_plan 31 rfl) rfl ?_
            refine qr_getr (kf := 8) o cf_X11 (sh0 j r) rfl (Nat.le_of_ble_eq_true rfl) fl_X11_66 (q_dm dm_X11_plan 32 rfl) ?_
            refine qr_callv_v (As := [.inl a1, .inr (some 53)]) (S := []) o (a_X10_takePlan g k.2.1 n j r hj hr (Or.inl rfl) a1 m5) (Nat.le_of_ble_eq_true rfl) zv_X10_takePlan rfl cf_X10 (sh7 j r) ml_X11_136 (Nat.le_of_ble_eq_true rfl) (q_dm dm_X11_plan 33 rfl) (fun _ m6 => ?_)
            refine qr_iload_n o (q_dm dm_X11_plan 34 rfl) rfl ?_
            exact qr_iret o rfl rfl (q_dm dm_X11_plan 35 rfl)
        · refine qr_iconst o (q_dm dm_X11_plan 16 rfl) ic_m1 ?_
          exact qr_iret o rfl rfl (q_dm dm_X11_plan 17 rfl)

theorem a_X11_plan (g : qG) (l : Launch) (n : Nat) (j r : Nat) (hj : q_isLaw j) (hr : q_isLaw r) (a1 a2 : Int32) (M : qM) : qAM g l 19 zX11_plan (qL j r) [.inr (some 0), .inl a1, .inl a2] (qL j r, M) (f_X11_plan n a1 a2 M) :=
  qAM.of zv_X11_plan.1 (by show 3 ≤ 4; decide) (fun k hk o => w_X11_plan n j r hj hr o a1 a2 M)
def tb_X11_rivals : List (Nat × Instr × Nat) := [(0, (.iload_n 1, 1)), (1, (.ifCond .lt 30, 3)), (4, (.iload_n 1, 1)), (5, (.sipush 999, 3)), (8, (.if_icmp .gt 23, 3)), (11, (.iload_n 2, 1)), (12, (.ifCond .lt 19, 3)), (15, (.iload_n 2, 1)), (16, (.sipush 999, 3)), (19, (.if_icmp .gt 12, 3)), (22, (.iload_n 3, 1)), (23, (.ifCond .lt 8, 3)), (26, (.iload_n 3, 1)), (27, (.iconst 1, 1)), (28, (.if_icmp .le 5, 3)), (31, (.iconst (-1), 1)), (32, (.ireturn, 1)), (33, (.iconst 0, 1)), (34, (.istore 4, 2)), (36, (.bipush (-2), 2)), (38, (.istore 5, 2)), (40, (.iconst 3, 1)), (41, (.istore 6, 2)), (43, (.iload 6, 2)), (45, (.ifCond .lt 26, 3)), (48, (.iload 6, 2)), (50, (.iload_n 1, 1)), (51, (.iload_n 2, 1)), (52, (.invokestatic 239, 3)), (55, (.ifCond .eq 10, 3)), (58, (.iinc 4 1, 3)), (61, (.iload 6, 2)), (63, (.istore 5, 2)), (65, (.iinc 6 (-1), 3)), (68, (.goto (-25), 3)), (71, (.iload_n 3, 1)), (72, (.ifCond .ne 8, 3)), (75, (.iload 4, 2)), (77, (.goto 5, 3)), (80, (.iload 5, 2)), (82, (.ireturn, 1))]
theorem dm_X11_rivals : ∀ q ∈ tb_X11_rivals, decode zX11_rivals.2.1 q.1 = .ok q.2 := by decide +kernel
def b_X11_rivals_43 (n : Nat) (K43 : Int32 → Int32 → Int32 → Int32 → Int32 → Int32 → qM → qR) (a1 a2 a3 a4 a5 a6 : Int32) (M : qM) : qR :=
  (if a6 < (0 : Int32) then (if a3 = (0 : Int32) then some (a4, M) else some (a5, M)) else qc (f_X11_isSettled n a6 a1 a2 M) (fun r1 m2 => (if r1 = (0 : Int32) then ql (a6 + (-1 : Int32)) (fun x3 => K43 a1 a2 a3 a4 a5 x3 m2) else ql (a4 + (1 : Int32)) (fun x4 => ql (a6 + (-1 : Int32)) (fun x5 => K43 a1 a2 a3 x4 a6 x5 m2)))))
set_option maxRecDepth 4000 in
theorem wb_X11_rivals_43 {g : qG} {k : qK} (n : Nat) (j r : Nat) (hj : q_isLaw j) (hr : q_isLaw r) (o : qOk g 2 zX11_rivals k) (K43 : Int32 → Int32 → Int32 → Int32 → Int32 → Int32 → qM → qR) (hK43 : ∀ (a1 a2 a3 a4 a5 a6 : Int32) (M : qM), qAE g k zX11_rivals (qL j r) 43 [none, some (.inl a1), some (.inl a2), some (.inl a3), some (.inl a4), some (.inl a5), some (.inl a6)] [] (qL j r, M) (K43 a1 a2 a3 a4 a5 a6 M)) (a1 a2 a3 a4 a5 a6 : Int32) (M : qM) : qAE g k zX11_rivals (qL j r) 43 [none, some (.inl a1), some (.inl a2), some (.inl a3), some (.inl a4), some (.inl a5), some (.inl a6)] [] (qL j r, M) (b_X11_rivals_43 n K43 a1 a2 a3 a4 a5 a6 M) := by
  unfold b_X11_rivals_43
  refine qr_iload o (q_dm dm_X11_rivals 23 rfl) rfl ?_
  refine qr_if_lt (tgt := 71) o (q_dm dm_X11_rivals 24 rfl) (by decide) ?_ ?_
  · refine qr_iload_n o (q_dm dm_X11_rivals 35 rfl) rfl ?_
    refine qr_if_ne (tgt := 80) o (q_dm dm_X11_rivals 36 rfl) (by decide) ?_ ?_
    · refine qr_iload o (q_dm dm_X11_rivals 39 rfl) rfl ?_
      exact qr_iret o rfl rfl (q_dm dm_X11_rivals 40 rfl)
    · refine qr_iload o (q_dm dm_X11_rivals 37 rfl) rfl ?_
      refine qr_goto (tgt := 82) o (q_dm dm_X11_rivals 38 rfl) (by decide) ?_
      exact qr_iret o rfl rfl (q_dm dm_X11_rivals 40 rfl)
  · refine qr_iload o (q_dm dm_X11_rivals 25 rfl) rfl ?_
    refine qr_iload_n o (q_dm dm_X11_rivals 26 rfl) rfl ?_
    refine qr_iload_n o (q_dm dm_X11_rivals 27 rfl) rfl ?_
    refine qr_calls_i (As := [.inl a6, .inl a1, .inl a2]) (S := []) o (a_X11_isSettled g k.2.1 n j r hj hr a6 a1 a2 M) (Nat.le_of_ble_eq_true rfl) zs_X11_isSettled rfl ml_X11_239 (Nat.le_of_ble_eq_true rfl) (q_dm dm_X11_rivals 28 rfl) (fun r1 m2 => ?_)
    refine qr_if_eq (tgt := 65) o (q_dm dm_X11_rivals 29 rfl) (by decide) ?_ ?_
    · refine qs_iincl2 (L' := fun x3 => [none, some (.inl a1), some (.inl a2), some (.inl a3), some (.inl a4), some (.inl a5), some (.inl x3)]) o (q_dm dm_X11_rivals 33 rfl) rfl ic_m1 (Nat.le_of_ble_eq_true rfl) (fun _ => rfl) (fun x3 => ?_)
      refine qr_goto (tgt := 43) o (q_dm dm_X11_rivals 34 rfl) (by decide) ?_
      exact qr_loc (q_leN (q_leS (q_leS (q_leS (q_leS (q_leS (q_leS q_le0))))))) (hK43 a1 a2 a3 a4 a5 x3 m2)
    · refine qs_iincl2 (L' := fun x4 => [none, some (.inl a1), some (.inl a2), some (.inl a3), some (.inl x4), some (.inl a5), some (.inl a6)]) o (q_dm dm_X11_rivals 30 rfl) rfl ic_1 (Nat.le_of_ble_eq_true rfl) (fun _ => rfl) (fun x4 => ?_)
      refine qr_iload o (q_dm dm_X11_rivals 31 rfl) rfl ?_
      refine qs_istore (L' := [none, some (.inl a1), some (.inl a2), some (.inl a3), some (.inl x4), some (.inl a6), some (.inl a6)]) o (q_dm dm_X11_rivals 32 rfl) (Nat.le_of_ble_eq_true rfl) rfl ?_
      refine qs_iincl2 (L' := fun x5 => [none, some (.inl a1), some (.inl a2), some (.inl a3), some (.inl x4), some (.inl a6), some (.inl x5)]) o (q_dm dm_X11_rivals 33 rfl) rfl ic_m1 (Nat.le_of_ble_eq_true rfl) (fun _ => rfl) (fun x5 => ?_)
      refine qr_goto (tgt := 43) o (q_dm dm_X11_rivals 34 rfl) (by decide) ?_
      exact qr_loc (q_leN (q_leS (q_leS (q_leS (q_leS (q_leS (q_leS q_le0))))))) (hK43 a1 a2 a3 x4 a6 x5 m2)

def f_X11_rivals_43 (n : Nat) : Nat → Int32 → Int32 → Int32 → Int32 → Int32 → Int32 → qM → qR
  | 0, _, _, _, _, _, _, _ => none
  | m + 1, a1, a2, a3, a4, a5, a6, M => b_X11_rivals_43 n (f_X11_rivals_43 n m) a1 a2 a3 a4 a5 a6 M
theorem w_X11_rivals_43 {g : qG} {k : qK} (n : Nat) (j r : Nat) (hj : q_isLaw j) (hr : q_isLaw r) (o : qOk g 2 zX11_rivals k) : ∀ (m : Nat) (a1 a2 a3 a4 a5 a6 : Int32) (M : qM), qAE g k zX11_rivals (qL j r) 43 [none, some (.inl a1), some (.inl a2), some (.inl a3), some (.inl a4), some (.inl a5), some (.inl a6)] [] (qL j r, M) (f_X11_rivals_43 n m a1 a2 a3 a4 a5 a6 M) := by
  intro m
  induction m with
  | zero =>
    intro a1 a2 a3 a4 a5 a6 M
    exact qr_none
  | succ m ih =>
    intro a1 a2 a3 a4 a5 a6 M
    exact wb_X11_rivals_43 n j r hj hr o (f_X11_rivals_43 n m) ih a1 a2 a3 a4 a5 a6 M
def f_X11_rivals (n : Nat) (a1 a2 a3 : Int32) (M : qM) : qR :=
  (if a1 < (0 : Int32) then some ((-1 : Int32), M) else (if (999 : Int32) < a1 then some ((-1 : Int32), M) else (if a2 < (0 : Int32) then some ((-1 : Int32), M) else (if (999 : Int32) < a2 then some ((-1 : Int32), M) else (if a3 < (0 : Int32) then some ((-1 : Int32), M) else (if a3 ≤ (1 : Int32) then f_X11_rivals_43 n n a1 a2 a3 (0 : Int32) (-2 : Int32) (3 : Int32) M else some ((-1 : Int32), M)))))))
set_option maxRecDepth 4000 in
theorem w_X11_rivals {g : qG} {k : qK} (n : Nat) (j r : Nat) (hj : q_isLaw j) (hr : q_isLaw r) (o : qOk g 2 zX11_rivals k) (a1 a2 a3 : Int32) (M : qM) : qAE g k zX11_rivals (qL j r) 0 [some (.inr (some 0)), some (.inl a1), some (.inl a2), some (.inl a3), none, none, none] [] (qL j r, M) (f_X11_rivals n a1 a2 a3 M) := by
  unfold f_X11_rivals
  refine qr_iload_n o (q_dm dm_X11_rivals 0 rfl) rfl ?_
  refine qr_if_lt (tgt := 31) o (q_dm dm_X11_rivals 1 rfl) (by decide) ?_ ?_
  · refine qr_iconst o (q_dm dm_X11_rivals 15 rfl) ic_m1 ?_
    exact qr_iret o rfl rfl (q_dm dm_X11_rivals 16 rfl)
  · refine qr_iload_n o (q_dm dm_X11_rivals 2 rfl) rfl ?_
    refine qr_sipush o (q_dm dm_X11_rivals 3 rfl) si_999 ?_
    refine qr_icmp_gt (tgt := 31) o (q_dm dm_X11_rivals 4 rfl) (by decide) ?_ ?_
    · refine qr_iconst o (q_dm dm_X11_rivals 15 rfl) ic_m1 ?_
      exact qr_iret o rfl rfl (q_dm dm_X11_rivals 16 rfl)
    · refine qr_iload_n o (q_dm dm_X11_rivals 5 rfl) rfl ?_
      refine qr_if_lt (tgt := 31) o (q_dm dm_X11_rivals 6 rfl) (by decide) ?_ ?_
      · refine qr_iconst o (q_dm dm_X11_rivals 15 rfl) ic_m1 ?_
        exact qr_iret o rfl rfl (q_dm dm_X11_rivals 16 rfl)
      · refine qr_iload_n o (q_dm dm_X11_rivals 7 rfl) rfl ?_
        refine qr_sipush o (q_dm dm_X11_rivals 8 rfl) si_999 ?_
        refine qr_icmp_gt (tgt := 31) o (q_dm dm_X11_rivals 9 rfl) (by decide) ?_ ?_
        · refine qr_iconst o (q_dm dm_X11_rivals 15 rfl) ic_m1 ?_
          exact qr_iret o rfl rfl (q_dm dm_X11_rivals 16 rfl)
        · refine qr_iload_n o (q_dm dm_X11_rivals 10 rfl) rfl ?_
          refine qr_if_lt (tgt := 31) o (q_dm dm_X11_rivals 11 rfl) (by decide) ?_ ?_
          · refine qr_iconst o (q_dm dm_X11_rivals 15 rfl) ic_m1 ?_
            exact qr_iret o rfl rfl (q_dm dm_X11_rivals 16 rfl)
          · refine qr_iload_n o (q_dm dm_X11_rivals 12 rfl) rfl ?_
            refine qr_iconst o (q_dm dm_X11_rivals 13 rfl) ic_1 ?_
            refine qr_icmp_le (tgt := 33) o (q_dm dm_X11_rivals 14 rfl) (by decide) ?_ ?_
            · refine qr_iconst o (q_dm dm_X11_rivals 17 rfl) ic_0 ?_
              refine qs_istore (L' := [some (.inr (some 0)), some (.inl a1), some (.inl a2), some (.inl a3), some (.inl (0 : Int32)), none, none]) o (q_dm dm_X11_rivals 18 rfl) (Nat.le_of_ble_eq_true rfl) rfl ?_
              refine qr_bipush o (q_dm dm_X11_rivals 19 rfl) bi_m2 ?_
              refine qs_istore (L' := [some (.inr (some 0)), some (.inl a1), some (.inl a2), some (.inl a3), some (.inl (0 : Int32)), some (.inl (-2 : Int32)), none]) o (q_dm dm_X11_rivals 20 rfl) (Nat.le_of_ble_eq_true rfl) rfl ?_
              refine qr_iconst o (q_dm dm_X11_rivals 21 rfl) ic_3 ?_
              refine qs_istore (L' := [some (.inr (some 0)), some (.inl a1), some (.inl a2), some (.inl a3), some (.inl (0 : Int32)), some (.inl (-2 : Int32)), some (.inl (3 : Int32))]) o (q_dm dm_X11_rivals 22 rfl) (Nat.le_of_ble_eq_true rfl) rfl ?_
              exact qr_loc (q_leN (q_leS (q_leS (q_leS (q_leS (q_leS (q_leS q_le0))))))) (w_X11_rivals_43 n j r hj hr o n a1 a2 a3 (0 : Int32) (-2 : Int32) (3 : Int32) M)
            · refine qr_iconst o (q_dm dm_X11_rivals 15 rfl) ic_m1 ?_
              exact qr_iret o rfl rfl (q_dm dm_X11_rivals 16 rfl)

theorem a_X11_rivals (g : qG) (l : Launch) (n : Nat) (j r : Nat) (hj : q_isLaw j) (hr : q_isLaw r) (a1 a2 a3 : Int32) (M : qM) : qAM g l 2 zX11_rivals (qL j r) [.inr (some 0), .inl a1, .inl a2, .inl a3] (qL j r, M) (f_X11_rivals n a1 a2 a3 M) :=
  qAM.of zv_X11_rivals.1 (by show 4 ≤ 7; decide) (fun k hk o => w_X11_rivals n j r hj hr o a1 a2 a3 M)
def tb_X7_soonestWay : List (Nat × Instr × Nat) := [(0, (.aload_n 0, 1)), (1, (.iconst 0, 1)), (2, (.iload_n 1, 1)), (3, (.iconst 0, 1)), (4, (.invokevirtual 88, 3)), (7, (.ireturn, 1))]
theorem dm_X7_soonestWay : ∀ q ∈ tb_X7_soonestWay, decode zX7_soonestWay.2.1 q.1 = .ok q.2 := by decide +kernel
def f_X7_soonestWay (n : Nat) (a1 : Int32) (M : qM) : qR :=
  qc (f_X7_bestWay n (0 : Int32) a1 (0 : Int32) M) (fun r1 m2 => some (r1, m2))
set_option maxRecDepth 4000 in
theorem w_X7_soonestWay {g : qG} {k : qK} (n : Nat) (j r : Nat) (hj : q_isLaw j) (hr : q_isLaw r) (o : qOk g 19 zX7_soonestWay k) (a1 : Int32) (M : qM) : qAE g k zX7_soonestWay (qL j r) 0 [some (.inr (some 56)), some (.inl a1)] [] (qL j r, M) (f_X7_soonestWay n a1 M) := by
  unfold f_X7_soonestWay
  refine qr_aload_n o (q_dm dm_X7_soonestWay 0 rfl) rfl ?_
  refine qr_iconst o (q_dm dm_X7_soonestWay 1 rfl) ic_0 ?_
  refine qr_iload_n o (q_dm dm_X7_soonestWay 2 rfl) rfl ?_
  refine qr_iconst o (q_dm dm_X7_soonestWay 3 rfl) ic_0 ?_
  refine qr_callv_i (As := [.inl (0 : Int32), .inl a1, .inl (0 : Int32)]) (S := []) o (a_X7_bestWay g k.2.1 n j r hj hr (0 : Int32) a1 (0 : Int32) M) (Nat.le_of_ble_eq_true rfl) zv_X7_bestWay rfl cf_X7 (sh56 j r) ml_X7_88 (Nat.le_of_ble_eq_true rfl) (q_dm dm_X7_soonestWay 4 rfl) (fun r1 m2 => ?_)
  exact qr_iret o rfl rfl (q_dm dm_X7_soonestWay 5 rfl)

theorem a_X7_soonestWay (g : qG) (l : Launch) (n : Nat) (j r : Nat) (hj : q_isLaw j) (hr : q_isLaw r) (a1 : Int32) (M : qM) : qAM g l 19 zX7_soonestWay (qL j r) [.inr (some 56), .inl a1] (qL j r, M) (f_X7_soonestWay n a1 M) :=
  qAM.of zv_X7_soonestWay.1 (by show 2 ≤ 2; decide) (fun k hk o => w_X7_soonestWay n j r hj hr o a1 M)
def tb_X11_soonest : List (Nat × Instr × Nat) := [(0, (.aload_n 0, 1)), (1, (.iload_n 1, 1)), (2, (.iload_n 2, 1)), (3, (.iload_n 3, 1)), (4, (.invokevirtual 193, 3)), (7, (.ifCond .eq 25, 3)), (10, (.iload 4, 2)), (12, (.ifCond .lt 20, 3)), (15, (.iload 4, 2)), (17, (.iconst 3, 1)), (18, (.if_icmp .gt 14, 3)), (21, (.iload 5, 2)), (23, (.ifCond .lt 9, 3)), (26, (.iload 5, 2)), (28, (.iconst 1, 1)), (29, (.if_icmp .le 5, 3)), (32, (.iconst (-1), 1)), (33, (.ireturn, 1)), (34, (.aload_n 0, 1)), (35, (.getfield 75, 3)), (38, (.aload_n 0, 1)), (39, (.getfield 26, 3)), (42, (.iload_n 1, 1)), (43, (.iload_n 2, 1)), (44, (.iload_n 3, 1)), (45, (.invokevirtual 196, 3)), (48, (.aload_n 0, 1)), (49, (.getfield 75, 3)), (52, (.iload 4, 2)), (54, (.invokevirtual 200, 3)), (57, (.istore 6, 2)), (59, (.iload 6, 2)), (61, (.ldc 203, 2)), (63, (.if_icmp .lt 6, 3)), (66, (.bipush (-2), 2)), (68, (.ireturn, 1)), (69, (.iload 5, 2)), (71, (.ifCond .ne 11, 3)), (74, (.iload 6, 2)), (76, (.bipush 16, 2)), (78, (.idiv, 1)), (79, (.goto 8, 3)), (82, (.iload 6, 2)), (84, (.bipush 16, 2)), (86, (.irem, 1)), (87, (.ireturn, 1))]
theorem dm_X11_soonest : ∀ q ∈ tb_X11_soonest, decode zX11_soonest.2.1 q.1 = .ok q.2 := by decide +kernel
def f_X11_soonest (n : Nat) (j : Nat) (a1 a2 a3 a4 a5 : Int32) (M : qM) : qR :=
  qc (f_X11_canChoose n a1 a2 a3 M) (fun r1 m2 => (if r1 = (0 : Int32) then some ((-1 : Int32), m2) else (if a4 < (0 : Int32) then some ((-1 : Int32), m2) else (if (3 : Int32) < a4 then some ((-1 : Int32), m2) else (if a5 < (0 : Int32) then some ((-1 : Int32), m2) else (if a5 ≤ (1 : Int32) then qc (f_X7_prepare n 7 j a1 a2 a3 m2) (fun _ m3 => qc (f_X7_soonestWay n a4 m3) (fun r4 m5 => (if r4 < (1048576 : Int32) then (if a5 = (0 : Int32) then some ((r4 / (16 : Int32)), m5) else some ((r4 - r4 / (16 : Int32) * (16 : Int32)), m5)) else some ((-2 : Int32), m5)))) else some ((-1 : Int32), m2)))))))
set_option maxRecDepth 4000 in
theorem w_X11_soonest {g : qG} {k : qK} (n : Nat) (j r : Nat) (hj : q_isLaw j) (hr : q_isLaw r) (o : qOk g 20 zX11_soonest k) (a1 a2 a3 a4 a5 : Int32) (M : qM) : qAE g k zX11_soonest (qL j r) 0 [some (.inr (some 0)), some (.inl a1), some (.inl a2), some (.inl a3), some (.inl a4), some (.inl a5), none] [] (qL j r, M) (f_X11_soonest n j a1 a2 a3 a4 a5 M) := by
  unfold f_X11_soonest
  refine qr_aload_n o (q_dm dm_X11_soonest 0 rfl) rfl ?_
  refine qr_iload_n o (q_dm dm_X11_soonest 1 rfl) rfl ?_
  refine qr_iload_n o (q_dm dm_X11_soonest 2 rfl) rfl ?_
  refine qr_iload_n o (q_dm dm_X11_soonest 3 rfl) rfl ?_
  refine qr_callv_i (As := [.inl a1, .inl a2, .inl a3]) (S := []) o (a_X11_canChoose g k.2.1 n j r hj hr a1 a2 a3 M) (Nat.le_of_ble_eq_true rfl) zv_X11_canChoose rfl cf_X11 (sh0 j r) ml_X11_193 (Nat.le_of_ble_eq_true rfl) (q_dm dm_X11_soonest 4 rfl) (fun r1 m2 => ?_)
  refine qr_if_eq (tgt := 32) o (q_dm dm_X11_soonest 5 rfl) (by decide) ?_ ?_
  · refine qr_iconst o (q_dm dm_X11_soonest 16 rfl) ic_m1 ?_
    exact qr_iret o rfl rfl (q_dm dm_X11_soonest 17 rfl)
  · refine qr_iload o (q_dm dm_X11_soonest 6 rfl) rfl ?_
    refine qr_if_lt (tgt := 32) o (q_dm dm_X11_soonest 7 rfl) (by decide) ?_ ?_
    · refine qr_iconst o (q_dm dm_X11_soonest 16 rfl) ic_m1 ?_
      exact qr_iret o rfl rfl (q_dm dm_X11_soonest 17 rfl)
    · refine qr_iload o (q_dm dm_X11_soonest 8 rfl) rfl ?_
      refine qr_iconst o (q_dm dm_X11_soonest 9 rfl) ic_3 ?_
      refine qr_icmp_gt (tgt := 32) o (q_dm dm_X11_soonest 10 rfl) (by decide) ?_ ?_
      · refine qr_iconst o (q_dm dm_X11_soonest 16 rfl) ic_m1 ?_
        exact qr_iret o rfl rfl (q_dm dm_X11_soonest 17 rfl)
      · refine qr_iload o (q_dm dm_X11_soonest 11 rfl) rfl ?_
        refine qr_if_lt (tgt := 32) o (q_dm dm_X11_soonest 12 rfl) (by decide) ?_ ?_
        · refine qr_iconst o (q_dm dm_X11_soonest 16 rfl) ic_m1 ?_
          exact qr_iret o rfl rfl (q_dm dm_X11_soonest 17 rfl)
        · refine qr_iload o (q_dm dm_X11_soonest 13 rfl) rfl ?_
          refine qr_iconst o (q_dm dm_X11_soonest 14 rfl) ic_1 ?_
          refine qr_icmp_le (tgt := 34) o (q_dm dm_X11_soonest 15 rfl) (by decide) ?_ ?_
          · refine qr_aload_n o (q_dm dm_X11_soonest 18 rfl) rfl ?_
            refine qr_getr (kf := 9) o cf_X11 (sh0 j r) rfl (Nat.le_of_ble_eq_true rfl) fl_X11_75 (q_dm dm_X11_soonest 19 rfl) ?_
            refine qr_aload_n o (q_dm dm_X11_soonest 20 rfl) rfl ?_
            refine qr_getr (kf := 2) o cf_X11 (sh0 j r) rfl (Nat.le_of_ble_eq_true rfl) fl_X11_26 (q_dm dm_X11_soonest 21 rfl) ?_
            refine qr_iload_n o (q_dm dm_X11_soonest 22 rfl) rfl ?_
            refine qr_iload_n o (q_dm dm_X11_soonest 23 rfl) rfl ?_
            refine qr_iload_n o (q_dm dm_X11_soonest 24 rfl) rfl ?_
            refine qr_callv_v (As := [.inr (some 7), .inl a1, .inl a2, .inl a3]) (S := []) o (a_X7_prepare g k.2.1 n j r hj hr (Or.inl rfl) a1 a2 a3 m2) (Nat.le_of_ble_eq_true rfl) zv_X7_prepare rfl cf_X7 (sh56 j r) ml_X11_196 (Nat.le_of_ble_eq_true rfl) (q_dm dm_X11_soonest 25 rfl) (fun _ m3 => ?_)
            refine qr_aload_n o (q_dm dm_X11_soonest 26 rfl) rfl ?_
            refine qr_getr (kf := 9) o cf_X11 (sh0 j r) rfl (Nat.le_of_ble_eq_true rfl) fl_X11_75 (q_dm dm_X11_soonest 27 rfl) ?_
            refine qr_iload o (q_dm dm_X11_soonest 28 rfl) rfl ?_
            refine qr_callv_i (As := [.inl a4]) (S := []) o (a_X7_soonestWay g k.2.1 n j r hj hr a4 m3) (Nat.le_of_ble_eq_true rfl) zv_X7_soonestWay rfl cf_X7 (sh56 j r) ml_X11_200 (Nat.le_of_ble_eq_true rfl) (q_dm dm_X11_soonest 29 rfl) (fun r4 m5 => ?_)
            refine qs_istore (L' := [some (.inr (some 0)), some (.inl a1), some (.inl a2), some (.inl a3), some (.inl a4), some (.inl a5), some (.inl r4)]) o (q_dm dm_X11_soonest 30 rfl) (Nat.le_of_ble_eq_true rfl) rfl ?_
            refine qr_iload o (q_dm dm_X11_soonest 31 rfl) rfl ?_
            refine qr_ldc o (q_dm dm_X11_soonest 32 rfl) kc_X11_203 ?_
            refine qr_icmp_lt (tgt := 69) o (q_dm dm_X11_soonest 33 rfl) (by decide) ?_ ?_
            · refine qr_iload o (q_dm dm_X11_soonest 36 rfl) rfl ?_
              refine qr_if_ne (tgt := 82) o (q_dm dm_X11_soonest 37 rfl) (by decide) ?_ ?_
              · refine qr_iload o (q_dm dm_X11_soonest 42 rfl) rfl ?_
                refine qr_bipush o (q_dm dm_X11_soonest 43 rfl) bi_16 ?_
                refine qr_iremc o (q_dm dm_X11_soonest 44 rfl) (by decide) ?_
                exact qr_iret o rfl rfl (q_dm dm_X11_soonest 45 rfl)
              · refine qr_iload o (q_dm dm_X11_soonest 38 rfl) rfl ?_
                refine qr_bipush o (q_dm dm_X11_soonest 39 rfl) bi_16 ?_
                refine qr_idivc o (q_dm dm_X11_soonest 40 rfl) (by decide) ?_
                refine qr_goto (tgt := 87) o (q_dm dm_X11_soonest 41 rfl) (by decide) ?_
                exact qr_iret o rfl rfl (q_dm dm_X11_soonest 45 rfl)
            · refine qr_bipush o (q_dm dm_X11_soonest 34 rfl) bi_m2 ?_
              exact qr_iret o rfl rfl (q_dm dm_X11_soonest 35 rfl)
          · refine qr_iconst o (q_dm dm_X11_soonest 16 rfl) ic_m1 ?_
            exact qr_iret o rfl rfl (q_dm dm_X11_soonest 17 rfl)

theorem a_X11_soonest (g : qG) (l : Launch) (n : Nat) (j r : Nat) (hj : q_isLaw j) (hr : q_isLaw r) (a1 a2 a3 a4 a5 : Int32) (M : qM) : qAM g l 20 zX11_soonest (qL j r) [.inr (some 0), .inl a1, .inl a2, .inl a3, .inl a4, .inl a5] (qL j r, M) (f_X11_soonest n j a1 a2 a3 a4 a5 M) :=
  qAM.of zv_X11_soonest.1 (by show 6 ≤ 7; decide) (fun k hk o => w_X11_soonest n j r hj hr o a1 a2 a3 a4 a5 M)
def tb_X11_tried : List (Nat × Instr × Nat) := [(0, (.iload_n 2, 1)), (1, (.bipush 10, 2)), (3, (.if_icmp .lt 21, 3)), (6, (.aload_n 0, 1)), (7, (.getfield 26, 3)), (10, (.iload_n 2, 1)), (11, (.bipush 10, 2)), (13, (.isub, 1)), (14, (.invokevirtual 131, 3)), (17, (.ifCond .eq 7, 3)), (20, (.iconst 1, 1)), (21, (.goto 4, 3)), (24, (.iconst 0, 1)), (25, (.istore_n 3, 1)), (26, (.iload_n 1, 1)), (27, (.iconst 1, 1)), (28, (.if_icmp .lt 22, 3)), (31, (.iload_n 1, 1)), (32, (.bipush 60, 2)), (34, (.if_icmp .gt 16, 3)), (37, (.iload_n 3, 1)), (38, (.ifCond .ne 14, 3)), (41, (.iload_n 2, 1)), (42, (.ifCond .lt 8, 3)), (45, (.iload_n 2, 1)), (46, (.iconst 5, 1)), (47, (.if_icmp .le 5, 3)), (50, (.iconst (-1), 1)), (51, (.ireturn, 1)), (52, (.aload_n 0, 1)), (53, (.getfield 33, 3)), (56, (.aload_n 0, 1)), (57, (.getfield 26, 3)), (60, (.invokevirtual 159, 3)), (63, (.aload_n 0, 1)), (64, (.getfield 50, 3)), (67, (.aload_n 0, 1)), (68, (.getfield 33, 3)), (71, (.iload_n 1, 1)), (72, (.invokevirtual 152, 3)), (75, (.iload_n 3, 1)), (76, (.ifCond .eq 17, 3)), (79, (.aload_n 0, 1)), (80, (.getfield 33, 3)), (83, (.iload_n 2, 1)), (84, (.bipush 10, 2)), (86, (.isub, 1)), (87, (.invokevirtual 163, 3)), (90, (.goto 11, 3)), (93, (.aload_n 0, 1)), (94, (.getfield 50, 3)), (97, (.iload_n 2, 1)), (98, (.invokevirtual 166, 3)), (101, (.ireturn, 1))]
theorem dm_X11_tried : ∀ q ∈ tb_X11_tried, decode zX11_tried.2.1 q.1 = .ok q.2 := by decide +kernel
def f_X11_tried_52 (n : Nat) (j : Nat) (a1 a2 a3 : Int32) (M : qM) : qR :=
  qc (f_X10_copy n 25 7 M) (fun _ m1 => qc (f_X0_goDays n 25 j a1 m1) (fun _ m2 => (if a3 = (0 : Int32) then qc (f_X0_cameOfDays n a2 m2) (fun r3 m4 => some (r3, m4)) else qc (f_X10_stepsLeft n 25 (a2 - (10 : Int32)) m2) (fun r5 m6 => some (r5, m6)))))
set_option maxRecDepth 4000 in
theorem w_X11_tried_52 {g : qG} {k : qK} (n : Nat) (j r : Nat) (hj : q_isLaw j) (hr : q_isLaw r) (o : qOk g 7 zX11_tried k) (a1 a2 a3 : Int32) (M : qM) : qAE g k zX11_tried (qL j r) 52 [some (.inr (some 0)), some (.inl a1), some (.inl a2), some (.inl a3)] [] (qL j r, M) (f_X11_tried_52 n j a1 a2 a3 M) := by
  unfold f_X11_tried_52
  refine qr_aload_n o (q_dm dm_X11_tried 29 rfl) rfl ?_
  refine qr_getr (kf := 4) o cf_X11 (sh0 j r) rfl (Nat.le_of_ble_eq_true rfl) fl_X11_33 (q_dm dm_X11_tried 30 rfl) ?_
  refine qr_aload_n o (q_dm dm_X11_tried 31 rfl) rfl ?_
  refine qr_getr (kf := 2) o cf_X11 (sh0 j r) rfl (Nat.le_of_ble_eq_true rfl) fl_X11_26 (q_dm dm_X11_tried 32 rfl) ?_
  refine qr_callv_v (As := [.inr (some 7)]) (S := []) o (a_X10_copy g k.2.1 n j r hj hr (Or.inr (Or.inr rfl)) (Or.inl rfl) M) (Nat.le_of_ble_eq_true rfl) zv_X10_copy rfl cf_X10 (sh25 j r) ml_X11_159 (Nat.le_of_ble_eq_true rfl) (q_dm dm_X11_tried 33 rfl) (fun _ m1 => ?_)
  refine qr_aload_n o (q_dm dm_X11_tried 34 rfl) rfl ?_
  refine qr_getr (kf := 6) o cf_X11 (sh0 j r) rfl (Nat.le_of_ble_eq_true rfl) fl_X11_50 (q_dm dm_X11_tried 35 rfl) ?_
  refine qr_aload_n o (q_dm dm_X11_tried 36 rfl) rfl ?_
  refine qr_getr (kf := 4) o cf_X11 (sh0 j r) rfl (Nat.le_of_ble_eq_true rfl) fl_X11_33 (q_dm dm_X11_tried 37 rfl) ?_
  refine qr_iload_n o (q_dm dm_X11_tried 38 rfl) rfl ?_
  refine qr_callv_v (As := [.inr (some 25), .inl a1]) (S := []) o (a_X0_goDays g k.2.1 n j r hj hr (Or.inr (Or.inr rfl)) a1 m1) (Nat.le_of_ble_eq_true rfl) zv_X0_goDays rfl cf_X0 (sh44 j r) ml_X11_152 (Nat.le_of_ble_eq_true rfl) (q_dm dm_X11_tried 39 rfl) (fun _ m2 => ?_)
  refine qr_iload_n o (q_dm dm_X11_tried 40 rfl) rfl ?_
  refine qr_if_eq (tgt := 93) o (q_dm dm_X11_tried 41 rfl) (by decide) ?_ ?_
  · refine qr_aload_n o (q_dm dm_X11_tried 49 rfl) rfl ?_
    refine qr_getr (kf := 6) o cf_X11 (sh0 j r) rfl (Nat.le_of_ble_eq_true rfl) fl_X11_50 (q_dm dm_X11_tried 50 rfl) ?_
    refine qr_iload_n o (q_dm dm_X11_tried 51 rfl) rfl ?_
    refine qr_callv_i (As := [.inl a2]) (S := []) o (a_X0_cameOfDays g k.2.1 n j r hj hr a2 m2) (Nat.le_of_ble_eq_true rfl) zv_X0_cameOfDays rfl cf_X0 (sh44 j r) ml_X11_166 (Nat.le_of_ble_eq_true rfl) (q_dm dm_X11_tried 52 rfl) (fun r3 m4 => ?_)
    exact qr_iret o rfl rfl (q_dm dm_X11_tried 53 rfl)
  · refine qr_aload_n o (q_dm dm_X11_tried 42 rfl) rfl ?_
    refine qr_getr (kf := 4) o cf_X11 (sh0 j r) rfl (Nat.le_of_ble_eq_true rfl) fl_X11_33 (q_dm dm_X11_tried 43 rfl) ?_
    refine qr_iload_n o (q_dm dm_X11_tried 44 rfl) rfl ?_
    refine qr_bipush o (q_dm dm_X11_tried 45 rfl) bi_10 ?_
    refine qr_isub o (q_dm dm_X11_tried 46 rfl) ?_
    refine qr_callv_i (As := [.inl (a2 - (10 : Int32))]) (S := []) o (a_X10_stepsLeft g k.2.1 n j r hj hr (Or.inr (Or.inr rfl)) (a2 - (10 : Int32)) m2) (Nat.le_of_ble_eq_true rfl) zv_X10_stepsLeft rfl cf_X10 (sh25 j r) ml_X11_163 (Nat.le_of_ble_eq_true rfl) (q_dm dm_X11_tried 47 rfl) (fun r5 m6 => ?_)
    refine qr_goto (tgt := 101) o (q_dm dm_X11_tried 48 rfl) (by decide) ?_
    exact qr_iret o rfl rfl (q_dm dm_X11_tried 53 rfl)

def f_X11_tried_25 (n : Nat) (j : Nat) (a1 a2 s0 : Int32) (M : qM) : qR :=
  (if a1 < (1 : Int32) then some ((-1 : Int32), M) else (if (60 : Int32) < a1 then some ((-1 : Int32), M) else (if s0 = (0 : Int32) then (if a2 < (0 : Int32) then some ((-1 : Int32), M) else (if a2 ≤ (5 : Int32) then f_X11_tried_52 n j a1 a2 s0 M else some ((-1 : Int32), M))) else f_X11_tried_52 n j a1 a2 s0 M)))
set_option maxRecDepth 4000 in
theorem w_X11_tried_25 {g : qG} {k : qK} (n : Nat) (j r : Nat) (hj : q_isLaw j) (hr : q_isLaw r) (o : qOk g 7 zX11_tried k) (a1 a2 s0 : Int32) (M : qM) : qAE g k zX11_tried (qL j r) 25 [some (.inr (some 0)), some (.inl a1), some (.inl a2), none] [.inl s0] (qL j r, M) (f_X11_tried_25 n j a1 a2 s0 M) := by
  unfold f_X11_tried_25
  refine qs_istore_n (L' := [some (.inr (some 0)), some (.inl a1), some (.inl a2), some (.inl s0)]) o (q_dm dm_X11_tried 13 rfl) (Nat.le_of_ble_eq_true rfl) rfl ?_
  refine qr_iload_n o (q_dm dm_X11_tried 14 rfl) rfl ?_
  refine qr_iconst o (q_dm dm_X11_tried 15 rfl) ic_1 ?_
  refine qr_icmp_lt (tgt := 50) o (q_dm dm_X11_tried 16 rfl) (by decide) ?_ ?_
  · refine qr_iconst o (q_dm dm_X11_tried 27 rfl) ic_m1 ?_
    exact qr_iret o rfl rfl (q_dm dm_X11_tried 28 rfl)
  · refine qr_iload_n o (q_dm dm_X11_tried 17 rfl) rfl ?_
    refine qr_bipush o (q_dm dm_X11_tried 18 rfl) bi_60 ?_
    refine qr_icmp_gt (tgt := 50) o (q_dm dm_X11_tried 19 rfl) (by decide) ?_ ?_
    · refine qr_iconst o (q_dm dm_X11_tried 27 rfl) ic_m1 ?_
      exact qr_iret o rfl rfl (q_dm dm_X11_tried 28 rfl)
    · refine qr_iload_n o (q_dm dm_X11_tried 20 rfl) rfl ?_
      refine qr_if_ne (tgt := 52) o (q_dm dm_X11_tried 21 rfl) (by decide) ?_ ?_
      · exact qr_loc (q_leS (q_leS (q_leS (q_leS q_le0)))) (w_X11_tried_52 n j r hj hr o a1 a2 s0 M)
      · refine qr_iload_n o (q_dm dm_X11_tried 22 rfl) rfl ?_
        refine qr_if_lt (tgt := 50) o (q_dm dm_X11_tried 23 rfl) (by decide) ?_ ?_
        · refine qr_iconst o (q_dm dm_X11_tried 27 rfl) ic_m1 ?_
          exact qr_iret o rfl rfl (q_dm dm_X11_tried 28 rfl)
        · refine qr_iload_n o (q_dm dm_X11_tried 24 rfl) rfl ?_
          refine qr_iconst o (q_dm dm_X11_tried 25 rfl) ic_5 ?_
          refine qr_icmp_le (tgt := 52) o (q_dm dm_X11_tried 26 rfl) (by decide) ?_ ?_
          · exact qr_loc (q_leS (q_leS (q_leS (q_leS q_le0)))) (w_X11_tried_52 n j r hj hr o a1 a2 s0 M)
          · refine qr_iconst o (q_dm dm_X11_tried 27 rfl) ic_m1 ?_
            exact qr_iret o rfl rfl (q_dm dm_X11_tried 28 rfl)

def f_X11_tried_24 (n : Nat) (j : Nat) (a1 a2 : Int32) (M : qM) : qR :=
  f_X11_tried_25 n j a1 a2 (0 : Int32) M
set_option maxRecDepth 4000 in
theorem w_X11_tried_24 {g : qG} {k : qK} (n : Nat) (j r : Nat) (hj : q_isLaw j) (hr : q_isLaw r) (o : qOk g 7 zX11_tried k) (a1 a2 : Int32) (M : qM) : qAE g k zX11_tried (qL j r) 24 [some (.inr (some 0)), some (.inl a1), some (.inl a2), none] [] (qL j r, M) (f_X11_tried_24 n j a1 a2 M) := by
  unfold f_X11_tried_24
  refine qr_iconst o (q_dm dm_X11_tried 12 rfl) ic_0 ?_
  exact qr_loc (q_leS (q_leS (q_leS (q_leN q_le0)))) (w_X11_tried_25 n j r hj hr o a1 a2 (0 : Int32) M)

def f_X11_tried (n : Nat) (j : Nat) (a1 a2 : Int32) (M : qM) : qR :=
  (if a2 < (10 : Int32) then f_X11_tried_24 n j a1 a2 M else qc (f_X10_knows n 7 (a2 - (10 : Int32)) M) (fun r1 m2 => (if r1 = (0 : Int32) then f_X11_tried_24 n j a1 a2 m2 else f_X11_tried_25 n j a1 a2 (1 : Int32) m2)))
set_option maxRecDepth 4000 in
theorem w_X11_tried {g : qG} {k : qK} (n : Nat) (j r : Nat) (hj : q_isLaw j) (hr : q_isLaw r) (o : qOk g 7 zX11_tried k) (a1 a2 : Int32) (M : qM) : qAE g k zX11_tried (qL j r) 0 [some (.inr (some 0)), some (.inl a1), some (.inl a2), none] [] (qL j r, M) (f_X11_tried n j a1 a2 M) := by
  unfold f_X11_tried
  refine qr_iload_n o (q_dm dm_X11_tried 0 rfl) rfl ?_
  refine qr_bipush o (q_dm dm_X11_tried 1 rfl) bi_10 ?_
  refine qr_icmp_lt (tgt := 24) o (q_dm dm_X11_tried 2 rfl) (by decide) ?_ ?_
  · exact qr_loc (q_leS (q_leS (q_leS (q_leN q_le0)))) (w_X11_tried_24 n j r hj hr o a1 a2 M)
  · refine qr_aload_n o (q_dm dm_X11_tried 3 rfl) rfl ?_
    refine qr_getr (kf := 2) o cf_X11 (sh0 j r) rfl (Nat.le_of_ble_eq_true rfl) fl_X11_26 (q_dm dm_X11_tried 4 rfl) ?_
    refine qr_iload_n o (q_dm dm_X11_tried 5 rfl) rfl ?_
    refine qr_bipush o (q_dm dm_X11_tried 6 rfl) bi_10 ?_
    refine qr_isub o (q_dm dm_X11_tried 7 rfl) ?_
    refine qr_callv_i (As := [.inl (a2 - (10 : Int32))]) (S := []) o (a_X10_knows g k.2.1 n j r hj hr (Or.inl rfl) (a2 - (10 : Int32)) M) (Nat.le_of_ble_eq_true rfl) zv_X10_knows rfl cf_X10 (sh7 j r) ml_X11_131 (Nat.le_of_ble_eq_true rfl) (q_dm dm_X11_tried 8 rfl) (fun r1 m2 => ?_)
    refine qr_if_eq (tgt := 24) o (q_dm dm_X11_tried 9 rfl) (by decide) ?_ ?_
    · exact qr_loc (q_leS (q_leS (q_leS (q_leN q_le0)))) (w_X11_tried_24 n j r hj hr o a1 a2 m2)
    · refine qr_iconst o (q_dm dm_X11_tried 10 rfl) ic_1 ?_
      refine qr_goto (tgt := 25) o (q_dm dm_X11_tried 11 rfl) (by decide) ?_
      exact qr_loc (q_leS (q_leS (q_leS (q_leN q_le0)))) (w_X11_tried_25 n j r hj hr o a1 a2 (1 : Int32) m2)

theorem a_X11_tried (g : qG) (l : Launch) (n : Nat) (j r : Nat) (hj : q_isLaw j) (hr : q_isLaw r) (a1 a2 : Int32) (M : qM) : qAM g l 7 zX11_tried (qL j r) [.inr (some 0), .inl a1, .inl a2] (qL j r, M) (f_X11_tried n j a1 a2 M) :=
  qAM.of zv_X11_tried.1 (by show 3 ≤ 4; decide) (fun k hk o => w_X11_tried n j r hj hr o a1 a2 M)
def tb_X11_tries : List (Nat × Instr × Nat) := [(0, (.aload_n 0, 1)), (1, (.getfield 26, 3)), (4, (.iload_n 1, 1)), (5, (.invokevirtual 131, 3)), (8, (.ifCond .eq 14, 3)), (11, (.aload_n 0, 1)), (12, (.getfield 19, 3)), (15, (.iload_n 2, 1)), (16, (.invokevirtual 140, 3)), (19, (.ifCond .ne 5, 3)), (22, (.iconst (-1), 1)), (23, (.ireturn, 1)), (24, (.iload_n 3, 1)), (25, (.iconst (-1), 1)), (26, (.if_icmp .ne 19, 3)), (29, (.aload_n 0, 1)), (30, (.getfield 50, 3)), (33, (.aload_n 0, 1)), (34, (.getfield 26, 3)), (37, (.iload_n 1, 1)), (38, (.iload_n 2, 1)), (39, (.bipush 8, 2)), (41, (.invokevirtual 141, 3)), (44, (.ireturn, 1)), (45, (.iload_n 3, 1)), (46, (.iload_n 1, 1)), (47, (.if_icmp .eq 14, 3)), (50, (.aload_n 0, 1)), (51, (.getfield 26, 3)), (54, (.iload_n 3, 1)), (55, (.invokevirtual 131, 3)), (58, (.ifCond .ne 5, 3)), (61, (.iconst (-1), 1)), (62, (.ireturn, 1)), (63, (.aload_n 0, 1)), (64, (.getfield 50, 3)), (67, (.aload_n 0, 1)), (68, (.getfield 26, 3)), (71, (.iload_n 1, 1)), (72, (.iload_n 2, 1)), (73, (.iload_n 3, 1)), (74, (.invokevirtual 141, 3)), (77, (.ireturn, 1))]
theorem dm_X11_tries : ∀ q ∈ tb_X11_tries, decode zX11_tries.2.1 q.1 = .ok q.2 := by decide +kernel
def f_X11_tries (n : Nat) (j : Nat) (a1 a2 a3 : Int32) (M : qM) : qR :=
  qc (f_X10_knows n 7 a1 M) (fun r1 m2 => (if r1 = (0 : Int32) then some ((-1 : Int32), m2) else qc (f_X2_knows n a2 m2) (fun r3 m4 => (if r3 = (0 : Int32) then some ((-1 : Int32), m4) else (if a3 = (-1 : Int32) then qc (f_X0_attempt n 7 j a1 a2 (8 : Int32) m4) (fun r9 m10 => some (r9, m10)) else (if a3 = a1 then some ((-1 : Int32), m4) else qc (f_X10_knows n 7 a3 m4) (fun r5 m6 => (if r5 = (0 : Int32) then some ((-1 : Int32), m6) else qc (f_X0_attempt n 7 j a1 a2 a3 m6) (fun r7 m8 => some (r7, m8))))))))))
set_option maxRecDepth 4000 in
theorem w_X11_tries {g : qG} {k : qK} (n : Nat) (j r : Nat) (hj : q_isLaw j) (hr : q_isLaw r) (o : qOk g 5 zX11_tries k) (a1 a2 a3 : Int32) (M : qM) : qAE g k zX11_tries (qL j r) 0 [some (.inr (some 0)), some (.inl a1), some (.inl a2), some (.inl a3)] [] (qL j r, M) (f_X11_tries n j a1 a2 a3 M) := by
  unfold f_X11_tries
  refine qr_aload_n o (q_dm dm_X11_tries 0 rfl) rfl ?_
  refine qr_getr (kf := 2) o cf_X11 (sh0 j r) rfl (Nat.le_of_ble_eq_true rfl) fl_X11_26 (q_dm dm_X11_tries 1 rfl) ?_
  refine qr_iload_n o (q_dm dm_X11_tries 2 rfl) rfl ?_
  refine qr_callv_i (As := [.inl a1]) (S := []) o (a_X10_knows g k.2.1 n j r hj hr (Or.inl rfl) a1 M) (Nat.le_of_ble_eq_true rfl) zv_X10_knows rfl cf_X10 (sh7 j r) ml_X11_131 (Nat.le_of_ble_eq_true rfl) (q_dm dm_X11_tries 3 rfl) (fun r1 m2 => ?_)
  refine qr_if_eq (tgt := 22) o (q_dm dm_X11_tries 4 rfl) (by decide) ?_ ?_
  · refine qr_iconst o (q_dm dm_X11_tries 10 rfl) ic_m1 ?_
    exact qr_iret o rfl rfl (q_dm dm_X11_tries 11 rfl)
  · refine qr_aload_n o (q_dm dm_X11_tries 5 rfl) rfl ?_
    refine qr_getr (kf := 1) o cf_X11 (sh0 j r) rfl (Nat.le_of_ble_eq_true rfl) fl_X11_19 (q_dm dm_X11_tries 6 rfl) ?_
    refine qr_iload_n o (q_dm dm_X11_tries 7 rfl) rfl ?_
    refine qr_callv_i (As := [.inl a2]) (S := []) o (a_X2_knows g k.2.1 n j r hj hr a2 m2) (Nat.le_of_ble_eq_true rfl) zv_X2_knows rfl cf_X2 (sh3 j r) ml_X11_140 (Nat.le_of_ble_eq_true rfl) (q_dm dm_X11_tries 8 rfl) (fun r3 m4 => ?_)
    refine qr_if_ne (tgt := 24) o (q_dm dm_X11_tries 9 rfl) (by decide) ?_ ?_
    · refine qr_iload_n o (q_dm dm_X11_tries 12 rfl) rfl ?_
      refine qr_iconst o (q_dm dm_X11_tries 13 rfl) ic_m1 ?_
      refine qr_icmp_ne (tgt := 45) o (q_dm dm_X11_tries 14 rfl) (by decide) ?_ ?_
      · refine qr_iload_n o (q_dm dm_X11_tries 24 rfl) rfl ?_
        refine qr_iload_n o (q_dm dm_X11_tries 25 rfl) rfl ?_
        refine qr_icmp_eq (tgt := 61) o (q_dm dm_X11_tries 26 rfl) (by decide) ?_ ?_
        · refine qr_iconst o (q_dm dm_X11_tries 32 rfl) ic_m1 ?_
          exact qr_iret o rfl rfl (q_dm dm_X11_tries 33 rfl)
        · refine qr_aload_n o (q_dm dm_X11_tries 27 rfl) rfl ?_
          refine qr_getr (kf := 2) o cf_X11 (sh0 j r) rfl (Nat.le_of_ble_eq_true rfl) fl_X11_26 (q_dm dm_X11_tries 28 rfl) ?_
          refine qr_iload_n o (q_dm dm_X11_tries 29 rfl) rfl ?_
          refine qr_callv_i (As := [.inl a3]) (S := []) o (a_X10_knows g k.2.1 n j r hj hr (Or.inl rfl) a3 m4) (Nat.le_of_ble_eq_true rfl) zv_X10_knows rfl cf_X10 (sh7 j r) ml_X11_131 (Nat.le_of_ble_eq_true rfl) (q_dm dm_X11_tries 30 rfl) (fun r5 m6 => ?_)
          refine qr_if_ne (tgt := 63) o (q_dm dm_X11_tries 31 rfl) (by decide) ?_ ?_
          · refine qr_aload_n o (q_dm dm_X11_tries 34 rfl) rfl ?_
            refine qr_getr (kf := 6) o cf_X11 (sh0 j r) rfl (Nat.le_of_ble_eq_true rfl) fl_X11_50 (q_dm dm_X11_tries 35 rfl) ?_
            refine qr_aload_n o (q_dm dm_X11_tries 36 rfl) rfl ?_
            refine qr_getr (kf := 2) o cf_X11 (sh0 j r) rfl (Nat.le_of_ble_eq_true rfl) fl_X11_26 (q_dm dm_X11_tries 37 rfl) ?_
            refine qr_iload_n o (q_dm dm_X11_tries 38 rfl) rfl ?_
            refine qr_iload_n o (q_dm dm_X11_tries 39 rfl) rfl ?_
            refine qr_iload_n o (q_dm dm_X11_tries 40 rfl) rfl ?_
            refine qr_callv_i (As := [.inr (some 7), .inl a1, .inl a2, .inl a3]) (S := []) o (a_X0_attempt g k.2.1 n j r hj hr (Or.inl rfl) a1 a2 a3 m6) (Nat.le_of_ble_eq_true rfl) zv_X0_attempt rfl cf_X0 (sh44 j r) ml_X11_141 (Nat.le_of_ble_eq_true rfl) (q_dm dm_X11_tries 41 rfl) (fun r7 m8 => ?_)
            exact qr_iret o rfl rfl (q_dm dm_X11_tries 42 rfl)
          · refine qr_iconst o (q_dm dm_X11_tries 32 rfl) ic_m1 ?_
            exact qr_iret o rfl rfl (q_dm dm_X11_tries 33 rfl)
      · refine qr_aload_n o (q_dm dm_X11_tries 15 rfl) rfl ?_
        refine qr_getr (kf := 6) o cf_X11 (sh0 j r) rfl (Nat.le_of_ble_eq_true rfl) fl_X11_50 (q_dm dm_X11_tries 16 rfl) ?_
        refine qr_aload_n o (q_dm dm_X11_tries 17 rfl) rfl ?_
        refine qr_getr (kf := 2) o cf_X11 (sh0 j r) rfl (Nat.le_of_ble_eq_true rfl) fl_X11_26 (q_dm dm_X11_tries 18 rfl) ?_
        refine qr_iload_n o (q_dm dm_X11_tries 19 rfl) rfl ?_
        refine qr_iload_n o (q_dm dm_X11_tries 20 rfl) rfl ?_
        refine qr_bipush o (q_dm dm_X11_tries 21 rfl) bi_8 ?_
        refine qr_callv_i (As := [.inr (some 7), .inl a1, .inl a2, .inl (8 : Int32)]) (S := []) o (a_X0_attempt g k.2.1 n j r hj hr (Or.inl rfl) a1 a2 (8 : Int32) m4) (Nat.le_of_ble_eq_true rfl) zv_X0_attempt rfl cf_X0 (sh44 j r) ml_X11_141 (Nat.le_of_ble_eq_true rfl) (q_dm dm_X11_tries 22 rfl) (fun r9 m10 => ?_)
        exact qr_iret o rfl rfl (q_dm dm_X11_tries 23 rfl)
    · refine qr_iconst o (q_dm dm_X11_tries 10 rfl) ic_m1 ?_
      exact qr_iret o rfl rfl (q_dm dm_X11_tries 11 rfl)

theorem a_X11_tries (g : qG) (l : Launch) (n : Nat) (j r : Nat) (hj : q_isLaw j) (hr : q_isLaw r) (a1 a2 a3 : Int32) (M : qM) : qAM g l 5 zX11_tries (qL j r) [.inr (some 0), .inl a1, .inl a2, .inl a3] (qL j r, M) (f_X11_tries n j a1 a2 a3 M) :=
  qAM.of zv_X11_tries.1 (by show 4 ≤ 4; decide) (fun k hk o => w_X11_tries n j r hj hr o a1 a2 a3 M)

def tb_X11_undo : List (Nat × Instr × Nat) := [(0, (.aload_n 0, 1)), (1, (.getfield 95, 3)), (4, (.ifCond .ne 5, 3)), (7, (.iconst 0, 1)), (8, (.ireturn, 1)), (9, (.aload_n 0, 1)), (10, (.getfield 26, 3)), (13, (.aload_n 0, 1)), (14, (.getfield 30, 3)), (17, (.invokevirtual 159, 3)), (20, (.iconst 1, 1)), (21, (.ireturn, 1))]
theorem dm_X11_undo : ∀ q ∈ tb_X11_undo, decode zX11_undo.2.1 q.1 = .ok q.2 := by decide +kernel
def f_X11_undo (n : Nat) (M : qM) : qR :=
  (if (M 0 12) = (0 : Int32) then some ((0 : Int32), M) else qc (f_X10_copy n 7 16 M) (fun _ m1 => some ((1 : Int32), m1)))
set_option maxRecDepth 4000 in
theorem w_X11_undo {g : qG} {k : qK} (n : Nat) (j r : Nat) (hj : q_isLaw j) (hr : q_isLaw r) (o : qOk g 2 zX11_undo k) (M : qM) : qAE g k zX11_undo (qL j r) 0 [some (.inr (some 0))] [] (qL j r, M) (f_X11_undo n  M) := by
  unfold f_X11_undo
  refine qr_aload_n o (q_dm dm_X11_undo 0 rfl) rfl ?_
  refine qr_getf (kf := 12) o cf_X11 (sh0 j r) rfl (Nat.le_of_ble_eq_true rfl) fl_X11_95 (q_dm dm_X11_undo 1 rfl) ?_
  refine qr_if_ne (tgt := 9) o (q_dm dm_X11_undo 2 rfl) (by decide) ?_ ?_
  · refine qr_aload_n o (q_dm dm_X11_undo 5 rfl) rfl ?_
    refine qr_getr (kf := 2) o cf_X11 (sh0 j r) rfl (Nat.le_of_ble_eq_true rfl) fl_X11_26 (q_dm dm_X11_undo 6 rfl) ?_
    refine qr_aload_n o (q_dm dm_X11_undo 7 rfl) rfl ?_
    refine qr_getr (kf := 3) o cf_X11 (sh0 j r) rfl (Nat.le_of_ble_eq_true rfl) fl_X11_30 (q_dm dm_X11_undo 8 rfl) ?_
    refine qr_callv_v (As := [.inr (some 16)]) (S := []) o (a_X10_copy g k.2.1 n j r hj hr (Or.inl rfl) (Or.inr (Or.inl rfl)) M) (Nat.le_of_ble_eq_true rfl) zv_X10_copy rfl cf_X10 (sh7 j r) ml_X11_159 (Nat.le_of_ble_eq_true rfl) (q_dm dm_X11_undo 9 rfl) (fun _ m1 => ?_)
    refine qr_iconst o (q_dm dm_X11_undo 10 rfl) ic_1 ?_
    exact qr_iret o rfl (by decide) (q_dm dm_X11_undo 11 rfl)
  · refine qr_iconst o (q_dm dm_X11_undo 3 rfl) ic_0 ?_
    exact qr_iret o rfl (by decide) (q_dm dm_X11_undo 4 rfl)

theorem a_X11_undo (g : qG) (l : Launch) (n : Nat) (j r : Nat) (hj : q_isLaw j) (hr : q_isLaw r) (M : qM) : qAM g l 2 zX11_undo (qL j r) [.inr (some 0)] (qL j r, M) (f_X11_undo n  M) :=
  qAM.of zv_X11_undo.1 (by show 1 ≤ 1; decide) (fun k hk o => w_X11_undo n j r hj hr o  M)
def tb_X12_has0 : List (Nat × Instr × Nat) := [(0, (.iload_n 0, 1)), (1, (.iload_n 1, 1)), (2, (.ishr, 1)), (3, (.iconst 1, 1)), (4, (.iand, 1)), (5, (.iconst 1, 1)), (6, (.if_icmp .ne 7, 3)), (9, (.iconst 1, 1)), (10, (.goto 4, 3)), (13, (.iconst 0, 1)), (14, (.ireturn, 1))]
theorem dm_X12_has0 : ∀ q ∈ tb_X12_has0, decode zX12_has0.2.1 q.1 = .ok q.2 := by decide +kernel
def f_X12_has0 (n : Nat) (a0 a1 : Int32) (M : qM) : qR :=
  (if ((a0 >>> (a1 &&& 31)) &&& (1 : Int32)) = (1 : Int32) then some ((1 : Int32), M) else some ((0 : Int32), M))
set_option maxRecDepth 4000 in
theorem w_X12_has0 {g : qG} {k : qK} (n : Nat) (j r : Nat) (hj : q_isLaw j) (hr : q_isLaw r) (o : qOk g 0 zX12_has0 k) (a0 a1 : Int32) (M : qM) : qAE g k zX12_has0 (qL j r) 0 [some (.inl a0), some (.inl a1)] [] (qL j r, M) (f_X12_has0 n a0 a1 M) := by
  unfold f_X12_has0
  refine qr_iload_n o (q_dm dm_X12_has0 0 rfl) rfl ?_
  refine qr_iload_n o (q_dm dm_X12_has0 1 rfl) rfl ?_
  refine qr_ishr o (q_dm dm_X12_has0 2 rfl) ?_
  refine qr_iconst o (q_dm dm_X12_has0 3 rfl) ic_1 ?_
  refine qr_iand o (q_dm dm_X12_has0 4 rfl) ?_
  refine qr_iconst o (q_dm dm_X12_has0 5 rfl) ic_1 ?_
  refine qr_icmp_ne (tgt := 13) o (q_dm dm_X12_has0 6 rfl) (by decide) ?_ ?_
  · refine qr_iconst o (q_dm dm_X12_has0 9 rfl) ic_0 ?_
    exact qr_iret o rfl (by decide) (q_dm dm_X12_has0 10 rfl)
  · refine qr_iconst o (q_dm dm_X12_has0 7 rfl) ic_1 ?_
    refine qr_goto (tgt := 14) o (q_dm dm_X12_has0 8 rfl) (by decide) ?_
    exact qr_iret o rfl (by decide) (q_dm dm_X12_has0 10 rfl)

theorem a_X12_has0 (g : qG) (l : Launch) (n : Nat) (j r : Nat) (hj : q_isLaw j) (hr : q_isLaw r) (a0 a1 : Int32) (M : qM) : qAM g l 0 zX12_has0 (qL j r) [.inl a0, .inl a1] (qL j r, M) (f_X12_has0 n a0 a1 M) :=
  qAM.of zs_X12_has0.1 (by show 2 ≤ 2; decide) (fun k hk o => w_X12_has0 n j r hj hr o a0 a1 M)
def tb_X12_isKind : List (Nat × Instr × Nat) := [(0, (.iload_n 1, 1)), (1, (.ifCond .lt 24, 3)), (4, (.iload_n 1, 1)), (5, (.bipush 12, 2)), (7, (.if_icmp .ge 18, 3)), (10, (.aload_n 0, 1)), (11, (.getfield 145, 3)), (14, (.iload_n 1, 1)), (15, (.invokestatic 149, 3)), (18, (.ifCond .eq 7, 3)), (21, (.iconst 1, 1)), (22, (.goto 4, 3)), (25, (.iconst 0, 1)), (26, (.ireturn, 1))]
theorem dm_X12_isKind : ∀ q ∈ tb_X12_isKind, decode zX12_isKind.2.1 q.1 = .ok q.2 := by decide +kernel
def f_X12_isKind (n : Nat) (a1 : Int32) (M : qM) : qR :=
  (if a1 < (0 : Int32) then some ((0 : Int32), M) else (if (12 : Int32) ≤ a1 then some ((0 : Int32), M) else qc (f_X12_has0 n (M 77 6) a1 M) (fun r1 m2 => (if r1 = (0 : Int32) then some ((0 : Int32), m2) else some ((1 : Int32), m2)))))
set_option maxRecDepth 4000 in
theorem w_X12_isKind {g : qG} {k : qK} (n : Nat) (j r : Nat) (hj : q_isLaw j) (hr : q_isLaw r) (o : qOk g 1 zX12_isKind k) (a1 : Int32) (M : qM) : qAE g k zX12_isKind (qL j r) 0 [some (.inr (some 77)), some (.inl a1)] [] (qL j r, M) (f_X12_isKind n a1 M) := by
  unfold f_X12_isKind
  refine qr_iload_n o (q_dm dm_X12_isKind 0 rfl) rfl ?_
  refine qr_if_lt (tgt := 25) o (q_dm dm_X12_isKind 1 rfl) (by decide) ?_ ?_
  · refine qr_iconst o (q_dm dm_X12_isKind 12 rfl) ic_0 ?_
    exact qr_iret o rfl (by decide) (q_dm dm_X12_isKind 13 rfl)
  · refine qr_iload_n o (q_dm dm_X12_isKind 2 rfl) rfl ?_
    refine qr_bipush o (q_dm dm_X12_isKind 3 rfl) bi_12 ?_
    refine qr_icmp_ge (tgt := 25) o (q_dm dm_X12_isKind 4 rfl) (by decide) ?_ ?_
    · refine qr_iconst o (q_dm dm_X12_isKind 12 rfl) ic_0 ?_
      exact qr_iret o rfl (by decide) (q_dm dm_X12_isKind 13 rfl)
    · refine qr_aload_n o (q_dm dm_X12_isKind 5 rfl) rfl ?_
      refine qr_getf (kf := 6) o cf_X12 (sh77 j r) rfl (Nat.le_of_ble_eq_true rfl) fl_X12_145 (q_dm dm_X12_isKind 6 rfl) ?_
      refine qr_iload_n o (q_dm dm_X12_isKind 7 rfl) rfl ?_
      refine qr_calls_i (As := [.inl (M 77 6), .inl a1]) (S := []) o (a_X12_has0 g k.2.1 n j r hj hr (M 77 6) a1 M) (Nat.le_of_ble_eq_true rfl) zs_X12_has0 rfl ml_X12_149 (Nat.le_of_ble_eq_true rfl) (q_dm dm_X12_isKind 8 rfl) (fun r1 m2 => ?_)
      refine qr_if_eq (tgt := 25) o (q_dm dm_X12_isKind 9 rfl) (by decide) ?_ ?_
      · refine qr_iconst o (q_dm dm_X12_isKind 12 rfl) ic_0 ?_
        exact qr_iret o rfl (by decide) (q_dm dm_X12_isKind 13 rfl)
      · refine qr_iconst o (q_dm dm_X12_isKind 10 rfl) ic_1 ?_
        refine qr_goto (tgt := 26) o (q_dm dm_X12_isKind 11 rfl) (by decide) ?_
        exact qr_iret o rfl (by decide) (q_dm dm_X12_isKind 13 rfl)

theorem a_X12_isKind (g : qG) (l : Launch) (n : Nat) (j r : Nat) (hj : q_isLaw j) (hr : q_isLaw r) (a1 : Int32) (M : qM) : qAM g l 1 zX12_isKind (qL j r) [.inr (some 77), .inl a1] (qL j r, M) (f_X12_isKind n a1 M) :=
  qAM.of zv_X12_isKind.1 (by show 2 ≤ 2; decide) (fun k hk o => w_X12_isKind n j r hj hr o a1 M)
def tb_X12_bits : List (Nat × Instr × Nat) := [(0, (.iconst 0, 1)), (1, (.istore_n 1, 1)), (2, (.iconst 0, 1)), (3, (.istore_n 2, 1)), (4, (.iload_n 2, 1)), (5, (.bipush 12, 2)), (7, (.if_icmp .ge 17, 3)), (10, (.iload_n 1, 1)), (11, (.iload_n 0, 1)), (12, (.iload_n 2, 1)), (13, (.ishr, 1)), (14, (.iconst 1, 1)), (15, (.iand, 1)), (16, (.iadd, 1)), (17, (.istore_n 1, 1)), (18, (.iinc 2 1, 3)), (21, (.goto (-17), 3)), (24, (.iload_n 1, 1)), (25, (.ireturn, 1))]
theorem dm_X12_bits : ∀ q ∈ tb_X12_bits, decode zX12_bits.2.1 q.1 = .ok q.2 := by decide +kernel
def b_X12_bits_4 (n : Nat) (K4 : Int32 → Int32 → Int32 → qM → qR) (a0 a1 a2 : Int32) (M : qM) : qR :=
  (if (12 : Int32) ≤ a2 then some (a1, M) else ql (a1 + ((a0 >>> (a2 &&& 31)) &&& (1 : Int32))) (fun x1 => ql (a2 + (1 : Int32)) (fun x2 => K4 a0 x1 x2 M)))
set_option maxRecDepth 4000 in
theorem wb_X12_bits_4 {g : qG} {k : qK} (n : Nat) (j r : Nat) (hj : q_isLaw j) (hr : q_isLaw r) (o : qOk g 0 zX12_bits k) (K4 : Int32 → Int32 → Int32 → qM → qR) (hK4 : ∀ (a0 a1 a2 : Int32) (M : qM), qAE g k zX12_bits (qL j r) 4 [some (.inl a0), some (.inl a1), some (.inl a2)] [] (qL j r, M) (K4 a0 a1 a2 M)) (a0 a1 a2 : Int32) (M : qM) : qAE g k zX12_bits (qL j r) 4 [some (.inl a0), some (.inl a1), some (.inl a2)] [] (qL j r, M) (b_X12_bits_4 n K4 a0 a1 a2 M) := by
  unfold b_X12_bits_4
  refine qr_iload_n o (q_dm dm_X12_bits 4 rfl) rfl ?_
  refine qr_bipush o (q_dm dm_X12_bits 5 rfl) bi_12 ?_
  refine qr_icmp_ge (tgt := 24) o (q_dm dm_X12_bits 6 rfl) (by decide) ?_ ?_
  · refine qr_iload_n o (q_dm dm_X12_bits 17 rfl) rfl ?_
    exact qr_iret o rfl rfl (q_dm dm_X12_bits 18 rfl)
  · refine qr_iload_n o (q_dm dm_X12_bits 7 rfl) rfl ?_
    refine qr_iload_n o (q_dm dm_X12_bits 8 rfl) rfl ?_
    refine qr_iload_n o (q_dm dm_X12_bits 9 rfl) rfl ?_
    refine qr_ishr o (q_dm dm_X12_bits 10 rfl) ?_
    refine qr_iconst o (q_dm dm_X12_bits 11 rfl) ic_1 ?_
    refine qr_iand o (q_dm dm_X12_bits 12 rfl) ?_
    refine qr_iadd o (q_dm dm_X12_bits 13 rfl) ?_
    refine qr_lt (fun x1 => ?_)
    refine qs_istore_n (L' := [some (.inl a0), some (.inl x1), some (.inl a2)]) o (q_dm dm_X12_bits 14 rfl) (Nat.le_of_ble_eq_true rfl) rfl ?_
    refine qs_iincl2 (L' := fun x2 => [some (.inl a0), some (.inl x1), some (.inl x2)]) o (q_dm dm_X12_bits 15 rfl) rfl ic_1 (Nat.le_of_ble_eq_true rfl) (fun _ => rfl) (fun x2 => ?_)
    refine qr_goto (tgt := 4) o (q_dm dm_X12_bits 16 rfl) (by decide) ?_
    exact qr_loc (q_leS (q_leS (q_leS q_le0))) (hK4 a0 x1 x2 M)

def f_X12_bits_4 (n : Nat) : Nat → Int32 → Int32 → Int32 → qM → qR
  | 0, _, _, _, _ => none
  | m + 1, a0, a1, a2, M => b_X12_bits_4 n (f_X12_bits_4 n m) a0 a1 a2 M
theorem w_X12_bits_4 {g : qG} {k : qK} (n : Nat) (j r : Nat) (hj : q_isLaw j) (hr : q_isLaw r) (o : qOk g 0 zX12_bits k) : ∀ (m : Nat) (a0 a1 a2 : Int32) (M : qM), qAE g k zX12_bits (qL j r) 4 [some (.inl a0), some (.inl a1), some (.inl a2)] [] (qL j r, M) (f_X12_bits_4 n m a0 a1 a2 M) := by
  intro m
  induction m with
  | zero =>
    intro a0 a1 a2 M
    exact qr_none
  | succ m ih =>
    intro a0 a1 a2 M
    exact wb_X12_bits_4 n j r hj hr o (f_X12_bits_4 n m) ih a0 a1 a2 M
def f_X12_bits (n : Nat) (a0 : Int32) (M : qM) : qR :=
  f_X12_bits_4 n n a0 (0 : Int32) (0 : Int32) M
set_option maxRecDepth 4000 in
theorem w_X12_bits {g : qG} {k : qK} (n : Nat) (j r : Nat) (hj : q_isLaw j) (hr : q_isLaw r) (o : qOk g 0 zX12_bits k) (a0 : Int32) (M : qM) : qAE g k zX12_bits (qL j r) 0 [some (.inl a0), none, none] [] (qL j r, M) (f_X12_bits n a0 M) := by
  unfold f_X12_bits
  refine qr_iconst o (q_dm dm_X12_bits 0 rfl) ic_0 ?_
  refine qs_istore_n (L' := [some (.inl a0), some (.inl (0 : Int32)), none]) o (q_dm dm_X12_bits 1 rfl) (Nat.le_of_ble_eq_true rfl) rfl ?_
  refine qr_iconst o (q_dm dm_X12_bits 2 rfl) ic_0 ?_
  refine qs_istore_n (L' := [some (.inl a0), some (.inl (0 : Int32)), some (.inl (0 : Int32))]) o (q_dm dm_X12_bits 3 rfl) (Nat.le_of_ble_eq_true rfl) rfl ?_
  exact qr_loc (q_leS (q_leS (q_leS q_le0))) (w_X12_bits_4 n j r hj hr o n a0 (0 : Int32) (0 : Int32) M)

theorem a_X12_bits (g : qG) (l : Launch) (n : Nat) (j r : Nat) (hj : q_isLaw j) (hr : q_isLaw r) (a0 : Int32) (M : qM) : qAM g l 0 zX12_bits (qL j r) [.inl a0] (qL j r, M) (f_X12_bits n a0 M) :=
  qAM.of zs_X12_bits.1 (by show 1 ≤ 3; decide) (fun k hk o => w_X12_bits n j r hj hr o a0 M)
def tb_X12_reckon : List (Nat × Instr × Nat) := [(0, (.iload_n 0, 1)), (1, (.tableswitch 85 2 8 #[43, 47, 51, 55, 59, 63, 74], 43)), (44, (.iload_n 1, 1)), (45, (.iload_n 2, 1)), (46, (.iadd, 1)), (47, (.ireturn, 1)), (48, (.iload_n 1, 1)), (49, (.iload_n 2, 1)), (50, (.isub, 1)), (51, (.ireturn, 1)), (52, (.iload_n 1, 1)), (53, (.iload_n 2, 1)), (54, (.imul, 1)), (55, (.ireturn, 1)), (56, (.iload_n 1, 1)), (57, (.iload_n 2, 1)), (58, (.idiv, 1)), (59, (.ireturn, 1)), (60, (.iload_n 1, 1)), (61, (.iload_n 2, 1)), (62, (.irem, 1)), (63, (.ireturn, 1)), (64, (.iload_n 1, 1)), (65, (.iload_n 2, 1)), (66, (.if_icmp .ge 7, 3)), (69, (.iconst 1, 1)), (70, (.goto 4, 3)), (73, (.iconst 0, 1)), (74, (.ireturn, 1)), (75, (.iload_n 1, 1)), (76, (.iload_n 2, 1)), (77, (.if_icmp .le 7, 3)), (80, (.iconst 1, 1)), (81, (.goto 4, 3)), (84, (.iconst 0, 1)), (85, (.ireturn, 1)), (86, (.iload_n 1, 1)), (87, (.iload_n 2, 1)), (88, (.if_icmp .ne 7, 3)), (91, (.iconst 1, 1)), (92, (.goto 4, 3)), (95, (.iconst 0, 1)), (96, (.ireturn, 1))]
theorem dm_X12_reckon : ∀ q ∈ tb_X12_reckon, decode zX12_reckon.2.1 q.1 = .ok q.2 := by decide +kernel
def f_X12_reckon (n : Nat) (a0 a1 a2 : Int32) (M : qM) : qR :=
  qsw a0 [((2 : Int32), some ((a1 + a2), M)), ((3 : Int32), some ((a1 - a2), M)), ((4 : Int32), some ((a1 * a2), M)), ((5 : Int32), qd a2 (some ((a1 / a2), M))), ((6 : Int32), qd a2 (some ((a1 - a1 / a2 * a2), M))), ((7 : Int32), (if a2 ≤ a1 then some ((0 : Int32), M) else some ((1 : Int32), M))), ((8 : Int32), (if a1 ≤ a2 then some ((0 : Int32), M) else some ((1 : Int32), M)))] ((if a1 = a2 then some ((1 : Int32), M) else some ((0 : Int32), M)))
set_option maxRecDepth 4000 in
theorem w_X12_reckon {g : qG} {k : qK} (n : Nat) (j r : Nat) (hj : q_isLaw j) (hr : q_isLaw r) (o : qOk g 0 zX12_reckon k) (a0 a1 a2 : Int32) (M : qM) : qAE g k zX12_reckon (qL j r) 0 [some (.inl a0), some (.inl a1), some (.inl a2)] [] (qL j r, M) (f_X12_reckon n a0 a1 a2 M) := by
  unfold f_X12_reckon
  refine qr_iload_n o (q_dm dm_X12_reckon 0 rfl) rfl ?_
  refine qr_tablep (tgt := 86) o (q_dm dm_X12_reckon 1 rfl) (by show (_ : Int) + (7 : Nat) = _; decide) (by decide) ?_ (q_tbc (43) 44 (by decide) rfl (by decide) ?_ (q_tbc (47) 48 (by decide) rfl (by decide) ?_ (q_tbc (51) 52 (by decide) rfl (by decide) ?_ (q_tbc (55) 56 (by decide) rfl (by decide) ?_ (q_tbc (59) 60 (by decide) rfl (by decide) ?_ (q_tbc (63) 64 (by decide) rfl (by decide) ?_ (q_tbc (74) 75 (by decide) rfl (by decide) ?_ q_tbn)))))))
  · refine qr_iload_n o (q_dm dm_X12_reckon 36 rfl) rfl ?_
    refine qr_iload_n o (q_dm dm_X12_reckon 37 rfl) rfl ?_
    refine qr_icmp_ne (tgt := 95) o (q_dm dm_X12_reckon 38 rfl) (by decide) ?_ ?_
    · refine qr_iconst o (q_dm dm_X12_reckon 41 rfl) ic_0 ?_
      exact qr_iret o rfl rfl (q_dm dm_X12_reckon 42 rfl)
    · refine qr_iconst o (q_dm dm_X12_reckon 39 rfl) ic_1 ?_
      refine qr_goto (tgt := 96) o (q_dm dm_X12_reckon 40 rfl) (by decide) ?_
      exact qr_iret o rfl rfl (q_dm dm_X12_reckon 42 rfl)
  · refine qr_iload_n o (q_dm dm_X12_reckon 2 rfl) rfl ?_
    refine qr_iload_n o (q_dm dm_X12_reckon 3 rfl) rfl ?_
    refine qr_iadd o (q_dm dm_X12_reckon 4 rfl) ?_
    exact qr_iret o rfl rfl (q_dm dm_X12_reckon 5 rfl)
  · refine qr_iload_n o (q_dm dm_X12_reckon 6 rfl) rfl ?_
    refine qr_iload_n o (q_dm dm_X12_reckon 7 rfl) rfl ?_
    refine qr_isub o (q_dm dm_X12_reckon 8 rfl) ?_
    exact qr_iret o rfl rfl (q_dm dm_X12_reckon 9 rfl)
  · refine qr_iload_n o (q_dm dm_X12_reckon 10 rfl) rfl ?_
    refine qr_iload_n o (q_dm dm_X12_reckon 11 rfl) rfl ?_
    refine qr_imul o (q_dm dm_X12_reckon 12 rfl) ?_
    exact qr_iret o rfl rfl (q_dm dm_X12_reckon 13 rfl)
  · refine qr_iload_n o (q_dm dm_X12_reckon 14 rfl) rfl ?_
    refine qr_iload_n o (q_dm dm_X12_reckon 15 rfl) rfl ?_
    refine qr_idiv o (q_dm dm_X12_reckon 16 rfl) ?_
    exact qr_iret o rfl rfl (q_dm dm_X12_reckon 17 rfl)
  · refine qr_iload_n o (q_dm dm_X12_reckon 18 rfl) rfl ?_
    refine qr_iload_n o (q_dm dm_X12_reckon 19 rfl) rfl ?_
    refine qr_irem o (q_dm dm_X12_reckon 20 rfl) ?_
    exact qr_iret o rfl rfl (q_dm dm_X12_reckon 21 rfl)
  · refine qr_iload_n o (q_dm dm_X12_reckon 22 rfl) rfl ?_
    refine qr_iload_n o (q_dm dm_X12_reckon 23 rfl) rfl ?_
    refine qr_icmp_ge (tgt := 73) o (q_dm dm_X12_reckon 24 rfl) (by decide) ?_ ?_
    · refine qr_iconst o (q_dm dm_X12_reckon 27 rfl) ic_0 ?_
      exact qr_iret o rfl rfl (q_dm dm_X12_reckon 28 rfl)
    · refine qr_iconst o (q_dm dm_X12_reckon 25 rfl) ic_1 ?_
      refine qr_goto (tgt := 74) o (q_dm dm_X12_reckon 26 rfl) (by decide) ?_
      exact qr_iret o rfl rfl (q_dm dm_X12_reckon 28 rfl)
  · refine qr_iload_n o (q_dm dm_X12_reckon 29 rfl) rfl ?_
    refine qr_iload_n o (q_dm dm_X12_reckon 30 rfl) rfl ?_
    refine qr_icmp_le (tgt := 84) o (q_dm dm_X12_reckon 31 rfl) (by decide) ?_ ?_
    · refine qr_iconst o (q_dm dm_X12_reckon 34 rfl) ic_0 ?_
      exact qr_iret o rfl rfl (q_dm dm_X12_reckon 35 rfl)
    · refine qr_iconst o (q_dm dm_X12_reckon 32 rfl) ic_1 ?_
      refine qr_goto (tgt := 85) o (q_dm dm_X12_reckon 33 rfl) (by decide) ?_
      exact qr_iret o rfl rfl (q_dm dm_X12_reckon 35 rfl)

theorem a_X12_reckon (g : qG) (l : Launch) (n : Nat) (j r : Nat) (hj : q_isLaw j) (hr : q_isLaw r) (a0 a1 a2 : Int32) (M : qM) : qAM g l 0 zX12_reckon (qL j r) [.inl a0, .inl a1, .inl a2] (qL j r, M) (f_X12_reckon n a0 a1 a2 M) :=
  qAM.of zs_X12_reckon.1 (by show 3 ≤ 3; decide) (fun k hk o => w_X12_reckon n j r hj hr o a0 a1 a2 M)
def tb_X12_comesTo : List (Nat × Instr × Nat) := [(0, (.iconst 0, 1)), (1, (.istore_n 3, 1)), (2, (.sipush 260, 3)), (5, (.iload_n 1, 1)), (6, (.sipush 260, 3)), (9, (.idiv, 1)), (10, (.imul, 1)), (11, (.istore 4, 2)), (13, (.iload_n 1, 1)), (14, (.istore 5, 2)), (16, (.iload 5, 2)), (18, (.iload_n 2, 1)), (19, (.if_icmp .ge 214, 3)), (22, (.aload_n 0, 1)), (23, (.getfield 50, 3)), (26, (.iload 5, 2)), (28, (.iaload, 1)), (29, (.ldc 195, 2)), (31, (.idiv, 1)), (32, (.istore 6, 2)), (34, (.aload_n 0, 1)), (35, (.getfield 50, 3)), (38, (.iload 5, 2)), (40, (.iaload, 1)), (41, (.ldc 195, 2)), (43, (.irem, 1)), (44, (.istore 7, 2)), (46, (.iload 5, 2)), (48, (.iconst 1, 1)), (49, (.iadd, 1)), (50, (.istore 5, 2)), (52, (.iload 6, 2)), (54, (.ifCond .eq 9, 3)), (57, (.iload 6, 2)), (59, (.iconst 1, 1)), (60, (.if_icmp .ne 33, 3)), (63, (.aload_n 0, 1)), (64, (.getfield 65, 3)), (67, (.iload_n 3, 1)), (68, (.iload 6, 2)), (70, (.ifCond .ne 8, 3)), (73, (.iload 7, 2)), (75, (.goto 10, 3)), (78, (.aload_n 0, 1)), (79, (.getfield 68, 3)), (82, (.iload 7, 2)), (84, (.iaload, 1)), (85, (.iastore, 1)), (86, (.iload_n 3, 1)), (87, (.iconst 1, 1)), (88, (.iadd, 1)), (89, (.istore_n 3, 1)), (90, (.goto 140, 3)), (93, (.iload 6, 2)), (95, (.bipush 10, 2)), (97, (.if_icmp .ne 24, 3)), (100, (.aload_n 0, 1)), (101, (.getfield 65, 3)), (104, (.iload_n 3, 1)), (105, (.iconst 1, 1)), (106, (.isub, 1)), (107, (.iconst 1, 1)), (108, (.aload_n 0, 1)), (109, (.getfield 65, 3)), (112, (.iload_n 3, 1)), (113, (.iconst 1, 1)), (114, (.isub, 1)), (115, (.iaload, 1)), (116, (.isub, 1)), (117, (.iastore, 1)), (118, (.goto 112, 3)), (121, (.iload 6, 2)), (123, (.bipush 11, 2)), (125, (.if_icmp .eq 10, 3)), (128, (.iload 6, 2)), (130, (.bipush 12, 2)), (132, (.if_icmp .ne 43, 3)), (135, (.aload_n 0, 1)), (136, (.getfield 65, 3)), (139, (.iload_n 3, 1)), (140, (.iconst 1, 1)), (141, (.isub, 1)), (142, (.iaload, 1)), (143, (.iload 6, 2)), (145, (.bipush 12, 2)), (147, (.if_icmp .ne 7, 3)), (150, (.iconst 1, 1)), (151, (.goto 4, 3)), (154, (.iconst 0, 1)), (155, (.if_icmp .ne 13, 3)), (158, (.iload 4, 2)), (160, (.iload 7, 2)), (162, (.iadd, 1)), (163, (.istore 5, 2)), (165, (.goto 65, 3)), (168, (.iload_n 3, 1)), (169, (.iconst 1, 1)), (170, (.isub, 1)), (171, (.istore_n 3, 1)), (172, (.goto 58, 3)), (175, (.iload_n 3, 1)), (176, (.iconst 1, 1)), (177, (.isub, 1)), (178, (.istore_n 3, 1)), (179, (.iload 6, 2)), (181, (.iconst 5, 1)), (182, (.if_icmp .eq 10, 3)), (185, (.iload 6, 2)), (187, (.bipush 6, 2)), (189, (.if_icmp .ne 14, 3)), (192, (.aload_n 0, 1)), (193, (.getfield 65, 3)), (196, (.iload_n 3, 1)), (197, (.iaload, 1)), (198, (.ifCond .ne 5, 3)), (201, (.iconst 0, 1)), (202, (.ireturn, 1)), (203, (.aload_n 0, 1)), (204, (.getfield 65, 3)), (207, (.iload_n 3, 1)), (208, (.iconst 1, 1)), (209, (.isub, 1)), (210, (.iload 6, 2)), (212, (.aload_n 0, 1)), (213, (.getfield 65, 3)), (216, (.iload_n 3, 1)), (217, (.iconst 1, 1)), (218, (.isub, 1)), (219, (.iaload, 1)), (220, (.aload_n 0, 1)), (221, (.getfield 65, 3)), (224, (.iload_n 3, 1)), (225, (.iaload, 1)), (226, (.invokestatic 265, 3)), (229, (.iastore, 1)), (230, (.goto (-214), 3)), (233, (.aload_n 0, 1)), (234, (.getfield 65, 3)), (237, (.iconst 0, 1)), (238, (.iaload, 1)), (239, (.ireturn, 1))]
theorem dm_X12_comesTo : ∀ q ∈ tb_X12_comesTo, decode zX12_comesTo.2.1 q.1 = .ok q.2 := by decide +kernel
def f_X12_comesTo_203 (n : Nat) (K16 : Int32 → Int32 → Int32 → Int32 → qM → qR) (a2 a3 a4 a5 a6 : Int32) (M : qM) : qR :=
  qg (a3 - (1 : Int32)) 260 (qg a3 260 (qc (f_X12_reckon n a6 (M 96 (a3 - (1 : Int32)).toNatClampNeg) (M 96 a3.toNatClampNeg) M) (fun r1 m2 => qg (a3 - (1 : Int32)) 260 (qlm (mu m2 96 (a3 - (1 : Int32)).toNatClampNeg r1) (fun m3 => K16 a2 a3 a4 a5 m3)))))
set_option maxRecDepth 4000 in
theorem w_X12_comesTo_203 {g : qG} {k : qK} (n : Nat) (j r : Nat) (hj : q_isLaw j) (hr : q_isLaw r) (o : qOk g 1 zX12_comesTo k) (K16 : Int32 → Int32 → Int32 → Int32 → qM → qR) (hK16 : ∀ (a2 a3 a4 a5 : Int32) (M : qM), qAE g k zX12_comesTo (qL j r) 16 [some (.inr (some 77)), none, some (.inl a2), some (.inl a3), some (.inl a4), some (.inl a5), none, none] [] (qL j r, M) (K16 a2 a3 a4 a5 M)) (a2 a3 a4 a5 a6 : Int32) (M : qM) : qAE g k zX12_comesTo (qL j r) 203 [some (.inr (some 77)), none, some (.inl a2), some (.inl a3), some (.inl a4), some (.inl a5), some (.inl a6), none] [] (qL j r, M) (f_X12_comesTo_203 n K16 a2 a3 a4 a5 a6 M) := by
  unfold f_X12_comesTo_203
  refine qr_aload_n o (q_dm dm_X12_comesTo 117 rfl) rfl ?_
  refine qr_getr (kf := 29) o cf_X12 (sh77 j r) rfl (Nat.le_of_ble_eq_true rfl) fl_X12_65 (q_dm dm_X12_comesTo 118 rfl) ?_
  refine qr_iload_n o (q_dm dm_X12_comesTo 119 rfl) rfl ?_
  refine qr_iconst o (q_dm dm_X12_comesTo 120 rfl) ic_1 ?_
  refine qr_isub o (q_dm dm_X12_comesTo 121 rfl) ?_
  refine qr_iload o (q_dm dm_X12_comesTo 122 rfl) rfl ?_
  refine qr_aload_n o (q_dm dm_X12_comesTo 123 rfl) rfl ?_
  refine qr_getr (kf := 29) o cf_X12 (sh77 j r) rfl (Nat.le_of_ble_eq_true rfl) fl_X12_65 (q_dm dm_X12_comesTo 124 rfl) ?_
  refine qr_iload_n o (q_dm dm_X12_comesTo 125 rfl) rfl ?_
  refine qr_iconst o (q_dm dm_X12_comesTo 126 rfl) ic_1 ?_
  refine qr_isub o (q_dm dm_X12_comesTo 127 rfl) ?_
  refine qr_iald o (sh96 j r) (q_dm dm_X12_comesTo 128 rfl) ?_
  refine qr_aload_n o (q_dm dm_X12_comesTo 129 rfl) rfl ?_
  refine qr_getr (kf := 29) o cf_X12 (sh77 j r) rfl (Nat.le_of_ble_eq_true rfl) fl_X12_65 (q_dm dm_X12_comesTo 130 rfl) ?_
  refine qr_iload_n o (q_dm dm_X12_comesTo 131 rfl) rfl ?_
  refine qr_iald o (sh96 j r) (q_dm dm_X12_comesTo 132 rfl) ?_
  refine qr_calls_i (As := [.inl a6, .inl (M 96 (a3 - (1 : Int32)).toNatClampNeg), .inl (M 96 a3.toNatClampNeg)]) (S := [.inl (a3 - (1 : Int32)), .inr (some 96)]) o (a_X12_reckon g k.2.1 n j r hj hr a6 (M 96 (a3 - (1 : Int32)).toNatClampNeg) (M 96 a3.toNatClampNeg) M) (Nat.le_of_ble_eq_true rfl) zs_X12_reckon rfl ml_X12_265 (Nat.le_of_ble_eq_true rfl) (q_dm dm_X12_comesTo 133 rfl) (fun r1 m2 => ?_)
  refine qr_iast o (sh96 j r) (q_dm dm_X12_comesTo 134 rfl) ?_
  refine qr_letm (fun m3 => ?_)
  refine qr_goto (tgt := 16) o (q_dm dm_X12_comesTo 135 rfl) (by decide) ?_
  exact qr_loc (q_leS (q_leN (q_leS (q_leS (q_leS (q_leS (q_leN (q_leN q_le0)))))))) (hK16 a2 a3 a4 a5 m3)

def f_X12_comesTo_192 (n : Nat) (K16 : Int32 → Int32 → Int32 → Int32 → qM → qR) (a2 a3 a4 a5 a6 : Int32) (M : qM) : qR :=
  qg a3 260 ((if (M 96 a3.toNatClampNeg) = (0 : Int32) then some ((0 : Int32), M) else f_X12_comesTo_203 n K16 a2 a3 a4 a5 a6 M))
set_option maxRecDepth 4000 in
theorem w_X12_comesTo_192 {g : qG} {k : qK} (n : Nat) (j r : Nat) (hj : q_isLaw j) (hr : q_isLaw r) (o : qOk g 1 zX12_comesTo k) (K16 : Int32 → Int32 → Int32 → Int32 → qM → qR) (hK16 : ∀ (a2 a3 a4 a5 : Int32) (M : qM), qAE g k zX12_comesTo (qL j r) 16 [some (.inr (some 77)), none, some (.inl a2), some (.inl a3), some (.inl a4), some (.inl a5), none, none] [] (qL j r, M) (K16 a2 a3 a4 a5 M)) (a2 a3 a4 a5 a6 : Int32) (M : qM) : qAE g k zX12_comesTo (qL j r) 192 [some (.inr (some 77)), none, some (.inl a2), some (.inl a3), some (.inl a4), some (.inl a5), some (.inl a6), none] [] (qL j r, M) (f_X12_comesTo_192 n K16 a2 a3 a4 a5 a6 M) := by
  unfold f_X12_comesTo_192
  refine qr_aload_n o (q_dm dm_X12_comesTo 110 rfl) rfl ?_
  refine qr_getr (kf := 29) o cf_X12 (sh77 j r) rfl (Nat.le_of_ble_eq_true rfl) fl_X12_65 (q_dm dm_X12_comesTo 111 rfl) ?_
  refine qr_iload_n o (q_dm dm_X12_comesTo 112 rfl) rfl ?_
  refine qr_iald o (sh96 j r) (q_dm dm_X12_comesTo 113 rfl) ?_
  refine qr_if_ne (tgt := 203) o (q_dm dm_X12_comesTo 114 rfl) (by decide) ?_ ?_
  · exact qr_loc (q_leS (q_leN (q_leS (q_leS (q_leS (q_leS (q_leS (q_leN q_le0)))))))) (w_X12_comesTo_203 n j r hj hr o K16 hK16 a2 a3 a4 a5 a6 M)
  · refine qr_iconst o (q_dm dm_X12_comesTo 115 rfl) ic_0 ?_
    exact qr_iret o rfl rfl (q_dm dm_X12_comesTo 116 rfl)

def f_X12_comesTo_155 (n : Nat) (K16 : Int32 → Int32 → Int32 → Int32 → qM → qR) (a2 a3 a4 a5 a7 s0 s1 : Int32) (M : qM) : qR :=
  (if s0 = s1 then ql (a4 + a7) (fun x2 => K16 a2 a3 a4 x2 M) else ql (a3 - (1 : Int32)) (fun x1 => K16 a2 x1 a4 a5 M))
set_option maxRecDepth 4000 in
theorem w_X12_comesTo_155 {g : qG} {k : qK} (n : Nat) (j r : Nat) (hj : q_isLaw j) (hr : q_isLaw r) (o : qOk g 1 zX12_comesTo k) (K16 : Int32 → Int32 → Int32 → Int32 → qM → qR) (hK16 : ∀ (a2 a3 a4 a5 : Int32) (M : qM), qAE g k zX12_comesTo (qL j r) 16 [some (.inr (some 77)), none, some (.inl a2), some (.inl a3), some (.inl a4), some (.inl a5), none, none] [] (qL j r, M) (K16 a2 a3 a4 a5 M)) (a2 a3 a4 a5 a7 s0 s1 : Int32) (M : qM) : qAE g k zX12_comesTo (qL j r) 155 [some (.inr (some 77)), none, some (.inl a2), some (.inl a3), some (.inl a4), some (.inl a5), none, some (.inl a7)] [.inl s1, .inl s0] (qL j r, M) (f_X12_comesTo_155 n K16 a2 a3 a4 a5 a7 s0 s1 M) := by
  unfold f_X12_comesTo_155
  refine qr_icmp_ne (tgt := 168) o (q_dm dm_X12_comesTo 89 rfl) (by decide) ?_ ?_
  · refine qr_iload_n o (q_dm dm_X12_comesTo 95 rfl) rfl ?_
    refine qr_iconst o (q_dm dm_X12_comesTo 96 rfl) ic_1 ?_
    refine qr_isub o (q_dm dm_X12_comesTo 97 rfl) ?_
    refine qr_lt (fun x1 => ?_)
    refine qs_istore_n (L' := [some (.inr (some 77)), none, some (.inl a2), some (.inl x1), some (.inl a4), some (.inl a5), none, some (.inl a7)]) o (q_dm dm_X12_comesTo 98 rfl) (Nat.le_of_ble_eq_true rfl) rfl ?_
    refine qr_goto (tgt := 230) o (q_dm dm_X12_comesTo 99 rfl) (by decide) ?_
    refine qr_goto (tgt := 16) o (q_dm dm_X12_comesTo 135 rfl) (by decide) ?_
    exact qr_loc (q_leS (q_leN (q_leS (q_leS (q_leS (q_leS (q_leN (q_leN q_le0)))))))) (hK16 a2 x1 a4 a5 M)
  · refine qr_iload o (q_dm dm_X12_comesTo 90 rfl) rfl ?_
    refine qr_iload o (q_dm dm_X12_comesTo 91 rfl) rfl ?_
    refine qr_iadd o (q_dm dm_X12_comesTo 92 rfl) ?_
    refine qr_lt (fun x2 => ?_)
    refine qs_istore (L' := [some (.inr (some 77)), none, some (.inl a2), some (.inl a3), some (.inl a4), some (.inl x2), none, some (.inl a7)]) o (q_dm dm_X12_comesTo 93 rfl) (Nat.le_of_ble_eq_true rfl) rfl ?_
    refine qr_goto (tgt := 230) o (q_dm dm_X12_comesTo 94 rfl) (by decide) ?_
    refine qr_goto (tgt := 16) o (q_dm dm_X12_comesTo 135 rfl) (by decide) ?_
    exact qr_loc (q_leS (q_leN (q_leS (q_leS (q_leS (q_leS (q_leN (q_leN q_le0)))))))) (hK16 a2 a3 a4 x2 M)

def f_X12_comesTo_135 (n : Nat) (K16 : Int32 → Int32 → Int32 → Int32 → qM → qR) (a2 a3 a4 a5 a6 a7 : Int32) (M : qM) : qR :=
  qg (a3 - (1 : Int32)) 260 ((if a6 = (12 : Int32) then f_X12_comesTo_155 n K16 a2 a3 a4 a5 a7 (M 96 (a3 - (1 : Int32)).toNatClampNeg) (1 : Int32) M else f_X12_comesTo_155 n K16 a2 a3 a4 a5 a7 (M 96 (a3 - (1 : Int32)).toNatClampNeg) (0 : Int32) M))
set_option maxRecDepth 4000 in
theorem w_X12_comesTo_135 {g : qG} {k : qK} (n : Nat) (j r : Nat) (hj : q_isLaw j) (hr : q_isLaw r) (o : qOk g 1 zX12_comesTo k) (K16 : Int32 → Int32 → Int32 → Int32 → qM → qR) (hK16 : ∀ (a2 a3 a4 a5 : Int32) (M : qM), qAE g k zX12_comesTo (qL j r) 16 [some (.inr (some 77)), none, some (.inl a2), some (.inl a3), some (.inl a4), some (.inl a5), none, none] [] (qL j r, M) (K16 a2 a3 a4 a5 M)) (a2 a3 a4 a5 a6 a7 : Int32) (M : qM) : qAE g k zX12_comesTo (qL j r) 135 [some (.inr (some 77)), none, some (.inl a2), some (.inl a3), some (.inl a4), some (.inl a5), some (.inl a6), some (.inl a7)] [] (qL j r, M) (f_X12_comesTo_135 n K16 a2 a3 a4 a5 a6 a7 M) := by
  unfold f_X12_comesTo_135
  refine qr_aload_n o (q_dm dm_X12_comesTo 77 rfl) rfl ?_
  refine qr_getr (kf := 29) o cf_X12 (sh77 j r) rfl (Nat.le_of_ble_eq_true rfl) fl_X12_65 (q_dm dm_X12_comesTo 78 rfl) ?_
  refine qr_iload_n o (q_dm dm_X12_comesTo 79 rfl) rfl ?_
  refine qr_iconst o (q_dm dm_X12_comesTo 80 rfl) ic_1 ?_
  refine qr_isub o (q_dm dm_X12_comesTo 81 rfl) ?_
  refine qr_iald o (sh96 j r) (q_dm dm_X12_comesTo 82 rfl) ?_
  refine qr_iload o (q_dm dm_X12_comesTo 83 rfl) rfl ?_
  refine qr_bipush o (q_dm dm_X12_comesTo 84 rfl) bi_12 ?_
  refine qr_icmp_ne (tgt := 154) o (q_dm dm_X12_comesTo 85 rfl) (by decide) ?_ ?_
  · refine qr_iconst o (q_dm dm_X12_comesTo 88 rfl) ic_0 ?_
    exact qr_loc (q_leS (q_leN (q_leS (q_leS (q_leS (q_leS (q_leN (q_leS q_le0)))))))) (w_X12_comesTo_155 n j r hj hr o K16 hK16 a2 a3 a4 a5 a7 (M 96 (a3 - (1 : Int32)).toNatClampNeg) (0 : Int32) M)
  · refine qr_iconst o (q_dm dm_X12_comesTo 86 rfl) ic_1 ?_
    refine qr_goto (tgt := 155) o (q_dm dm_X12_comesTo 87 rfl) (by decide) ?_
    exact qr_loc (q_leS (q_leN (q_leS (q_leS (q_leS (q_leS (q_leN (q_leS q_le0)))))))) (w_X12_comesTo_155 n j r hj hr o K16 hK16 a2 a3 a4 a5 a7 (M 96 (a3 - (1 : Int32)).toNatClampNeg) (1 : Int32) M)

def f_X12_comesTo_85 (n : Nat) (K16 : Int32 → Int32 → Int32 → Int32 → qM → qR) (a2 a3 a4 a5 s1 s2 : Int32) (M : qM) : qR :=
  qg s1 260 (qlm (mu M 96 s1.toNatClampNeg s2) (fun m1 => ql (a3 + (1 : Int32)) (fun x2 => K16 a2 x2 a4 a5 m1)))
set_option maxRecDepth 4000 in
theorem w_X12_comesTo_85 {g : qG} {k : qK} (n : Nat) (j r : Nat) (hj : q_isLaw j) (hr : q_isLaw r) (o : qOk g 1 zX12_comesTo k) (K16 : Int32 → Int32 → Int32 → Int32 → qM → qR) (hK16 : ∀ (a2 a3 a4 a5 : Int32) (M : qM), qAE g k zX12_comesTo (qL j r) 16 [some (.inr (some 77)), none, some (.inl a2), some (.inl a3), some (.inl a4), some (.inl a5), none, none] [] (qL j r, M) (K16 a2 a3 a4 a5 M)) (a2 a3 a4 a5 s1 s2 : Int32) (M : qM) : qAE g k zX12_comesTo (qL j r) 85 [some (.inr (some 77)), none, some (.inl a2), some (.inl a3), some (.inl a4), some (.inl a5), none, none] [.inl s2, .inl s1, .inr (some 96)] (qL j r, M) (f_X12_comesTo_85 n K16 a2 a3 a4 a5 s1 s2 M) := by
  unfold f_X12_comesTo_85
  refine qr_iast o (sh96 j r) (q_dm dm_X12_comesTo 47 rfl) ?_
  refine qr_letm (fun m1 => ?_)
  refine qr_iload_n o (q_dm dm_X12_comesTo 48 rfl) rfl ?_
  refine qr_iconst o (q_dm dm_X12_comesTo 49 rfl) ic_1 ?_
  refine qr_iadd o (q_dm dm_X12_comesTo 50 rfl) ?_
  refine qr_lt (fun x2 => ?_)
  refine qs_istore_n (L' := [some (.inr (some 77)), none, some (.inl a2), some (.inl x2), some (.inl a4), some (.inl a5), none, none]) o (q_dm dm_X12_comesTo 51 rfl) (Nat.le_of_ble_eq_true rfl) rfl ?_
  refine qr_goto (tgt := 230) o (q_dm dm_X12_comesTo 52 rfl) (by decide) ?_
  refine qr_goto (tgt := 16) o (q_dm dm_X12_comesTo 135 rfl) (by decide) ?_
  exact qr_loc (q_leS (q_leN (q_leS (q_leS (q_leS (q_leS (q_leN (q_leN q_le0)))))))) (hK16 a2 x2 a4 a5 m1)

def f_X12_comesTo_63 (n : Nat) (K16 : Int32 → Int32 → Int32 → Int32 → qM → qR) (a2 a3 a4 a5 a6 a7 : Int32) (M : qM) : qR :=
  (if a6 = (0 : Int32) then f_X12_comesTo_85 n K16 a2 a3 a4 a5 a3 a7 M else qg a7 12 (f_X12_comesTo_85 n K16 a2 a3 a4 a5 a3 (M 97 a7.toNatClampNeg) M))
set_option maxRecDepth 4000 in
theorem w_X12_comesTo_63 {g : qG} {k : qK} (n : Nat) (j r : Nat) (hj : q_isLaw j) (hr : q_isLaw r) (o : qOk g 1 zX12_comesTo k) (K16 : Int32 → Int32 → Int32 → Int32 → qM → qR) (hK16 : ∀ (a2 a3 a4 a5 : Int32) (M : qM), qAE g k zX12_comesTo (qL j r) 16 [some (.inr (some 77)), none, some (.inl a2), some (.inl a3), some (.inl a4), some (.inl a5), none, none] [] (qL j r, M) (K16 a2 a3 a4 a5 M)) (a2 a3 a4 a5 a6 a7 : Int32) (M : qM) : qAE g k zX12_comesTo (qL j r) 63 [some (.inr (some 77)), none, some (.inl a2), some (.inl a3), some (.inl a4), some (.inl a5), some (.inl a6), some (.inl a7)] [] (qL j r, M) (f_X12_comesTo_63 n K16 a2 a3 a4 a5 a6 a7 M) := by
  unfold f_X12_comesTo_63
  refine qr_aload_n o (q_dm dm_X12_comesTo 36 rfl) rfl ?_
  refine qr_getr (kf := 29) o cf_X12 (sh77 j r) rfl (Nat.le_of_ble_eq_true rfl) fl_X12_65 (q_dm dm_X12_comesTo 37 rfl) ?_
  refine qr_iload_n o (q_dm dm_X12_comesTo 38 rfl) rfl ?_
  refine qr_iload o (q_dm dm_X12_comesTo 39 rfl) rfl ?_
  refine qr_if_ne (tgt := 78) o (q_dm dm_X12_comesTo 40 rfl) (by decide) ?_ ?_
  · refine qr_aload_n o (q_dm dm_X12_comesTo 43 rfl) rfl ?_
    refine qr_getr (kf := 30) o cf_X12 (sh77 j r) rfl (Nat.le_of_ble_eq_true rfl) fl_X12_68 (q_dm dm_X12_comesTo 44 rfl) ?_
    refine qr_iload o (q_dm dm_X12_comesTo 45 rfl) rfl ?_
    refine qr_iald o (sh97 j r) (q_dm dm_X12_comesTo 46 rfl) ?_
    exact qr_loc (q_leS (q_leN (q_leS (q_leS (q_leS (q_leS (q_leN (q_leN q_le0)))))))) (w_X12_comesTo_85 n j r hj hr o K16 hK16 a2 a3 a4 a5 a3 (M 97 a7.toNatClampNeg) M)
  · refine qr_iload o (q_dm dm_X12_comesTo 41 rfl) rfl ?_
    refine qr_goto (tgt := 85) o (q_dm dm_X12_comesTo 42 rfl) (by decide) ?_
    exact qr_loc (q_leS (q_leN (q_leS (q_leS (q_leS (q_leS (q_leN (q_leN q_le0)))))))) (w_X12_comesTo_85 n j r hj hr o K16 hK16 a2 a3 a4 a5 a3 a7 M)

def b_X12_comesTo_16 (n : Nat) (K16 : Int32 → Int32 → Int32 → Int32 → qM → qR) (a2 a3 a4 a5 : Int32) (M : qM) : qR :=
  (if a2 ≤ a5 then some ((M 96 0), M) else qg a5 260 (ql ((M 91 a5.toNatClampNeg) / (1048576 : Int32)) (fun x1 => qg a5 260 (ql ((M 91 a5.toNatClampNeg) - (M 91 a5.toNatClampNeg) / (1048576 : Int32) * (1048576 : Int32)) (fun x2 => ql (a5 + (1 : Int32)) (fun x3 => (if x1 = (0 : Int32) then f_X12_comesTo_63 n K16 a2 a3 a4 x3 x1 x2 M else (if x1 = (1 : Int32) then f_X12_comesTo_63 n K16 a2 a3 a4 x3 x1 x2 M else (if x1 = (10 : Int32) then qg (a3 - (1 : Int32)) 260 (qg (a3 - (1 : Int32)) 260 (qlm (mu M 96 (a3 - (1 : Int32)).toNatClampNeg ((1 : Int32) - (M 96 (a3 - (1 : Int32)).toNatClampNeg))) (fun m5 => K16 a2 a3 a4 x3 m5))) else (if x1 = (11 : Int32) then f_X12_comesTo_135 n K16 a2 a3 a4 x3 x1 x2 M else (if x1 = (12 : Int32) then f_X12_comesTo_135 n K16 a2 a3 a4 x3 x1 x2 M else ql (a3 - (1 : Int32)) (fun x4 => (if x1 = (5 : Int32) then f_X12_comesTo_192 n K16 a2 x4 a4 x3 x1 M else (if x1 = (6 : Int32) then f_X12_comesTo_192 n K16 a2 x4 a4 x3 x1 M else f_X12_comesTo_203 n K16 a2 x4 a4 x3 x1 M))))))))))))))
set_option maxRecDepth 4000 in
theorem wb_X12_comesTo_16 {g : qG} {k : qK} (n : Nat) (j r : Nat) (hj : q_isLaw j) (hr : q_isLaw r) (o : qOk g 1 zX12_comesTo k) (K16 : Int32 → Int32 → Int32 → Int32 → qM → qR) (hK16 : ∀ (a2 a3 a4 a5 : Int32) (M : qM), qAE g k zX12_comesTo (qL j r) 16 [some (.inr (some 77)), none, some (.inl a2), some (.inl a3), some (.inl a4), some (.inl a5), none, none] [] (qL j r, M) (K16 a2 a3 a4 a5 M)) (a2 a3 a4 a5 : Int32) (M : qM) : qAE g k zX12_comesTo (qL j r) 16 [some (.inr (some 77)), none, some (.inl a2), some (.inl a3), some (.inl a4), some (.inl a5), none, none] [] (qL j r, M) (b_X12_comesTo_16 n K16 a2 a3 a4 a5 M) := by
  unfold b_X12_comesTo_16
  refine qr_iload o (q_dm dm_X12_comesTo 10 rfl) rfl ?_
  refine qr_iload_n o (q_dm dm_X12_comesTo 11 rfl) rfl ?_
  refine qr_icmp_ge (tgt := 233) o (q_dm dm_X12_comesTo 12 rfl) (by decide) ?_ ?_
  · refine qr_aload_n o (q_dm dm_X12_comesTo 136 rfl) rfl ?_
    refine qr_getr (kf := 29) o cf_X12 (sh77 j r) rfl (Nat.le_of_ble_eq_true rfl) fl_X12_65 (q_dm dm_X12_comesTo 137 rfl) ?_
    refine qr_iconst o (q_dm dm_X12_comesTo 138 rfl) ic_0 ?_
    refine qr_iald0 (c := 0) o (sh96 j r) (by decide) (by decide) (q_dm dm_X12_comesTo 139 rfl) ?_
    exact qr_iret o rfl rfl (q_dm dm_X12_comesTo 140 rfl)
  · refine qr_aload_n o (q_dm dm_X12_comesTo 13 rfl) rfl ?_
    refine qr_getr (kf := 24) o cf_X12 (sh77 j r) rfl (Nat.le_of_ble_eq_true rfl) fl_X12_50 (q_dm dm_X12_comesTo 14 rfl) ?_
    refine qr_iload o (q_dm dm_X12_comesTo 15 rfl) rfl ?_
    refine qr_iald o (sh91 j r) (q_dm dm_X12_comesTo 16 rfl) ?_
    refine qr_ldc o (q_dm dm_X12_comesTo 17 rfl) kc_X12_195 ?_
    refine qr_idivc o (q_dm dm_X12_comesTo 18 rfl) (by decide) ?_
    refine qr_lt (fun x1 => ?_)
    refine qs_istore (L' := [some (.inr (some 77)), none, some (.inl a2), some (.inl a3), some (.inl a4), some (.inl a5), some (.inl x1), none]) o (q_dm dm_X12_comesTo 19 rfl) (Nat.le_of_ble_eq_true rfl) rfl ?_
    refine qr_aload_n o (q_dm dm_X12_comesTo 20 rfl) rfl ?_
    refine qr_getr (kf := 24) o cf_X12 (sh77 j r) rfl (Nat.le_of_ble_eq_true rfl) fl_X12_50 (q_dm dm_X12_comesTo 21 rfl) ?_
    refine qr_iload o (q_dm dm_X12_comesTo 22 rfl) rfl ?_
    refine qr_iald o (sh91 j r) (q_dm dm_X12_comesTo 23 rfl) ?_
    refine qr_ldc o (q_dm dm_X12_comesTo 24 rfl) kc_X12_195 ?_
    refine qr_iremc o (q_dm dm_X12_comesTo 25 rfl) (by decide) ?_
    refine qr_lt (fun x2 => ?_)
    refine qs_istore (L' := [some (.inr (some 77)), none, some (.inl a2), some (.inl a3), some (.inl a4), some (.inl a5), some (.inl x1), some (.inl x2)]) o (q_dm dm_X12_comesTo 26 rfl) (Nat.le_of_ble_eq_true rfl) rfl ?_
    refine qr_iload o (q_dm dm_X12_comesTo 27 rfl) rfl ?_
    refine qr_iconst o (q_dm dm_X12_comesTo 28 rfl) ic_1 ?_
    refine qr_iadd o (q_dm dm_X12_comesTo 29 rfl) ?_
    refine qr_lt (fun x3 => ?_)
    refine qs_istore (L' := [some (.inr (some 77)), none, some (.inl a2), some (.inl a3), some (.inl a4), some (.inl x3), some (.inl x1), some (.inl x2)]) o (q_dm dm_X12_comesTo 30 rfl) (Nat.le_of_ble_eq_true rfl) rfl ?_
    refine qr_iload o (q_dm dm_X12_comesTo 31 rfl) rfl ?_
    refine qr_if_eq (tgt := 63) o (q_dm dm_X12_comesTo 32 rfl) (by decide) ?_ ?_
    · exact qr_loc (q_leS (q_leN (q_leS (q_leS (q_leS (q_leS (q_leS (q_leS q_le0)))))))) (w_X12_comesTo_63 n j r hj hr o K16 hK16 a2 a3 a4 x3 x1 x2 M)
    · refine qr_iload o (q_dm dm_X12_comesTo 33 rfl) rfl ?_
      refine qr_iconst o (q_dm dm_X12_comesTo 34 rfl) ic_1 ?_
      refine qr_icmp_ne (tgt := 93) o (q_dm dm_X12_comesTo 35 rfl) (by decide) ?_ ?_
      · refine qr_iload o (q_dm dm_X12_comesTo 53 rfl) rfl ?_
        refine qr_bipush o (q_dm dm_X12_comesTo 54 rfl) bi_10 ?_
        refine qr_icmp_ne (tgt := 121) o (q_dm dm_X12_comesTo 55 rfl) (by decide) ?_ ?_
        · refine qr_iload o (q_dm dm_X12_comesTo 71 rfl) rfl ?_
          refine qr_bipush o (q_dm dm_X12_comesTo 72 rfl) bi_11 ?_
          refine qr_icmp_eq (tgt := 135) o (q_dm dm_X12_comesTo 73 rfl) (by decide) ?_ ?_
          · exact qr_loc (q_leS (q_leN (q_leS (q_leS (q_leS (q_leS (q_leS (q_leS q_le0)))))))) (w_X12_comesTo_135 n j r hj hr o K16 hK16 a2 a3 a4 x3 x1 x2 M)
          · refine qr_iload o (q_dm dm_X12_comesTo 74 rfl) rfl ?_
            refine qr_bipush o (q_dm dm_X12_comesTo 75 rfl) bi_12 ?_
            refine qr_icmp_ne (tgt := 175) o (q_dm dm_X12_comesTo 76 rfl) (by decide) ?_ ?_
            · refine qr_iload_n o (q_dm dm_X12_comesTo 100 rfl) rfl ?_
              refine qr_iconst o (q_dm dm_X12_comesTo 101 rfl) ic_1 ?_
              refine qr_isub o (q_dm dm_X12_comesTo 102 rfl) ?_
              refine qr_lt (fun x4 => ?_)
              refine qs_istore_n (L' := [some (.inr (some 77)), none, some (.inl a2), some (.inl x4), some (.inl a4), some (.inl x3), some (.inl x1), some (.inl x2)]) o (q_dm dm_X12_comesTo 103 rfl) (Nat.le_of_ble_eq_true rfl) rfl ?_
              refine qr_iload o (q_dm dm_X12_comesTo 104 rfl) rfl ?_
              refine qr_iconst o (q_dm dm_X12_comesTo 105 rfl) ic_5 ?_
              refine qr_icmp_eq (tgt := 192) o (q_dm dm_X12_comesTo 106 rfl) (by decide) ?_ ?_
              · exact qr_loc (q_leS (q_leN (q_leS (q_leS (q_leS (q_leS (q_leS (q_leN q_le0)))))))) (w_X12_comesTo_192 n j r hj hr o K16 hK16 a2 x4 a4 x3 x1 M)
              · refine qr_iload o (q_dm dm_X12_comesTo 107 rfl) rfl ?_
                refine qr_bipush o (q_dm dm_X12_comesTo 108 rfl) bi_6 ?_
                refine qr_icmp_ne (tgt := 203) o (q_dm dm_X12_comesTo 109 rfl) (by decide) ?_ ?_
                · exact qr_loc (q_leS (q_leN (q_leS (q_leS (q_leS (q_leS (q_leS (q_leN q_le0)))))))) (w_X12_comesTo_203 n j r hj hr o K16 hK16 a2 x4 a4 x3 x1 M)
                · exact qr_loc (q_leS (q_leN (q_leS (q_leS (q_leS (q_leS (q_leS (q_leN q_le0)))))))) (w_X12_comesTo_192 n j r hj hr o K16 hK16 a2 x4 a4 x3 x1 M)
            · exact qr_loc (q_leS (q_leN (q_leS (q_leS (q_leS (q_leS (q_leS (q_leS q_le0)))))))) (w_X12_comesTo_135 n j r hj hr o K16 hK16 a2 a3 a4 x3 x1 x2 M)
        · refine qr_aload_n o (q_dm dm_X12_comesTo 56 rfl) rfl ?_
          refine qr_getr (kf := 29) o cf_X12 (sh77 j r) rfl (Nat.le_of_ble_eq_true rfl) fl_X12_65 (q_dm dm_X12_comesTo 57 rfl) ?_
          refine qr_iload_n o (q_dm dm_X12_comesTo 58 rfl) rfl ?_
          refine qr_iconst o (q_dm dm_X12_comesTo 59 rfl) ic_1 ?_
          refine qr_isub o (q_dm dm_X12_comesTo 60 rfl) ?_
          refine qr_iconst o (q_dm dm_X12_comesTo 61 rfl) ic_1 ?_
          refine qr_aload_n o (q_dm dm_X12_comesTo 62 rfl) rfl ?_
          refine qr_getr (kf := 29) o cf_X12 (sh77 j r) rfl (Nat.le_of_ble_eq_true rfl) fl_X12_65 (q_dm dm_X12_comesTo 63 rfl) ?_
          refine qr_iload_n o (q_dm dm_X12_comesTo 64 rfl) rfl ?_
          refine qr_iconst o (q_dm dm_X12_comesTo 65 rfl) ic_1 ?_
          refine qr_isub o (q_dm dm_X12_comesTo 66 rfl) ?_
          refine qr_iald o (sh96 j r) (q_dm dm_X12_comesTo 67 rfl) ?_
          refine qr_isub o (q_dm dm_X12_comesTo 68 rfl) ?_
          refine qr_iast o (sh96 j r) (q_dm dm_X12_comesTo 69 rfl) ?_
          refine qr_letm (fun m5 => ?_)
          refine qr_goto (tgt := 230) o (q_dm dm_X12_comesTo 70 rfl) (by decide) ?_
          refine qr_goto (tgt := 16) o (q_dm dm_X12_comesTo 135 rfl) (by decide) ?_
          exact qr_loc (q_leS (q_leN (q_leS (q_leS (q_leS (q_leS (q_leN (q_leN q_le0)))))))) (hK16 a2 a3 a4 x3 m5)
      · exact qr_loc (q_leS (q_leN (q_leS (q_leS (q_leS (q_leS (q_leS (q_leS q_le0)))))))) (w_X12_comesTo_63 n j r hj hr o K16 hK16 a2 a3 a4 x3 x1 x2 M)

def f_X12_comesTo_16 (n : Nat) : Nat → Int32 → Int32 → Int32 → Int32 → qM → qR
  | 0, _, _, _, _, _ => none
  | m + 1, a2, a3, a4, a5, M => b_X12_comesTo_16 n (f_X12_comesTo_16 n m) a2 a3 a4 a5 M
theorem w_X12_comesTo_16 {g : qG} {k : qK} (n : Nat) (j r : Nat) (hj : q_isLaw j) (hr : q_isLaw r) (o : qOk g 1 zX12_comesTo k) : ∀ (m : Nat) (a2 a3 a4 a5 : Int32) (M : qM), qAE g k zX12_comesTo (qL j r) 16 [some (.inr (some 77)), none, some (.inl a2), some (.inl a3), some (.inl a4), some (.inl a5), none, none] [] (qL j r, M) (f_X12_comesTo_16 n m a2 a3 a4 a5 M) := by
  intro m
  induction m with
  | zero =>
    intro a2 a3 a4 a5 M
    exact qr_none
  | succ m ih =>
    intro a2 a3 a4 a5 M
    exact wb_X12_comesTo_16 n j r hj hr o (f_X12_comesTo_16 n m) ih a2 a3 a4 a5 M
def f_X12_comesTo (n : Nat) (a1 a2 : Int32) (M : qM) : qR :=
  ql ((260 : Int32) * (a1 / (260 : Int32))) (fun x1 => f_X12_comesTo_16 n n a2 (0 : Int32) x1 a1 M)
set_option maxRecDepth 4000 in
theorem w_X12_comesTo {g : qG} {k : qK} (n : Nat) (j r : Nat) (hj : q_isLaw j) (hr : q_isLaw r) (o : qOk g 1 zX12_comesTo k) (a1 a2 : Int32) (M : qM) : qAE g k zX12_comesTo (qL j r) 0 [some (.inr (some 77)), some (.inl a1), some (.inl a2), none, none, none, none, none] [] (qL j r, M) (f_X12_comesTo n a1 a2 M) := by
  unfold f_X12_comesTo
  refine qr_iconst o (q_dm dm_X12_comesTo 0 rfl) ic_0 ?_
  refine qs_istore_n (L' := [some (.inr (some 77)), some (.inl a1), some (.inl a2), some (.inl (0 : Int32)), none, none, none, none]) o (q_dm dm_X12_comesTo 1 rfl) (Nat.le_of_ble_eq_true rfl) rfl ?_
  refine qr_sipush o (q_dm dm_X12_comesTo 2 rfl) si_260 ?_
  refine qr_iload_n o (q_dm dm_X12_comesTo 3 rfl) rfl ?_
  refine qr_sipush o (q_dm dm_X12_comesTo 4 rfl) si_260 ?_
  refine qr_idivc o (q_dm dm_X12_comesTo 5 rfl) (by decide) ?_
  refine qr_imul o (q_dm dm_X12_comesTo 6 rfl) ?_
  refine qr_lt (fun x1 => ?_)
  refine qs_istore (L' := [some (.inr (some 77)), some (.inl a1), some (.inl a2), some (.inl (0 : Int32)), some (.inl x1), none, none, none]) o (q_dm dm_X12_comesTo 7 rfl) (Nat.le_of_ble_eq_true rfl) rfl ?_
  refine qr_iload_n o (q_dm dm_X12_comesTo 8 rfl) rfl ?_
  refine qs_istore (L' := [some (.inr (some 77)), some (.inl a1), some (.inl a2), some (.inl (0 : Int32)), some (.inl x1), some (.inl a1), none, none]) o (q_dm dm_X12_comesTo 9 rfl) (Nat.le_of_ble_eq_true rfl) rfl ?_
  exact qr_loc (q_leS (q_leN (q_leS (q_leS (q_leS (q_leS (q_leN (q_leN q_le0)))))))) (w_X12_comesTo_16 n j r hj hr o n a2 (0 : Int32) x1 a1 M)

theorem a_X12_comesTo (g : qG) (l : Launch) (n : Nat) (j r : Nat) (hj : q_isLaw j) (hr : q_isLaw r) (a1 a2 : Int32) (M : qM) : qAM g l 1 zX12_comesTo (qL j r) [.inr (some 77), .inl a1, .inl a2] (qL j r, M) (f_X12_comesTo n a1 a2 M) :=
  qAM.of zv_X12_comesTo.1 (by show 3 ≤ 8; decide) (fun k hk o => w_X12_comesTo n j r hj hr o a1 a2 M)
def tb_X12_feelsKind : List (Nat × Instr × Nat) := [(0, (.iconst 0, 1)), (1, (.istore_n 2, 1)), (2, (.iload_n 2, 1)), (3, (.bipush 12, 2)), (5, (.if_icmp .ge 16, 3)), (8, (.aload_n 0, 1)), (9, (.getfield 68, 3)), (12, (.iload_n 2, 1)), (13, (.iconst 0, 1)), (14, (.iastore, 1)), (15, (.iinc 2 1, 3)), (18, (.goto (-16), 3)), (21, (.aload_n 0, 1)), (22, (.getfield 68, 3)), (25, (.iconst 0, 1)), (26, (.iload_n 1, 1)), (27, (.iastore, 1)), (28, (.aload_n 0, 1)), (29, (.getfield 68, 3)), (32, (.iconst 1, 1)), (33, (.aload_n 0, 1)), (34, (.getfield 19, 3)), (37, (.iload_n 1, 1)), (38, (.iaload, 1)), (39, (.iastore, 1)), (40, (.aload_n 0, 1)), (41, (.getfield 68, 3)), (44, (.iconst 2, 1)), (45, (.aload_n 0, 1)), (46, (.getfield 22, 3)), (49, (.iload_n 1, 1)), (50, (.iaload, 1)), (51, (.iastore, 1)), (52, (.aload_n 0, 1)), (53, (.getfield 68, 3)), (56, (.bipush 6, 2)), (58, (.aload_n 0, 1)), (59, (.getfield 7, 3)), (62, (.sipush 313, 3)), (65, (.iaload, 1)), (66, (.iastore, 1)), (67, (.return_, 1))]
theorem dm_X12_feelsKind : ∀ q ∈ tb_X12_feelsKind, decode zX12_feelsKind.2.1 q.1 = .ok q.2 := by decide +kernel
def b_X12_feelsKind_2 (n : Nat) (K2 : Int32 → Int32 → qM → qR) (a1 a2 : Int32) (M : qM) : qR :=
  (if (12 : Int32) ≤ a2 then qlm (mu M 97 0 a1) (fun m1 => qg a1 13 (qlm (mu m1 97 1 (m1 81 a1.toNatClampNeg)) (fun m2 => qg a1 13 (qlm (mu m2 97 2 (m2 82 a1.toNatClampNeg)) (fun m3 => qlm (mu m3 97 6 (m3 78 313)) (fun m4 => some (0, m4))))))) else qg a2 12 (qlm (mu M 97 a2.toNatClampNeg (0 : Int32)) (fun m5 => ql (a2 + (1 : Int32)) (fun x6 => K2 a1 x6 m5))))
set_option maxRecDepth 4000 in
theorem wb_X12_feelsKind_2 {g : qG} {k : qK} (n : Nat) (j r : Nat) (hj : q_isLaw j) (hr : q_isLaw r) (o : qOk g 0 zX12_feelsKind k) (K2 : Int32 → Int32 → qM → qR) (hK2 : ∀ (a1 a2 : Int32) (M : qM), qAE g k zX12_feelsKind (qL j r) 2 [some (.inr (some 77)), some (.inl a1), some (.inl a2)] [] (qL j r, M) (K2 a1 a2 M)) (a1 a2 : Int32) (M : qM) : qAE g k zX12_feelsKind (qL j r) 2 [some (.inr (some 77)), some (.inl a1), some (.inl a2)] [] (qL j r, M) (b_X12_feelsKind_2 n K2 a1 a2 M) := by
  unfold b_X12_feelsKind_2
  refine qr_iload_n o (q_dm dm_X12_feelsKind 2 rfl) rfl ?_
  refine qr_bipush o (q_dm dm_X12_feelsKind 3 rfl) bi_12 ?_
  refine qr_icmp_ge (tgt := 21) o (q_dm dm_X12_feelsKind 4 rfl) (by decide) ?_ ?_
  · refine qr_aload_n o (q_dm dm_X12_feelsKind 12 rfl) rfl ?_
    refine qr_getr (kf := 30) o cf_X12 (sh77 j r) rfl (Nat.le_of_ble_eq_true rfl) fl_X12_68 (q_dm dm_X12_feelsKind 13 rfl) ?_
    refine qr_iconst o (q_dm dm_X12_feelsKind 14 rfl) ic_0 ?_
    refine qr_iload_n o (q_dm dm_X12_feelsKind 15 rfl) rfl ?_
    refine qr_iast0 (c := 0) o (sh97 j r) (by decide) (by decide) (q_dm dm_X12_feelsKind 16 rfl) ?_
    refine qr_letm (fun m1 => ?_)
    refine qr_aload_n o (q_dm dm_X12_feelsKind 17 rfl) rfl ?_
    refine qr_getr (kf := 30) o cf_X12 (sh77 j r) rfl (Nat.le_of_ble_eq_true rfl) fl_X12_68 (q_dm dm_X12_feelsKind 18 rfl) ?_
    refine qr_iconst o (q_dm dm_X12_feelsKind 19 rfl) ic_1 ?_
    refine qr_aload_n o (q_dm dm_X12_feelsKind 20 rfl) rfl ?_
    refine qr_getr (kf := 3) o cf_X12 (sh77 j r) rfl (Nat.le_of_ble_eq_true rfl) fl_X12_19 (q_dm dm_X12_feelsKind 21 rfl) ?_
    refine qr_iload_n o (q_dm dm_X12_feelsKind 22 rfl) rfl ?_
    refine qr_iald o (sh81 j r) (q_dm dm_X12_feelsKind 23 rfl) ?_
    refine qr_iast0 (c := 1) o (sh97 j r) (by decide) (by decide) (q_dm dm_X12_feelsKind 24 rfl) ?_
    refine qr_letm (fun m2 => ?_)
    refine qr_aload_n o (q_dm dm_X12_feelsKind 25 rfl) rfl ?_
    refine qr_getr (kf := 30) o cf_X12 (sh77 j r) rfl (Nat.le_of_ble_eq_true rfl) fl_X12_68 (q_dm dm_X12_feelsKind 26 rfl) ?_
    refine qr_iconst o (q_dm dm_X12_feelsKind 27 rfl) ic_2 ?_
    refine qr_aload_n o (q_dm dm_X12_feelsKind 28 rfl) rfl ?_
    refine qr_getr (kf := 4) o cf_X12 (sh77 j r) rfl (Nat.le_of_ble_eq_true rfl) fl_X12_22 (q_dm dm_X12_feelsKind 29 rfl) ?_
    refine qr_iload_n o (q_dm dm_X12_feelsKind 30 rfl) rfl ?_
    refine qr_iald o (sh82 j r) (q_dm dm_X12_feelsKind 31 rfl) ?_
    refine qr_iast0 (c := 2) o (sh97 j r) (by decide) (by decide) (q_dm dm_X12_feelsKind 32 rfl) ?_
    refine qr_letm (fun m3 => ?_)
    refine qr_aload_n o (q_dm dm_X12_feelsKind 33 rfl) rfl ?_
    refine qr_getr (kf := 30) o cf_X12 (sh77 j r) rfl (Nat.le_of_ble_eq_true rfl) fl_X12_68 (q_dm dm_X12_feelsKind 34 rfl) ?_
    refine qr_bipush o (q_dm dm_X12_feelsKind 35 rfl) bi_6 ?_
    refine qr_aload_n o (q_dm dm_X12_feelsKind 36 rfl) rfl ?_
    refine qr_getr (kf := 0) o cf_X12 (sh77 j r) rfl (Nat.le_of_ble_eq_true rfl) fl_X12_7 (q_dm dm_X12_feelsKind 37 rfl) ?_
    refine qr_sipush o (q_dm dm_X12_feelsKind 38 rfl) si_313 ?_
    refine qr_iald0 (c := 313) o (sh78 j r) (by decide) (by decide) (q_dm dm_X12_feelsKind 39 rfl) ?_
    refine qr_iast0 (c := 6) o (sh97 j r) (by decide) (by decide) (q_dm dm_X12_feelsKind 40 rfl) ?_
    refine qr_letm (fun m4 => ?_)
    exact qr_vret o rfl (q_dm dm_X12_feelsKind 41 rfl)
  · refine qr_aload_n o (q_dm dm_X12_feelsKind 5 rfl) rfl ?_
    refine qr_getr (kf := 30) o cf_X12 (sh77 j r) rfl (Nat.le_of_ble_eq_true rfl) fl_X12_68 (q_dm dm_X12_feelsKind 6 rfl) ?_
    refine qr_iload_n o (q_dm dm_X12_feelsKind 7 rfl) rfl ?_
    refine qr_iconst o (q_dm dm_X12_feelsKind 8 rfl) ic_0 ?_
    refine qr_iast o (sh97 j r) (q_dm dm_X12_feelsKind 9 rfl) ?_
    refine qr_letm (fun m5 => ?_)
    refine qs_iincl2 (L' := fun x6 => [some (.inr (some 77)), some (.inl a1), some (.inl x6)]) o (q_dm dm_X12_feelsKind 10 rfl) rfl ic_1 (Nat.le_of_ble_eq_true rfl) (fun _ => rfl) (fun x6 => ?_)
    refine qr_goto (tgt := 2) o (q_dm dm_X12_feelsKind 11 rfl) (by decide) ?_
    exact qr_loc (q_leS (q_leS (q_leS q_le0))) (hK2 a1 x6 m5)

def f_X12_feelsKind_2 (n : Nat) : Nat → Int32 → Int32 → qM → qR
  | 0, _, _, _ => none
  | m + 1, a1, a2, M => b_X12_feelsKind_2 n (f_X12_feelsKind_2 n m) a1 a2 M
theorem w_X12_feelsKind_2 {g : qG} {k : qK} (n : Nat) (j r : Nat) (hj : q_isLaw j) (hr : q_isLaw r) (o : qOk g 0 zX12_feelsKind k) : ∀ (m : Nat) (a1 a2 : Int32) (M : qM), qAE g k zX12_feelsKind (qL j r) 2 [some (.inr (some 77)), some (.inl a1), some (.inl a2)] [] (qL j r, M) (f_X12_feelsKind_2 n m a1 a2 M) := by
  intro m
  induction m with
  | zero =>
    intro a1 a2 M
    exact qr_none
  | succ m ih =>
    intro a1 a2 M
    exact wb_X12_feelsKind_2 n j r hj hr o (f_X12_feelsKind_2 n m) ih a1 a2 M
def f_X12_feelsKind (n : Nat) (a1 : Int32) (M : qM) : qR :=
  f_X12_feelsKind_2 n n a1 (0 : Int32) M
set_option maxRecDepth 4000 in
theorem w_X12_feelsKind {g : qG} {k : qK} (n : Nat) (j r : Nat) (hj : q_isLaw j) (hr : q_isLaw r) (o : qOk g 0 zX12_feelsKind k) (a1 : Int32) (M : qM) : qAE g k zX12_feelsKind (qL j r) 0 [some (.inr (some 77)), some (.inl a1), none] [] (qL j r, M) (f_X12_feelsKind n a1 M) := by
  unfold f_X12_feelsKind
  refine qr_iconst o (q_dm dm_X12_feelsKind 0 rfl) ic_0 ?_
  refine qs_istore_n (L' := [some (.inr (some 77)), some (.inl a1), some (.inl (0 : Int32))]) o (q_dm dm_X12_feelsKind 1 rfl) (Nat.le_of_ble_eq_true rfl) rfl ?_
  exact qr_loc (q_leS (q_leS (q_leS q_le0))) (w_X12_feelsKind_2 n j r hj hr o n a1 (0 : Int32) M)

theorem a_X12_feelsKind (g : qG) (l : Launch) (n : Nat) (j r : Nat) (hj : q_isLaw j) (hr : q_isLaw r) (a1 : Int32) (M : qM) : qAM g l 0 zX12_feelsKind (qL j r) [.inr (some 77), .inl a1] (qL j r, M) (f_X12_feelsKind n a1 M) :=
  qAM.of zv_X12_feelsKind.1 (by show 2 ≤ 3; decide) (fun k hk o => w_X12_feelsKind n j r hj hr o a1 M)
def tb_X12_isLike : List (Nat × Instr × Nat) := [(0, (.iload_n 1, 1)), (1, (.iload_n 2, 1)), (2, (.if_icmp .ne 5, 3)), (5, (.iconst 1, 1)), (6, (.ireturn, 1)), (7, (.aload_n 0, 1)), (8, (.iload_n 1, 1)), (9, (.invokevirtual 273, 3)), (12, (.aload_n 0, 1)), (13, (.getfield 68, 3)), (16, (.iconst 3, 1)), (17, (.iload_n 2, 1)), (18, (.iastore, 1)), (19, (.aload_n 0, 1)), (20, (.getfield 68, 3)), (23, (.iconst 4, 1)), (24, (.aload_n 0, 1)), (25, (.getfield 22, 3)), (28, (.iload_n 2, 1)), (29, (.iaload, 1)), (30, (.iastore, 1)), (31, (.aload_n 0, 1)), (32, (.getfield 68, 3)), (35, (.iconst 5, 1)), (36, (.aload_n 0, 1)), (37, (.getfield 22, 3)), (40, (.iload_n 1, 1)), (41, (.iaload, 1)), (42, (.aload_n 0, 1)), (43, (.getfield 22, 3)), (46, (.iload_n 2, 1)), (47, (.iaload, 1)), (48, (.iand, 1)), (49, (.invokestatic 276, 3)), (52, (.iastore, 1)), (53, (.iconst 0, 1)), (54, (.istore_n 3, 1)), (55, (.iload_n 3, 1)), (56, (.aload_n 0, 1)), (57, (.getfield 262, 3)), (60, (.if_icmp .ge 42, 3)), (63, (.aload_n 0, 1)), (64, (.getfield 53, 3)), (67, (.iload_n 3, 1)), (68, (.iaload, 1)), (69, (.bipush 97, 2)), (71, (.if_icmp .ne 25, 3)), (74, (.aload_n 0, 1)), (75, (.aload_n 0, 1)), (76, (.getfield 59, 3)), (79, (.iload_n 3, 1)), (80, (.iaload, 1)), (81, (.aload_n 0, 1)), (82, (.getfield 62, 3)), (85, (.iload_n 3, 1)), (86, (.iaload, 1)), (87, (.invokevirtual 269, 3)), (90, (.iconst 1, 1)), (91, (.if_icmp .ne 5, 3)), (94, (.iconst 1, 1)), (95, (.ireturn, 1)), (96, (.iinc 3 1, 3)), (99, (.goto (-44), 3)), (102, (.iconst 0, 1)), (103, (.ireturn, 1))]
theorem dm_X12_isLike : ∀ q ∈ tb_X12_isLike, decode zX12_isLike.2.1 q.1 = .ok q.2 := by decide +kernel
def b_X12_isLike_55 (n : Nat) (K55 : Int32 → qM → qR) (a3 : Int32) (M : qM) : qR :=
  (if (M 77 17) ≤ a3 then some ((0 : Int32), M) else qg a3 16 ((if (M 92 a3.toNatClampNeg) = (97 : Int32) then qg a3 16 (qg a3 16 (qc (f_X12_comesTo n (M 94 a3.toNatClampNeg) (M 95 a3.toNatClampNeg) M) (fun r2 m3 => (if r2 = (1 : Int32) then some ((1 : Int32), m3) else ql (a3 + (1 : Int32)) (fun x4 => K55 x4 m3))))) else ql (a3 + (1 : Int32)) (fun x1 => K55 x1 M))))
set_option maxRecDepth 4000 in
theorem wb_X12_isLike_55 {g : qG} {k : qK} (n : Nat) (j r : Nat) (hj : q_isLaw j) (hr : q_isLaw r) (o : qOk g 2 zX12_isLike k) (K55 : Int32 → qM → qR) (hK55 : ∀ (a3 : Int32) (M : qM), qAE g k zX12_isLike (qL j r) 55 [some (.inr (some 77)), none, none, some (.inl a3)] [] (qL j r, M) (K55 a3 M)) (a3 : Int32) (M : qM) : qAE g k zX12_isLike (qL j r) 55 [some (.inr (some 77)), none, none, some (.inl a3)] [] (qL j r, M) (b_X12_isLike_55 n K55 a3 M) := by
  unfold b_X12_isLike_55
  refine qr_iload_n o (q_dm dm_X12_isLike 37 rfl) rfl ?_
  refine qr_aload_n o (q_dm dm_X12_isLike 38 rfl) rfl ?_
  refine qr_getf (kf := 17) o cf_X12 (sh77 j r) rfl (Nat.le_of_ble_eq_true rfl) fl_X12_262 (q_dm dm_X12_isLike 39 rfl) ?_
  refine qr_icmp_ge (tgt := 102) o (q_dm dm_X12_isLike 40 rfl) (by decide) ?_ ?_
  · refine qr_iconst o (q_dm dm_X12_isLike 63 rfl) ic_0 ?_
    exact qr_iret o rfl (by decide) (q_dm dm_X12_isLike 64 rfl)
  · refine qr_aload_n o (q_dm dm_X12_isLike 41 rfl) rfl ?_
    refine qr_getr (kf := 25) o cf_X12 (sh77 j r) rfl (Nat.le_of_ble_eq_true rfl) fl_X12_53 (q_dm dm_X12_isLike 42 rfl) ?_
    refine qr_iload_n o (q_dm dm_X12_isLike 43 rfl) rfl ?_
    refine qr_iald o (sh92 j r) (q_dm dm_X12_isLike 44 rfl) ?_
    refine qr_bipush o (q_dm dm_X12_isLike 45 rfl) bi_97 ?_
    refine qr_icmp_ne (tgt := 96) o (q_dm dm_X12_isLike 46 rfl) (by decide) ?_ ?_
    · refine qs_iincl2 (L' := fun x1 => [some (.inr (some 77)), none, none, some (.inl x1)]) o (q_dm dm_X12_isLike 61 rfl) rfl ic_1 (Nat.le_of_ble_eq_true rfl) (fun _ => rfl) (fun x1 => ?_)
      refine qr_goto (tgt := 55) o (q_dm dm_X12_isLike 62 rfl) (by decide) ?_
      exact qr_loc (q_leS (q_leN (q_leN (q_leS q_le0)))) (hK55 x1 M)
    · refine qr_aload_n o (q_dm dm_X12_isLike 47 rfl) rfl ?_
      refine qr_aload_n o (q_dm dm_X12_isLike 48 rfl) rfl ?_
      refine qr_getr (kf := 27) o cf_X12 (sh77 j r) rfl (Nat.le_of_ble_eq_true rfl) fl_X12_59 (q_dm dm_X12_isLike 49 rfl) ?_
      refine qr_iload_n o (q_dm dm_X12_isLike 50 rfl) rfl ?_
      refine qr_iald o (sh94 j r) (q_dm dm_X12_isLike 51 rfl) ?_
      refine qr_aload_n o (q_dm dm_X12_isLike 52 rfl) rfl ?_
      refine qr_getr (kf := 28) o cf_X12 (sh77 j r) rfl (Nat.le_of_ble_eq_true rfl) fl_X12_62 (q_dm dm_X12_isLike 53 rfl) ?_
      refine qr_iload_n o (q_dm dm_X12_isLike 54 rfl) rfl ?_
      refine qr_iald o (sh95 j r) (q_dm dm_X12_isLike 55 rfl) ?_
      refine qr_callv_i (As := [.inl (M 94 a3.toNatClampNeg), .inl (M 95 a3.toNatClampNeg)]) (S := []) o (a_X12_comesTo g k.2.1 n j r hj hr (M 94 a3.toNatClampNeg) (M 95 a3.toNatClampNeg) M) (Nat.le_of_ble_eq_true rfl) zv_X12_comesTo rfl cf_X12 (sh77 j r) ml_X12_269 (Nat.le_of_ble_eq_true rfl) (q_dm dm_X12_isLike 56 rfl) (fun r2 m3 => ?_)
      refine qr_iconst o (q_dm dm_X12_isLike 57 rfl) ic_1 ?_
      refine qr_icmp_ne (tgt := 96) o (q_dm dm_X12_isLike 58 rfl) (by decide) ?_ ?_
      · refine qs_iincl2 (L' := fun x4 => [some (.inr (some 77)), none, none, some (.inl x4)]) o (q_dm dm_X12_isLike 61 rfl) rfl ic_1 (Nat.le_of_ble_eq_true rfl) (fun _ => rfl) (fun x4 => ?_)
        refine qr_goto (tgt := 55) o (q_dm dm_X12_isLike 62 rfl) (by decide) ?_
        exact qr_loc (q_leS (q_leN (q_leN (q_leS q_le0)))) (hK55 x4 m3)
      · refine qr_iconst o (q_dm dm_X12_isLike 59 rfl) ic_1 ?_
        exact qr_iret o rfl (by decide) (q_dm dm_X12_isLike 60 rfl)

def f_X12_isLike_55 (n : Nat) : Nat → Int32 → qM → qR
  | 0, _, _ => none
  | m + 1, a3, M => b_X12_isLike_55 n (f_X12_isLike_55 n m) a3 M
theorem w_X12_isLike_55 {g : qG} {k : qK} (n : Nat) (j r : Nat) (hj : q_isLaw j) (hr : q_isLaw r) (o : qOk g 2 zX12_isLike k) : ∀ (m : Nat) (a3 : Int32) (M : qM), qAE g k zX12_isLike (qL j r) 55 [some (.inr (some 77)), none, none, some (.inl a3)] [] (qL j r, M) (f_X12_isLike_55 n m a3 M) := by
  intro m
  induction m with
  | zero =>
    intro a3 M
    exact qr_none
  | succ m ih =>
    intro a3 M
    exact wb_X12_isLike_55 n j r hj hr o (f_X12_isLike_55 n m) ih a3 M
def f_X12_isLike (n : Nat) (a1 a2 : Int32) (M : qM) : qR :=
  (if a1 = a2 then some ((1 : Int32), M) else qc (f_X12_feelsKind n a1 M) (fun _ m1 => qlm (mu m1 97 3 a2) (fun m2 => qg a2 13 (qlm (mu m2 97 4 (m2 82 a2.toNatClampNeg)) (fun m3 => qg a1 13 (qg a2 13 (qc (f_X12_bits n ((m3 82 a1.toNatClampNeg) &&& (m3 82 a2.toNatClampNeg)) m3) (fun r4 m5 => qlm (mu m5 97 5 r4) (fun m6 => f_X12_isLike_55 n n (0 : Int32) m6)))))))))
set_option maxRecDepth 4000 in
theorem w_X12_isLike {g : qG} {k : qK} (n : Nat) (j r : Nat) (hj : q_isLaw j) (hr : q_isLaw r) (o : qOk g 2 zX12_isLike k) (a1 a2 : Int32) (M : qM) : qAE g k zX12_isLike (qL j r) 0 [some (.inr (some 77)), some (.inl a1), some (.inl a2), none] [] (qL j r, M) (f_X12_isLike n a1 a2 M) := by
  unfold f_X12_isLike
  refine qr_iload_n o (q_dm dm_X12_isLike 0 rfl) rfl ?_
  refine qr_iload_n o (q_dm dm_X12_isLike 1 rfl) rfl ?_
  refine qr_icmp_ne (tgt := 7) o (q_dm dm_X12_isLike 2 rfl) (by decide) ?_ ?_
  · refine qr_aload_n o (q_dm dm_X12_isLike 5 rfl) rfl ?_
    refine qr_iload_n o (q_dm dm_X12_isLike 6 rfl) rfl ?_
    refine qr_callv_v (As := [.inl a1]) (S := []) o (a_X12_feelsKind g k.2.1 n j r hj hr a1 M) (Nat.le_of_ble_eq_true rfl) zv_X12_feelsKind rfl cf_X12 (sh77 j r) ml_X12_273 (Nat.le_of_ble_eq_true rfl) (q_dm dm_X12_isLike 7 rfl) (fun _ m1 => ?_)
    refine qr_aload_n o (q_dm dm_X12_isLike 8 rfl) rfl ?_
    refine qr_getr (kf := 30) o cf_X12 (sh77 j r) rfl (Nat.le_of_ble_eq_true rfl) fl_X12_68 (q_dm dm_X12_isLike 9 rfl) ?_
    refine qr_iconst o (q_dm dm_X12_isLike 10 rfl) ic_3 ?_
    refine qr_iload_n o (q_dm dm_X12_isLike 11 rfl) rfl ?_
    refine qr_iast0 (c := 3) o (sh97 j r) (by decide) (by decide) (q_dm dm_X12_isLike 12 rfl) ?_
    refine qr_letm (fun m2 => ?_)
    refine qr_aload_n o (q_dm dm_X12_isLike 13 rfl) rfl ?_
    refine qr_getr (kf := 30) o cf_X12 (sh77 j r) rfl (Nat.le_of_ble_eq_true rfl) fl_X12_68 (q_dm dm_X12_isLike 14 rfl) ?_
    refine qr_iconst o (q_dm dm_X12_isLike 15 rfl) ic_4 ?_
    refine qr_aload_n o (q_dm dm_X12_isLike 16 rfl) rfl ?_
    refine qr_getr (kf := 4) o cf_X12 (sh77 j r) rfl (Nat.le_of_ble_eq_true rfl) fl_X12_22 (q_dm dm_X12_isLike 17 rfl) ?_
    refine qr_iload_n o (q_dm dm_X12_isLike 18 rfl) rfl ?_
    refine qr_iald o (sh82 j r) (q_dm dm_X12_isLike 19 rfl) ?_
    refine qr_iast0 (c := 4) o (sh97 j r) (by decide) (by decide) (q_dm dm_X12_isLike 20 rfl) ?_
    refine qr_letm (fun m3 => ?_)
    refine qr_aload_n o (q_dm dm_X12_isLike 21 rfl) rfl ?_
    refine qr_getr (kf := 30) o cf_X12 (sh77 j r) rfl (Nat.le_of_ble_eq_true rfl) fl_X12_68 (q_dm dm_X12_isLike 22 rfl) ?_
    refine qr_iconst o (q_dm dm_X12_isLike 23 rfl) ic_5 ?_
    refine qr_aload_n o (q_dm dm_X12_isLike 24 rfl) rfl ?_
    refine qr_getr (kf := 4) o cf_X12 (sh77 j r) rfl (Nat.le_of_ble_eq_true rfl) fl_X12_22 (q_dm dm_X12_isLike 25 rfl) ?_
    refine qr_iload_n o (q_dm dm_X12_isLike 26 rfl) rfl ?_
    refine qr_iald o (sh82 j r) (q_dm dm_X12_isLike 27 rfl) ?_
    refine qr_aload_n o (q_dm dm_X12_isLike 28 rfl) rfl ?_
    refine qr_getr (kf := 4) o cf_X12 (sh77 j r) rfl (Nat.le_of_ble_eq_true rfl) fl_X12_22 (q_dm dm_X12_isLike 29 rfl) ?_
    refine qr_iload_n o (q_dm dm_X12_isLike 30 rfl) rfl ?_
    refine qr_iald o (sh82 j r) (q_dm dm_X12_isLike 31 rfl) ?_
    refine qr_iand o (q_dm dm_X12_isLike 32 rfl) ?_
    refine qr_calls_i (As := [.inl ((m3 82 a1.toNatClampNeg) &&& (m3 82 a2.toNatClampNeg))]) (S := [.inl (5 : Int32), .inr (some 97)]) o (a_X12_bits g k.2.1 n j r hj hr ((m3 82 a1.toNatClampNeg) &&& (m3 82 a2.toNatClampNeg)) m3) (Nat.le_of_ble_eq_true rfl) zs_X12_bits rfl ml_X12_276 (Nat.le_of_ble_eq_true rfl) (q_dm dm_X12_isLike 33 rfl) (fun r4 m5 => ?_)
    refine qr_iast0 (c := 5) o (sh97 j r) (by decide) (by decide) (q_dm dm_X12_isLike 34 rfl) ?_
    refine qr_letm (fun m6 => ?_)
    refine qr_iconst o (q_dm dm_X12_isLike 35 rfl) ic_0 ?_
    refine qs_istore_n (L' := [some (.inr (some 77)), some (.inl a1), some (.inl a2), some (.inl (0 : Int32))]) o (q_dm dm_X12_isLike 36 rfl) (Nat.le_of_ble_eq_true rfl) rfl ?_
    exact qr_loc (q_leS (q_leN (q_leN (q_leS q_le0)))) (w_X12_isLike_55 n j r hj hr o n (0 : Int32) m6)
  · refine qr_iconst o (q_dm dm_X12_isLike 3 rfl) ic_1 ?_
    exact qr_iret o rfl (by decide) (q_dm dm_X12_isLike 4 rfl)

theorem a_X12_isLike (g : qG) (l : Launch) (n : Nat) (j r : Nat) (hj : q_isLaw j) (hr : q_isLaw r) (a1 a2 : Int32) (M : qM) : qAM g l 2 zX12_isLike (qL j r) [.inr (some 77), .inl a1, .inl a2] (qL j r, M) (f_X12_isLike n a1 a2 M) :=
  qAM.of zv_X12_isLike.1 (by show 3 ≤ 4; decide) (fun k hk o => w_X12_isLike n j r hj hr o a1 a2 M)
def tb_X12_alike : List (Nat × Instr × Nat) := [(0, (.aload_n 0, 1)), (1, (.iload_n 1, 1)), (2, (.invokevirtual 157, 3)), (5, (.ifCond .eq 11, 3)), (8, (.aload_n 0, 1)), (9, (.iload_n 2, 1)), (10, (.invokevirtual 157, 3)), (13, (.ifCond .ne 5, 3)), (16, (.iconst (-1), 1)), (17, (.ireturn, 1)), (18, (.aload_n 0, 1)), (19, (.iload_n 1, 1)), (20, (.iload_n 2, 1)), (21, (.invokevirtual 279, 3)), (24, (.ifCond .eq 7, 3)), (27, (.iconst 1, 1)), (28, (.goto 4, 3)), (31, (.iconst 0, 1)), (32, (.ireturn, 1))]
theorem dm_X12_alike : ∀ q ∈ tb_X12_alike, decode zX12_alike.2.1 q.1 = .ok q.2 := by decide +kernel
def f_X12_alike (n : Nat) (a1 a2 : Int32) (M : qM) : qR :=
  qc (f_X12_isKind n a1 M) (fun r1 m2 => (if r1 = (0 : Int32) then some ((-1 : Int32), m2) else qc (f_X12_isKind n a2 m2) (fun r3 m4 => (if r3 = (0 : Int32) then some ((-1 : Int32), m4) else qc (f_X12_isLike n a1 a2 m4) (fun r5 m6 => (if r5 = (0 : Int32) then some ((0 : Int32), m6) else some ((1 : Int32), m6)))))))
set_option maxRecDepth 4000 in
theorem w_X12_alike {g : qG} {k : qK} (n : Nat) (j r : Nat) (hj : q_isLaw j) (hr : q_isLaw r) (o : qOk g 3 zX12_alike k) (a1 a2 : Int32) (M : qM) : qAE g k zX12_alike (qL j r) 0 [some (.inr (some 77)), some (.inl a1), some (.inl a2)] [] (qL j r, M) (f_X12_alike n a1 a2 M) := by
  unfold f_X12_alike
  refine qr_aload_n o (q_dm dm_X12_alike 0 rfl) rfl ?_
  refine qr_iload_n o (q_dm dm_X12_alike 1 rfl) rfl ?_
  refine qr_callv_i (As := [.inl a1]) (S := []) o (a_X12_isKind g k.2.1 n j r hj hr a1 M) (Nat.le_of_ble_eq_true rfl) zv_X12_isKind rfl cf_X12 (sh77 j r) ml_X12_157 (Nat.le_of_ble_eq_true rfl) (q_dm dm_X12_alike 2 rfl) (fun r1 m2 => ?_)
  refine qr_if_eq (tgt := 16) o (q_dm dm_X12_alike 3 rfl) (by decide) ?_ ?_
  · refine qr_iconst o (q_dm dm_X12_alike 8 rfl) ic_m1 ?_
    exact qr_iret o rfl rfl (q_dm dm_X12_alike 9 rfl)
  · refine qr_aload_n o (q_dm dm_X12_alike 4 rfl) rfl ?_
    refine qr_iload_n o (q_dm dm_X12_alike 5 rfl) rfl ?_
    refine qr_callv_i (As := [.inl a2]) (S := []) o (a_X12_isKind g k.2.1 n j r hj hr a2 m2) (Nat.le_of_ble_eq_true rfl) zv_X12_isKind rfl cf_X12 (sh77 j r) ml_X12_157 (Nat.le_of_ble_eq_true rfl) (q_dm dm_X12_alike 6 rfl) (fun r3 m4 => ?_)
    refine qr_if_ne (tgt := 18) o (q_dm dm_X12_alike 7 rfl) (by decide) ?_ ?_
    · refine qr_aload_n o (q_dm dm_X12_alike 10 rfl) rfl ?_
      refine qr_iload_n o (q_dm dm_X12_alike 11 rfl) rfl ?_
      refine qr_iload_n o (q_dm dm_X12_alike 12 rfl) rfl ?_
      refine qr_callv_i (As := [.inl a1, .inl a2]) (S := []) o (a_X12_isLike g k.2.1 n j r hj hr a1 a2 m4) (Nat.le_of_ble_eq_true rfl) zv_X12_isLike rfl cf_X12 (sh77 j r) ml_X12_279 (Nat.le_of_ble_eq_true rfl) (q_dm dm_X12_alike 13 rfl) (fun r5 m6 => ?_)
      refine qr_if_eq (tgt := 31) o (q_dm dm_X12_alike 14 rfl) (by decide) ?_ ?_
      · refine qr_iconst o (q_dm dm_X12_alike 17 rfl) ic_0 ?_
        exact qr_iret o rfl rfl (q_dm dm_X12_alike 18 rfl)
      · refine qr_iconst o (q_dm dm_X12_alike 15 rfl) ic_1 ?_
        refine qr_goto (tgt := 32) o (q_dm dm_X12_alike 16 rfl) (by decide) ?_
        exact qr_iret o rfl rfl (q_dm dm_X12_alike 18 rfl)
    · refine qr_iconst o (q_dm dm_X12_alike 8 rfl) ic_m1 ?_
      exact qr_iret o rfl rfl (q_dm dm_X12_alike 9 rfl)

theorem a_X12_alike (g : qG) (l : Launch) (n : Nat) (j r : Nat) (hj : q_isLaw j) (hr : q_isLaw r) (a1 a2 : Int32) (M : qM) : qAM g l 3 zX12_alike (qL j r) [.inr (some 77), .inl a1, .inl a2] (qL j r, M) (f_X12_alike n a1 a2 M) :=
  qAM.of zv_X12_alike.1 (by show 3 ≤ 3; decide) (fun k hk o => w_X12_alike n j r hj hr o a1 a2 M)
def tb_X12_at : List (Nat × Instr × Nat) := [(0, (.bipush 12, 2)), (2, (.iload_n 0, 1)), (3, (.imul, 1)), (4, (.iload_n 1, 1)), (5, (.iadd, 1)), (6, (.ireturn, 1))]
theorem dm_X12_at : ∀ q ∈ tb_X12_at, decode zX12_at.2.1 q.1 = .ok q.2 := by decide +kernel
def f_X12_at (n : Nat) (a0 a1 : Int32) (M : qM) : qR :=
  some ((((12 : Int32) * a0) + a1), M)
set_option maxRecDepth 4000 in
theorem w_X12_at {g : qG} {k : qK} (n : Nat) (j r : Nat) (hj : q_isLaw j) (hr : q_isLaw r) (o : qOk g 0 zX12_at k) (a0 a1 : Int32) (M : qM) : qAE g k zX12_at (qL j r) 0 [some (.inl a0), some (.inl a1)] [] (qL j r, M) (f_X12_at n a0 a1 M) := by
  unfold f_X12_at
  refine qr_bipush o (q_dm dm_X12_at 0 rfl) bi_12 ?_
  refine qr_iload_n o (q_dm dm_X12_at 1 rfl) rfl ?_
  refine qr_imul o (q_dm dm_X12_at 2 rfl) ?_
  refine qr_iload_n o (q_dm dm_X12_at 3 rfl) rfl ?_
  refine qr_iadd o (q_dm dm_X12_at 4 rfl) ?_
  exact qr_iret o rfl rfl (q_dm dm_X12_at 5 rfl)

theorem a_X12_at (g : qG) (l : Launch) (n : Nat) (j r : Nat) (hj : q_isLaw j) (hr : q_isLaw r) (a0 a1 : Int32) (M : qM) : qAM g l 0 zX12_at (qL j r) [.inl a0, .inl a1] (qL j r, M) (f_X12_at n a0 a1 M) :=
  qAM.of zs_X12_at.1 (by show 2 ≤ 2; decide) (fun k hk o => w_X12_at n j r hj hr o a0 a1 M)
def tb_X12_allTries : List (Nat × Instr × Nat) := [(0, (.iconst 0, 1)), (1, (.istore_n 2, 1)), (2, (.iconst 0, 1)), (3, (.istore_n 3, 1)), (4, (.iload_n 3, 1)), (5, (.bipush 8, 2)), (7, (.if_icmp .ge 24, 3)), (10, (.iload_n 2, 1)), (11, (.aload_n 0, 1)), (12, (.getfield 7, 3)), (15, (.iconst 0, 1)), (16, (.iload_n 3, 1)), (17, (.iload_n 1, 1)), (18, (.invokestatic 282, 3)), (21, (.iadd, 1)), (22, (.iaload, 1)), (23, (.iadd, 1)), (24, (.istore_n 2, 1)), (25, (.iinc 3 1, 3)), (28, (.goto (-24), 3)), (31, (.iload_n 2, 1)), (32, (.ireturn, 1))]
theorem dm_X12_allTries : ∀ q ∈ tb_X12_allTries, decode zX12_allTries.2.1 q.1 = .ok q.2 := by decide +kernel
def b_X12_allTries_4 (n : Nat) (K4 : Int32 → Int32 → Int32 → qM → qR) (a1 a2 a3 : Int32) (M : qM) : qR :=
  (if (8 : Int32) ≤ a3 then some (a2, M) else qc (f_X12_at n a3 a1 M) (fun r1 m2 => qg ((0 : Int32) + r1) 954 (ql (a2 + (m2 78 ((0 : Int32) + r1).toNatClampNeg)) (fun x3 => ql (a3 + (1 : Int32)) (fun x4 => K4 a1 x3 x4 m2)))))
set_option maxRecDepth 4000 in
theorem wb_X12_allTries_4 {g : qG} {k : qK} (n : Nat) (j r : Nat) (hj : q_isLaw j) (hr : q_isLaw r) (o : qOk g 1 zX12_allTries k) (K4 : Int32 → Int32 → Int32 → qM → qR) (hK4 : ∀ (a1 a2 a3 : Int32) (M : qM), qAE g k zX12_allTries (qL j r) 4 [some (.inr (some 77)), some (.inl a1), some (.inl a2), some (.inl a3)] [] (qL j r, M) (K4 a1 a2 a3 M)) (a1 a2 a3 : Int32) (M : qM) : qAE g k zX12_allTries (qL j r) 4 [some (.inr (some 77)), some (.inl a1), some (.inl a2), some (.inl a3)] [] (qL j r, M) (b_X12_allTries_4 n K4 a1 a2 a3 M) := by
  unfold b_X12_allTries_4
  refine qr_iload_n o (q_dm dm_X12_allTries 4 rfl) rfl ?_
  refine qr_bipush o (q_dm dm_X12_allTries 5 rfl) bi_8 ?_
  refine qr_icmp_ge (tgt := 31) o (q_dm dm_X12_allTries 6 rfl) (by decide) ?_ ?_
  · refine qr_iload_n o (q_dm dm_X12_allTries 20 rfl) rfl ?_
    exact qr_iret o rfl rfl (q_dm dm_X12_allTries 21 rfl)
  · refine qr_iload_n o (q_dm dm_X12_allTries 7 rfl) rfl ?_
    refine qr_aload_n o (q_dm dm_X12_allTries 8 rfl) rfl ?_
    refine qr_getr (kf := 0) o cf_X12 (sh77 j r) rfl (Nat.le_of_ble_eq_true rfl) fl_X12_7 (q_dm dm_X12_allTries 9 rfl) ?_
    refine qr_iconst o (q_dm dm_X12_allTries 10 rfl) ic_0 ?_
    refine qr_iload_n o (q_dm dm_X12_allTries 11 rfl) rfl ?_
    refine qr_iload_n o (q_dm dm_X12_allTries 12 rfl) rfl ?_
    refine qr_calls_i (As := [.inl a3, .inl a1]) (S := [.inl (0 : Int32), .inr (some 78), .inl a2]) o (a_X12_at g k.2.1 n j r hj hr a3 a1 M) (Nat.le_of_ble_eq_true rfl) zs_X12_at rfl ml_X12_282 (Nat.le_of_ble_eq_true rfl) (q_dm dm_X12_allTries 13 rfl) (fun r1 m2 => ?_)
    refine qr_iadd o (q_dm dm_X12_allTries 14 rfl) ?_
    refine qr_iald o (sh78 j r) (q_dm dm_X12_allTries 15 rfl) ?_
    refine qr_iadd o (q_dm dm_X12_allTries 16 rfl) ?_
    refine qr_lt (fun x3 => ?_)
    refine qs_istore_n (L' := [some (.inr (some 77)), some (.inl a1), some (.inl x3), some (.inl a3)]) o (q_dm dm_X12_allTries 17 rfl) (Nat.le_of_ble_eq_true rfl) rfl ?_
    refine qs_iincl2 (L' := fun x4 => [some (.inr (some 77)), some (.inl a1), some (.inl x3), some (.inl x4)]) o (q_dm dm_X12_allTries 18 rfl) rfl ic_1 (Nat.le_of_ble_eq_true rfl) (fun _ => rfl) (fun x4 => ?_)
    refine qr_goto (tgt := 4) o (q_dm dm_X12_allTries 19 rfl) (by decide) ?_
    exact qr_loc (q_leS (q_leS (q_leS (q_leS q_le0)))) (hK4 a1 x3 x4 m2)

def f_X12_allTries_4 (n : Nat) : Nat → Int32 → Int32 → Int32 → qM → qR
  | 0, _, _, _, _ => none
  | m + 1, a1, a2, a3, M => b_X12_allTries_4 n (f_X12_allTries_4 n m) a1 a2 a3 M
theorem w_X12_allTries_4 {g : qG} {k : qK} (n : Nat) (j r : Nat) (hj : q_isLaw j) (hr : q_isLaw r) (o : qOk g 1 zX12_allTries k) : ∀ (m : Nat) (a1 a2 a3 : Int32) (M : qM), qAE g k zX12_allTries (qL j r) 4 [some (.inr (some 77)), some (.inl a1), some (.inl a2), some (.inl a3)] [] (qL j r, M) (f_X12_allTries_4 n m a1 a2 a3 M) := by
  intro m
  induction m with
  | zero =>
    intro a1 a2 a3 M
    exact qr_none
  | succ m ih =>
    intro a1 a2 a3 M
    exact wb_X12_allTries_4 n j r hj hr o (f_X12_allTries_4 n m) ih a1 a2 a3 M
def f_X12_allTries (n : Nat) (a1 : Int32) (M : qM) : qR :=
  f_X12_allTries_4 n n a1 (0 : Int32) (0 : Int32) M
set_option maxRecDepth 4000 in
theorem w_X12_allTries {g : qG} {k : qK} (n : Nat) (j r : Nat) (hj : q_isLaw j) (hr : q_isLaw r) (o : qOk g 1 zX12_allTries k) (a1 : Int32) (M : qM) : qAE g k zX12_allTries (qL j r) 0 [some (.inr (some 77)), some (.inl a1), none, none] [] (qL j r, M) (f_X12_allTries n a1 M) := by
  unfold f_X12_allTries
  refine qr_iconst o (q_dm dm_X12_allTries 0 rfl) ic_0 ?_
  refine qs_istore_n (L' := [some (.inr (some 77)), some (.inl a1), some (.inl (0 : Int32)), none]) o (q_dm dm_X12_allTries 1 rfl) (Nat.le_of_ble_eq_true rfl) rfl ?_
  refine qr_iconst o (q_dm dm_X12_allTries 2 rfl) ic_0 ?_
  refine qs_istore_n (L' := [some (.inr (some 77)), some (.inl a1), some (.inl (0 : Int32)), some (.inl (0 : Int32))]) o (q_dm dm_X12_allTries 3 rfl) (Nat.le_of_ble_eq_true rfl) rfl ?_
  exact qr_loc (q_leS (q_leS (q_leS (q_leS q_le0)))) (w_X12_allTries_4 n j r hj hr o n a1 (0 : Int32) (0 : Int32) M)

theorem a_X12_allTries (g : qG) (l : Launch) (n : Nat) (j r : Nat) (hj : q_isLaw j) (hr : q_isLaw r) (a1 : Int32) (M : qM) : qAM g l 1 zX12_allTries (qL j r) [.inr (some 77), .inl a1] (qL j r, M) (f_X12_allTries n a1 M) :=
  qAM.of zv_X12_allTries.1 (by show 2 ≤ 4; decide) (fun k hk o => w_X12_allTries n j r hj hr o a1 M)
def tb_X12_areCounted : List (Nat × Instr × Nat) := [(0, (.iconst 0, 1)), (1, (.istore_n 2, 1)), (2, (.iload_n 2, 1)), (3, (.bipush 12, 2)), (5, (.if_icmp .ge 97, 3)), (8, (.aload_n 0, 1)), (9, (.getfield 25, 3)), (12, (.iload_n 1, 1)), (13, (.iaload, 1)), (14, (.iload_n 2, 1)), (15, (.invokestatic 149, 3)), (18, (.ifCond .ne 6, 3)), (21, (.goto 75, 3)), (24, (.aload_n 0, 1)), (25, (.getfield 7, 3)), (28, (.sipush 192, 3)), (31, (.aload_n 0, 1)), (32, (.getfield 362, 3)), (35, (.iload_n 2, 1)), (36, (.invokestatic 282, 3)), (39, (.iadd, 1)), (40, (.iaload, 1)), (41, (.istore_n 3, 1)), (42, (.iconst 0, 1)), (43, (.istore 4, 2)), (45, (.iload 4, 2)), (47, (.aload_n 0, 1)), (48, (.getfield 365, 3)), (51, (.if_icmp .ge 39, 3)), (54, (.iload_n 3, 1)), (55, (.aload_n 0, 1)), (56, (.getfield 92, 3)), (59, (.iload 4, 2)), (61, (.iaload, 1)), (62, (.iload_n 2, 1)), (63, (.if_icmp .ne 18, 3)), (66, (.aload_n 0, 1)), (67, (.getfield 89, 3)), (70, (.aload_n 0, 1)), (71, (.getfield 101, 3)), (74, (.iload 4, 2)), (76, (.iaload, 1)), (77, (.iaload, 1)), (78, (.goto 4, 3)), (81, (.iconst 0, 1)), (82, (.iadd, 1)), (83, (.istore_n 3, 1)), (84, (.iinc 4 1, 3)), (87, (.goto (-42), 3)), (90, (.iload_n 3, 1)), (91, (.ifCond .ne 5, 3)), (94, (.iconst 0, 1)), (95, (.ireturn, 1)), (96, (.iinc 2 1, 3)), (99, (.goto (-97), 3)), (102, (.iconst 1, 1)), (103, (.ireturn, 1))]
theorem dm_X12_areCounted : ∀ q ∈ tb_X12_areCounted, decode zX12_areCounted.2.1 q.1 = .ok q.2 := by decide +kernel
def f_X12_areCounted_82 (n : Nat) (K2 : Int32 → Int32 → qM → qR) (K45 : Int32 → Int32 → Int32 → Int32 → qM → qR) (a1 a2 a4 s0 s1 : Int32) (M : qM) : qR :=
  ql (s0 + s1) (fun x1 => ql (a4 + (1 : Int32)) (fun x2 => K45 a1 a2 x1 x2 M))
set_option maxRecDepth 4000 in
theorem w_X12_areCounted_82 {g : qG} {k : qK} (n : Nat) (j r : Nat) (hj : q_isLaw j) (hr : q_isLaw r) (o : qOk g 1 zX12_areCounted k) (K2 : Int32 → Int32 → qM → qR) (hK2 : ∀ (a1 a2 : Int32) (M : qM), qAE g k zX12_areCounted (qL j r) 2 [some (.inr (some 77)), some (.inl a1), some (.inl a2), none, none] [] (qL j r, M) (K2 a1 a2 M)) (K45 : Int32 → Int32 → Int32 → Int32 → qM → qR) (hK45 : ∀ (a1 a2 a3 a4 : Int32) (M : qM), qAE g k zX12_areCounted (qL j r) 45 [some (.inr (some 77)), some (.inl a1), some (.inl a2), some (.inl a3), some (.inl a4)] [] (qL j r, M) (K45 a1 a2 a3 a4 M)) (a1 a2 a4 s0 s1 : Int32) (M : qM) : qAE g k zX12_areCounted (qL j r) 82 [some (.inr (some 77)), some (.inl a1), some (.inl a2), none, some (.inl a4)] [.inl s1, .inl s0] (qL j r, M) (f_X12_areCounted_82 n K2 K45 a1 a2 a4 s0 s1 M) := by
  unfold f_X12_areCounted_82
  refine qr_iadd o (q_dm dm_X12_areCounted 45 rfl) ?_
  refine qr_lt (fun x1 => ?_)
  refine qs_istore_n (L' := [some (.inr (some 77)), some (.inl a1), some (.inl a2), some (.inl x1), some (.inl a4)]) o (q_dm dm_X12_areCounted 46 rfl) (Nat.le_of_ble_eq_true rfl) rfl ?_
  refine qs_iincl2 (L' := fun x2 => [some (.inr (some 77)), some (.inl a1), some (.inl a2), some (.inl x1), some (.inl x2)]) o (q_dm dm_X12_areCounted 47 rfl) rfl ic_1 (Nat.le_of_ble_eq_true rfl) (fun _ => rfl) (fun x2 => ?_)
  refine qr_goto (tgt := 45) o (q_dm dm_X12_areCounted 48 rfl) (by decide) ?_
  exact qr_loc (q_leS (q_leS (q_leS (q_leS (q_leS q_le0))))) (hK45 a1 a2 x1 x2 M)

def b_X12_areCounted_45 (n : Nat) (K2 : Int32 → Int32 → qM → qR) (K45 : Int32 → Int32 → Int32 → Int32 → qM → qR) (a1 a2 a3 a4 : Int32) (M : qM) : qR :=
  (if (M 77 43) ≤ a4 then (if a3 = (0 : Int32) then some ((0 : Int32), M) else ql (a2 + (1 : Int32)) (fun x1 => K2 a1 x1 M)) else qg a4 4 ((if (M 105 a4.toNatClampNeg) = a2 then qg a4 4 (qg (M 108 a4.toNatClampNeg) 20 (f_X12_areCounted_82 n K2 K45 a1 a2 a4 a3 (M 104 (M 108 a4.toNatClampNeg).toNatClampNeg) M)) else f_X12_areCounted_82 n K2 K45 a1 a2 a4 a3 (0 : Int32) M)))
set_option maxRecDepth 4000 in
theorem wb_X12_areCounted_45 {g : qG} {k : qK} (n : Nat) (j r : Nat) (hj : q_isLaw j) (hr : q_isLaw r) (o : qOk g 1 zX12_areCounted k) (K2 : Int32 → Int32 → qM → qR) (hK2 : ∀ (a1 a2 : Int32) (M : qM), qAE g k zX12_areCounted (qL j r) 2 [some (.inr (some 77)), some (.inl a1), some (.inl a2), none, none] [] (qL j r, M) (K2 a1 a2 M)) (K45 : Int32 → Int32 → Int32 → Int32 → qM → qR) (hK45 : ∀ (a1 a2 a3 a4 : Int32) (M : qM), qAE g k zX12_areCounted (qL j r) 45 [some (.inr (some 77)), some (.inl a1), some (.inl a2), some (.inl a3), some (.inl a4)] [] (qL j r, M) (K45 a1 a2 a3 a4 M)) (a1 a2 a3 a4 : Int32) (M : qM) : qAE g k zX12_areCounted (qL j r) 45 [some (.inr (some 77)), some (.inl a1), some (.inl a2), some (.inl a3), some (.inl a4)] [] (qL j r, M) (b_X12_areCounted_45 n K2 K45 a1 a2 a3 a4 M) := by
  unfold b_X12_areCounted_45
  refine qr_iload o (q_dm dm_X12_areCounted 25 rfl) rfl ?_
  refine qr_aload_n o (q_dm dm_X12_areCounted 26 rfl) rfl ?_
  refine qr_getf (kf := 43) o cf_X12 (sh77 j r) rfl (Nat.le_of_ble_eq_true rfl) fl_X12_365 (q_dm dm_X12_areCounted 27 rfl) ?_
  refine qr_icmp_ge (tgt := 90) o (q_dm dm_X12_areCounted 28 rfl) (by decide) ?_ ?_
  · refine qr_iload_n o (q_dm dm_X12_areCounted 49 rfl) rfl ?_
    refine qr_if_ne (tgt := 96) o (q_dm dm_X12_areCounted 50 rfl) (by decide) ?_ ?_
    · refine qs_iincl2 (L' := fun x1 => [some (.inr (some 77)), some (.inl a1), some (.inl x1), some (.inl a3), some (.inl a4)]) o (q_dm dm_X12_areCounted 53 rfl) rfl ic_1 (Nat.le_of_ble_eq_true rfl) (fun _ => rfl) (fun x1 => ?_)
      refine qr_goto (tgt := 2) o (q_dm dm_X12_areCounted 54 rfl) (by decide) ?_
      exact qr_loc (q_leS (q_leS (q_leS (q_leN (q_leN q_le0))))) (hK2 a1 x1 M)
    · refine qr_iconst o (q_dm dm_X12_areCounted 51 rfl) ic_0 ?_
      exact qr_iret o rfl (by decide) (q_dm dm_X12_areCounted 52 rfl)
  · refine qr_iload_n o (q_dm dm_X12_areCounted 29 rfl) rfl ?_
    refine qr_aload_n o (q_dm dm_X12_areCounted 30 rfl) rfl ?_
    refine qr_getr (kf := 48) o cf_X12 (sh77 j r) rfl (Nat.le_of_ble_eq_true rfl) fl_X12_92 (q_dm dm_X12_areCounted 31 rfl) ?_
    refine qr_iload o (q_dm dm_X12_areCounted 32 rfl) rfl ?_
    refine qr_iald o (sh105 j r) (q_dm dm_X12_areCounted 33 rfl) ?_
    refine qr_iload_n o (q_dm dm_X12_areCounted 34 rfl) rfl ?_
    refine qr_icmp_ne (tgt := 81) o (q_dm dm_X12_areCounted 35 rfl) (by decide) ?_ ?_
    · refine qr_iconst o (q_dm dm_X12_areCounted 44 rfl) ic_0 ?_
      exact qr_loc (q_leS (q_leS (q_leS (q_leN (q_leS q_le0))))) (w_X12_areCounted_82 n j r hj hr o K2 hK2 K45 hK45 a1 a2 a4 a3 (0 : Int32) M)
    · refine qr_aload_n o (q_dm dm_X12_areCounted 36 rfl) rfl ?_
      refine qr_getr (kf := 47) o cf_X12 (sh77 j r) rfl (Nat.le_of_ble_eq_true rfl) fl_X12_89 (q_dm dm_X12_areCounted 37 rfl) ?_
      refine qr_aload_n o (q_dm dm_X12_areCounted 38 rfl) rfl ?_
      refine qr_getr (kf := 51) o cf_X12 (sh77 j r) rfl (Nat.le_of_ble_eq_true rfl) fl_X12_101 (q_dm dm_X12_areCounted 39 rfl) ?_
      refine qr_iload o (q_dm dm_X12_areCounted 40 rfl) rfl ?_
      refine qr_iald o (sh108 j r) (q_dm dm_X12_areCounted 41 rfl) ?_
      refine qr_iald o (sh104 j r) (q_dm dm_X12_areCounted 42 rfl) ?_
      refine qr_goto (tgt := 82) o (q_dm dm_X12_areCounted 43 rfl) (by decide) ?_
      exact qr_loc (q_leS (q_leS (q_leS (q_leN (q_leS q_le0))))) (w_X12_areCounted_82 n j r hj hr o K2 hK2 K45 hK45 a1 a2 a4 a3 (M 104 (M 108 a4.toNatClampNeg).toNatClampNeg) M)

def f_X12_areCounted_45 (n : Nat) (K2 : Int32 → Int32 → qM → qR) : Nat → Int32 → Int32 → Int32 → Int32 → qM → qR
  | 0, _, _, _, _, _ => none
  | m + 1, a1, a2, a3, a4, M => b_X12_areCounted_45 n K2 (f_X12_areCounted_45 n K2 m) a1 a2 a3 a4 M
theorem w_X12_areCounted_45 {g : qG} {k : qK} (n : Nat) (j r : Nat) (hj : q_isLaw j) (hr : q_isLaw r) (o : qOk g 1 zX12_areCounted k) (K2 : Int32 → Int32 → qM → qR) (hK2 : ∀ (a1 a2 : Int32) (M : qM), qAE g k zX12_areCounted (qL j r) 2 [some (.inr (some 77)), some (.inl a1), some (.inl a2), none, none] [] (qL j r, M) (K2 a1 a2 M)) : ∀ (m : Nat) (a1 a2 a3 a4 : Int32) (M : qM), qAE g k zX12_areCounted (qL j r) 45 [some (.inr (some 77)), some (.inl a1), some (.inl a2), some (.inl a3), some (.inl a4)] [] (qL j r, M) (f_X12_areCounted_45 n K2 m a1 a2 a3 a4 M) := by
  intro m
  induction m with
  | zero =>
    intro a1 a2 a3 a4 M
    exact qr_none
  | succ m ih =>
    intro a1 a2 a3 a4 M
    exact wb_X12_areCounted_45 n j r hj hr o K2 hK2 (f_X12_areCounted_45 n K2 m) ih a1 a2 a3 a4 M
def b_X12_areCounted_2 (n : Nat) (K2 : Int32 → Int32 → qM → qR) (a1 a2 : Int32) (M : qM) : qR :=
  (if (12 : Int32) ≤ a2 then some ((1 : Int32), M) else qg a1 13 (qc (f_X12_has0 n (M 83 a1.toNatClampNeg) a2 M) (fun r1 m2 => (if r1 = (0 : Int32) then ql (a2 + (1 : Int32)) (fun x6 => K2 a1 x6 m2) else qc (f_X12_at n (m2 77 44) a2 m2) (fun r3 m4 => qg ((192 : Int32) + r3) 954 (ql (m4 78 ((192 : Int32) + r3).toNatClampNeg) (fun x5 => f_X12_areCounted_45 n K2 n a1 a2 x5 (0 : Int32) m4)))))))
set_option maxRecDepth 4000 in
theorem wb_X12_areCounted_2 {g : qG} {k : qK} (n : Nat) (j r : Nat) (hj : q_isLaw j) (hr : q_isLaw r) (o : qOk g 1 zX12_areCounted k) (K2 : Int32 → Int32 → qM → qR) (hK2 : ∀ (a1 a2 : Int32) (M : qM), qAE g k zX12_areCounted (qL j r) 2 [some (.inr (some 77)), some (.inl a1), some (.inl a2), none, none] [] (qL j r, M) (K2 a1 a2 M)) (a1 a2 : Int32) (M : qM) : qAE g k zX12_areCounted (qL j r) 2 [some (.inr (some 77)), some (.inl a1), some (.inl a2), none, none] [] (qL j r, M) (b_X12_areCounted_2 n K2 a1 a2 M) := by
  unfold b_X12_areCounted_2
  refine qr_iload_n o (q_dm dm_X12_areCounted 2 rfl) rfl ?_
  refine qr_bipush o (q_dm dm_X12_areCounted 3 rfl) bi_12 ?_
  refine qr_icmp_ge (tgt := 102) o (q_dm dm_X12_areCounted 4 rfl) (by decide) ?_ ?_
  · refine qr_iconst o (q_dm dm_X12_areCounted 55 rfl) ic_1 ?_
    exact qr_iret o rfl (by decide) (q_dm dm_X12_areCounted 56 rfl)
  · refine qr_aload_n o (q_dm dm_X12_areCounted 5 rfl) rfl ?_
    refine qr_getr (kf := 5) o cf_X12 (sh77 j r) rfl (Nat.le_of_ble_eq_true rfl) fl_X12_25 (q_dm dm_X12_areCounted 6 rfl) ?_
    refine qr_iload_n o (q_dm dm_X12_areCounted 7 rfl) rfl ?_
    refine qr_iald o (sh83 j r) (q_dm dm_X12_areCounted 8 rfl) ?_
    refine qr_iload_n o (q_dm dm_X12_areCounted 9 rfl) rfl ?_
    refine qr_calls_i (As := [.inl (M 83 a1.toNatClampNeg), .inl a2]) (S := []) o (a_X12_has0 g k.2.1 n j r hj hr (M 83 a1.toNatClampNeg) a2 M) (Nat.le_of_ble_eq_true rfl) zs_X12_has0 rfl ml_X12_149 (Nat.le_of_ble_eq_true rfl) (q_dm dm_X12_areCounted 10 rfl) (fun r1 m2 => ?_)
    refine qr_if_ne (tgt := 24) o (q_dm dm_X12_areCounted 11 rfl) (by decide) ?_ ?_
    · refine qr_aload_n o (q_dm dm_X12_areCounted 13 rfl) rfl ?_
      refine qr_getr (kf := 0) o cf_X12 (sh77 j r) rfl (Nat.le_of_ble_eq_true rfl) fl_X12_7 (q_dm dm_X12_areCounted 14 rfl) ?_
      refine qr_sipush o (q_dm dm_X12_areCounted 15 rfl) si_192 ?_
      refine qr_aload_n o (q_dm dm_X12_areCounted 16 rfl) rfl ?_
      refine qr_getf (kf := 44) o cf_X12 (sh77 j r) rfl (Nat.le_of_ble_eq_true rfl) fl_X12_362 (q_dm dm_X12_areCounted 17 rfl) ?_
      refine qr_iload_n o (q_dm dm_X12_areCounted 18 rfl) rfl ?_
      refine qr_calls_i (As := [.inl (m2 77 44), .inl a2]) (S := [.inl (192 : Int32), .inr (some 78)]) o (a_X12_at g k.2.1 n j r hj hr (m2 77 44) a2 m2) (Nat.le_of_ble_eq_true rfl) zs_X12_at rfl ml_X12_282 (Nat.le_of_ble_eq_true rfl) (q_dm dm_X12_areCounted 19 rfl) (fun r3 m4 => ?_)
      refine qr_iadd o (q_dm dm_X12_areCounted 20 rfl) ?_
      refine qr_iald o (sh78 j r) (q_dm dm_X12_areCounted 21 rfl) ?_
      refine qr_lt (fun x5 => ?_)
      refine qs_istore_n (L' := [some (.inr (some 77)), some (.inl a1), some (.inl a2), some (.inl x5), none]) o (q_dm dm_X12_areCounted 22 rfl) (Nat.le_of_ble_eq_true rfl) rfl ?_
      refine qr_iconst o (q_dm dm_X12_areCounted 23 rfl) ic_0 ?_
      refine qs_istore (L' := [some (.inr (some 77)), some (.inl a1), some (.inl a2), some (.inl x5), some (.inl (0 : Int32))]) o (q_dm dm_X12_areCounted 24 rfl) (Nat.le_of_ble_eq_true rfl) rfl ?_
      exact qr_loc (q_leS (q_leS (q_leS (q_leS (q_leS q_le0))))) (w_X12_areCounted_45 n j r hj hr o K2 hK2 n a1 a2 x5 (0 : Int32) m4)
    · refine qr_goto (tgt := 96) o (q_dm dm_X12_areCounted 12 rfl) (by decide) ?_
      refine qs_iincl2 (L' := fun x6 => [some (.inr (some 77)), some (.inl a1), some (.inl x6), none, none]) o (q_dm dm_X12_areCounted 53 rfl) rfl ic_1 (Nat.le_of_ble_eq_true rfl) (fun _ => rfl) (fun x6 => ?_)
      refine qr_goto (tgt := 2) o (q_dm dm_X12_areCounted 54 rfl) (by decide) ?_
      exact qr_loc (q_leS (q_leS (q_leS (q_leN (q_leN q_le0))))) (hK2 a1 x6 m2)

def f_X12_areCounted_2 (n : Nat) : Nat → Int32 → Int32 → qM → qR
  | 0, _, _, _ => none
  | m + 1, a1, a2, M => b_X12_areCounted_2 n (f_X12_areCounted_2 n m) a1 a2 M
theorem w_X12_areCounted_2 {g : qG} {k : qK} (n : Nat) (j r : Nat) (hj : q_isLaw j) (hr : q_isLaw r) (o : qOk g 1 zX12_areCounted k) : ∀ (m : Nat) (a1 a2 : Int32) (M : qM), qAE g k zX12_areCounted (qL j r) 2 [some (.inr (some 77)), some (.inl a1), some (.inl a2), none, none] [] (qL j r, M) (f_X12_areCounted_2 n m a1 a2 M) := by
  intro m
  induction m with
  | zero =>
    intro a1 a2 M
    exact qr_none
  | succ m ih =>
    intro a1 a2 M
    exact wb_X12_areCounted_2 n j r hj hr o (f_X12_areCounted_2 n m) ih a1 a2 M
def f_X12_areCounted (n : Nat) (a1 : Int32) (M : qM) : qR :=
  f_X12_areCounted_2 n n a1 (0 : Int32) M
set_option maxRecDepth 4000 in
theorem w_X12_areCounted {g : qG} {k : qK} (n : Nat) (j r : Nat) (hj : q_isLaw j) (hr : q_isLaw r) (o : qOk g 1 zX12_areCounted k) (a1 : Int32) (M : qM) : qAE g k zX12_areCounted (qL j r) 0 [some (.inr (some 77)), some (.inl a1), none, none, none] [] (qL j r, M) (f_X12_areCounted n a1 M) := by
  unfold f_X12_areCounted
  refine qr_iconst o (q_dm dm_X12_areCounted 0 rfl) ic_0 ?_
  refine qs_istore_n (L' := [some (.inr (some 77)), some (.inl a1), some (.inl (0 : Int32)), none, none]) o (q_dm dm_X12_areCounted 1 rfl) (Nat.le_of_ble_eq_true rfl) rfl ?_
  exact qr_loc (q_leS (q_leS (q_leS (q_leN (q_leN q_le0))))) (w_X12_areCounted_2 n j r hj hr o n a1 (0 : Int32) M)

theorem a_X12_areCounted (g : qG) (l : Launch) (n : Nat) (j r : Nat) (hj : q_isLaw j) (hr : q_isLaw r) (a1 : Int32) (M : qM) : qAM g l 1 zX12_areCounted (qL j r) [.inr (some 77), .inl a1] (qL j r, M) (f_X12_areCounted n a1 M) :=
  qAM.of zv_X12_areCounted.1 (by show 2 ≤ 5; decide) (fun k hk o => w_X12_areCounted n j r hj hr o a1 M)
def tb_X12_isPerson : List (Nat × Instr × Nat) := [(0, (.iload_n 1, 1)), (1, (.ifCond .lt 28, 3)), (4, (.iload_n 1, 1)), (5, (.bipush 8, 2)), (7, (.if_icmp .ge 22, 3)), (10, (.aload_n 0, 1)), (11, (.getfield 7, 3)), (14, (.sipush 312, 3)), (17, (.iaload, 1)), (18, (.iload_n 1, 1)), (19, (.invokestatic 149, 3)), (22, (.ifCond .eq 7, 3)), (25, (.iconst 1, 1)), (26, (.goto 4, 3)), (29, (.iconst 0, 1)), (30, (.ireturn, 1))]
theorem dm_X12_isPerson : ∀ q ∈ tb_X12_isPerson, decode zX12_isPerson.2.1 q.1 = .ok q.2 := by decide +kernel
def f_X12_isPerson (n : Nat) (a1 : Int32) (M : qM) : qR :=
  (if a1 < (0 : Int32) then some ((0 : Int32), M) else (if (8 : Int32) ≤ a1 then some ((0 : Int32), M) else qc (f_X12_has0 n (M 78 312) a1 M) (fun r1 m2 => (if r1 = (0 : Int32) then some ((0 : Int32), m2) else some ((1 : Int32), m2)))))
set_option maxRecDepth 4000 in
theorem w_X12_isPerson {g : qG} {k : qK} (n : Nat) (j r : Nat) (hj : q_isLaw j) (hr : q_isLaw r) (o : qOk g 1 zX12_isPerson k) (a1 : Int32) (M : qM) : qAE g k zX12_isPerson (qL j r) 0 [some (.inr (some 77)), some (.inl a1)] [] (qL j r, M) (f_X12_isPerson n a1 M) := by
  unfold f_X12_isPerson
  refine qr_iload_n o (q_dm dm_X12_isPerson 0 rfl) rfl ?_
  refine qr_if_lt (tgt := 29) o (q_dm dm_X12_isPerson 1 rfl) (by decide) ?_ ?_
  · refine qr_iconst o (q_dm dm_X12_isPerson 14 rfl) ic_0 ?_
    exact qr_iret o rfl (by decide) (q_dm dm_X12_isPerson 15 rfl)
  · refine qr_iload_n o (q_dm dm_X12_isPerson 2 rfl) rfl ?_
    refine qr_bipush o (q_dm dm_X12_isPerson 3 rfl) bi_8 ?_
    refine qr_icmp_ge (tgt := 29) o (q_dm dm_X12_isPerson 4 rfl) (by decide) ?_ ?_
    · refine qr_iconst o (q_dm dm_X12_isPerson 14 rfl) ic_0 ?_
      exact qr_iret o rfl (by decide) (q_dm dm_X12_isPerson 15 rfl)
    · refine qr_aload_n o (q_dm dm_X12_isPerson 5 rfl) rfl ?_
      refine qr_getr (kf := 0) o cf_X12 (sh77 j r) rfl (Nat.le_of_ble_eq_true rfl) fl_X12_7 (q_dm dm_X12_isPerson 6 rfl) ?_
      refine qr_sipush o (q_dm dm_X12_isPerson 7 rfl) si_312 ?_
      refine qr_iald0 (c := 312) o (sh78 j r) (by decide) (by decide) (q_dm dm_X12_isPerson 8 rfl) ?_
      refine qr_iload_n o (q_dm dm_X12_isPerson 9 rfl) rfl ?_
      refine qr_calls_i (As := [.inl (M 78 312), .inl a1]) (S := []) o (a_X12_has0 g k.2.1 n j r hj hr (M 78 312) a1 M) (Nat.le_of_ble_eq_true rfl) zs_X12_has0 rfl ml_X12_149 (Nat.le_of_ble_eq_true rfl) (q_dm dm_X12_isPerson 10 rfl) (fun r1 m2 => ?_)
      refine qr_if_eq (tgt := 29) o (q_dm dm_X12_isPerson 11 rfl) (by decide) ?_ ?_
      · refine qr_iconst o (q_dm dm_X12_isPerson 14 rfl) ic_0 ?_
        exact qr_iret o rfl (by decide) (q_dm dm_X12_isPerson 15 rfl)
      · refine qr_iconst o (q_dm dm_X12_isPerson 12 rfl) ic_1 ?_
        refine qr_goto (tgt := 30) o (q_dm dm_X12_isPerson 13 rfl) (by decide) ?_
        exact qr_iret o rfl (by decide) (q_dm dm_X12_isPerson 15 rfl)

theorem a_X12_isPerson (g : qG) (l : Launch) (n : Nat) (j r : Nat) (hj : q_isLaw j) (hr : q_isLaw r) (a1 : Int32) (M : qM) : qAM g l 1 zX12_isPerson (qL j r) [.inr (some 77), .inl a1] (qL j r, M) (f_X12_isPerson n a1 M) :=
  qAM.of zv_X12_isPerson.1 (by show 2 ≤ 2; decide) (fun k hk o => w_X12_isPerson n j r hj hr o a1 M)
def tb_X12_areSome : List (Nat × Instr × Nat) := [(0, (.aload_n 0, 1)), (1, (.iload_n 1, 1)), (2, (.invokevirtual 310, 3)), (5, (.ifCond .eq 46, 3)), (8, (.iload_n 2, 1)), (9, (.ifCond .le 42, 3)), (12, (.iload_n 2, 1)), (13, (.aload_n 0, 1)), (14, (.getfield 145, 3)), (17, (.iconst (-1), 1)), (18, (.ixor, 1)), (19, (.iand, 1)), (20, (.ifCond .ne 31, 3)), (23, (.iload_n 2, 1)), (24, (.invokestatic 276, 3)), (27, (.iconst 4, 1)), (28, (.if_icmp .gt 23, 3)), (31, (.aload_n 0, 1)), (32, (.iload_n 3, 1)), (33, (.invokevirtual 157, 3)), (36, (.ifCond .eq 15, 3)), (39, (.iload_n 2, 1)), (40, (.iload_n 3, 1)), (41, (.invokestatic 149, 3)), (44, (.ifCond .eq 7, 3)), (47, (.iconst 1, 1)), (48, (.goto 4, 3)), (51, (.iconst 0, 1)), (52, (.ireturn, 1))]
theorem dm_X12_areSome : ∀ q ∈ tb_X12_areSome, decode zX12_areSome.2.1 q.1 = .ok q.2 := by decide +kernel
def f_X12_areSome (n : Nat) (a1 a2 a3 : Int32) (M : qM) : qR :=
  qc (f_X12_isPerson n a1 M) (fun r1 m2 => (if r1 = (0 : Int32) then some ((0 : Int32), m2) else (if a2 ≤ (0 : Int32) then some ((0 : Int32), m2) else (if (a2 &&& ((m2 77 6) ^^^ (-1 : Int32))) = (0 : Int32) then qc (f_X12_bits n a2 m2) (fun r3 m4 => (if (4 : Int32) < r3 then some ((0 : Int32), m4) else qc (f_X12_isKind n a3 m4) (fun r5 m6 => (if r5 = (0 : Int32) then some ((0 : Int32), m6) else qc (f_X12_has0 n a2 a3 m6) (fun r7 m8 => (if r7 = (0 : Int32) then some ((0 : Int32), m8) else some ((1 : Int32), m8))))))) else some ((0 : Int32), m2)))))
set_option maxRecDepth 4000 in
theorem w_X12_areSome {g : qG} {k : qK} (n : Nat) (j r : Nat) (hj : q_isLaw j) (hr : q_isLaw r) (o : qOk g 2 zX12_areSome k) (a1 a2 a3 : Int32) (M : qM) : qAE g k zX12_areSome (qL j r) 0 [some (.inr (some 77)), some (.inl a1), some (.inl a2), some (.inl a3)] [] (qL j r, M) (f_X12_areSome n a1 a2 a3 M) := by
  unfold f_X12_areSome
  refine qr_aload_n o (q_dm dm_X12_areSome 0 rfl) rfl ?_
  refine qr_iload_n o (q_dm dm_X12_areSome 1 rfl) rfl ?_
  refine qr_callv_i (As := [.inl a1]) (S := []) o (a_X12_isPerson g k.2.1 n j r hj hr a1 M) (Nat.le_of_ble_eq_true rfl) zv_X12_isPerson rfl cf_X12 (sh77 j r) ml_X12_310 (Nat.le_of_ble_eq_true rfl) (q_dm dm_X12_areSome 2 rfl) (fun r1 m2 => ?_)
  refine qr_if_eq (tgt := 51) o (q_dm dm_X12_areSome 3 rfl) (by decide) ?_ ?_
  · refine qr_iconst o (q_dm dm_X12_areSome 27 rfl) ic_0 ?_
    exact qr_iret o rfl (by decide) (q_dm dm_X12_areSome 28 rfl)
  · refine qr_iload_n o (q_dm dm_X12_areSome 4 rfl) rfl ?_
    refine qr_if_le (tgt := 51) o (q_dm dm_X12_areSome 5 rfl) (by decide) ?_ ?_
    · refine qr_iconst o (q_dm dm_X12_areSome 27 rfl) ic_0 ?_
      exact qr_iret o rfl (by decide) (q_dm dm_X12_areSome 28 rfl)
    · refine qr_iload_n o (q_dm dm_X12_areSome 6 rfl) rfl ?_
      refine qr_aload_n o (q_dm dm_X12_areSome 7 rfl) rfl ?_
      refine qr_getf (kf := 6) o cf_X12 (sh77 j r) rfl (Nat.le_of_ble_eq_true rfl) fl_X12_145 (q_dm dm_X12_areSome 8 rfl) ?_
      refine qr_iconst o (q_dm dm_X12_areSome 9 rfl) ic_m1 ?_
      refine qr_ixor o (q_dm dm_X12_areSome 10 rfl) ?_
      refine qr_iand o (q_dm dm_X12_areSome 11 rfl) ?_
      refine qr_if_ne (tgt := 51) o (q_dm dm_X12_areSome 12 rfl) (by decide) ?_ ?_
      · refine qr_iconst o (q_dm dm_X12_areSome 27 rfl) ic_0 ?_
        exact qr_iret o rfl (by decide) (q_dm dm_X12_areSome 28 rfl)
      · refine qr_iload_n o (q_dm dm_X12_areSome 13 rfl) rfl ?_
        refine qr_calls_i (As := [.inl a2]) (S := []) o (a_X12_bits g k.2.1 n j r hj hr a2 m2) (Nat.le_of_ble_eq_true rfl) zs_X12_bits rfl ml_X12_276 (Nat.le_of_ble_eq_true rfl) (q_dm dm_X12_areSome 14 rfl) (fun r3 m4 => ?_)
        refine qr_iconst o (q_dm dm_X12_areSome 15 rfl) ic_4 ?_
        refine qr_icmp_gt (tgt := 51) o (q_dm dm_X12_areSome 16 rfl) (by decide) ?_ ?_
        · refine qr_iconst o (q_dm dm_X12_areSome 27 rfl) ic_0 ?_
          exact qr_iret o rfl (by decide) (q_dm dm_X12_areSome 28 rfl)
        · refine qr_aload_n o (q_dm dm_X12_areSome 17 rfl) rfl ?_
          refine qr_iload_n o (q_dm dm_X12_areSome 18 rfl) rfl ?_
          refine qr_callv_i (As := [.inl a3]) (S := []) o (a_X12_isKind g k.2.1 n j r hj hr a3 m4) (Nat.le_of_ble_eq_true rfl) zv_X12_isKind rfl cf_X12 (sh77 j r) ml_X12_157 (Nat.le_of_ble_eq_true rfl) (q_dm dm_X12_areSome 19 rfl) (fun r5 m6 => ?_)
          refine qr_if_eq (tgt := 51) o (q_dm dm_X12_areSome 20 rfl) (by decide) ?_ ?_
          · refine qr_iconst o (q_dm dm_X12_areSome 27 rfl) ic_0 ?_
            exact qr_iret o rfl (by decide) (q_dm dm_X12_areSome 28 rfl)
          · refine qr_iload_n o (q_dm dm_X12_areSome 21 rfl) rfl ?_
            refine qr_iload_n o (q_dm dm_X12_areSome 22 rfl) rfl ?_
            refine qr_calls_i (As := [.inl a2, .inl a3]) (S := []) o (a_X12_has0 g k.2.1 n j r hj hr a2 a3 m6) (Nat.le_of_ble_eq_true rfl) zs_X12_has0 rfl ml_X12_149 (Nat.le_of_ble_eq_true rfl) (q_dm dm_X12_areSome 23 rfl) (fun r7 m8 => ?_)
            refine qr_if_eq (tgt := 51) o (q_dm dm_X12_areSome 24 rfl) (by decide) ?_ ?_
            · refine qr_iconst o (q_dm dm_X12_areSome 27 rfl) ic_0 ?_
              exact qr_iret o rfl (by decide) (q_dm dm_X12_areSome 28 rfl)
            · refine qr_iconst o (q_dm dm_X12_areSome 25 rfl) ic_1 ?_
              refine qr_goto (tgt := 52) o (q_dm dm_X12_areSome 26 rfl) (by decide) ?_
              exact qr_iret o rfl (by decide) (q_dm dm_X12_areSome 28 rfl)

theorem a_X12_areSome (g : qG) (l : Launch) (n : Nat) (j r : Nat) (hj : q_isLaw j) (hr : q_isLaw r) (a1 a2 a3 : Int32) (M : qM) : qAM g l 2 zX12_areSome (qL j r) [.inr (some 77), .inl a1, .inl a2, .inl a3] (qL j r, M) (f_X12_areSome n a1 a2 a3 M) :=
  qAM.of zv_X12_areSome.1 (by show 4 ≤ 4; decide) (fun k hk o => w_X12_areSome n j r hj hr o a1 a2 a3 M)

