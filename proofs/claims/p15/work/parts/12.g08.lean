def tb_X3_addClause : List (Nat × Instr × Nat) := [(0, (.aload_n 0, 1)), (1, (.getfield 34, 3)), (4, (.bipush 16, 2)), (6, (.if_icmp .ge 56, 3)), (9, (.aload_n 0, 1)), (10, (.getfield 18, 3)), (13, (.aload_n 0, 1)), (14, (.getfield 34, 3)), (17, (.iload_n 1, 1)), (18, (.iastore, 1)), (19, (.aload_n 0, 1)), (20, (.getfield 21, 3)), (23, (.aload_n 0, 1)), (24, (.getfield 34, 3)), (27, (.iload_n 2, 1)), (28, (.iastore, 1)), (29, (.aload_n 0, 1)), (30, (.getfield 24, 3)), (33, (.aload_n 0, 1)), (34, (.getfield 34, 3)), (37, (.iload_n 3, 1)), (38, (.iastore, 1)), (39, (.aload_n 0, 1)), (40, (.getfield 27, 3)), (43, (.aload_n 0, 1)), (44, (.getfield 34, 3)), (47, (.aload_n 0, 1)), (48, (.getfield 30, 3)), (51, (.iastore, 1)), (52, (.aload_n 0, 1)), (53, (.dup, 1)), (54, (.getfield 34, 3)), (57, (.iconst 1, 1)), (58, (.iadd, 1)), (59, (.putfield 34, 3)), (62, (.return_, 1))]
theorem dm_X3_addClause : ∀ q ∈ tb_X3_addClause, decode zX3_addClause.2.1 q.1 = .ok q.2 := by decide +kernel
def f_X3_addClause (n : Nat) (w : Nat) (a1 a2 a3 : Int32) (M : qM) : qR :=
  (if (16 : Int32) ≤ (M w 7) then some (0, M) else qg (M w 7) 16 (qlm (mu M (w + 3) (M w 7).toNatClampNeg a1) (fun m1 => qg (m1 w 7) 16 (qlm (mu m1 (w + 4) (m1 w 7).toNatClampNeg a2) (fun m2 => qg (m2 w 7) 16 (qlm (mu m2 (w + 5) (m2 w 7).toNatClampNeg a3) (fun m3 => qg (m3 w 7) 16 (qlm (mu m3 (w + 6) (m3 w 7).toNatClampNeg (m3 w 6)) (fun m4 => qlm (mu m4 w 7 ((m4 w 7) + (1 : Int32))) (fun m5 => some (0, m5)))))))))))
set_option maxRecDepth 4000 in
theorem w_X3_addClause {g : qG} {k : qK} (n : Nat) (j r : Nat) (hj : q_isLaw j) (hr : q_isLaw r) {w : Nat} (hw : q_isLaw w) (o : qOk g 0 zX3_addClause k) (a1 a2 a3 : Int32) (M : qM) : qAE g k zX3_addClause (qL j r) 0 [some (.inr (some w)), some (.inl a1), some (.inl a2), some (.inl a3)] [] (qL j r, M) (f_X3_addClause n w a1 a2 a3 M) := by
  unfold f_X3_addClause
  refine qr_aload_n o (q_dm dm_X3_addClause 0 rfl) rfl ?_
  refine qr_getf (kf := 7) o cf_X3 (shW0 j r hw) rfl (Nat.le_of_ble_eq_true rfl) fl_X3_34 (q_dm dm_X3_addClause 1 rfl) ?_
  refine qr_bipush o (q_dm dm_X3_addClause 2 rfl) bi_16 ?_
  refine qr_icmp_ge (tgt := 62) o (q_dm dm_X3_addClause 3 rfl) (by decide) ?_ ?_
  · exact qr_vret o rfl (q_dm dm_X3_addClause 35 rfl)
  · refine qr_aload_n o (q_dm dm_X3_addClause 4 rfl) rfl ?_
    refine qr_getr (kf := 2) o cf_X3 (shW0 j r hw) rfl (Nat.le_of_ble_eq_true rfl) fl_X3_18 (q_dm dm_X3_addClause 5 rfl) ?_
    refine qr_aload_n o (q_dm dm_X3_addClause 6 rfl) rfl ?_
    refine qr_getf (kf := 7) o cf_X3 (shW0 j r hw) rfl (Nat.le_of_ble_eq_true rfl) fl_X3_34 (q_dm dm_X3_addClause 7 rfl) ?_
    refine qr_iload_n o (q_dm dm_X3_addClause 8 rfl) rfl ?_
    refine qr_iast o (shW3 j r hw) (q_dm dm_X3_addClause 9 rfl) ?_
    refine qr_letm (fun m1 => ?_)
    refine qr_aload_n o (q_dm dm_X3_addClause 10 rfl) rfl ?_
    refine qr_getr (kf := 3) o cf_X3 (shW0 j r hw) rfl (Nat.le_of_ble_eq_true rfl) fl_X3_21 (q_dm dm_X3_addClause 11 rfl) ?_
    refine qr_aload_n o (q_dm dm_X3_addClause 12 rfl) rfl ?_
    refine qr_getf (kf := 7) o cf_X3 (shW0 j r hw) rfl (Nat.le_of_ble_eq_true rfl) fl_X3_34 (q_dm dm_X3_addClause 13 rfl) ?_
    refine qr_iload_n o (q_dm dm_X3_addClause 14 rfl) rfl ?_
    refine qr_iast o (shW4 j r hw) (q_dm dm_X3_addClause 15 rfl) ?_
    refine qr_letm (fun m2 => ?_)
    refine qr_aload_n o (q_dm dm_X3_addClause 16 rfl) rfl ?_
    refine qr_getr (kf := 4) o cf_X3 (shW0 j r hw) rfl (Nat.le_of_ble_eq_true rfl) fl_X3_24 (q_dm dm_X3_addClause 17 rfl) ?_
    refine qr_aload_n o (q_dm dm_X3_addClause 18 rfl) rfl ?_
    refine qr_getf (kf := 7) o cf_X3 (shW0 j r hw) rfl (Nat.le_of_ble_eq_true rfl) fl_X3_34 (q_dm dm_X3_addClause 19 rfl) ?_
    refine qr_iload_n o (q_dm dm_X3_addClause 20 rfl) rfl ?_
    refine qr_iast o (shW5 j r hw) (q_dm dm_X3_addClause 21 rfl) ?_
    refine qr_letm (fun m3 => ?_)
    refine qr_aload_n o (q_dm dm_X3_addClause 22 rfl) rfl ?_
    refine qr_getr (kf := 5) o cf_X3 (shW0 j r hw) rfl (Nat.le_of_ble_eq_true rfl) fl_X3_27 (q_dm dm_X3_addClause 23 rfl) ?_
    refine qr_aload_n o (q_dm dm_X3_addClause 24 rfl) rfl ?_
    refine qr_getf (kf := 7) o cf_X3 (shW0 j r hw) rfl (Nat.le_of_ble_eq_true rfl) fl_X3_34 (q_dm dm_X3_addClause 25 rfl) ?_
    refine qr_aload_n o (q_dm dm_X3_addClause 26 rfl) rfl ?_
    refine qr_getf (kf := 6) o cf_X3 (shW0 j r hw) rfl (Nat.le_of_ble_eq_true rfl) fl_X3_30 (q_dm dm_X3_addClause 27 rfl) ?_
    refine qr_iast o (shW6 j r hw) (q_dm dm_X3_addClause 28 rfl) ?_
    refine qr_letm (fun m4 => ?_)
    refine qr_aload_n o (q_dm dm_X3_addClause 29 rfl) rfl ?_
    refine qr_dup o (q_dm dm_X3_addClause 30 rfl) ?_
    refine qr_getf (kf := 7) o cf_X3 (shW0 j r hw) rfl (Nat.le_of_ble_eq_true rfl) fl_X3_34 (q_dm dm_X3_addClause 31 rfl) ?_
    refine qr_iconst o (q_dm dm_X3_addClause 32 rfl) ic_1 ?_
    refine qr_iadd o (q_dm dm_X3_addClause 33 rfl) ?_
    refine qr_putf (kf := 7) o cf_X3 (shW0 j r hw) rfl (Nat.le_of_ble_eq_true rfl) fl_X3_34 rfl (by decide +kernel) (q_dm dm_X3_addClause 34 rfl) ?_
    refine qr_letm (fun m5 => ?_)
    exact qr_vret o rfl (q_dm dm_X3_addClause 35 rfl)

theorem a_X3_addClause (g : qG) (l : Launch) (n : Nat) (j r : Nat) (hj : q_isLaw j) (hr : q_isLaw r) {w : Nat} (hw : q_isLaw w) (a1 a2 a3 : Int32) (M : qM) : qAM g l 0 zX3_addClause (qL j r) [.inr (some w), .inl a1, .inl a2, .inl a3] (qL j r, M) (f_X3_addClause n w a1 a2 a3 M) :=
  qAM.of zv_X3_addClause.1 (by show 4 ≤ 4; decide) (fun k hk o => w_X3_addClause n j r hj hr hw o a1 a2 a3 M)
def tb_X3_add : List (Nat × Instr × Nat) := [(0, (.aload_n 0, 1)), (1, (.getfield 30, 3)), (4, (.sipush 240, 3)), (7, (.if_icmp .ge 33, 3)), (10, (.aload_n 0, 1)), (11, (.getfield 9, 3)), (14, (.aload_n 0, 1)), (15, (.getfield 30, 3)), (18, (.iload_n 1, 1)), (19, (.iastore, 1)), (20, (.aload_n 0, 1)), (21, (.getfield 15, 3)), (24, (.aload_n 0, 1)), (25, (.getfield 30, 3)), (28, (.iload_n 2, 1)), (29, (.iastore, 1)), (30, (.aload_n 0, 1)), (31, (.dup, 1)), (32, (.getfield 30, 3)), (35, (.iconst 1, 1)), (36, (.iadd, 1)), (37, (.putfield 30, 3)), (40, (.aload_n 0, 1)), (41, (.getfield 30, 3)), (44, (.iconst 1, 1)), (45, (.isub, 1)), (46, (.ireturn, 1))]
theorem dm_X3_add : ∀ q ∈ tb_X3_add, decode zX3_add.2.1 q.1 = .ok q.2 := by decide +kernel
def f_X3_add (n : Nat) (w : Nat) (a1 a2 : Int32) (M : qM) : qR :=
  (if (240 : Int32) ≤ (M w 6) then some (((M w 6) - (1 : Int32)), M) else qg (M w 6) 240 (qlm (mu M (w + 1) (M w 6).toNatClampNeg a1) (fun m1 => qg (m1 w 6) 240 (qlm (mu m1 (w + 2) (m1 w 6).toNatClampNeg a2) (fun m2 => qlm (mu m2 w 6 ((m2 w 6) + (1 : Int32))) (fun m3 => some (((m3 w 6) - (1 : Int32)), m3)))))))
set_option maxRecDepth 4000 in
theorem w_X3_add {g : qG} {k : qK} (n : Nat) (j r : Nat) (hj : q_isLaw j) (hr : q_isLaw r) {w : Nat} (hw : q_isLaw w) (o : qOk g 0 zX3_add k) (a1 a2 : Int32) (M : qM) : qAE g k zX3_add (qL j r) 0 [some (.inr (some w)), some (.inl a1), some (.inl a2)] [] (qL j r, M) (f_X3_add n w a1 a2 M) := by
  unfold f_X3_add
  refine qr_aload_n o (q_dm dm_X3_add 0 rfl) rfl ?_
  refine qr_getf (kf := 6) o cf_X3 (shW0 j r hw) rfl (Nat.le_of_ble_eq_true rfl) fl_X3_30 (q_dm dm_X3_add 1 rfl) ?_
  refine qr_sipush o (q_dm dm_X3_add 2 rfl) si_240 ?_
  refine qr_icmp_ge (tgt := 40) o (q_dm dm_X3_add 3 rfl) (by decide) ?_ ?_
  · refine qr_aload_n o (q_dm dm_X3_add 22 rfl) rfl ?_
    refine qr_getf (kf := 6) o cf_X3 (shW0 j r hw) rfl (Nat.le_of_ble_eq_true rfl) fl_X3_30 (q_dm dm_X3_add 23 rfl) ?_
    refine qr_iconst o (q_dm dm_X3_add 24 rfl) ic_1 ?_
    refine qr_isub o (q_dm dm_X3_add 25 rfl) ?_
    exact qr_iret o rfl rfl (q_dm dm_X3_add 26 rfl)
  · refine qr_aload_n o (q_dm dm_X3_add 4 rfl) rfl ?_
    refine qr_getr (kf := 0) o cf_X3 (shW0 j r hw) rfl (Nat.le_of_ble_eq_true rfl) fl_X3_9 (q_dm dm_X3_add 5 rfl) ?_
    refine qr_aload_n o (q_dm dm_X3_add 6 rfl) rfl ?_
    refine qr_getf (kf := 6) o cf_X3 (shW0 j r hw) rfl (Nat.le_of_ble_eq_true rfl) fl_X3_30 (q_dm dm_X3_add 7 rfl) ?_
    refine qr_iload_n o (q_dm dm_X3_add 8 rfl) rfl ?_
    refine qr_iast o (shW1 j r hw) (q_dm dm_X3_add 9 rfl) ?_
    refine qr_letm (fun m1 => ?_)
    refine qr_aload_n o (q_dm dm_X3_add 10 rfl) rfl ?_
    refine qr_getr (kf := 1) o cf_X3 (shW0 j r hw) rfl (Nat.le_of_ble_eq_true rfl) fl_X3_15 (q_dm dm_X3_add 11 rfl) ?_
    refine qr_aload_n o (q_dm dm_X3_add 12 rfl) rfl ?_
    refine qr_getf (kf := 6) o cf_X3 (shW0 j r hw) rfl (Nat.le_of_ble_eq_true rfl) fl_X3_30 (q_dm dm_X3_add 13 rfl) ?_
    refine qr_iload_n o (q_dm dm_X3_add 14 rfl) rfl ?_
    refine qr_iast o (shW2 j r hw) (q_dm dm_X3_add 15 rfl) ?_
    refine qr_letm (fun m2 => ?_)
    refine qr_aload_n o (q_dm dm_X3_add 16 rfl) rfl ?_
    refine qr_dup o (q_dm dm_X3_add 17 rfl) ?_
    refine qr_getf (kf := 6) o cf_X3 (shW0 j r hw) rfl (Nat.le_of_ble_eq_true rfl) fl_X3_30 (q_dm dm_X3_add 18 rfl) ?_
    refine qr_iconst o (q_dm dm_X3_add 19 rfl) ic_1 ?_
    refine qr_iadd o (q_dm dm_X3_add 20 rfl) ?_
    refine qr_putf (kf := 6) o cf_X3 (shW0 j r hw) rfl (Nat.le_of_ble_eq_true rfl) fl_X3_30 rfl (by decide +kernel) (q_dm dm_X3_add 21 rfl) ?_
    refine qr_letm (fun m3 => ?_)
    refine qr_aload_n o (q_dm dm_X3_add 22 rfl) rfl ?_
    refine qr_getf (kf := 6) o cf_X3 (shW0 j r hw) rfl (Nat.le_of_ble_eq_true rfl) fl_X3_30 (q_dm dm_X3_add 23 rfl) ?_
    refine qr_iconst o (q_dm dm_X3_add 24 rfl) ic_1 ?_
    refine qr_isub o (q_dm dm_X3_add 25 rfl) ?_
    exact qr_iret o rfl rfl (q_dm dm_X3_add 26 rfl)

theorem a_X3_add (g : qG) (l : Launch) (n : Nat) (j r : Nat) (hj : q_isLaw j) (hr : q_isLaw r) {w : Nat} (hw : q_isLaw w) (a1 a2 : Int32) (M : qM) : qAM g l 0 zX3_add (qL j r) [.inr (some w), .inl a1, .inl a2] (qL j r, M) (f_X3_add n w a1 a2 M) :=
  qAM.of zv_X3_add.1 (by show 3 ≤ 3; decide) (fun k hk o => w_X3_add n j r hj hr hw o a1 a2 M)
def tb_X3_skipToHere : List (Nat × Instr × Nat) := [(0, (.iload_n 1, 1)), (1, (.ifCond .lt 23, 3)), (4, (.iload_n 1, 1)), (5, (.aload_n 0, 1)), (6, (.getfield 30, 3)), (9, (.if_icmp .ge 15, 3)), (12, (.aload_n 0, 1)), (13, (.getfield 15, 3)), (16, (.iload_n 1, 1)), (17, (.aload_n 0, 1)), (18, (.getfield 30, 3)), (21, (.iconst 1, 1)), (22, (.isub, 1)), (23, (.iastore, 1)), (24, (.return_, 1))]
theorem dm_X3_skipToHere : ∀ q ∈ tb_X3_skipToHere, decode zX3_skipToHere.2.1 q.1 = .ok q.2 := by decide +kernel
def f_X3_skipToHere (n : Nat) (w : Nat) (a1 : Int32) (M : qM) : qR :=
  (if a1 < (0 : Int32) then some (0, M) else (if (M w 6) ≤ a1 then some (0, M) else qg a1 240 (qlm (mu M (w + 2) a1.toNatClampNeg ((M w 6) - (1 : Int32))) (fun m1 => some (0, m1)))))
set_option maxRecDepth 4000 in
theorem w_X3_skipToHere {g : qG} {k : qK} (n : Nat) (j r : Nat) (hj : q_isLaw j) (hr : q_isLaw r) {w : Nat} (hw : q_isLaw w) (o : qOk g 0 zX3_skipToHere k) (a1 : Int32) (M : qM) : qAE g k zX3_skipToHere (qL j r) 0 [some (.inr (some w)), some (.inl a1)] [] (qL j r, M) (f_X3_skipToHere n w a1 M) := by
  unfold f_X3_skipToHere
  refine qr_iload_n o (q_dm dm_X3_skipToHere 0 rfl) rfl ?_
  refine qr_if_lt (tgt := 24) o (q_dm dm_X3_skipToHere 1 rfl) (by decide) ?_ ?_
  · exact qr_vret o rfl (q_dm dm_X3_skipToHere 14 rfl)
  · refine qr_iload_n o (q_dm dm_X3_skipToHere 2 rfl) rfl ?_
    refine qr_aload_n o (q_dm dm_X3_skipToHere 3 rfl) rfl ?_
    refine qr_getf (kf := 6) o cf_X3 (shW0 j r hw) rfl (Nat.le_of_ble_eq_true rfl) fl_X3_30 (q_dm dm_X3_skipToHere 4 rfl) ?_
    refine qr_icmp_ge (tgt := 24) o (q_dm dm_X3_skipToHere 5 rfl) (by decide) ?_ ?_
    · exact qr_vret o rfl (q_dm dm_X3_skipToHere 14 rfl)
    · refine qr_aload_n o (q_dm dm_X3_skipToHere 6 rfl) rfl ?_
      refine qr_getr (kf := 1) o cf_X3 (shW0 j r hw) rfl (Nat.le_of_ble_eq_true rfl) fl_X3_15 (q_dm dm_X3_skipToHere 7 rfl) ?_
      refine qr_iload_n o (q_dm dm_X3_skipToHere 8 rfl) rfl ?_
      refine qr_aload_n o (q_dm dm_X3_skipToHere 9 rfl) rfl ?_
      refine qr_getf (kf := 6) o cf_X3 (shW0 j r hw) rfl (Nat.le_of_ble_eq_true rfl) fl_X3_30 (q_dm dm_X3_skipToHere 10 rfl) ?_
      refine qr_iconst o (q_dm dm_X3_skipToHere 11 rfl) ic_1 ?_
      refine qr_isub o (q_dm dm_X3_skipToHere 12 rfl) ?_
      refine qr_iast o (shW2 j r hw) (q_dm dm_X3_skipToHere 13 rfl) ?_
      refine qr_letm (fun m1 => ?_)
      exact qr_vret o rfl (q_dm dm_X3_skipToHere 14 rfl)

theorem a_X3_skipToHere (g : qG) (l : Launch) (n : Nat) (j r : Nat) (hj : q_isLaw j) (hr : q_isLaw r) {w : Nat} (hw : q_isLaw w) (a1 : Int32) (M : qM) : qAM g l 0 zX3_skipToHere (qL j r) [.inr (some w), .inl a1] (qL j r, M) (f_X3_skipToHere n w a1 M) :=
  qAM.of zv_X3_skipToHere.1 (by show 2 ≤ 2; decide) (fun k hk o => w_X3_skipToHere n j r hj hr hw o a1 M)
def tb_X9_fails : List (Nat × Instr × Nat) := [(0, (.aload_n 0, 1)), (1, (.sipush (-1000), 3)), (4, (.iload_n 1, 1)), (5, (.imul, 1)), (6, (.iload_n 2, 1)), (7, (.isub, 1)), (8, (.putfield 35, 3)), (11, (.iconst 0, 1)), (12, (.ireturn, 1))]
theorem dm_X9_fails : ∀ q ∈ tb_X9_fails, decode zX9_fails.2.1 q.1 = .ok q.2 := by decide +kernel
def f_X9_fails (n : Nat) (a1 a2 : Int32) (M : qM) : qR :=
  qlm (mu M 1 4 (((-1000 : Int32) * a1) - a2)) (fun m1 => some ((0 : Int32), m1))
set_option maxRecDepth 4000 in
theorem w_X9_fails {g : qG} {k : qK} (n : Nat) (j r : Nat) (hj : q_isLaw j) (hr : q_isLaw r) (o : qOk g 0 zX9_fails k) (a1 a2 : Int32) (M : qM) : qAE g k zX9_fails (qL j r) 0 [some (.inr (some 1)), some (.inl a1), some (.inl a2)] [] (qL j r, M) (f_X9_fails n a1 a2 M) := by
  unfold f_X9_fails
  refine qr_aload_n o (q_dm dm_X9_fails 0 rfl) rfl ?_
  refine qr_sipush o (q_dm dm_X9_fails 1 rfl) si_m1000 ?_
  refine qr_iload_n o (q_dm dm_X9_fails 2 rfl) rfl ?_
  refine qr_imul o (q_dm dm_X9_fails 3 rfl) ?_
  refine qr_iload_n o (q_dm dm_X9_fails 4 rfl) rfl ?_
  refine qr_isub o (q_dm dm_X9_fails 5 rfl) ?_
  refine qr_putf (kf := 4) o cf_X9 (sh1 j r) rfl (Nat.le_of_ble_eq_true rfl) fl_X9_35 rfl (by decide +kernel) (q_dm dm_X9_fails 6 rfl) ?_
  refine qr_letm (fun m1 => ?_)
  refine qr_iconst o (q_dm dm_X9_fails 7 rfl) ic_0 ?_
  exact qr_iret o rfl (by decide) (q_dm dm_X9_fails 8 rfl)

theorem a_X9_fails (g : qG) (l : Launch) (n : Nat) (j r : Nat) (hj : q_isLaw j) (hr : q_isLaw r) (a1 a2 : Int32) (M : qM) : qAM g l 0 zX9_fails (qL j r) [.inr (some 1), .inl a1, .inl a2] (qL j r, M) (f_X9_fails n a1 a2 M) :=
  qAM.of zv_X9_fails.1 (by show 3 ≤ 3; decide) (fun k hk o => w_X9_fails n j r hj hr o a1 a2 M)
def tb_X4_opens : List (Nat × Instr × Nat) := [(0, (.iload_n 1, 1)), (1, (.bipush 6, 2)), (3, (.if_icmp .lt 19, 3)), (6, (.aload_n 0, 1)), (7, (.getfield 18, 3)), (10, (.iconst 5, 1)), (11, (.aload_n 0, 1)), (12, (.getfield 18, 3)), (15, (.getfield 53, 3)), (18, (.invokevirtual 56, 3)), (21, (.ireturn, 1)), (22, (.aload_n 0, 1)), (23, (.getfield 18, 3)), (26, (.dup, 1)), (27, (.getfield 53, 3)), (30, (.iconst 1, 1)), (31, (.iadd, 1)), (32, (.putfield 53, 3)), (35, (.iconst 1, 1)), (36, (.ireturn, 1))]
theorem dm_X4_opens : ∀ q ∈ tb_X4_opens, decode zX4_opens.2.1 q.1 = .ok q.2 := by decide +kernel
def f_X4_opens (n : Nat) (a1 : Int32) (M : qM) : qR :=
  (if a1 < (6 : Int32) then qlm (mu M 1 3 ((M 1 3) + (1 : Int32))) (fun m1 => some ((1 : Int32), m1)) else qc (f_X9_fails n (5 : Int32) (M 1 3) M) (fun r2 m3 => qb r2 (some (r2, m3))))
set_option maxRecDepth 4000 in
theorem w_X4_opens {g : qG} {k : qK} (n : Nat) (j r : Nat) (hj : q_isLaw j) (hr : q_isLaw r) (o : qOk g 1 zX4_opens k) (a1 : Int32) (M : qM) : qAE g k zX4_opens (qL j r) 0 [some (.inr (some 45)), some (.inl a1)] [] (qL j r, M) (f_X4_opens n a1 M) := by
  unfold f_X4_opens
  refine qr_iload_n o (q_dm dm_X4_opens 0 rfl) rfl ?_
  refine qr_bipush o (q_dm dm_X4_opens 1 rfl) bi_6 ?_
  refine qr_icmp_lt (tgt := 22) o (q_dm dm_X4_opens 2 rfl) (by decide) ?_ ?_
  · refine qr_aload_n o (q_dm dm_X4_opens 11 rfl) rfl ?_
    refine qr_getr (kf := 0) o cf_X4 (sh45 j r) rfl (Nat.le_of_ble_eq_true rfl) fl_X4_18 (q_dm dm_X4_opens 12 rfl) ?_
    refine qr_dup o (q_dm dm_X4_opens 13 rfl) ?_
    refine qr_getf (kf := 3) o cf_X9 (sh1 j r) rfl (Nat.le_of_ble_eq_true rfl) fl_X4_53 (q_dm dm_X4_opens 14 rfl) ?_
    refine qr_iconst o (q_dm dm_X4_opens 15 rfl) ic_1 ?_
    refine qr_iadd o (q_dm dm_X4_opens 16 rfl) ?_
    refine qr_putf (kf := 3) o cf_X9 (sh1 j r) rfl (Nat.le_of_ble_eq_true rfl) fl_X4_53 rfl (by decide +kernel) (q_dm dm_X4_opens 17 rfl) ?_
    refine qr_letm (fun m1 => ?_)
    refine qr_iconst o (q_dm dm_X4_opens 18 rfl) ic_1 ?_
    exact qr_iret o rfl (by decide) (q_dm dm_X4_opens 19 rfl)
  · refine qr_aload_n o (q_dm dm_X4_opens 3 rfl) rfl ?_
    refine qr_getr (kf := 0) o cf_X4 (sh45 j r) rfl (Nat.le_of_ble_eq_true rfl) fl_X4_18 (q_dm dm_X4_opens 4 rfl) ?_
    refine qr_iconst o (q_dm dm_X4_opens 5 rfl) ic_5 ?_
    refine qr_aload_n o (q_dm dm_X4_opens 6 rfl) rfl ?_
    refine qr_getr (kf := 0) o cf_X4 (sh45 j r) rfl (Nat.le_of_ble_eq_true rfl) fl_X4_18 (q_dm dm_X4_opens 7 rfl) ?_
    refine qr_getf (kf := 3) o cf_X9 (sh1 j r) rfl (Nat.le_of_ble_eq_true rfl) fl_X4_53 (q_dm dm_X4_opens 8 rfl) ?_
    refine qr_callv_i (As := [.inl (5 : Int32), .inl (M 1 3)]) (S := []) o (a_X9_fails g k.2.1 n j r hj hr (5 : Int32) (M 1 3) M) (Nat.le_of_ble_eq_true rfl) zv_X9_fails rfl cf_X9 (sh1 j r) ml_X4_56 (Nat.le_of_ble_eq_true rfl) (q_dm dm_X4_opens 9 rfl) (fun r2 m3 => ?_)
    exact qr_zret o rfl (q_dm dm_X4_opens 10 rfl)

theorem a_X4_opens (g : qG) (l : Launch) (n : Nat) (j r : Nat) (hj : q_isLaw j) (hr : q_isLaw r) (a1 : Int32) (M : qM) : qAM g l 1 zX4_opens (qL j r) [.inr (some 45), .inl a1] (qL j r, M) (f_X4_opens n a1 M) :=
  qAM.of zv_X4_opens.1 (by show 2 ≤ 2; decide) (fun k hk o => w_X4_opens n j r hj hr o a1 M)
def tb_X9_sign : List (Nat × Instr × Nat) := [(0, (.aload_n 0, 1)), (1, (.getfield 32, 3)), (4, (.ifCond .lt 26, 3)), (7, (.aload_n 0, 1)), (8, (.getfield 32, 3)), (11, (.aload_n 0, 1)), (12, (.getfield 29, 3)), (15, (.if_icmp .ge 15, 3)), (18, (.aload_n 0, 1)), (19, (.getfield 9, 3)), (22, (.aload_n 0, 1)), (23, (.getfield 32, 3)), (26, (.iaload, 1)), (27, (.goto 4, 3)), (30, (.iconst (-1), 1)), (31, (.ireturn, 1))]
theorem dm_X9_sign : ∀ q ∈ tb_X9_sign, decode zX9_sign.2.1 q.1 = .ok q.2 := by decide +kernel
def f_X9_sign (n : Nat) (M : qM) : qR :=
  (if (M 1 3) < (0 : Int32) then some ((-1 : Int32), M) else (if (M 1 2) ≤ (M 1 3) then some ((-1 : Int32), M) else qg (M 1 3) 260 (some ((M 2 (M 1 3).toNatClampNeg), M))))
set_option maxRecDepth 4000 in
theorem w_X9_sign {g : qG} {k : qK} (n : Nat) (j r : Nat) (hj : q_isLaw j) (hr : q_isLaw r) (o : qOk g 0 zX9_sign k) (M : qM) : qAE g k zX9_sign (qL j r) 0 [some (.inr (some 1))] [] (qL j r, M) (f_X9_sign n  M) := by
  unfold f_X9_sign
  refine qr_aload_n o (q_dm dm_X9_sign 0 rfl) rfl ?_
  refine qr_getf (kf := 3) o cf_X9 (sh1 j r) rfl (Nat.le_of_ble_eq_true rfl) fl_X9_32 (q_dm dm_X9_sign 1 rfl) ?_
  refine qr_if_lt (tgt := 30) o (q_dm dm_X9_sign 2 rfl) (by decide) ?_ ?_
  · refine qr_iconst o (q_dm dm_X9_sign 14 rfl) ic_m1 ?_
    exact qr_iret o rfl rfl (q_dm dm_X9_sign 15 rfl)
  · refine qr_aload_n o (q_dm dm_X9_sign 3 rfl) rfl ?_
    refine qr_getf (kf := 3) o cf_X9 (sh1 j r) rfl (Nat.le_of_ble_eq_true rfl) fl_X9_32 (q_dm dm_X9_sign 4 rfl) ?_
    refine qr_aload_n o (q_dm dm_X9_sign 5 rfl) rfl ?_
    refine qr_getf (kf := 2) o cf_X9 (sh1 j r) rfl (Nat.le_of_ble_eq_true rfl) fl_X9_29 (q_dm dm_X9_sign 6 rfl) ?_
    refine qr_icmp_ge (tgt := 30) o (q_dm dm_X9_sign 7 rfl) (by decide) ?_ ?_
    · refine qr_iconst o (q_dm dm_X9_sign 14 rfl) ic_m1 ?_
      exact qr_iret o rfl rfl (q_dm dm_X9_sign 15 rfl)
    · refine qr_aload_n o (q_dm dm_X9_sign 8 rfl) rfl ?_
      refine qr_getr (kf := 0) o cf_X9 (sh1 j r) rfl (Nat.le_of_ble_eq_true rfl) fl_X9_9 (q_dm dm_X9_sign 9 rfl) ?_
      refine qr_aload_n o (q_dm dm_X9_sign 10 rfl) rfl ?_
      refine qr_getf (kf := 3) o cf_X9 (sh1 j r) rfl (Nat.le_of_ble_eq_true rfl) fl_X9_32 (q_dm dm_X9_sign 11 rfl) ?_
      refine qr_iald o (sh2 j r) (q_dm dm_X9_sign 12 rfl) ?_
      refine qr_goto (tgt := 31) o (q_dm dm_X9_sign 13 rfl) (by decide) ?_
      exact qr_iret o rfl rfl (q_dm dm_X9_sign 15 rfl)

theorem a_X9_sign (g : qG) (l : Launch) (n : Nat) (j r : Nat) (hj : q_isLaw j) (hr : q_isLaw r) (M : qM) : qAM g l 0 zX9_sign (qL j r) [.inr (some 1)] (qL j r, M) (f_X9_sign n  M) :=
  qAM.of zv_X9_sign.1 (by show 1 ≤ 1; decide) (fun k hk o => w_X9_sign n j r hj hr o  M)
def tb_X9_digit : List (Nat × Instr × Nat) := [(0, (.aload_n 0, 1)), (1, (.invokevirtual 38, 3)), (4, (.istore_n 1, 1)), (5, (.iload_n 1, 1)), (6, (.bipush 48, 2)), (8, (.if_icmp .lt 16, 3)), (11, (.iload_n 1, 1)), (12, (.bipush 57, 2)), (14, (.if_icmp .gt 10, 3)), (17, (.iload_n 1, 1)), (18, (.bipush 48, 2)), (20, (.isub, 1)), (21, (.goto 4, 3)), (24, (.iconst (-1), 1)), (25, (.ireturn, 1))]
theorem dm_X9_digit : ∀ q ∈ tb_X9_digit, decode zX9_digit.2.1 q.1 = .ok q.2 := by decide +kernel
def f_X9_digit (n : Nat) (M : qM) : qR :=
  qc (f_X9_sign n  M) (fun r1 m2 => (if r1 < (48 : Int32) then some ((-1 : Int32), m2) else (if (57 : Int32) < r1 then some ((-1 : Int32), m2) else some ((r1 - (48 : Int32)), m2))))
set_option maxRecDepth 4000 in
theorem w_X9_digit {g : qG} {k : qK} (n : Nat) (j r : Nat) (hj : q_isLaw j) (hr : q_isLaw r) (o : qOk g 1 zX9_digit k) (M : qM) : qAE g k zX9_digit (qL j r) 0 [some (.inr (some 1)), none] [] (qL j r, M) (f_X9_digit n  M) := by
  unfold f_X9_digit
  refine qr_aload_n o (q_dm dm_X9_digit 0 rfl) rfl ?_
  refine qr_callv_i (As := []) (S := []) o (a_X9_sign g k.2.1 n j r hj hr  M) (Nat.le_of_ble_eq_true rfl) zv_X9_sign rfl cf_X9 (sh1 j r) ml_X9_38 (Nat.le_of_ble_eq_true rfl) (q_dm dm_X9_digit 1 rfl) (fun r1 m2 => ?_)
  refine qs_istore_n (L' := [some (.inr (some 1)), some (.inl r1)]) o (q_dm dm_X9_digit 2 rfl) (Nat.le_of_ble_eq_true rfl) rfl ?_
  refine qr_iload_n o (q_dm dm_X9_digit 3 rfl) rfl ?_
  refine qr_bipush o (q_dm dm_X9_digit 4 rfl) bi_48 ?_
  refine qr_icmp_lt (tgt := 24) o (q_dm dm_X9_digit 5 rfl) (by decide) ?_ ?_
  · refine qr_iconst o (q_dm dm_X9_digit 13 rfl) ic_m1 ?_
    exact qr_iret o rfl rfl (q_dm dm_X9_digit 14 rfl)
  · refine qr_iload_n o (q_dm dm_X9_digit 6 rfl) rfl ?_
    refine qr_bipush o (q_dm dm_X9_digit 7 rfl) bi_57 ?_
    refine qr_icmp_gt (tgt := 24) o (q_dm dm_X9_digit 8 rfl) (by decide) ?_ ?_
    · refine qr_iconst o (q_dm dm_X9_digit 13 rfl) ic_m1 ?_
      exact qr_iret o rfl rfl (q_dm dm_X9_digit 14 rfl)
    · refine qr_iload_n o (q_dm dm_X9_digit 9 rfl) rfl ?_
      refine qr_bipush o (q_dm dm_X9_digit 10 rfl) bi_48 ?_
      refine qr_isub o (q_dm dm_X9_digit 11 rfl) ?_
      refine qr_goto (tgt := 25) o (q_dm dm_X9_digit 12 rfl) (by decide) ?_
      exact qr_iret o rfl rfl (q_dm dm_X9_digit 14 rfl)

theorem a_X9_digit (g : qG) (l : Launch) (n : Nat) (j r : Nat) (hj : q_isLaw j) (hr : q_isLaw r) (M : qM) : qAM g l 1 zX9_digit (qL j r) [.inr (some 1)] (qL j r, M) (f_X9_digit n  M) :=
  qAM.of zv_X9_digit.1 (by show 1 ≤ 2; decide) (fun k hk o => w_X9_digit n j r hj hr o  M)
def tb_X4_readNumber : List (Nat × Instr × Nat) := [(0, (.iconst 0, 1)), (1, (.istore_n 1, 1)), (2, (.iconst 0, 1)), (3, (.istore_n 2, 1)), (4, (.iload_n 2, 1)), (5, (.iconst 5, 1)), (6, (.if_icmp .ge 46, 3)), (9, (.aload_n 0, 1)), (10, (.getfield 18, 3)), (13, (.invokevirtual 98, 3)), (16, (.iconst (-1), 1)), (17, (.if_icmp .eq 35, 3)), (20, (.bipush 10, 2)), (22, (.iload_n 1, 1)), (23, (.imul, 1)), (24, (.aload_n 0, 1)), (25, (.getfield 18, 3)), (28, (.invokevirtual 98, 3)), (31, (.iadd, 1)), (32, (.istore_n 1, 1)), (33, (.aload_n 0, 1)), (34, (.getfield 18, 3)), (37, (.dup, 1)), (38, (.getfield 53, 3)), (41, (.iconst 1, 1)), (42, (.iadd, 1)), (43, (.putfield 53, 3)), (46, (.iinc 2 1, 3)), (49, (.goto (-45), 3)), (52, (.aload_n 0, 1)), (53, (.getfield 18, 3)), (56, (.invokevirtual 98, 3)), (59, (.iconst (-1), 1)), (60, (.if_icmp .eq 19, 3)), (63, (.aload_n 0, 1)), (64, (.getfield 18, 3)), (67, (.iconst 2, 1)), (68, (.aload_n 0, 1)), (69, (.getfield 18, 3)), (72, (.getfield 53, 3)), (75, (.invokevirtual 56, 3)), (78, (.ireturn, 1)), (79, (.aload_n 0, 1)), (80, (.getfield 12, 3)), (83, (.iconst 0, 1)), (84, (.iload_n 1, 1)), (85, (.invokevirtual 79, 3)), (88, (.pop, 1)), (89, (.iconst 1, 1)), (90, (.ireturn, 1))]
theorem dm_X4_readNumber : ∀ q ∈ tb_X4_readNumber, decode zX4_readNumber.2.1 q.1 = .ok q.2 := by decide +kernel
def f_X4_readNumber_52 (n : Nat) (r : Nat) (a1 : Int32) (M : qM) : qR :=
  qc (f_X9_digit n  M) (fun r1 m2 => (if r1 = (-1 : Int32) then qc (f_X3_add n r (0 : Int32) a1 m2) (fun r3 m4 => some ((1 : Int32), m4)) else qc (f_X9_fails n (2 : Int32) (m2 1 3) m2) (fun r5 m6 => qb r5 (some (r5, m6)))))
set_option maxRecDepth 4000 in
theorem w_X4_readNumber_52 {g : qG} {k : qK} (n : Nat) (j r : Nat) (hj : q_isLaw j) (hr : q_isLaw r) (o : qOk g 2 zX4_readNumber k) (a1 : Int32) (M : qM) : qAE g k zX4_readNumber (qL j r) 52 [some (.inr (some 45)), some (.inl a1), none] [] (qL j r, M) (f_X4_readNumber_52 n r a1 M) := by
  unfold f_X4_readNumber_52
  refine qr_aload_n o (q_dm dm_X4_readNumber 29 rfl) rfl ?_
  refine qr_getr (kf := 0) o cf_X4 (sh45 j r) rfl (Nat.le_of_ble_eq_true rfl) fl_X4_18 (q_dm dm_X4_readNumber 30 rfl) ?_
  refine qr_callv_i (As := []) (S := []) o (a_X9_digit g k.2.1 n j r hj hr  M) (Nat.le_of_ble_eq_true rfl) zv_X9_digit rfl cf_X9 (sh1 j r) ml_X4_98 (Nat.le_of_ble_eq_true rfl) (q_dm dm_X4_readNumber 31 rfl) (fun r1 m2 => ?_)
  refine qr_iconst o (q_dm dm_X4_readNumber 32 rfl) ic_m1 ?_
  refine qr_icmp_eq (tgt := 79) o (q_dm dm_X4_readNumber 33 rfl) (by decide) ?_ ?_
  · refine qr_aload_n o (q_dm dm_X4_readNumber 42 rfl) rfl ?_
    refine qr_getr (kf := 1) o cf_X4 (sh45 j r) rfl (Nat.le_of_ble_eq_true rfl) fl_X4_12 (q_dm dm_X4_readNumber 43 rfl) ?_
    refine qr_iconst o (q_dm dm_X4_readNumber 44 rfl) ic_0 ?_
    refine qr_iload_n o (q_dm dm_X4_readNumber 45 rfl) rfl ?_
    refine qr_callv_i (As := [.inl (0 : Int32), .inl a1]) (S := []) o (a_X3_add g k.2.1 n j r hj hr hr (0 : Int32) a1 m2) (Nat.le_of_ble_eq_true rfl) zv_X3_add rfl cf_X3 (shW0 j r hr) ml_X4_79 (Nat.le_of_ble_eq_true rfl) (q_dm dm_X4_readNumber 46 rfl) (fun r3 m4 => ?_)
    refine qr_pop o (q_dm dm_X4_readNumber 47 rfl) ?_
    refine qr_iconst o (q_dm dm_X4_readNumber 48 rfl) ic_1 ?_
    exact qr_iret o rfl (by decide) (q_dm dm_X4_readNumber 49 rfl)
  · refine qr_aload_n o (q_dm dm_X4_readNumber 34 rfl) rfl ?_
    refine qr_getr (kf := 0) o cf_X4 (sh45 j r) rfl (Nat.le_of_ble_eq_true rfl) fl_X4_18 (q_dm dm_X4_readNumber 35 rfl) ?_
    refine qr_iconst o (q_dm dm_X4_readNumber 36 rfl) ic_2 ?_
    refine qr_aload_n o (q_dm dm_X4_readNumber 37 rfl) rfl ?_
    refine qr_getr (kf := 0) o cf_X4 (sh45 j r) rfl (Nat.le_of_ble_eq_true rfl) fl_X4_18 (q_dm dm_X4_readNumber 38 rfl) ?_
    refine qr_getf (kf := 3) o cf_X9 (sh1 j r) rfl (Nat.le_of_ble_eq_true rfl) fl_X4_53 (q_dm dm_X4_readNumber 39 rfl) ?_
    refine qr_callv_i (As := [.inl (2 : Int32), .inl (m2 1 3)]) (S := []) o (a_X9_fails g k.2.1 n j r hj hr (2 : Int32) (m2 1 3) m2) (Nat.le_of_ble_eq_true rfl) zv_X9_fails rfl cf_X9 (sh1 j r) ml_X4_56 (Nat.le_of_ble_eq_true rfl) (q_dm dm_X4_readNumber 40 rfl) (fun r5 m6 => ?_)
    exact qr_zret o rfl (q_dm dm_X4_readNumber 41 rfl)

def b_X4_readNumber_4 (n : Nat) (r : Nat) (K4 : Int32 → Int32 → qM → qR) (a1 a2 : Int32) (M : qM) : qR :=
  (if (5 : Int32) ≤ a2 then f_X4_readNumber_52 n r a1 M else qc (f_X9_digit n  M) (fun r1 m2 => (if r1 = (-1 : Int32) then f_X4_readNumber_52 n r a1 m2 else qc (f_X9_digit n  m2) (fun r3 m4 => ql (((10 : Int32) * a1) + r3) (fun x5 => qlm (mu m4 1 3 ((m4 1 3) + (1 : Int32))) (fun m6 => ql (a2 + (1 : Int32)) (fun x7 => K4 x5 x7 m6)))))))
set_option maxRecDepth 4000 in
theorem wb_X4_readNumber_4 {g : qG} {k : qK} (n : Nat) (j r : Nat) (hj : q_isLaw j) (hr : q_isLaw r) (o : qOk g 2 zX4_readNumber k) (K4 : Int32 → Int32 → qM → qR) (hK4 : ∀ (a1 a2 : Int32) (M : qM), qAE g k zX4_readNumber (qL j r) 4 [some (.inr (some 45)), some (.inl a1), some (.inl a2)] [] (qL j r, M) (K4 a1 a2 M)) (a1 a2 : Int32) (M : qM) : qAE g k zX4_readNumber (qL j r) 4 [some (.inr (some 45)), some (.inl a1), some (.inl a2)] [] (qL j r, M) (b_X4_readNumber_4 n r K4 a1 a2 M) := by
  unfold b_X4_readNumber_4
  refine qr_iload_n o (q_dm dm_X4_readNumber 4 rfl) rfl ?_
  refine qr_iconst o (q_dm dm_X4_readNumber 5 rfl) ic_5 ?_
  refine qr_icmp_ge (tgt := 52) o (q_dm dm_X4_readNumber 6 rfl) (by decide) ?_ ?_
  · exact qr_loc (q_leS (q_leS (q_leN q_le0))) (w_X4_readNumber_52 n j r hj hr o a1 M)
  · refine qr_aload_n o (q_dm dm_X4_readNumber 7 rfl) rfl ?_
    refine qr_getr (kf := 0) o cf_X4 (sh45 j r) rfl (Nat.le_of_ble_eq_true rfl) fl_X4_18 (q_dm dm_X4_readNumber 8 rfl) ?_
    refine qr_callv_i (As := []) (S := []) o (a_X9_digit g k.2.1 n j r hj hr  M) (Nat.le_of_ble_eq_true rfl) zv_X9_digit rfl cf_X9 (sh1 j r) ml_X4_98 (Nat.le_of_ble_eq_true rfl) (q_dm dm_X4_readNumber 9 rfl) (fun r1 m2 => ?_)
    refine qr_iconst o (q_dm dm_X4_readNumber 10 rfl) ic_m1 ?_
    refine qr_icmp_eq (tgt := 52) o (q_dm dm_X4_readNumber 11 rfl) (by decide) ?_ ?_
    · exact qr_loc (q_leS (q_leS (q_leN q_le0))) (w_X4_readNumber_52 n j r hj hr o a1 m2)
    · refine qr_bipush o (q_dm dm_X4_readNumber 12 rfl) bi_10 ?_
      refine qr_iload_n o (q_dm dm_X4_readNumber 13 rfl) rfl ?_
      refine qr_imul o (q_dm dm_X4_readNumber 14 rfl) ?_
      refine qr_aload_n o (q_dm dm_X4_readNumber 15 rfl) rfl ?_
      refine qr_getr (kf := 0) o cf_X4 (sh45 j r) rfl (Nat.le_of_ble_eq_true rfl) fl_X4_18 (q_dm dm_X4_readNumber 16 rfl) ?_
      refine qr_callv_i (As := []) (S := [.inl ((10 : Int32) * a1)]) o (a_X9_digit g k.2.1 n j r hj hr  m2) (Nat.le_of_ble_eq_true rfl) zv_X9_digit rfl cf_X9 (sh1 j r) ml_X4_98 (Nat.le_of_ble_eq_true rfl) (q_dm dm_X4_readNumber 17 rfl) (fun r3 m4 => ?_)
      refine qr_iadd o (q_dm dm_X4_readNumber 18 rfl) ?_
      refine qr_lt (fun x5 => ?_)
      refine qs_istore_n (L' := [some (.inr (some 45)), some (.inl x5), some (.inl a2)]) o (q_dm dm_X4_readNumber 19 rfl) (Nat.le_of_ble_eq_true rfl) rfl ?_
      refine qr_aload_n o (q_dm dm_X4_readNumber 20 rfl) rfl ?_
      refine qr_getr (kf := 0) o cf_X4 (sh45 j r) rfl (Nat.le_of_ble_eq_true rfl) fl_X4_18 (q_dm dm_X4_readNumber 21 rfl) ?_
      refine qr_dup o (q_dm dm_X4_readNumber 22 rfl) ?_
      refine qr_getf (kf := 3) o cf_X9 (sh1 j r) rfl (Nat.le_of_ble_eq_true rfl) fl_X4_53 (q_dm dm_X4_readNumber 23 rfl) ?_
      refine qr_iconst o (q_dm dm_X4_readNumber 24 rfl) ic_1 ?_
      refine qr_iadd o (q_dm dm_X4_readNumber 25 rfl) ?_
      refine qr_putf (kf := 3) o cf_X9 (sh1 j r) rfl (Nat.le_of_ble_eq_true rfl) fl_X4_53 rfl (by decide +kernel) (q_dm dm_X4_readNumber 26 rfl) ?_
      refine qr_letm (fun m6 => ?_)
      refine qs_iincl2 (L' := fun x7 => [some (.inr (some 45)), some (.inl x5), some (.inl x7)]) o (q_dm dm_X4_readNumber 27 rfl) rfl ic_1 (Nat.le_of_ble_eq_true rfl) (fun _ => rfl) (fun x7 => ?_)
      refine qr_goto (tgt := 4) o (q_dm dm_X4_readNumber 28 rfl) (by decide) ?_
      exact qr_loc (q_leS (q_leS (q_leS q_le0))) (hK4 x5 x7 m6)

def f_X4_readNumber_4 (n : Nat) (r : Nat) : Nat → Int32 → Int32 → qM → qR
  | 0, _, _, _ => none
  | m + 1, a1, a2, M => b_X4_readNumber_4 n r (f_X4_readNumber_4 n r m) a1 a2 M
theorem w_X4_readNumber_4 {g : qG} {k : qK} (n : Nat) (j r : Nat) (hj : q_isLaw j) (hr : q_isLaw r) (o : qOk g 2 zX4_readNumber k) : ∀ (m : Nat) (a1 a2 : Int32) (M : qM), qAE g k zX4_readNumber (qL j r) 4 [some (.inr (some 45)), some (.inl a1), some (.inl a2)] [] (qL j r, M) (f_X4_readNumber_4 n r m a1 a2 M) := by
  intro m
  induction m with
  | zero =>
    intro a1 a2 M
    exact qr_none
  | succ m ih =>
    intro a1 a2 M
    exact wb_X4_readNumber_4 n j r hj hr o (f_X4_readNumber_4 n r m) ih a1 a2 M
def f_X4_readNumber (n : Nat) (r : Nat) (M : qM) : qR :=
  f_X4_readNumber_4 n r n (0 : Int32) (0 : Int32) M
set_option maxRecDepth 4000 in
theorem w_X4_readNumber {g : qG} {k : qK} (n : Nat) (j r : Nat) (hj : q_isLaw j) (hr : q_isLaw r) (o : qOk g 2 zX4_readNumber k) (M : qM) : qAE g k zX4_readNumber (qL j r) 0 [some (.inr (some 45)), none, none] [] (qL j r, M) (f_X4_readNumber n r  M) := by
  unfold f_X4_readNumber
  refine qr_iconst o (q_dm dm_X4_readNumber 0 rfl) ic_0 ?_
  refine qs_istore_n (L' := [some (.inr (some 45)), some (.inl (0 : Int32)), none]) o (q_dm dm_X4_readNumber 1 rfl) (Nat.le_of_ble_eq_true rfl) rfl ?_
  refine qr_iconst o (q_dm dm_X4_readNumber 2 rfl) ic_0 ?_
  refine qs_istore_n (L' := [some (.inr (some 45)), some (.inl (0 : Int32)), some (.inl (0 : Int32))]) o (q_dm dm_X4_readNumber 3 rfl) (Nat.le_of_ble_eq_true rfl) rfl ?_
  exact qr_loc (q_leS (q_leS (q_leS q_le0))) (w_X4_readNumber_4 n j r hj hr o n (0 : Int32) (0 : Int32) M)

theorem a_X4_readNumber (g : qG) (l : Launch) (n : Nat) (j r : Nat) (hj : q_isLaw j) (hr : q_isLaw r) (M : qM) : qAM g l 2 zX4_readNumber (qL j r) [.inr (some 45)] (qL j r, M) (f_X4_readNumber n r  M) :=
  qAM.of zv_X4_readNumber.1 (by show 1 ≤ 3; decide) (fun k hk o => w_X4_readNumber n j r hj hr o  M)
def tb_X9_takes : List (Nat × Instr × Nat) := [(0, (.aload_n 0, 1)), (1, (.invokevirtual 38, 3)), (4, (.iload_n 1, 1)), (5, (.if_icmp .eq 5, 3)), (8, (.iconst 0, 1)), (9, (.ireturn, 1)), (10, (.aload_n 0, 1)), (11, (.dup, 1)), (12, (.getfield 32, 3)), (15, (.iconst 1, 1)), (16, (.iadd, 1)), (17, (.putfield 32, 3)), (20, (.iconst 1, 1)), (21, (.ireturn, 1))]
theorem dm_X9_takes : ∀ q ∈ tb_X9_takes, decode zX9_takes.2.1 q.1 = .ok q.2 := by decide +kernel
def f_X9_takes (n : Nat) (a1 : Int32) (M : qM) : qR :=
  qc (f_X9_sign n  M) (fun r1 m2 => (if r1 = a1 then qlm (mu m2 1 3 ((m2 1 3) + (1 : Int32))) (fun m3 => some ((1 : Int32), m3)) else some ((0 : Int32), m2)))
set_option maxRecDepth 4000 in
theorem w_X9_takes {g : qG} {k : qK} (n : Nat) (j r : Nat) (hj : q_isLaw j) (hr : q_isLaw r) (o : qOk g 1 zX9_takes k) (a1 : Int32) (M : qM) : qAE g k zX9_takes (qL j r) 0 [some (.inr (some 1)), some (.inl a1)] [] (qL j r, M) (f_X9_takes n a1 M) := by
  unfold f_X9_takes
  refine qr_aload_n o (q_dm dm_X9_takes 0 rfl) rfl ?_
  refine qr_callv_i (As := []) (S := []) o (a_X9_sign g k.2.1 n j r hj hr  M) (Nat.le_of_ble_eq_true rfl) zv_X9_sign rfl cf_X9 (sh1 j r) ml_X9_38 (Nat.le_of_ble_eq_true rfl) (q_dm dm_X9_takes 1 rfl) (fun r1 m2 => ?_)
  refine qr_iload_n o (q_dm dm_X9_takes 2 rfl) rfl ?_
  refine qr_icmp_eq (tgt := 10) o (q_dm dm_X9_takes 3 rfl) (by decide) ?_ ?_
  · refine qr_aload_n o (q_dm dm_X9_takes 6 rfl) rfl ?_
    refine qr_dup o (q_dm dm_X9_takes 7 rfl) ?_
    refine qr_getf (kf := 3) o cf_X9 (sh1 j r) rfl (Nat.le_of_ble_eq_true rfl) fl_X9_32 (q_dm dm_X9_takes 8 rfl) ?_
    refine qr_iconst o (q_dm dm_X9_takes 9 rfl) ic_1 ?_
    refine qr_iadd o (q_dm dm_X9_takes 10 rfl) ?_
    refine qr_putf (kf := 3) o cf_X9 (sh1 j r) rfl (Nat.le_of_ble_eq_true rfl) fl_X9_32 rfl (by decide +kernel) (q_dm dm_X9_takes 11 rfl) ?_
    refine qr_letm (fun m3 => ?_)
    refine qr_iconst o (q_dm dm_X9_takes 12 rfl) ic_1 ?_
    exact qr_iret o rfl (by decide) (q_dm dm_X9_takes 13 rfl)
  · refine qr_iconst o (q_dm dm_X9_takes 4 rfl) ic_0 ?_
    exact qr_iret o rfl (by decide) (q_dm dm_X9_takes 5 rfl)

theorem a_X9_takes (g : qG) (l : Launch) (n : Nat) (j r : Nat) (hj : q_isLaw j) (hr : q_isLaw r) (a1 : Int32) (M : qM) : qAM g l 1 zX9_takes (qL j r) [.inr (some 1), .inl a1] (qL j r, M) (f_X9_takes n a1 M) :=
  qAM.of zv_X9_takes.1 (by show 2 ≤ 2; decide) (fun k hk o => w_X9_takes n j r hj hr o a1 M)
def tb_X9_mustTake : List (Nat × Instr × Nat) := [(0, (.aload_n 0, 1)), (1, (.iload_n 1, 1)), (2, (.invokevirtual 42, 3)), (5, (.ifCond .ne 15, 3)), (8, (.aload_n 0, 1)), (9, (.iconst 1, 1)), (10, (.aload_n 0, 1)), (11, (.getfield 32, 3)), (14, (.invokevirtual 46, 3)), (17, (.ifCond .eq 7, 3)), (20, (.iconst 1, 1)), (21, (.goto 4, 3)), (24, (.iconst 0, 1)), (25, (.ireturn, 1))]
theorem dm_X9_mustTake : ∀ q ∈ tb_X9_mustTake, decode zX9_mustTake.2.1 q.1 = .ok q.2 := by decide +kernel
def f_X9_mustTake (n : Nat) (a1 : Int32) (M : qM) : qR :=
  qc (f_X9_takes n a1 M) (fun r1 m2 => (if r1 = (0 : Int32) then qc (f_X9_fails n (1 : Int32) (m2 1 3) m2) (fun r3 m4 => (if r3 = (0 : Int32) then some ((0 : Int32), m4) else some ((1 : Int32), m4))) else some ((1 : Int32), m2)))
set_option maxRecDepth 4000 in
theorem w_X9_mustTake {g : qG} {k : qK} (n : Nat) (j r : Nat) (hj : q_isLaw j) (hr : q_isLaw r) (o : qOk g 2 zX9_mustTake k) (a1 : Int32) (M : qM) : qAE g k zX9_mustTake (qL j r) 0 [some (.inr (some 1)), some (.inl a1)] [] (qL j r, M) (f_X9_mustTake n a1 M) := by
  unfold f_X9_mustTake
  refine qr_aload_n o (q_dm dm_X9_mustTake 0 rfl) rfl ?_
  refine qr_iload_n o (q_dm dm_X9_mustTake 1 rfl) rfl ?_
  refine qr_callv_i (As := [.inl a1]) (S := []) o (a_X9_takes g k.2.1 n j r hj hr a1 M) (Nat.le_of_ble_eq_true rfl) zv_X9_takes rfl cf_X9 (sh1 j r) ml_X9_42 (Nat.le_of_ble_eq_true rfl) (q_dm dm_X9_mustTake 2 rfl) (fun r1 m2 => ?_)
  refine qr_if_ne (tgt := 20) o (q_dm dm_X9_mustTake 3 rfl) (by decide) ?_ ?_
  · refine qr_iconst o (q_dm dm_X9_mustTake 10 rfl) ic_1 ?_
    refine qr_goto (tgt := 25) o (q_dm dm_X9_mustTake 11 rfl) (by decide) ?_
    exact qr_iret o rfl (by decide) (q_dm dm_X9_mustTake 13 rfl)
  · refine qr_aload_n o (q_dm dm_X9_mustTake 4 rfl) rfl ?_
    refine qr_iconst o (q_dm dm_X9_mustTake 5 rfl) ic_1 ?_
    refine qr_aload_n o (q_dm dm_X9_mustTake 6 rfl) rfl ?_
    refine qr_getf (kf := 3) o cf_X9 (sh1 j r) rfl (Nat.le_of_ble_eq_true rfl) fl_X9_32 (q_dm dm_X9_mustTake 7 rfl) ?_
    refine qr_callv_i (As := [.inl (1 : Int32), .inl (m2 1 3)]) (S := []) o (a_X9_fails g k.2.1 n j r hj hr (1 : Int32) (m2 1 3) m2) (Nat.le_of_ble_eq_true rfl) zv_X9_fails rfl cf_X9 (sh1 j r) ml_X9_46 (Nat.le_of_ble_eq_true rfl) (q_dm dm_X9_mustTake 8 rfl) (fun r3 m4 => ?_)
    refine qr_if_eq (tgt := 24) o (q_dm dm_X9_mustTake 9 rfl) (by decide) ?_ ?_
    · refine qr_iconst o (q_dm dm_X9_mustTake 12 rfl) ic_0 ?_
      exact qr_iret o rfl (by decide) (q_dm dm_X9_mustTake 13 rfl)
    · refine qr_iconst o (q_dm dm_X9_mustTake 10 rfl) ic_1 ?_
      refine qr_goto (tgt := 25) o (q_dm dm_X9_mustTake 11 rfl) (by decide) ?_
      exact qr_iret o rfl (by decide) (q_dm dm_X9_mustTake 13 rfl)

theorem a_X9_mustTake (g : qG) (l : Launch) (n : Nat) (j r : Nat) (hj : q_isLaw j) (hr : q_isLaw r) (a1 : Int32) (M : qM) : qAM g l 2 zX9_mustTake (qL j r) [.inr (some 1), .inl a1] (qL j r, M) (f_X9_mustTake n a1 M) :=
  qAM.of zv_X9_mustTake.1 (by show 2 ≤ 2; decide) (fun k hk o => w_X9_mustTake n j r hj hr o a1 M)
def tb_X4_readFactor : List (Nat × Instr × Nat) := [(0, (.aload_n 0, 1)), (1, (.getfield 18, 3)), (4, (.invokevirtual 49, 3)), (7, (.istore_n 2, 1)), (8, (.iload_n 2, 1)), (9, (.bipush 91, 2)), (11, (.if_icmp .ne 39, 3)), (14, (.aload_n 0, 1)), (15, (.iload_n 1, 1)), (16, (.invokevirtual 89, 3)), (19, (.ifCond .eq 29, 3)), (22, (.aload_n 0, 1)), (23, (.iload_n 1, 1)), (24, (.iconst 1, 1)), (25, (.iadd, 1)), (26, (.invokevirtual 63, 3)), (29, (.ifCond .eq 19, 3)), (32, (.aload_n 0, 1)), (33, (.getfield 18, 3)), (36, (.bipush 93, 2)), (38, (.invokevirtual 66, 3)), (41, (.ifCond .eq 7, 3)), (44, (.iconst 1, 1)), (45, (.goto 4, 3)), (48, (.iconst 0, 1)), (49, (.ireturn, 1)), (50, (.aload_n 0, 1)), (51, (.getfield 18, 3)), (54, (.invokevirtual 98, 3)), (57, (.iconst (-1), 1)), (58, (.if_icmp .eq 8, 3)), (61, (.aload_n 0, 1)), (62, (.invokevirtual 101, 3)), (65, (.ireturn, 1)), (66, (.iconst 0, 1)), (67, (.istore_n 3, 1)), (68, (.iload_n 3, 1)), (69, (.getstatic 104, 3)), (72, (.arraylength, 1)), (73, (.if_icmp .ge 43, 3)), (76, (.getstatic 104, 3)), (79, (.iload_n 3, 1)), (80, (.iaload, 1)), (81, (.iload_n 2, 1)), (82, (.if_icmp .ne 28, 3)), (85, (.aload_n 0, 1)), (86, (.getfield 18, 3)), (89, (.dup, 1)), (90, (.getfield 53, 3)), (93, (.iconst 1, 1)), (94, (.iadd, 1)), (95, (.putfield 53, 3)), (98, (.aload_n 0, 1)), (99, (.getfield 12, 3)), (102, (.iconst 1, 1)), (103, (.iload_n 3, 1)), (104, (.invokevirtual 79, 3)), (107, (.pop, 1)), (108, (.iconst 1, 1)), (109, (.ireturn, 1)), (110, (.iinc 3 1, 3)), (113, (.goto (-45), 3)), (116, (.aload_n 0, 1)), (117, (.getfield 18, 3)), (120, (.iconst 1, 1)), (121, (.aload_n 0, 1)), (122, (.getfield 18, 3)), (125, (.getfield 53, 3)), (128, (.invokevirtual 56, 3)), (131, (.ireturn, 1))]
theorem dm_X4_readFactor : ∀ q ∈ tb_X4_readFactor, decode zX4_readFactor.2.1 q.1 = .ok q.2 := by decide +kernel
def b_X4_readFactor_68 (n : Nat) (r : Nat) (F_X4_readSum : Int32 → qM → qR) (K68 : Int32 → Int32 → qM → qR) (a2 a3 : Int32) (M : qM) : qR :=
  (if (12 : Int32) ≤ a3 then qc (f_X9_fails n (1 : Int32) (M 1 3) M) (fun r1 m2 => qb r1 (some (r1, m2))) else qg a3 12 ((if (q_let a3.toNatClampNeg) = a2 then qlm (mu M 1 3 ((M 1 3) + (1 : Int32))) (fun m4 => qc (f_X3_add n r (1 : Int32) a3 m4) (fun r5 m6 => some ((1 : Int32), m6))) else ql (a3 + (1 : Int32)) (fun x3 => K68 a2 x3 M))))
set_option maxRecDepth 4000 in
theorem wb_X4_readFactor_68 {g : qG} {k : qK} (n : Nat) (j r : Nat) (hj : q_isLaw j) (hr : q_isLaw r) {d1 d : Nat} (hd1 : d1 + 1 ≤ d) (hdn : 3 ≤ d) (F_X4_readSum : Int32 → qM → qR) (hF_X4_readSum : ∀ (b1 : Int32) (M : qM), qAM g k.2.1 d1 zX4_readSum (qL j r) [.inr (some 45), .inl b1] (qL j r, M) (F_X4_readSum b1 M)) (o : qOk g d zX4_readFactor k) (K68 : Int32 → Int32 → qM → qR) (hK68 : ∀ (a2 a3 : Int32) (M : qM), qAE g k zX4_readFactor (qL j r) 68 [some (.inr (some 45)), none, some (.inl a2), some (.inl a3)] [] (qL j r, M) (K68 a2 a3 M)) (a2 a3 : Int32) (M : qM) : qAE g k zX4_readFactor (qL j r) 68 [some (.inr (some 45)), none, some (.inl a2), some (.inl a3)] [] (qL j r, M) (b_X4_readFactor_68 n r F_X4_readSum K68 a2 a3 M) := by
  unfold b_X4_readFactor_68
  refine qr_iload_n o (q_dm dm_X4_readFactor 36 rfl) rfl ?_
  refine qr_gets o rfl (q_dm dm_X4_readFactor 37 rfl) ?_
  refine qr_llen o (q_dm dm_X4_readFactor 38 rfl) ?_
  refine qr_icmp_ge (tgt := 116) o (q_dm dm_X4_readFactor 39 rfl) (by decide) ?_ ?_
  · refine qr_aload_n o (q_dm dm_X4_readFactor 62 rfl) rfl ?_
    refine qr_getr (kf := 0) o cf_X4 (sh45 j r) rfl (Nat.le_of_ble_eq_true rfl) fl_X4_18 (q_dm dm_X4_readFactor 63 rfl) ?_
    refine qr_iconst o (q_dm dm_X4_readFactor 64 rfl) ic_1 ?_
    refine qr_aload_n o (q_dm dm_X4_readFactor 65 rfl) rfl ?_
    refine qr_getr (kf := 0) o cf_X4 (sh45 j r) rfl (Nat.le_of_ble_eq_true rfl) fl_X4_18 (q_dm dm_X4_readFactor 66 rfl) ?_
    refine qr_getf (kf := 3) o cf_X9 (sh1 j r) rfl (Nat.le_of_ble_eq_true rfl) fl_X4_53 (q_dm dm_X4_readFactor 67 rfl) ?_
    refine qr_callv_i (As := [.inl (1 : Int32), .inl (M 1 3)]) (S := []) o (a_X9_fails g k.2.1 n j r hj hr (1 : Int32) (M 1 3) M) (by omega) zv_X9_fails rfl cf_X9 (sh1 j r) ml_X4_56 (Nat.le_of_ble_eq_true rfl) (q_dm dm_X4_readFactor 68 rfl) (fun r1 m2 => ?_)
    exact qr_zret o rfl (q_dm dm_X4_readFactor 69 rfl)
  · refine qr_gets o rfl (q_dm dm_X4_readFactor 40 rfl) ?_
    refine qr_iload_n o (q_dm dm_X4_readFactor 41 rfl) rfl ?_
    refine qr_lald o (q_dm dm_X4_readFactor 42 rfl) ?_
    refine qr_iload_n o (q_dm dm_X4_readFactor 43 rfl) rfl ?_
    refine qr_icmp_ne (tgt := 110) o (q_dm dm_X4_readFactor 44 rfl) (by decide) ?_ ?_
    · refine qs_iincl2 (L' := fun x3 => [some (.inr (some 45)), none, some (.inl a2), some (.inl x3)]) o (q_dm dm_X4_readFactor 60 rfl) rfl ic_1 (Nat.le_of_ble_eq_true rfl) (fun _ => rfl) (fun x3 => ?_)
      refine qr_goto (tgt := 68) o (q_dm dm_X4_readFactor 61 rfl) (by decide) ?_
      exact qr_loc (q_leS (q_leN (q_leS (q_leS q_le0)))) (hK68 a2 x3 M)
    · refine qr_aload_n o (q_dm dm_X4_readFactor 45 rfl) rfl ?_
      refine qr_getr (kf := 0) o cf_X4 (sh45 j r) rfl (Nat.le_of_ble_eq_true rfl) fl_X4_18 (q_dm dm_X4_readFactor 46 rfl) ?_
      refine qr_dup o (q_dm dm_X4_readFactor 47 rfl) ?_
      refine qr_getf (kf := 3) o cf_X9 (sh1 j r) rfl (Nat.le_of_ble_eq_true rfl) fl_X4_53 (q_dm dm_X4_readFactor 48 rfl) ?_
      refine qr_iconst o (q_dm dm_X4_readFactor 49 rfl) ic_1 ?_
      refine qr_iadd o (q_dm dm_X4_readFactor 50 rfl) ?_
      refine qr_putf (kf := 3) o cf_X9 (sh1 j r) rfl (Nat.le_of_ble_eq_true rfl) fl_X4_53 rfl (by decide +kernel) (q_dm dm_X4_readFactor 51 rfl) ?_
      refine qr_letm (fun m4 => ?_)
      refine qr_aload_n o (q_dm dm_X4_readFactor 52 rfl) rfl ?_
      refine qr_getr (kf := 1) o cf_X4 (sh45 j r) rfl (Nat.le_of_ble_eq_true rfl) fl_X4_12 (q_dm dm_X4_readFactor 53 rfl) ?_
      refine qr_iconst o (q_dm dm_X4_readFactor 54 rfl) ic_1 ?_
      refine qr_iload_n o (q_dm dm_X4_readFactor 55 rfl) rfl ?_
      refine qr_callv_i (As := [.inl (1 : Int32), .inl a3]) (S := []) o (a_X3_add g k.2.1 n j r hj hr hr (1 : Int32) a3 m4) (by omega) zv_X3_add rfl cf_X3 (shW0 j r hr) ml_X4_79 (Nat.le_of_ble_eq_true rfl) (q_dm dm_X4_readFactor 56 rfl) (fun r5 m6 => ?_)
      refine qr_pop o (q_dm dm_X4_readFactor 57 rfl) ?_
      refine qr_iconst o (q_dm dm_X4_readFactor 58 rfl) ic_1 ?_
      exact qr_iret o rfl (by decide) (q_dm dm_X4_readFactor 59 rfl)

def f_X4_readFactor_68 (n : Nat) (r : Nat) (F_X4_readSum : Int32 → qM → qR) : Nat → Int32 → Int32 → qM → qR
  | 0, _, _, _ => none
  | m + 1, a2, a3, M => b_X4_readFactor_68 n r F_X4_readSum (f_X4_readFactor_68 n r F_X4_readSum m) a2 a3 M
theorem w_X4_readFactor_68 {g : qG} {k : qK} (n : Nat) (j r : Nat) (hj : q_isLaw j) (hr : q_isLaw r) {d1 d : Nat} (hd1 : d1 + 1 ≤ d) (hdn : 3 ≤ d) (F_X4_readSum : Int32 → qM → qR) (hF_X4_readSum : ∀ (b1 : Int32) (M : qM), qAM g k.2.1 d1 zX4_readSum (qL j r) [.inr (some 45), .inl b1] (qL j r, M) (F_X4_readSum b1 M)) (o : qOk g d zX4_readFactor k) : ∀ (m : Nat) (a2 a3 : Int32) (M : qM), qAE g k zX4_readFactor (qL j r) 68 [some (.inr (some 45)), none, some (.inl a2), some (.inl a3)] [] (qL j r, M) (f_X4_readFactor_68 n r F_X4_readSum m a2 a3 M) := by
  intro m
  induction m with
  | zero =>
    intro a2 a3 M
    exact qr_none
  | succ m ih =>
    intro a2 a3 M
    exact wb_X4_readFactor_68 n j r hj hr hd1 hdn F_X4_readSum hF_X4_readSum o (f_X4_readFactor_68 n r F_X4_readSum m) ih a2 a3 M
def fo_X4_readFactor (n : Nat) (r : Nat) (F_X4_readSum : Int32 → qM → qR) (a1 : Int32) (M : qM) : qR :=
  qc (f_X9_sign n  M) (fun r1 m2 => (if r1 = (91 : Int32) then qc (f_X4_opens n a1 m2) (fun r7 m8 => (if r7 = (0 : Int32) then some ((0 : Int32), m8) else qc (F_X4_readSum (a1 + (1 : Int32)) m8) (fun r9 m10 => (if r9 = (0 : Int32) then some ((0 : Int32), m10) else qc (f_X9_mustTake n (93 : Int32) m10) (fun r11 m12 => (if r11 = (0 : Int32) then some ((0 : Int32), m12) else some ((1 : Int32), m12))))))) else qc (f_X9_digit n  m2) (fun r3 m4 => (if r3 = (-1 : Int32) then f_X4_readFactor_68 n r F_X4_readSum n r1 (0 : Int32) m4 else qc (f_X4_readNumber n r m4) (fun r5 m6 => qb r5 (some (r5, m6)))))))
set_option maxRecDepth 4000 in
theorem w_X4_readFactor {g : qG} {k : qK} (n : Nat) (j r : Nat) (hj : q_isLaw j) (hr : q_isLaw r) {d1 d : Nat} (hd1 : d1 + 1 ≤ d) (hdn : 3 ≤ d) (F_X4_readSum : Int32 → qM → qR) (hF_X4_readSum : ∀ (b1 : Int32) (M : qM), qAM g k.2.1 d1 zX4_readSum (qL j r) [.inr (some 45), .inl b1] (qL j r, M) (F_X4_readSum b1 M)) (o : qOk g d zX4_readFactor k) (a1 : Int32) (M : qM) : qAE g k zX4_readFactor (qL j r) 0 [some (.inr (some 45)), some (.inl a1), none, none] [] (qL j r, M) (fo_X4_readFactor n r F_X4_readSum a1 M) := by
  unfold fo_X4_readFactor
  refine qr_aload_n o (q_dm dm_X4_readFactor 0 rfl) rfl ?_
  refine qr_getr (kf := 0) o cf_X4 (sh45 j r) rfl (Nat.le_of_ble_eq_true rfl) fl_X4_18 (q_dm dm_X4_readFactor 1 rfl) ?_
  refine qr_callv_i (As := []) (S := []) o (a_X9_sign g k.2.1 n j r hj hr  M) (by omega) zv_X9_sign rfl cf_X9 (sh1 j r) ml_X4_49 (Nat.le_of_ble_eq_true rfl) (q_dm dm_X4_readFactor 2 rfl) (fun r1 m2 => ?_)
  refine qs_istore_n (L' := [some (.inr (some 45)), some (.inl a1), some (.inl r1), none]) o (q_dm dm_X4_readFactor 3 rfl) (Nat.le_of_ble_eq_true rfl) rfl ?_
  refine qr_iload_n o (q_dm dm_X4_readFactor 4 rfl) rfl ?_
  refine qr_bipush o (q_dm dm_X4_readFactor 5 rfl) bi_91 ?_
  refine qr_icmp_ne (tgt := 50) o (q_dm dm_X4_readFactor 6 rfl) (by decide) ?_ ?_
  · refine qr_aload_n o (q_dm dm_X4_readFactor 26 rfl) rfl ?_
    refine qr_getr (kf := 0) o cf_X4 (sh45 j r) rfl (Nat.le_of_ble_eq_true rfl) fl_X4_18 (q_dm dm_X4_readFactor 27 rfl) ?_
    refine qr_callv_i (As := []) (S := []) o (a_X9_digit g k.2.1 n j r hj hr  m2) (by omega) zv_X9_digit rfl cf_X9 (sh1 j r) ml_X4_98 (Nat.le_of_ble_eq_true rfl) (q_dm dm_X4_readFactor 28 rfl) (fun r3 m4 => ?_)
    refine qr_iconst o (q_dm dm_X4_readFactor 29 rfl) ic_m1 ?_
    refine qr_icmp_eq (tgt := 66) o (q_dm dm_X4_readFactor 30 rfl) (by decide) ?_ ?_
    · refine qr_iconst o (q_dm dm_X4_readFactor 34 rfl) ic_0 ?_
      refine qs_istore_n (L' := [some (.inr (some 45)), some (.inl a1), some (.inl r1), some (.inl (0 : Int32))]) o (q_dm dm_X4_readFactor 35 rfl) (Nat.le_of_ble_eq_true rfl) rfl ?_
      exact qr_loc (q_leS (q_leN (q_leS (q_leS q_le0)))) (w_X4_readFactor_68 n j r hj hr hd1 hdn F_X4_readSum hF_X4_readSum o n r1 (0 : Int32) m4)
    · refine qr_aload_n o (q_dm dm_X4_readFactor 31 rfl) rfl ?_
      refine qr_callv_i (As := []) (S := []) o (a_X4_readNumber g k.2.1 n j r hj hr  m4) (by omega) zv_X4_readNumber rfl cf_X4 (sh45 j r) ml_X4_101 (Nat.le_of_ble_eq_true rfl) (q_dm dm_X4_readFactor 32 rfl) (fun r5 m6 => ?_)
      exact qr_zret o rfl (q_dm dm_X4_readFactor 33 rfl)
  · refine qr_aload_n o (q_dm dm_X4_readFactor 7 rfl) rfl ?_
    refine qr_iload_n o (q_dm dm_X4_readFactor 8 rfl) rfl ?_
    refine qr_callv_i (As := [.inl a1]) (S := []) o (a_X4_opens g k.2.1 n j r hj hr a1 m2) (by omega) zv_X4_opens rfl cf_X4 (sh45 j r) ml_X4_89 (Nat.le_of_ble_eq_true rfl) (q_dm dm_X4_readFactor 9 rfl) (fun r7 m8 => ?_)
    refine qr_if_eq (tgt := 48) o (q_dm dm_X4_readFactor 10 rfl) (by decide) ?_ ?_
    · refine qr_iconst o (q_dm dm_X4_readFactor 24 rfl) ic_0 ?_
      exact qr_iret o rfl (by decide) (q_dm dm_X4_readFactor 25 rfl)
    · refine qr_aload_n o (q_dm dm_X4_readFactor 11 rfl) rfl ?_
      refine qr_iload_n o (q_dm dm_X4_readFactor 12 rfl) rfl ?_
      refine qr_iconst o (q_dm dm_X4_readFactor 13 rfl) ic_1 ?_
      refine qr_iadd o (q_dm dm_X4_readFactor 14 rfl) ?_
      refine qr_callv_i (As := [.inl (a1 + (1 : Int32))]) (S := []) o (hF_X4_readSum (a1 + (1 : Int32)) m8) (by omega) zv_X4_readSum rfl cf_X4 (sh45 j r) ml_X4_63 (Nat.le_of_ble_eq_true rfl) (q_dm dm_X4_readFactor 15 rfl) (fun r9 m10 => ?_)
      refine qr_if_eq (tgt := 48) o (q_dm dm_X4_readFactor 16 rfl) (by decide) ?_ ?_
      · refine qr_iconst o (q_dm dm_X4_readFactor 24 rfl) ic_0 ?_
        exact qr_iret o rfl (by decide) (q_dm dm_X4_readFactor 25 rfl)
      · refine qr_aload_n o (q_dm dm_X4_readFactor 17 rfl) rfl ?_
        refine qr_getr (kf := 0) o cf_X4 (sh45 j r) rfl (Nat.le_of_ble_eq_true rfl) fl_X4_18 (q_dm dm_X4_readFactor 18 rfl) ?_
        refine qr_bipush o (q_dm dm_X4_readFactor 19 rfl) bi_93 ?_
        refine qr_callv_i (As := [.inl (93 : Int32)]) (S := []) o (a_X9_mustTake g k.2.1 n j r hj hr (93 : Int32) m10) (by omega) zv_X9_mustTake rfl cf_X9 (sh1 j r) ml_X4_66 (Nat.le_of_ble_eq_true rfl) (q_dm dm_X4_readFactor 20 rfl) (fun r11 m12 => ?_)
        refine qr_if_eq (tgt := 48) o (q_dm dm_X4_readFactor 21 rfl) (by decide) ?_ ?_
        · refine qr_iconst o (q_dm dm_X4_readFactor 24 rfl) ic_0 ?_
          exact qr_iret o rfl (by decide) (q_dm dm_X4_readFactor 25 rfl)
        · refine qr_iconst o (q_dm dm_X4_readFactor 22 rfl) ic_1 ?_
          refine qr_goto (tgt := 49) o (q_dm dm_X4_readFactor 23 rfl) (by decide) ?_
          exact qr_iret o rfl (by decide) (q_dm dm_X4_readFactor 25 rfl)

theorem ao_X4_readFactor (g : qG) (l : Launch) (n : Nat) (j r : Nat) (hj : q_isLaw j) (hr : q_isLaw r) {d1 d : Nat} (hd1 : d1 + 1 ≤ d) (hdn : 3 ≤ d) (F_X4_readSum : Int32 → qM → qR) (hF_X4_readSum : ∀ (b1 : Int32) (M : qM), qAM g l d1 zX4_readSum (qL j r) [.inr (some 45), .inl b1] (qL j r, M) (F_X4_readSum b1 M)) (a1 : Int32) (M : qM) : qAM g l d zX4_readFactor (qL j r) [.inr (some 45), .inl a1] (qL j r, M) (fo_X4_readFactor n r F_X4_readSum a1 M) :=
  qAM.of zv_X4_readFactor.1 (by show 2 ≤ 4; decide) (fun k hk o => by subst hk; exact w_X4_readFactor n j r hj hr hd1 hdn F_X4_readSum hF_X4_readSum o a1 M)
def tb_X4_readProduct : List (Nat × Instr × Nat) := [(0, (.aload_n 0, 1)), (1, (.iload_n 1, 1)), (2, (.invokevirtual 95, 3)), (5, (.istore_n 2, 1)), (6, (.iconst 0, 1)), (7, (.istore_n 3, 1)), (8, (.iload_n 3, 1)), (9, (.sipush 240, 3)), (12, (.if_icmp .ge 75, 3)), (15, (.iload_n 2, 1)), (16, (.ifCond .eq 71, 3)), (19, (.aload_n 0, 1)), (20, (.getfield 18, 3)), (23, (.invokevirtual 49, 3)), (26, (.istore 4, 2)), (28, (.iload 4, 2)), (30, (.bipush 42, 2)), (32, (.if_icmp .eq 19, 3)), (35, (.iload 4, 2)), (37, (.bipush 47, 2)), (39, (.if_icmp .eq 12, 3)), (42, (.iload 4, 2)), (44, (.bipush 37, 2)), (46, (.if_icmp .eq 5, 3)), (49, (.iconst 1, 1)), (50, (.ireturn, 1)), (51, (.aload_n 0, 1)), (52, (.getfield 18, 3)), (55, (.dup, 1)), (56, (.getfield 53, 3)), (59, (.iconst 1, 1)), (60, (.iadd, 1)), (61, (.putfield 53, 3)), (64, (.aload_n 0, 1)), (65, (.iload_n 1, 1)), (66, (.invokevirtual 95, 3)), (69, (.istore_n 2, 1)), (70, (.aload_n 0, 1)), (71, (.getfield 12, 3)), (74, (.iload 4, 2)), (76, (.iconst 0, 1)), (77, (.invokevirtual 79, 3)), (80, (.pop, 1)), (81, (.iinc 3 1, 3)), (84, (.goto (-76), 3)), (87, (.iload_n 2, 1)), (88, (.ireturn, 1))]
theorem dm_X4_readProduct : ∀ q ∈ tb_X4_readProduct, decode zX4_readProduct.2.1 q.1 = .ok q.2 := by decide +kernel
def f_X4_readProduct_51 (n : Nat) (r : Nat) (F_X4_readFactor : Int32 → qM → qR) (K8 : Int32 → Int32 → Int32 → qM → qR) (a1 a3 a4 : Int32) (M : qM) : qR :=
  qlm (mu M 1 3 ((M 1 3) + (1 : Int32))) (fun m1 => qc (F_X4_readFactor a1 m1) (fun r2 m3 => qc (f_X3_add n r a4 (0 : Int32) m3) (fun r4 m5 => ql (a3 + (1 : Int32)) (fun x6 => K8 a1 r2 x6 m5))))
set_option maxRecDepth 4000 in
theorem w_X4_readProduct_51 {g : qG} {k : qK} (n : Nat) (j r : Nat) (hj : q_isLaw j) (hr : q_isLaw r) {d1 d : Nat} (hd1 : d1 + 1 ≤ d) (hdn : 3 ≤ d) (F_X4_readFactor : Int32 → qM → qR) (hF_X4_readFactor : ∀ (b1 : Int32) (M : qM), qAM g k.2.1 d1 zX4_readFactor (qL j r) [.inr (some 45), .inl b1] (qL j r, M) (F_X4_readFactor b1 M)) (o : qOk g d zX4_readProduct k) (K8 : Int32 → Int32 → Int32 → qM → qR) (hK8 : ∀ (a1 a2 a3 : Int32) (M : qM), qAE g k zX4_readProduct (qL j r) 8 [some (.inr (some 45)), some (.inl a1), some (.inl a2), some (.inl a3), none] [] (qL j r, M) (K8 a1 a2 a3 M)) (a1 a3 a4 : Int32) (M : qM) : qAE g k zX4_readProduct (qL j r) 51 [some (.inr (some 45)), some (.inl a1), none, some (.inl a3), some (.inl a4)] [] (qL j r, M) (f_X4_readProduct_51 n r F_X4_readFactor K8 a1 a3 a4 M) := by
  unfold f_X4_readProduct_51
  refine qr_aload_n o (q_dm dm_X4_readProduct 26 rfl) rfl ?_
  refine qr_getr (kf := 0) o cf_X4 (sh45 j r) rfl (Nat.le_of_ble_eq_true rfl) fl_X4_18 (q_dm dm_X4_readProduct 27 rfl) ?_
  refine qr_dup o (q_dm dm_X4_readProduct 28 rfl) ?_
  refine qr_getf (kf := 3) o cf_X9 (sh1 j r) rfl (Nat.le_of_ble_eq_true rfl) fl_X4_53 (q_dm dm_X4_readProduct 29 rfl) ?_
  refine qr_iconst o (q_dm dm_X4_readProduct 30 rfl) ic_1 ?_
  refine qr_iadd o (q_dm dm_X4_readProduct 31 rfl) ?_
  refine qr_putf (kf := 3) o cf_X9 (sh1 j r) rfl (Nat.le_of_ble_eq_true rfl) fl_X4_53 rfl (by decide +kernel) (q_dm dm_X4_readProduct 32 rfl) ?_
  refine qr_letm (fun m1 => ?_)
  refine qr_aload_n o (q_dm dm_X4_readProduct 33 rfl) rfl ?_
  refine qr_iload_n o (q_dm dm_X4_readProduct 34 rfl) rfl ?_
  refine qr_callv_i (As := [.inl a1]) (S := []) o (hF_X4_readFactor a1 m1) (by omega) zv_X4_readFactor rfl cf_X4 (sh45 j r) ml_X4_95 (Nat.le_of_ble_eq_true rfl) (q_dm dm_X4_readProduct 35 rfl) (fun r2 m3 => ?_)
  refine qs_istore_n (L' := [some (.inr (some 45)), some (.inl a1), some (.inl r2), some (.inl a3), some (.inl a4)]) o (q_dm dm_X4_readProduct 36 rfl) (Nat.le_of_ble_eq_true rfl) rfl ?_
  refine qr_aload_n o (q_dm dm_X4_readProduct 37 rfl) rfl ?_
  refine qr_getr (kf := 1) o cf_X4 (sh45 j r) rfl (Nat.le_of_ble_eq_true rfl) fl_X4_12 (q_dm dm_X4_readProduct 38 rfl) ?_
  refine qr_iload o (q_dm dm_X4_readProduct 39 rfl) rfl ?_
  refine qr_iconst o (q_dm dm_X4_readProduct 40 rfl) ic_0 ?_
  refine qr_callv_i (As := [.inl a4, .inl (0 : Int32)]) (S := []) o (a_X3_add g k.2.1 n j r hj hr hr a4 (0 : Int32) m3) (by omega) zv_X3_add rfl cf_X3 (shW0 j r hr) ml_X4_79 (Nat.le_of_ble_eq_true rfl) (q_dm dm_X4_readProduct 41 rfl) (fun r4 m5 => ?_)
  refine qr_pop o (q_dm dm_X4_readProduct 42 rfl) ?_
  refine qs_iincl2 (L' := fun x6 => [some (.inr (some 45)), some (.inl a1), some (.inl r2), some (.inl x6), some (.inl a4)]) o (q_dm dm_X4_readProduct 43 rfl) rfl ic_1 (Nat.le_of_ble_eq_true rfl) (fun _ => rfl) (fun x6 => ?_)
  refine qr_goto (tgt := 8) o (q_dm dm_X4_readProduct 44 rfl) (by decide) ?_
  exact qr_loc (q_leS (q_leS (q_leS (q_leS (q_leN q_le0))))) (hK8 a1 r2 x6 m5)

def b_X4_readProduct_8 (n : Nat) (r : Nat) (F_X4_readFactor : Int32 → qM → qR) (K8 : Int32 → Int32 → Int32 → qM → qR) (a1 a2 a3 : Int32) (M : qM) : qR :=
  (if (240 : Int32) ≤ a3 then qb a2 (some (a2, M)) else (if a2 = (0 : Int32) then qb a2 (some (a2, M)) else qc (f_X9_sign n  M) (fun r1 m2 => (if r1 = (42 : Int32) then f_X4_readProduct_51 n r F_X4_readFactor K8 a1 a3 r1 m2 else (if r1 = (47 : Int32) then f_X4_readProduct_51 n r F_X4_readFactor K8 a1 a3 r1 m2 else (if r1 = (37 : Int32) then f_X4_readProduct_51 n r F_X4_readFactor K8 a1 a3 r1 m2 else some ((1 : Int32), m2)))))))
set_option maxRecDepth 4000 in
theorem wb_X4_readProduct_8 {g : qG} {k : qK} (n : Nat) (j r : Nat) (hj : q_isLaw j) (hr : q_isLaw r) {d1 d : Nat} (hd1 : d1 + 1 ≤ d) (hdn : 3 ≤ d) (F_X4_readFactor : Int32 → qM → qR) (hF_X4_readFactor : ∀ (b1 : Int32) (M : qM), qAM g k.2.1 d1 zX4_readFactor (qL j r) [.inr (some 45), .inl b1] (qL j r, M) (F_X4_readFactor b1 M)) (o : qOk g d zX4_readProduct k) (K8 : Int32 → Int32 → Int32 → qM → qR) (hK8 : ∀ (a1 a2 a3 : Int32) (M : qM), qAE g k zX4_readProduct (qL j r) 8 [some (.inr (some 45)), some (.inl a1), some (.inl a2), some (.inl a3), none] [] (qL j r, M) (K8 a1 a2 a3 M)) (a1 a2 a3 : Int32) (M : qM) : qAE g k zX4_readProduct (qL j r) 8 [some (.inr (some 45)), some (.inl a1), some (.inl a2), some (.inl a3), none] [] (qL j r, M) (b_X4_readProduct_8 n r F_X4_readFactor K8 a1 a2 a3 M) := by
  unfold b_X4_readProduct_8
  refine qr_iload_n o (q_dm dm_X4_readProduct 6 rfl) rfl ?_
  refine qr_sipush o (q_dm dm_X4_readProduct 7 rfl) si_240 ?_
  refine qr_icmp_ge (tgt := 87) o (q_dm dm_X4_readProduct 8 rfl) (by decide) ?_ ?_
  · refine qr_iload_n o (q_dm dm_X4_readProduct 45 rfl) rfl ?_
    exact qr_zret o rfl (q_dm dm_X4_readProduct 46 rfl)
  · refine qr_iload_n o (q_dm dm_X4_readProduct 9 rfl) rfl ?_
    refine qr_if_eq (tgt := 87) o (q_dm dm_X4_readProduct 10 rfl) (by decide) ?_ ?_
    · refine qr_iload_n o (q_dm dm_X4_readProduct 45 rfl) rfl ?_
      exact qr_zret o rfl (q_dm dm_X4_readProduct 46 rfl)
    · refine qr_aload_n o (q_dm dm_X4_readProduct 11 rfl) rfl ?_
      refine qr_getr (kf := 0) o cf_X4 (sh45 j r) rfl (Nat.le_of_ble_eq_true rfl) fl_X4_18 (q_dm dm_X4_readProduct 12 rfl) ?_
      refine qr_callv_i (As := []) (S := []) o (a_X9_sign g k.2.1 n j r hj hr  M) (by omega) zv_X9_sign rfl cf_X9 (sh1 j r) ml_X4_49 (Nat.le_of_ble_eq_true rfl) (q_dm dm_X4_readProduct 13 rfl) (fun r1 m2 => ?_)
      refine qs_istore (L' := [some (.inr (some 45)), some (.inl a1), some (.inl a2), some (.inl a3), some (.inl r1)]) o (q_dm dm_X4_readProduct 14 rfl) (Nat.le_of_ble_eq_true rfl) rfl ?_
      refine qr_iload o (q_dm dm_X4_readProduct 15 rfl) rfl ?_
      refine qr_bipush o (q_dm dm_X4_readProduct 16 rfl) bi_42 ?_
      refine qr_icmp_eq (tgt := 51) o (q_dm dm_X4_readProduct 17 rfl) (by decide) ?_ ?_
      · exact qr_loc (q_leS (q_leS (q_leN (q_leS (q_leS q_le0))))) (w_X4_readProduct_51 n j r hj hr hd1 hdn F_X4_readFactor hF_X4_readFactor o K8 hK8 a1 a3 r1 m2)
      · refine qr_iload o (q_dm dm_X4_readProduct 18 rfl) rfl ?_
        refine qr_bipush o (q_dm dm_X4_readProduct 19 rfl) bi_47 ?_
        refine qr_icmp_eq (tgt := 51) o (q_dm dm_X4_readProduct 20 rfl) (by decide) ?_ ?_
        · exact qr_loc (q_leS (q_leS (q_leN (q_leS (q_leS q_le0))))) (w_X4_readProduct_51 n j r hj hr hd1 hdn F_X4_readFactor hF_X4_readFactor o K8 hK8 a1 a3 r1 m2)
        · refine qr_iload o (q_dm dm_X4_readProduct 21 rfl) rfl ?_
          refine qr_bipush o (q_dm dm_X4_readProduct 22 rfl) bi_37 ?_
          refine qr_icmp_eq (tgt := 51) o (q_dm dm_X4_readProduct 23 rfl) (by decide) ?_ ?_
          · exact qr_loc (q_leS (q_leS (q_leN (q_leS (q_leS q_le0))))) (w_X4_readProduct_51 n j r hj hr hd1 hdn F_X4_readFactor hF_X4_readFactor o K8 hK8 a1 a3 r1 m2)
          · refine qr_iconst o (q_dm dm_X4_readProduct 24 rfl) ic_1 ?_
            exact qr_iret o rfl (by decide) (q_dm dm_X4_readProduct 25 rfl)

def f_X4_readProduct_8 (n : Nat) (r : Nat) (F_X4_readFactor : Int32 → qM → qR) : Nat → Int32 → Int32 → Int32 → qM → qR
  | 0, _, _, _, _ => none
  | m + 1, a1, a2, a3, M => b_X4_readProduct_8 n r F_X4_readFactor (f_X4_readProduct_8 n r F_X4_readFactor m) a1 a2 a3 M
theorem w_X4_readProduct_8 {g : qG} {k : qK} (n : Nat) (j r : Nat) (hj : q_isLaw j) (hr : q_isLaw r) {d1 d : Nat} (hd1 : d1 + 1 ≤ d) (hdn : 3 ≤ d) (F_X4_readFactor : Int32 → qM → qR) (hF_X4_readFactor : ∀ (b1 : Int32) (M : qM), qAM g k.2.1 d1 zX4_readFactor (qL j r) [.inr (some 45), .inl b1] (qL j r, M) (F_X4_readFactor b1 M)) (o : qOk g d zX4_readProduct k) : ∀ (m : Nat) (a1 a2 a3 : Int32) (M : qM), qAE g k zX4_readProduct (qL j r) 8 [some (.inr (some 45)), some (.inl a1), some (.inl a2), some (.inl a3), none] [] (qL j r, M) (f_X4_readProduct_8 n r F_X4_readFactor m a1 a2 a3 M) := by
  intro m
  induction m with
  | zero =>
    intro a1 a2 a3 M
    exact qr_none
  | succ m ih =>
    intro a1 a2 a3 M
    exact wb_X4_readProduct_8 n j r hj hr hd1 hdn F_X4_readFactor hF_X4_readFactor o (f_X4_readProduct_8 n r F_X4_readFactor m) ih a1 a2 a3 M
def fo_X4_readProduct (n : Nat) (r : Nat) (F_X4_readFactor : Int32 → qM → qR) (a1 : Int32) (M : qM) : qR :=
  qc (F_X4_readFactor a1 M) (fun r1 m2 => f_X4_readProduct_8 n r F_X4_readFactor n a1 r1 (0 : Int32) m2)
set_option maxRecDepth 4000 in
theorem w_X4_readProduct {g : qG} {k : qK} (n : Nat) (j r : Nat) (hj : q_isLaw j) (hr : q_isLaw r) {d1 d : Nat} (hd1 : d1 + 1 ≤ d) (hdn : 3 ≤ d) (F_X4_readFactor : Int32 → qM → qR) (hF_X4_readFactor : ∀ (b1 : Int32) (M : qM), qAM g k.2.1 d1 zX4_readFactor (qL j r) [.inr (some 45), .inl b1] (qL j r, M) (F_X4_readFactor b1 M)) (o : qOk g d zX4_readProduct k) (a1 : Int32) (M : qM) : qAE g k zX4_readProduct (qL j r) 0 [some (.inr (some 45)), some (.inl a1), none, none, none] [] (qL j r, M) (fo_X4_readProduct n r F_X4_readFactor a1 M) := by
  unfold fo_X4_readProduct
  refine qr_aload_n o (q_dm dm_X4_readProduct 0 rfl) rfl ?_
  refine qr_iload_n o (q_dm dm_X4_readProduct 1 rfl) rfl ?_
  refine qr_callv_i (As := [.inl a1]) (S := []) o (hF_X4_readFactor a1 M) (by omega) zv_X4_readFactor rfl cf_X4 (sh45 j r) ml_X4_95 (Nat.le_of_ble_eq_true rfl) (q_dm dm_X4_readProduct 2 rfl) (fun r1 m2 => ?_)
  refine qs_istore_n (L' := [some (.inr (some 45)), some (.inl a1), some (.inl r1), none, none]) o (q_dm dm_X4_readProduct 3 rfl) (Nat.le_of_ble_eq_true rfl) rfl ?_
  refine qr_iconst o (q_dm dm_X4_readProduct 4 rfl) ic_0 ?_
  refine qs_istore_n (L' := [some (.inr (some 45)), some (.inl a1), some (.inl r1), some (.inl (0 : Int32)), none]) o (q_dm dm_X4_readProduct 5 rfl) (Nat.le_of_ble_eq_true rfl) rfl ?_
  exact qr_loc (q_leS (q_leS (q_leS (q_leS (q_leN q_le0))))) (w_X4_readProduct_8 n j r hj hr hd1 hdn F_X4_readFactor hF_X4_readFactor o n a1 r1 (0 : Int32) m2)

theorem ao_X4_readProduct (g : qG) (l : Launch) (n : Nat) (j r : Nat) (hj : q_isLaw j) (hr : q_isLaw r) {d1 d : Nat} (hd1 : d1 + 1 ≤ d) (hdn : 3 ≤ d) (F_X4_readFactor : Int32 → qM → qR) (hF_X4_readFactor : ∀ (b1 : Int32) (M : qM), qAM g l d1 zX4_readFactor (qL j r) [.inr (some 45), .inl b1] (qL j r, M) (F_X4_readFactor b1 M)) (a1 : Int32) (M : qM) : qAM g l d zX4_readProduct (qL j r) [.inr (some 45), .inl a1] (qL j r, M) (fo_X4_readProduct n r F_X4_readFactor a1 M) :=
  qAM.of zv_X4_readProduct.1 (by show 2 ≤ 5; decide) (fun k hk o => by subst hk; exact w_X4_readProduct n j r hj hr hd1 hdn F_X4_readFactor hF_X4_readFactor o a1 M)
def tb_X4_readSum : List (Nat × Instr × Nat) := [(0, (.aload_n 0, 1)), (1, (.iload_n 1, 1)), (2, (.invokevirtual 92, 3)), (5, (.istore_n 2, 1)), (6, (.iconst 0, 1)), (7, (.istore_n 3, 1)), (8, (.iload_n 3, 1)), (9, (.sipush 240, 3)), (12, (.if_icmp .ge 68, 3)), (15, (.iload_n 2, 1)), (16, (.ifCond .eq 64, 3)), (19, (.aload_n 0, 1)), (20, (.getfield 18, 3)), (23, (.invokevirtual 49, 3)), (26, (.istore 4, 2)), (28, (.iload 4, 2)), (30, (.bipush 43, 2)), (32, (.if_icmp .eq 12, 3)), (35, (.iload 4, 2)), (37, (.bipush 45, 2)), (39, (.if_icmp .eq 5, 3)), (42, (.iconst 1, 1)), (43, (.ireturn, 1)), (44, (.aload_n 0, 1)), (45, (.getfield 18, 3)), (48, (.dup, 1)), (49, (.getfield 53, 3)), (52, (.iconst 1, 1)), (53, (.iadd, 1)), (54, (.putfield 53, 3)), (57, (.aload_n 0, 1)), (58, (.iload_n 1, 1)), (59, (.invokevirtual 92, 3)), (62, (.istore_n 2, 1)), (63, (.aload_n 0, 1)), (64, (.getfield 12, 3)), (67, (.iload 4, 2)), (69, (.iconst 0, 1)), (70, (.invokevirtual 79, 3)), (73, (.pop, 1)), (74, (.iinc 3 1, 3)), (77, (.goto (-69), 3)), (80, (.iload_n 2, 1)), (81, (.ireturn, 1))]
theorem dm_X4_readSum : ∀ q ∈ tb_X4_readSum, decode zX4_readSum.2.1 q.1 = .ok q.2 := by decide +kernel
def f_X4_readSum_44 (n : Nat) (r : Nat) (F_X4_readProduct : Int32 → qM → qR) (K8 : Int32 → Int32 → Int32 → qM → qR) (a1 a3 a4 : Int32) (M : qM) : qR :=
  qlm (mu M 1 3 ((M 1 3) + (1 : Int32))) (fun m1 => qc (F_X4_readProduct a1 m1) (fun r2 m3 => qc (f_X3_add n r a4 (0 : Int32) m3) (fun r4 m5 => ql (a3 + (1 : Int32)) (fun x6 => K8 a1 r2 x6 m5))))
set_option maxRecDepth 4000 in
theorem w_X4_readSum_44 {g : qG} {k : qK} (n : Nat) (j r : Nat) (hj : q_isLaw j) (hr : q_isLaw r) {d1 d : Nat} (hd1 : d1 + 1 ≤ d) (hdn : 3 ≤ d) (F_X4_readProduct : Int32 → qM → qR) (hF_X4_readProduct : ∀ (b1 : Int32) (M : qM), qAM g k.2.1 d1 zX4_readProduct (qL j r) [.inr (some 45), .inl b1] (qL j r, M) (F_X4_readProduct b1 M)) (o : qOk g d zX4_readSum k) (K8 : Int32 → Int32 → Int32 → qM → qR) (hK8 : ∀ (a1 a2 a3 : Int32) (M : qM), qAE g k zX4_readSum (qL j r) 8 [some (.inr (some 45)), some (.inl a1), some (.inl a2), some (.inl a3), none] [] (qL j r, M) (K8 a1 a2 a3 M)) (a1 a3 a4 : Int32) (M : qM) : qAE g k zX4_readSum (qL j r) 44 [some (.inr (some 45)), some (.inl a1), none, some (.inl a3), some (.inl a4)] [] (qL j r, M) (f_X4_readSum_44 n r F_X4_readProduct K8 a1 a3 a4 M) := by
  unfold f_X4_readSum_44
  refine qr_aload_n o (q_dm dm_X4_readSum 23 rfl) rfl ?_
  refine qr_getr (kf := 0) o cf_X4 (sh45 j r) rfl (Nat.le_of_ble_eq_true rfl) fl_X4_18 (q_dm dm_X4_readSum 24 rfl) ?_
  refine qr_dup o (q_dm dm_X4_readSum 25 rfl) ?_
  refine qr_getf (kf := 3) o cf_X9 (sh1 j r) rfl (Nat.le_of_ble_eq_true rfl) fl_X4_53 (q_dm dm_X4_readSum 26 rfl) ?_
  refine qr_iconst o (q_dm dm_X4_readSum 27 rfl) ic_1 ?_
  refine qr_iadd o (q_dm dm_X4_readSum 28 rfl) ?_
  refine qr_putf (kf := 3) o cf_X9 (sh1 j r) rfl (Nat.le_of_ble_eq_true rfl) fl_X4_53 rfl (by decide +kernel) (q_dm dm_X4_readSum 29 rfl) ?_
  refine qr_letm (fun m1 => ?_)
  refine qr_aload_n o (q_dm dm_X4_readSum 30 rfl) rfl ?_
  refine qr_iload_n o (q_dm dm_X4_readSum 31 rfl) rfl ?_
  refine qr_callv_i (As := [.inl a1]) (S := []) o (hF_X4_readProduct a1 m1) (by omega) zv_X4_readProduct rfl cf_X4 (sh45 j r) ml_X4_92 (Nat.le_of_ble_eq_true rfl) (q_dm dm_X4_readSum 32 rfl) (fun r2 m3 => ?_)
  refine qs_istore_n (L' := [some (.inr (some 45)), some (.inl a1), some (.inl r2), some (.inl a3), some (.inl a4)]) o (q_dm dm_X4_readSum 33 rfl) (Nat.le_of_ble_eq_true rfl) rfl ?_
  refine qr_aload_n o (q_dm dm_X4_readSum 34 rfl) rfl ?_
  refine qr_getr (kf := 1) o cf_X4 (sh45 j r) rfl (Nat.le_of_ble_eq_true rfl) fl_X4_12 (q_dm dm_X4_readSum 35 rfl) ?_
  refine qr_iload o (q_dm dm_X4_readSum 36 rfl) rfl ?_
  refine qr_iconst o (q_dm dm_X4_readSum 37 rfl) ic_0 ?_
  refine qr_callv_i (As := [.inl a4, .inl (0 : Int32)]) (S := []) o (a_X3_add g k.2.1 n j r hj hr hr a4 (0 : Int32) m3) (by omega) zv_X3_add rfl cf_X3 (shW0 j r hr) ml_X4_79 (Nat.le_of_ble_eq_true rfl) (q_dm dm_X4_readSum 38 rfl) (fun r4 m5 => ?_)
  refine qr_pop o (q_dm dm_X4_readSum 39 rfl) ?_
  refine qs_iincl2 (L' := fun x6 => [some (.inr (some 45)), some (.inl a1), some (.inl r2), some (.inl x6), some (.inl a4)]) o (q_dm dm_X4_readSum 40 rfl) rfl ic_1 (Nat.le_of_ble_eq_true rfl) (fun _ => rfl) (fun x6 => ?_)
  refine qr_goto (tgt := 8) o (q_dm dm_X4_readSum 41 rfl) (by decide) ?_
  exact qr_loc (q_leS (q_leS (q_leS (q_leS (q_leN q_le0))))) (hK8 a1 r2 x6 m5)

def b_X4_readSum_8 (n : Nat) (r : Nat) (F_X4_readProduct : Int32 → qM → qR) (K8 : Int32 → Int32 → Int32 → qM → qR) (a1 a2 a3 : Int32) (M : qM) : qR :=
  (if (240 : Int32) ≤ a3 then qb a2 (some (a2, M)) else (if a2 = (0 : Int32) then qb a2 (some (a2, M)) else qc (f_X9_sign n  M) (fun r1 m2 => (if r1 = (43 : Int32) then f_X4_readSum_44 n r F_X4_readProduct K8 a1 a3 r1 m2 else (if r1 = (45 : Int32) then f_X4_readSum_44 n r F_X4_readProduct K8 a1 a3 r1 m2 else some ((1 : Int32), m2))))))
set_option maxRecDepth 4000 in
theorem wb_X4_readSum_8 {g : qG} {k : qK} (n : Nat) (j r : Nat) (hj : q_isLaw j) (hr : q_isLaw r) {d1 d : Nat} (hd1 : d1 + 1 ≤ d) (hdn : 3 ≤ d) (F_X4_readProduct : Int32 → qM → qR) (hF_X4_readProduct : ∀ (b1 : Int32) (M : qM), qAM g k.2.1 d1 zX4_readProduct (qL j r) [.inr (some 45), .inl b1] (qL j r, M) (F_X4_readProduct b1 M)) (o : qOk g d zX4_readSum k) (K8 : Int32 → Int32 → Int32 → qM → qR) (hK8 : ∀ (a1 a2 a3 : Int32) (M : qM), qAE g k zX4_readSum (qL j r) 8 [some (.inr (some 45)), some (.inl a1), some (.inl a2), some (.inl a3), none] [] (qL j r, M) (K8 a1 a2 a3 M)) (a1 a2 a3 : Int32) (M : qM) : qAE g k zX4_readSum (qL j r) 8 [some (.inr (some 45)), some (.inl a1), some (.inl a2), some (.inl a3), none] [] (qL j r, M) (b_X4_readSum_8 n r F_X4_readProduct K8 a1 a2 a3 M) := by
  unfold b_X4_readSum_8
  refine qr_iload_n o (q_dm dm_X4_readSum 6 rfl) rfl ?_
  refine qr_sipush o (q_dm dm_X4_readSum 7 rfl) si_240 ?_
  refine qr_icmp_ge (tgt := 80) o (q_dm dm_X4_readSum 8 rfl) (by decide) ?_ ?_
  · refine qr_iload_n o (q_dm dm_X4_readSum 42 rfl) rfl ?_
    exact qr_zret o rfl (q_dm dm_X4_readSum 43 rfl)
  · refine qr_iload_n o (q_dm dm_X4_readSum 9 rfl) rfl ?_
    refine qr_if_eq (tgt := 80) o (q_dm dm_X4_readSum 10 rfl) (by decide) ?_ ?_
    · refine qr_iload_n o (q_dm dm_X4_readSum 42 rfl) rfl ?_
      exact qr_zret o rfl (q_dm dm_X4_readSum 43 rfl)
    · refine qr_aload_n o (q_dm dm_X4_readSum 11 rfl) rfl ?_
      refine qr_getr (kf := 0) o cf_X4 (sh45 j r) rfl (Nat.le_of_ble_eq_true rfl) fl_X4_18 (q_dm dm_X4_readSum 12 rfl) ?_
      refine qr_callv_i (As := []) (S := []) o (a_X9_sign g k.2.1 n j r hj hr  M) (by omega) zv_X9_sign rfl cf_X9 (sh1 j r) ml_X4_49 (Nat.le_of_ble_eq_true rfl) (q_dm dm_X4_readSum 13 rfl) (fun r1 m2 => ?_)
      refine qs_istore (L' := [some (.inr (some 45)), some (.inl a1), some (.inl a2), some (.inl a3), some (.inl r1)]) o (q_dm dm_X4_readSum 14 rfl) (Nat.le_of_ble_eq_true rfl) rfl ?_
      refine qr_iload o (q_dm dm_X4_readSum 15 rfl) rfl ?_
      refine qr_bipush o (q_dm dm_X4_readSum 16 rfl) bi_43 ?_
      refine qr_icmp_eq (tgt := 44) o (q_dm dm_X4_readSum 17 rfl) (by decide) ?_ ?_
      · exact qr_loc (q_leS (q_leS (q_leN (q_leS (q_leS q_le0))))) (w_X4_readSum_44 n j r hj hr hd1 hdn F_X4_readProduct hF_X4_readProduct o K8 hK8 a1 a3 r1 m2)
      · refine qr_iload o (q_dm dm_X4_readSum 18 rfl) rfl ?_
        refine qr_bipush o (q_dm dm_X4_readSum 19 rfl) bi_45 ?_
        refine qr_icmp_eq (tgt := 44) o (q_dm dm_X4_readSum 20 rfl) (by decide) ?_ ?_
        · exact qr_loc (q_leS (q_leS (q_leN (q_leS (q_leS q_le0))))) (w_X4_readSum_44 n j r hj hr hd1 hdn F_X4_readProduct hF_X4_readProduct o K8 hK8 a1 a3 r1 m2)
        · refine qr_iconst o (q_dm dm_X4_readSum 21 rfl) ic_1 ?_
          exact qr_iret o rfl (by decide) (q_dm dm_X4_readSum 22 rfl)

def f_X4_readSum_8 (n : Nat) (r : Nat) (F_X4_readProduct : Int32 → qM → qR) : Nat → Int32 → Int32 → Int32 → qM → qR
  | 0, _, _, _, _ => none
  | m + 1, a1, a2, a3, M => b_X4_readSum_8 n r F_X4_readProduct (f_X4_readSum_8 n r F_X4_readProduct m) a1 a2 a3 M
theorem w_X4_readSum_8 {g : qG} {k : qK} (n : Nat) (j r : Nat) (hj : q_isLaw j) (hr : q_isLaw r) {d1 d : Nat} (hd1 : d1 + 1 ≤ d) (hdn : 3 ≤ d) (F_X4_readProduct : Int32 → qM → qR) (hF_X4_readProduct : ∀ (b1 : Int32) (M : qM), qAM g k.2.1 d1 zX4_readProduct (qL j r) [.inr (some 45), .inl b1] (qL j r, M) (F_X4_readProduct b1 M)) (o : qOk g d zX4_readSum k) : ∀ (m : Nat) (a1 a2 a3 : Int32) (M : qM), qAE g k zX4_readSum (qL j r) 8 [some (.inr (some 45)), some (.inl a1), some (.inl a2), some (.inl a3), none] [] (qL j r, M) (f_X4_readSum_8 n r F_X4_readProduct m a1 a2 a3 M) := by
  intro m
  induction m with
  | zero =>
    intro a1 a2 a3 M
    exact qr_none
  | succ m ih =>
    intro a1 a2 a3 M
    exact wb_X4_readSum_8 n j r hj hr hd1 hdn F_X4_readProduct hF_X4_readProduct o (f_X4_readSum_8 n r F_X4_readProduct m) ih a1 a2 a3 M
def fo_X4_readSum (n : Nat) (r : Nat) (F_X4_readProduct : Int32 → qM → qR) (a1 : Int32) (M : qM) : qR :=
  qc (F_X4_readProduct a1 M) (fun r1 m2 => f_X4_readSum_8 n r F_X4_readProduct n a1 r1 (0 : Int32) m2)
set_option maxRecDepth 4000 in
theorem w_X4_readSum {g : qG} {k : qK} (n : Nat) (j r : Nat) (hj : q_isLaw j) (hr : q_isLaw r) {d1 d : Nat} (hd1 : d1 + 1 ≤ d) (hdn : 3 ≤ d) (F_X4_readProduct : Int32 → qM → qR) (hF_X4_readProduct : ∀ (b1 : Int32) (M : qM), qAM g k.2.1 d1 zX4_readProduct (qL j r) [.inr (some 45), .inl b1] (qL j r, M) (F_X4_readProduct b1 M)) (o : qOk g d zX4_readSum k) (a1 : Int32) (M : qM) : qAE g k zX4_readSum (qL j r) 0 [some (.inr (some 45)), some (.inl a1), none, none, none] [] (qL j r, M) (fo_X4_readSum n r F_X4_readProduct a1 M) := by
  unfold fo_X4_readSum
  refine qr_aload_n o (q_dm dm_X4_readSum 0 rfl) rfl ?_
  refine qr_iload_n o (q_dm dm_X4_readSum 1 rfl) rfl ?_
  refine qr_callv_i (As := [.inl a1]) (S := []) o (hF_X4_readProduct a1 M) (by omega) zv_X4_readProduct rfl cf_X4 (sh45 j r) ml_X4_92 (Nat.le_of_ble_eq_true rfl) (q_dm dm_X4_readSum 2 rfl) (fun r1 m2 => ?_)
  refine qs_istore_n (L' := [some (.inr (some 45)), some (.inl a1), some (.inl r1), none, none]) o (q_dm dm_X4_readSum 3 rfl) (Nat.le_of_ble_eq_true rfl) rfl ?_
  refine qr_iconst o (q_dm dm_X4_readSum 4 rfl) ic_0 ?_
  refine qs_istore_n (L' := [some (.inr (some 45)), some (.inl a1), some (.inl r1), some (.inl (0 : Int32)), none]) o (q_dm dm_X4_readSum 5 rfl) (Nat.le_of_ble_eq_true rfl) rfl ?_
  exact qr_loc (q_leS (q_leS (q_leS (q_leS (q_leN q_le0))))) (w_X4_readSum_8 n j r hj hr hd1 hdn F_X4_readProduct hF_X4_readProduct o n a1 r1 (0 : Int32) m2)

theorem ao_X4_readSum (g : qG) (l : Launch) (n : Nat) (j r : Nat) (hj : q_isLaw j) (hr : q_isLaw r) {d1 d : Nat} (hd1 : d1 + 1 ≤ d) (hdn : 3 ≤ d) (F_X4_readProduct : Int32 → qM → qR) (hF_X4_readProduct : ∀ (b1 : Int32) (M : qM), qAM g l d1 zX4_readProduct (qL j r) [.inr (some 45), .inl b1] (qL j r, M) (F_X4_readProduct b1 M)) (a1 : Int32) (M : qM) : qAM g l d zX4_readSum (qL j r) [.inr (some 45), .inl a1] (qL j r, M) (fo_X4_readSum n r F_X4_readProduct a1 M) :=
  qAM.of zv_X4_readSum.1 (by show 2 ≤ 5; decide) (fun k hk o => by subst hk; exact w_X4_readSum n j r hj hr hd1 hdn F_X4_readProduct hF_X4_readProduct o a1 M)
def rc_X4_readFactor (n : Nat) (r : Nat) : Nat → Nat → Int32 → qM → qR
  | 0, _, _, _ => none
  | m + 1, 0, a1, M => fo_X4_readFactor n r (rc_X4_readFactor n r m 2) a1 M
  | m + 1, 1, a1, M => fo_X4_readProduct n r (rc_X4_readFactor n r m 0) a1 M
  | m + 1, _, a1, M => fo_X4_readSum n r (rc_X4_readFactor n r m 1) a1 M

theorem rc_X4_readFactor_ok (g : qG) (l : Launch) (n : Nat) (j r : Nat) (hj : q_isLaw j) (hr : q_isLaw r) : ∀ m : Nat, (∀ (a1 : Int32) (M : qM), qAM g l (3 + m) zX4_readFactor (qL j r) [.inr (some 45), .inl a1] (qL j r, M) (rc_X4_readFactor n r m 0 a1 M)) ∧ (∀ (a1 : Int32) (M : qM), qAM g l (3 + m) zX4_readProduct (qL j r) [.inr (some 45), .inl a1] (qL j r, M) (rc_X4_readFactor n r m 1 a1 M)) ∧ (∀ (a1 : Int32) (M : qM), qAM g l (3 + m) zX4_readSum (qL j r) [.inr (some 45), .inl a1] (qL j r, M) (rc_X4_readFactor n r m 2 a1 M)) := by
  intro m
  induction m with
  | zero => exact ⟨(fun _ _ _ _ h => by cases h), (fun _ _ _ _ h => by cases h), (fun _ _ _ _ h => by cases h)⟩
  | succ m ih =>
    exact ⟨(fun a1 M => ao_X4_readFactor g l n j r hj hr (d1 := 3 + m) (d := 3 + (m + 1)) (Nat.le_refl _) (Nat.le_add_right _ _) (rc_X4_readFactor n r m 2) ih.2.2 a1 M),
      (fun a1 M => ao_X4_readProduct g l n j r hj hr (d1 := 3 + m) (d := 3 + (m + 1)) (Nat.le_refl _) (Nat.le_add_right _ _) (rc_X4_readFactor n r m 0) ih.1 a1 M),
      (fun a1 M => ao_X4_readSum g l n j r hj hr (d1 := 3 + m) (d := 3 + (m + 1)) (Nat.le_refl _) (Nat.le_add_right _ _) (rc_X4_readFactor n r m 1) ih.2.1 a1 M)⟩

def f_X4_readFactor (n : Nat) (r : Nat) (a1 : Int32) (M : qM) : qR := rc_X4_readFactor n r 30 0 a1 M
theorem a_X4_readFactor (g : qG) (l : Launch) (n : Nat) (j r : Nat) (hj : q_isLaw j) (hr : q_isLaw r) (a1 : Int32) (M : qM) : qAM g l 33 zX4_readFactor (qL j r) [.inr (some 45), .inl a1] (qL j r, M) (f_X4_readFactor n r a1 M) := (rc_X4_readFactor_ok g l n j r hj hr 30).1 a1 M
def f_X4_readProduct (n : Nat) (r : Nat) (a1 : Int32) (M : qM) : qR := rc_X4_readFactor n r 30 1 a1 M
theorem a_X4_readProduct (g : qG) (l : Launch) (n : Nat) (j r : Nat) (hj : q_isLaw j) (hr : q_isLaw r) (a1 : Int32) (M : qM) : qAM g l 33 zX4_readProduct (qL j r) [.inr (some 45), .inl a1] (qL j r, M) (f_X4_readProduct n r a1 M) := (rc_X4_readFactor_ok g l n j r hj hr 30).2.1 a1 M
def f_X4_readSum (n : Nat) (r : Nat) (a1 : Int32) (M : qM) : qR := rc_X4_readFactor n r 30 2 a1 M
theorem a_X4_readSum (g : qG) (l : Launch) (n : Nat) (j r : Nat) (hj : q_isLaw j) (hr : q_isLaw r) (a1 : Int32) (M : qM) : qAM g l 33 zX4_readSum (qL j r) [.inr (some 45), .inl a1] (qL j r, M) (f_X4_readSum n r a1 M) := (rc_X4_readFactor_ok g l n j r hj hr 30).2.2 a1 M
def tb_X4_readPiece : List (Nat × Instr × Nat) := [(0, (.aload_n 0, 1)), (1, (.getfield 18, 3)), (4, (.invokevirtual 49, 3)), (7, (.bipush 40, 2)), (9, (.if_icmp .ne 39, 3)), (12, (.aload_n 0, 1)), (13, (.iload_n 1, 1)), (14, (.invokevirtual 89, 3)), (17, (.ifCond .eq 29, 3)), (20, (.aload_n 0, 1)), (21, (.iload_n 1, 1)), (22, (.iconst 1, 1)), (23, (.iadd, 1)), (24, (.invokevirtual 69, 3)), (27, (.ifCond .eq 19, 3)), (30, (.aload_n 0, 1)), (31, (.getfield 18, 3)), (34, (.bipush 41, 2)), (36, (.invokevirtual 66, 3)), (39, (.ifCond .eq 7, 3)), (42, (.iconst 1, 1)), (43, (.goto 4, 3)), (46, (.iconst 0, 1)), (47, (.ireturn, 1)), (48, (.aload_n 0, 1)), (49, (.getfield 18, 3)), (52, (.invokevirtual 49, 3)), (55, (.bipush 33, 2)), (57, (.if_icmp .ne 39, 3)), (60, (.aload_n 0, 1)), (61, (.iload_n 1, 1)), (62, (.invokevirtual 89, 3)), (65, (.ifCond .eq 17, 3)), (68, (.aload_n 0, 1)), (69, (.iload_n 1, 1)), (70, (.iconst 1, 1)), (71, (.iadd, 1)), (72, (.invokevirtual 86, 3)), (75, (.ifCond .eq 7, 3)), (78, (.iconst 1, 1)), (79, (.goto 4, 3)), (82, (.iconst 0, 1)), (83, (.istore_n 2, 1)), (84, (.aload_n 0, 1)), (85, (.getfield 12, 3)), (88, (.iconst 2, 1)), (89, (.iconst 0, 1)), (90, (.invokevirtual 79, 3)), (93, (.pop, 1)), (94, (.iload_n 2, 1)), (95, (.ireturn, 1)), (96, (.aload_n 0, 1)), (97, (.iload_n 1, 1)), (98, (.invokevirtual 63, 3)), (101, (.ifCond .ne 5, 3)), (104, (.iconst 0, 1)), (105, (.ireturn, 1)), (106, (.aload_n 0, 1)), (107, (.getfield 18, 3)), (110, (.invokevirtual 49, 3)), (113, (.istore_n 2, 1)), (114, (.iload_n 2, 1)), (115, (.bipush 60, 2)), (117, (.if_icmp .eq 31, 3)), (120, (.iload_n 2, 1)), (121, (.bipush 62, 2)), (123, (.if_icmp .eq 25, 3)), (126, (.iload_n 2, 1)), (127, (.bipush 61, 2)), (129, (.if_icmp .eq 19, 3)), (132, (.aload_n 0, 1)), (133, (.getfield 18, 3)), (136, (.iconst 1, 1)), (137, (.aload_n 0, 1)), (138, (.getfield 18, 3)), (141, (.getfield 53, 3)), (144, (.invokevirtual 56, 3)), (147, (.ireturn, 1)), (148, (.aload_n 0, 1)), (149, (.getfield 18, 3)), (152, (.dup, 1)), (153, (.getfield 53, 3)), (156, (.iconst 1, 1)), (157, (.iadd, 1)), (158, (.putfield 53, 3)), (161, (.aload_n 0, 1)), (162, (.iload_n 1, 1)), (163, (.invokevirtual 63, 3)), (166, (.istore_n 3, 1)), (167, (.aload_n 0, 1)), (168, (.getfield 12, 3)), (171, (.iload_n 2, 1)), (172, (.iconst 0, 1)), (173, (.invokevirtual 79, 3)), (176, (.pop, 1)), (177, (.iload_n 3, 1)), (178, (.ireturn, 1))]
theorem dm_X4_readPiece : ∀ q ∈ tb_X4_readPiece, decode zX4_readPiece.2.1 q.1 = .ok q.2 := by decide +kernel
def f_X4_readPiece_148 (n : Nat) (r : Nat) (F_X4_readCondition : Int32 → qM → qR) (F_X4_readPiece : Int32 → qM → qR) (a1 a2 : Int32) (M : qM) : qR :=
  qlm (mu M 1 3 ((M 1 3) + (1 : Int32))) (fun m1 => qc (f_X4_readSum n r a1 m1) (fun r2 m3 => qc (f_X3_add n r a2 (0 : Int32) m3) (fun r4 m5 => qb r2 (some (r2, m5)))))
set_option maxRecDepth 4000 in
theorem w_X4_readPiece_148 {g : qG} {k : qK} (n : Nat) (j r : Nat) (hj : q_isLaw j) (hr : q_isLaw r) {d1 d : Nat} (hd1 : d1 + 1 ≤ d) (hdn : 34 ≤ d) (F_X4_readCondition : Int32 → qM → qR) (F_X4_readPiece : Int32 → qM → qR) (hF_X4_readCondition : ∀ (b1 : Int32) (M : qM), qAM g k.2.1 d1 zX4_readCondition (qL j r) [.inr (some 45), .inl b1] (qL j r, M) (F_X4_readCondition b1 M)) (hF_X4_readPiece : ∀ (b1 : Int32) (M : qM), qAM g k.2.1 d1 zX4_readPiece (qL j r) [.inr (some 45), .inl b1] (qL j r, M) (F_X4_readPiece b1 M)) (o : qOk g d zX4_readPiece k) (a1 a2 : Int32) (M : qM) : qAE g k zX4_readPiece (qL j r) 148 [some (.inr (some 45)), some (.inl a1), some (.inl a2), none] [] (qL j r, M) (f_X4_readPiece_148 n r F_X4_readCondition F_X4_readPiece a1 a2 M) := by
  unfold f_X4_readPiece_148
  refine qr_aload_n o (q_dm dm_X4_readPiece 78 rfl) rfl ?_
  refine qr_getr (kf := 0) o cf_X4 (sh45 j r) rfl (Nat.le_of_ble_eq_true rfl) fl_X4_18 (q_dm dm_X4_readPiece 79 rfl) ?_
  refine qr_dup o (q_dm dm_X4_readPiece 80 rfl) ?_
  refine qr_getf (kf := 3) o cf_X9 (sh1 j r) rfl (Nat.le_of_ble_eq_true rfl) fl_X4_53 (q_dm dm_X4_readPiece 81 rfl) ?_
  refine qr_iconst o (q_dm dm_X4_readPiece 82 rfl) ic_1 ?_
  refine qr_iadd o (q_dm dm_X4_readPiece 83 rfl) ?_
  refine qr_putf (kf := 3) o cf_X9 (sh1 j r) rfl (Nat.le_of_ble_eq_true rfl) fl_X4_53 rfl (by decide +kernel) (q_dm dm_X4_readPiece 84 rfl) ?_
  refine qr_letm (fun m1 => ?_)
  refine qr_aload_n o (q_dm dm_X4_readPiece 85 rfl) rfl ?_
  refine qr_iload_n o (q_dm dm_X4_readPiece 86 rfl) rfl ?_
  refine qr_callv_i (As := [.inl a1]) (S := []) o (a_X4_readSum g k.2.1 n j r hj hr a1 m1) (by omega) zv_X4_readSum rfl cf_X4 (sh45 j r) ml_X4_63 (Nat.le_of_ble_eq_true rfl) (q_dm dm_X4_readPiece 87 rfl) (fun r2 m3 => ?_)
  refine qs_istore_n (L' := [some (.inr (some 45)), some (.inl a1), some (.inl a2), some (.inl r2)]) o (q_dm dm_X4_readPiece 88 rfl) (Nat.le_of_ble_eq_true rfl) rfl ?_
  refine qr_aload_n o (q_dm dm_X4_readPiece 89 rfl) rfl ?_
  refine qr_getr (kf := 1) o cf_X4 (sh45 j r) rfl (Nat.le_of_ble_eq_true rfl) fl_X4_12 (q_dm dm_X4_readPiece 90 rfl) ?_
  refine qr_iload_n o (q_dm dm_X4_readPiece 91 rfl) rfl ?_
  refine qr_iconst o (q_dm dm_X4_readPiece 92 rfl) ic_0 ?_
  refine qr_callv_i (As := [.inl a2, .inl (0 : Int32)]) (S := []) o (a_X3_add g k.2.1 n j r hj hr hr a2 (0 : Int32) m3) (by omega) zv_X3_add rfl cf_X3 (shW0 j r hr) ml_X4_79 (Nat.le_of_ble_eq_true rfl) (q_dm dm_X4_readPiece 93 rfl) (fun r4 m5 => ?_)
  refine qr_pop o (q_dm dm_X4_readPiece 94 rfl) ?_
  refine qr_iload_n o (q_dm dm_X4_readPiece 95 rfl) rfl ?_
  exact qr_zret o rfl (q_dm dm_X4_readPiece 96 rfl)

def f_X4_readPiece_83 (n : Nat) (r : Nat) (F_X4_readCondition : Int32 → qM → qR) (F_X4_readPiece : Int32 → qM → qR) (s0 : Int32) (M : qM) : qR :=
  qc (f_X3_add n r (2 : Int32) (0 : Int32) M) (fun r1 m2 => qb s0 (some (s0, m2)))
set_option maxRecDepth 4000 in
theorem w_X4_readPiece_83 {g : qG} {k : qK} (n : Nat) (j r : Nat) (hj : q_isLaw j) (hr : q_isLaw r) {d1 d : Nat} (hd1 : d1 + 1 ≤ d) (hdn : 34 ≤ d) (F_X4_readCondition : Int32 → qM → qR) (F_X4_readPiece : Int32 → qM → qR) (hF_X4_readCondition : ∀ (b1 : Int32) (M : qM), qAM g k.2.1 d1 zX4_readCondition (qL j r) [.inr (some 45), .inl b1] (qL j r, M) (F_X4_readCondition b1 M)) (hF_X4_readPiece : ∀ (b1 : Int32) (M : qM), qAM g k.2.1 d1 zX4_readPiece (qL j r) [.inr (some 45), .inl b1] (qL j r, M) (F_X4_readPiece b1 M)) (o : qOk g d zX4_readPiece k) (s0 : Int32) (M : qM) : qAE g k zX4_readPiece (qL j r) 83 [some (.inr (some 45)), none, none, none] [.inl s0] (qL j r, M) (f_X4_readPiece_83 n r F_X4_readCondition F_X4_readPiece s0 M) := by
  unfold f_X4_readPiece_83
  refine qs_istore_n (L' := [some (.inr (some 45)), none, some (.inl s0), none]) o (q_dm dm_X4_readPiece 42 rfl) (Nat.le_of_ble_eq_true rfl) rfl ?_
  refine qr_aload_n o (q_dm dm_X4_readPiece 43 rfl) rfl ?_
  refine qr_getr (kf := 1) o cf_X4 (sh45 j r) rfl (Nat.le_of_ble_eq_true rfl) fl_X4_12 (q_dm dm_X4_readPiece 44 rfl) ?_
  refine qr_iconst o (q_dm dm_X4_readPiece 45 rfl) ic_2 ?_
  refine qr_iconst o (q_dm dm_X4_readPiece 46 rfl) ic_0 ?_
  refine qr_callv_i (As := [.inl (2 : Int32), .inl (0 : Int32)]) (S := []) o (a_X3_add g k.2.1 n j r hj hr hr (2 : Int32) (0 : Int32) M) (by omega) zv_X3_add rfl cf_X3 (shW0 j r hr) ml_X4_79 (Nat.le_of_ble_eq_true rfl) (q_dm dm_X4_readPiece 47 rfl) (fun r1 m2 => ?_)
  refine qr_pop o (q_dm dm_X4_readPiece 48 rfl) ?_
  refine qr_iload_n o (q_dm dm_X4_readPiece 49 rfl) rfl ?_
  exact qr_zret o rfl (q_dm dm_X4_readPiece 50 rfl)

def f_X4_readPiece_82 (n : Nat) (r : Nat) (F_X4_readCondition : Int32 → qM → qR) (F_X4_readPiece : Int32 → qM → qR) (M : qM) : qR :=
  f_X4_readPiece_83 n r F_X4_readCondition F_X4_readPiece (0 : Int32) M
set_option maxRecDepth 4000 in
theorem w_X4_readPiece_82 {g : qG} {k : qK} (n : Nat) (j r : Nat) (hj : q_isLaw j) (hr : q_isLaw r) {d1 d : Nat} (hd1 : d1 + 1 ≤ d) (hdn : 34 ≤ d) (F_X4_readCondition : Int32 → qM → qR) (F_X4_readPiece : Int32 → qM → qR) (hF_X4_readCondition : ∀ (b1 : Int32) (M : qM), qAM g k.2.1 d1 zX4_readCondition (qL j r) [.inr (some 45), .inl b1] (qL j r, M) (F_X4_readCondition b1 M)) (hF_X4_readPiece : ∀ (b1 : Int32) (M : qM), qAM g k.2.1 d1 zX4_readPiece (qL j r) [.inr (some 45), .inl b1] (qL j r, M) (F_X4_readPiece b1 M)) (o : qOk g d zX4_readPiece k) (M : qM) : qAE g k zX4_readPiece (qL j r) 82 [some (.inr (some 45)), none, none, none] [] (qL j r, M) (f_X4_readPiece_82 n r F_X4_readCondition F_X4_readPiece  M) := by
  unfold f_X4_readPiece_82
  refine qr_iconst o (q_dm dm_X4_readPiece 41 rfl) ic_0 ?_
  exact qr_loc (q_leS (q_leN (q_leN (q_leN q_le0)))) (w_X4_readPiece_83 n j r hj hr hd1 hdn F_X4_readCondition F_X4_readPiece hF_X4_readCondition hF_X4_readPiece o (0 : Int32) M)

def fo_X4_readPiece (n : Nat) (r : Nat) (F_X4_readCondition : Int32 → qM → qR) (F_X4_readPiece : Int32 → qM → qR) (a1 : Int32) (M : qM) : qR :=
  qc (f_X9_sign n  M) (fun r1 m2 => (if r1 = (40 : Int32) then qc (f_X4_opens n a1 m2) (fun r15 m16 => (if r15 = (0 : Int32) then some ((0 : Int32), m16) else qc (F_X4_readCondition (a1 + (1 : Int32)) m16) (fun r17 m18 => (if r17 = (0 : Int32) then some ((0 : Int32), m18) else qc (f_X9_mustTake n (41 : Int32) m18) (fun r19 m20 => (if r19 = (0 : Int32) then some ((0 : Int32), m20) else some ((1 : Int32), m20))))))) else qc (f_X9_sign n  m2) (fun r3 m4 => (if r3 = (33 : Int32) then qc (f_X4_opens n a1 m4) (fun r11 m12 => (if r11 = (0 : Int32) then f_X4_readPiece_82 n r F_X4_readCondition F_X4_readPiece  m12 else qc (F_X4_readPiece (a1 + (1 : Int32)) m12) (fun r13 m14 => (if r13 = (0 : Int32) then f_X4_readPiece_82 n r F_X4_readCondition F_X4_readPiece  m14 else f_X4_readPiece_83 n r F_X4_readCondition F_X4_readPiece (1 : Int32) m14)))) else qc (f_X4_readSum n r a1 m4) (fun r5 m6 => (if r5 = (0 : Int32) then some ((0 : Int32), m6) else qc (f_X9_sign n  m6) (fun r7 m8 => (if r7 = (60 : Int32) then f_X4_readPiece_148 n r F_X4_readCondition F_X4_readPiece a1 r7 m8 else (if r7 = (62 : Int32) then f_X4_readPiece_148 n r F_X4_readCondition F_X4_readPiece a1 r7 m8 else (if r7 = (61 : Int32) then f_X4_readPiece_148 n r F_X4_readCondition F_X4_readPiece a1 r7 m8 else qc (f_X9_fails n (1 : Int32) (m8 1 3) m8) (fun r9 m10 => qb r9 (some (r9, m10)))))))))))))
set_option maxRecDepth 4000 in
theorem w_X4_readPiece {g : qG} {k : qK} (n : Nat) (j r : Nat) (hj : q_isLaw j) (hr : q_isLaw r) {d1 d : Nat} (hd1 : d1 + 1 ≤ d) (hdn : 34 ≤ d) (F_X4_readCondition : Int32 → qM → qR) (F_X4_readPiece : Int32 → qM → qR) (hF_X4_readCondition : ∀ (b1 : Int32) (M : qM), qAM g k.2.1 d1 zX4_readCondition (qL j r) [.inr (some 45), .inl b1] (qL j r, M) (F_X4_readCondition b1 M)) (hF_X4_readPiece : ∀ (b1 : Int32) (M : qM), qAM g k.2.1 d1 zX4_readPiece (qL j r) [.inr (some 45), .inl b1] (qL j r, M) (F_X4_readPiece b1 M)) (o : qOk g d zX4_readPiece k) (a1 : Int32) (M : qM) : qAE g k zX4_readPiece (qL j r) 0 [some (.inr (some 45)), some (.inl a1), none, none] [] (qL j r, M) (fo_X4_readPiece n r F_X4_readCondition F_X4_readPiece a1 M) := by
  unfold fo_X4_readPiece
  refine qr_aload_n o (q_dm dm_X4_readPiece 0 rfl) rfl ?_
  refine qr_getr (kf := 0) o cf_X4 (sh45 j r) rfl (Nat.le_of_ble_eq_true rfl) fl_X4_18 (q_dm dm_X4_readPiece 1 rfl) ?_
  refine qr_callv_i (As := []) (S := []) o (a_X9_sign g k.2.1 n j r hj hr  M) (by omega) zv_X9_sign rfl cf_X9 (sh1 j r) ml_X4_49 (Nat.le_of_ble_eq_true rfl) (q_dm dm_X4_readPiece 2 rfl) (fun r1 m2 => ?_)
  refine qr_bipush o (q_dm dm_X4_readPiece 3 rfl) bi_40 ?_
  refine qr_icmp_ne (tgt := 48) o (q_dm dm_X4_readPiece 4 rfl) (by decide) ?_ ?_
  · refine qr_aload_n o (q_dm dm_X4_readPiece 24 rfl) rfl ?_
    refine qr_getr (kf := 0) o cf_X4 (sh45 j r) rfl (Nat.le_of_ble_eq_true rfl) fl_X4_18 (q_dm dm_X4_readPiece 25 rfl) ?_
    refine qr_callv_i (As := []) (S := []) o (a_X9_sign g k.2.1 n j r hj hr  m2) (by omega) zv_X9_sign rfl cf_X9 (sh1 j r) ml_X4_49 (Nat.le_of_ble_eq_true rfl) (q_dm dm_X4_readPiece 26 rfl) (fun r3 m4 => ?_)
    refine qr_bipush o (q_dm dm_X4_readPiece 27 rfl) bi_33 ?_
    refine qr_icmp_ne (tgt := 96) o (q_dm dm_X4_readPiece 28 rfl) (by decide) ?_ ?_
    · refine qr_aload_n o (q_dm dm_X4_readPiece 51 rfl) rfl ?_
      refine qr_iload_n o (q_dm dm_X4_readPiece 52 rfl) rfl ?_
      refine qr_callv_i (As := [.inl a1]) (S := []) o (a_X4_readSum g k.2.1 n j r hj hr a1 m4) (by omega) zv_X4_readSum rfl cf_X4 (sh45 j r) ml_X4_63 (Nat.le_of_ble_eq_true rfl) (q_dm dm_X4_readPiece 53 rfl) (fun r5 m6 => ?_)
      refine qr_if_ne (tgt := 106) o (q_dm dm_X4_readPiece 54 rfl) (by decide) ?_ ?_
      · refine qr_aload_n o (q_dm dm_X4_readPiece 57 rfl) rfl ?_
        refine qr_getr (kf := 0) o cf_X4 (sh45 j r) rfl (Nat.le_of_ble_eq_true rfl) fl_X4_18 (q_dm dm_X4_readPiece 58 rfl) ?_
        refine qr_callv_i (As := []) (S := []) o (a_X9_sign g k.2.1 n j r hj hr  m6) (by omega) zv_X9_sign rfl cf_X9 (sh1 j r) ml_X4_49 (Nat.le_of_ble_eq_true rfl) (q_dm dm_X4_readPiece 59 rfl) (fun r7 m8 => ?_)
        refine qs_istore_n (L' := [some (.inr (some 45)), some (.inl a1), some (.inl r7), none]) o (q_dm dm_X4_readPiece 60 rfl) (Nat.le_of_ble_eq_true rfl) rfl ?_
        refine qr_iload_n o (q_dm dm_X4_readPiece 61 rfl) rfl ?_
        refine qr_bipush o (q_dm dm_X4_readPiece 62 rfl) bi_60 ?_
        refine qr_icmp_eq (tgt := 148) o (q_dm dm_X4_readPiece 63 rfl) (by decide) ?_ ?_
        · exact qr_loc (q_leS (q_leS (q_leS (q_leN q_le0)))) (w_X4_readPiece_148 n j r hj hr hd1 hdn F_X4_readCondition F_X4_readPiece hF_X4_readCondition hF_X4_readPiece o a1 r7 m8)
        · refine qr_iload_n o (q_dm dm_X4_readPiece 64 rfl) rfl ?_
          refine qr_bipush o (q_dm dm_X4_readPiece 65 rfl) bi_62 ?_
          refine qr_icmp_eq (tgt := 148) o (q_dm dm_X4_readPiece 66 rfl) (by decide) ?_ ?_
          · exact qr_loc (q_leS (q_leS (q_leS (q_leN q_le0)))) (w_X4_readPiece_148 n j r hj hr hd1 hdn F_X4_readCondition F_X4_readPiece hF_X4_readCondition hF_X4_readPiece o a1 r7 m8)
          · refine qr_iload_n o (q_dm dm_X4_readPiece 67 rfl) rfl ?_
            refine qr_bipush o (q_dm dm_X4_readPiece 68 rfl) bi_61 ?_
            refine qr_icmp_eq (tgt := 148) o (q_dm dm_X4_readPiece 69 rfl) (by decide) ?_ ?_
            · exact qr_loc (q_leS (q_leS (q_leS (q_leN q_le0)))) (w_X4_readPiece_148 n j r hj hr hd1 hdn F_X4_readCondition F_X4_readPiece hF_X4_readCondition hF_X4_readPiece o a1 r7 m8)
            · refine qr_aload_n o (q_dm dm_X4_readPiece 70 rfl) rfl ?_
              refine qr_getr (kf := 0) o cf_X4 (sh45 j r) rfl (Nat.le_of_ble_eq_true rfl) fl_X4_18 (q_dm dm_X4_readPiece 71 rfl) ?_
              refine qr_iconst o (q_dm dm_X4_readPiece 72 rfl) ic_1 ?_
              refine qr_aload_n o (q_dm dm_X4_readPiece 73 rfl) rfl ?_
              refine qr_getr (kf := 0) o cf_X4 (sh45 j r) rfl (Nat.le_of_ble_eq_true rfl) fl_X4_18 (q_dm dm_X4_readPiece 74 rfl) ?_
              refine qr_getf (kf := 3) o cf_X9 (sh1 j r) rfl (Nat.le_of_ble_eq_true rfl) fl_X4_53 (q_dm dm_X4_readPiece 75 rfl) ?_
              refine qr_callv_i (As := [.inl (1 : Int32), .inl (m8 1 3)]) (S := []) o (a_X9_fails g k.2.1 n j r hj hr (1 : Int32) (m8 1 3) m8) (by omega) zv_X9_fails rfl cf_X9 (sh1 j r) ml_X4_56 (Nat.le_of_ble_eq_true rfl) (q_dm dm_X4_readPiece 76 rfl) (fun r9 m10 => ?_)
              exact qr_zret o rfl (q_dm dm_X4_readPiece 77 rfl)
      · refine qr_iconst o (q_dm dm_X4_readPiece 55 rfl) ic_0 ?_
        exact qr_iret o rfl (by decide) (q_dm dm_X4_readPiece 56 rfl)
    · refine qr_aload_n o (q_dm dm_X4_readPiece 29 rfl) rfl ?_
      refine qr_iload_n o (q_dm dm_X4_readPiece 30 rfl) rfl ?_
      refine qr_callv_i (As := [.inl a1]) (S := []) o (a_X4_opens g k.2.1 n j r hj hr a1 m4) (by omega) zv_X4_opens rfl cf_X4 (sh45 j r) ml_X4_89 (Nat.le_of_ble_eq_true rfl) (q_dm dm_X4_readPiece 31 rfl) (fun r11 m12 => ?_)
      refine qr_if_eq (tgt := 82) o (q_dm dm_X4_readPiece 32 rfl) (by decide) ?_ ?_
      · exact qr_loc (q_leS (q_leN (q_leN (q_leN q_le0)))) (w_X4_readPiece_82 n j r hj hr hd1 hdn F_X4_readCondition F_X4_readPiece hF_X4_readCondition hF_X4_readPiece o  m12)
      · refine qr_aload_n o (q_dm dm_X4_readPiece 33 rfl) rfl ?_
        refine qr_iload_n o (q_dm dm_X4_readPiece 34 rfl) rfl ?_
        refine qr_iconst o (q_dm dm_X4_readPiece 35 rfl) ic_1 ?_
        refine qr_iadd o (q_dm dm_X4_readPiece 36 rfl) ?_
        refine qr_callv_i (As := [.inl (a1 + (1 : Int32))]) (S := []) o (hF_X4_readPiece (a1 + (1 : Int32)) m12) (by omega) zv_X4_readPiece rfl cf_X4 (sh45 j r) ml_X4_86 (Nat.le_of_ble_eq_true rfl) (q_dm dm_X4_readPiece 37 rfl) (fun r13 m14 => ?_)
        refine qr_if_eq (tgt := 82) o (q_dm dm_X4_readPiece 38 rfl) (by decide) ?_ ?_
        · exact qr_loc (q_leS (q_leN (q_leN (q_leN q_le0)))) (w_X4_readPiece_82 n j r hj hr hd1 hdn F_X4_readCondition F_X4_readPiece hF_X4_readCondition hF_X4_readPiece o  m14)
        · refine qr_iconst o (q_dm dm_X4_readPiece 39 rfl) ic_1 ?_
          refine qr_goto (tgt := 83) o (q_dm dm_X4_readPiece 40 rfl) (by decide) ?_
          exact qr_loc (q_leS (q_leN (q_leN (q_leN q_le0)))) (w_X4_readPiece_83 n j r hj hr hd1 hdn F_X4_readCondition F_X4_readPiece hF_X4_readCondition hF_X4_readPiece o (1 : Int32) m14)
  · refine qr_aload_n o (q_dm dm_X4_readPiece 5 rfl) rfl ?_
    refine qr_iload_n o (q_dm dm_X4_readPiece 6 rfl) rfl ?_
    refine qr_callv_i (As := [.inl a1]) (S := []) o (a_X4_opens g k.2.1 n j r hj hr a1 m2) (by omega) zv_X4_opens rfl cf_X4 (sh45 j r) ml_X4_89 (Nat.le_of_ble_eq_true rfl) (q_dm dm_X4_readPiece 7 rfl) (fun r15 m16 => ?_)
    refine qr_if_eq (tgt := 46) o (q_dm dm_X4_readPiece 8 rfl) (by decide) ?_ ?_
    · refine qr_iconst o (q_dm dm_X4_readPiece 22 rfl) ic_0 ?_
      exact qr_iret o rfl (by decide) (q_dm dm_X4_readPiece 23 rfl)
    · refine qr_aload_n o (q_dm dm_X4_readPiece 9 rfl) rfl ?_
      refine qr_iload_n o (q_dm dm_X4_readPiece 10 rfl) rfl ?_
      refine qr_iconst o (q_dm dm_X4_readPiece 11 rfl) ic_1 ?_
      refine qr_iadd o (q_dm dm_X4_readPiece 12 rfl) ?_
      refine qr_callv_i (As := [.inl (a1 + (1 : Int32))]) (S := []) o (hF_X4_readCondition (a1 + (1 : Int32)) m16) (by omega) zv_X4_readCondition rfl cf_X4 (sh45 j r) ml_X4_69 (Nat.le_of_ble_eq_true rfl) (q_dm dm_X4_readPiece 13 rfl) (fun r17 m18 => ?_)
      refine qr_if_eq (tgt := 46) o (q_dm dm_X4_readPiece 14 rfl) (by decide) ?_ ?_
      · refine qr_iconst o (q_dm dm_X4_readPiece 22 rfl) ic_0 ?_
        exact qr_iret o rfl (by decide) (q_dm dm_X4_readPiece 23 rfl)
      · refine qr_aload_n o (q_dm dm_X4_readPiece 15 rfl) rfl ?_
        refine qr_getr (kf := 0) o cf_X4 (sh45 j r) rfl (Nat.le_of_ble_eq_true rfl) fl_X4_18 (q_dm dm_X4_readPiece 16 rfl) ?_
        refine qr_bipush o (q_dm dm_X4_readPiece 17 rfl) bi_41 ?_
        refine qr_callv_i (As := [.inl (41 : Int32)]) (S := []) o (a_X9_mustTake g k.2.1 n j r hj hr (41 : Int32) m18) (by omega) zv_X9_mustTake rfl cf_X9 (sh1 j r) ml_X4_66 (Nat.le_of_ble_eq_true rfl) (q_dm dm_X4_readPiece 18 rfl) (fun r19 m20 => ?_)
        refine qr_if_eq (tgt := 46) o (q_dm dm_X4_readPiece 19 rfl) (by decide) ?_ ?_
        · refine qr_iconst o (q_dm dm_X4_readPiece 22 rfl) ic_0 ?_
          exact qr_iret o rfl (by decide) (q_dm dm_X4_readPiece 23 rfl)
        · refine qr_iconst o (q_dm dm_X4_readPiece 20 rfl) ic_1 ?_
          refine qr_goto (tgt := 47) o (q_dm dm_X4_readPiece 21 rfl) (by decide) ?_
          exact qr_iret o rfl (by decide) (q_dm dm_X4_readPiece 23 rfl)

theorem ao_X4_readPiece (g : qG) (l : Launch) (n : Nat) (j r : Nat) (hj : q_isLaw j) (hr : q_isLaw r) {d1 d : Nat} (hd1 : d1 + 1 ≤ d) (hdn : 34 ≤ d) (F_X4_readCondition : Int32 → qM → qR) (F_X4_readPiece : Int32 → qM → qR) (hF_X4_readCondition : ∀ (b1 : Int32) (M : qM), qAM g l d1 zX4_readCondition (qL j r) [.inr (some 45), .inl b1] (qL j r, M) (F_X4_readCondition b1 M)) (hF_X4_readPiece : ∀ (b1 : Int32) (M : qM), qAM g l d1 zX4_readPiece (qL j r) [.inr (some 45), .inl b1] (qL j r, M) (F_X4_readPiece b1 M)) (a1 : Int32) (M : qM) : qAM g l d zX4_readPiece (qL j r) [.inr (some 45), .inl a1] (qL j r, M) (fo_X4_readPiece n r F_X4_readCondition F_X4_readPiece a1 M) :=
  qAM.of zv_X4_readPiece.1 (by show 2 ≤ 4; decide) (fun k hk o => by subst hk; exact w_X4_readPiece n j r hj hr hd1 hdn F_X4_readCondition F_X4_readPiece hF_X4_readCondition hF_X4_readPiece o a1 M)
