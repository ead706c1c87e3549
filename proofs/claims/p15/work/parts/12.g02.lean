def tb_X0_doSteps : List (Nat × Instr × Nat) := [(0, (.bipush 12, 2)), (2, (.istore_n 3, 1)), (3, (.aload_n 1, 1)), (4, (.getfield 115, 3)), (7, (.iload_n 2, 1)), (8, (.iaload, 1)), (9, (.istore 4, 2)), (11, (.iload 4, 2)), (13, (.aload_n 1, 1)), (14, (.getfield 118, 3)), (17, (.iload_n 2, 1)), (18, (.iaload, 1)), (19, (.if_icmp .ge 159, 3)), (22, (.aload_n 1, 1)), (23, (.getfield 121, 3)), (26, (.iload_n 2, 1)), (27, (.bipush 40, 2)), (29, (.imul, 1)), (30, (.iload 4, 2)), (32, (.iadd, 1)), (33, (.iaload, 1)), (34, (.istore 5, 2)), (36, (.aload_n 1, 1)), (37, (.getfield 124, 3)), (40, (.iload_n 2, 1)), (41, (.bipush 40, 2)), (43, (.imul, 1)), (44, (.iload 4, 2)), (46, (.iadd, 1)), (47, (.iaload, 1)), (48, (.istore 6, 2)), (50, (.aload_n 0, 1)), (51, (.getfield 9, 3)), (54, (.iload 5, 2)), (56, (.invokevirtual 127, 3)), (59, (.ifCond .eq 103, 3)), (62, (.iload 6, 2)), (64, (.bipush 8, 2)), (66, (.if_icmp .eq 18, 3)), (69, (.iload 6, 2)), (71, (.iload_n 2, 1)), (72, (.if_icmp .eq 90, 3)), (75, (.aload_n 1, 1)), (76, (.iload 6, 2)), (78, (.invokevirtual 107, 3)), (81, (.ifCond .eq 81, 3)), (84, (.aload_n 0, 1)), (85, (.getfield 9, 3)), (88, (.getfield 128, 3)), (91, (.iload 5, 2)), (93, (.iaload, 1)), (94, (.iload_n 3, 1)), (95, (.if_icmp .le 4, 3)), (98, (.return_, 1)), (99, (.iload_n 3, 1)), (100, (.aload_n 0, 1)), (101, (.getfield 9, 3)), (104, (.getfield 128, 3)), (107, (.iload 5, 2)), (109, (.iaload, 1)), (110, (.isub, 1)), (111, (.istore_n 3, 1)), (112, (.aload_n 0, 1)), (113, (.dup, 1)), (114, (.getfield 95, 3)), (117, (.aload_n 0, 1)), (118, (.getfield 9, 3)), (121, (.getfield 128, 3)), (124, (.iload 5, 2)), (126, (.iaload, 1)), (127, (.iadd, 1)), (128, (.putfield 95, 3)), (131, (.aload_n 0, 1)), (132, (.dup, 1)), (133, (.getfield 89, 3)), (136, (.iconst 1, 1)), (137, (.iadd, 1)), (138, (.putfield 89, 3)), (141, (.aload_n 0, 1)), (142, (.aload_n 1, 1)), (143, (.getfield 19, 3)), (146, (.iload_n 2, 1)), (147, (.iload 5, 2)), (149, (.aload_n 0, 1)), (150, (.aload_n 1, 1)), (151, (.iload_n 2, 1)), (152, (.iload 5, 2)), (154, (.iload 6, 2)), (156, (.invokevirtual 131, 3)), (159, (.invokevirtual 134, 3)), (162, (.aload_n 1, 1)), (163, (.getfield 115, 3)), (166, (.iload_n 2, 1)), (167, (.iload 4, 2)), (169, (.iconst 1, 1)), (170, (.iadd, 1)), (171, (.iastore, 1)), (172, (.iinc 4 1, 3)), (175, (.goto (-164), 3)), (178, (.return_, 1))]
theorem dm_X0_doSteps : ∀ q ∈ tb_X0_doSteps, decode zX0_doSteps.2.1 q.1 = .ok q.2 := by decide +kernel
def f_X0_doSteps_162 (n : Nat) (t j : Nat) (K11 : Int32 → Int32 → Int32 → qM → qR) (a2 a3 a4 : Int32) (M : qM) : qR :=
  qg a2 8 (qlm (mu M (t + 8) a2.toNatClampNeg (a4 + (1 : Int32))) (fun m1 => ql (a4 + (1 : Int32)) (fun x2 => K11 a2 a3 x2 m1)))
set_option maxRecDepth 4000 in
theorem w_X0_doSteps_162 {g : qG} {k : qK} (n : Nat) (j r : Nat) (hj : q_isLaw j) (hr : q_isLaw r) {t : Nat} (ht : q_isTown t) (o : qOk g 5 zX0_doSteps k) (K11 : Int32 → Int32 → Int32 → qM → qR) (hK11 : ∀ (a2 a3 a4 : Int32) (M : qM), qAE g k zX0_doSteps (qL j r) 11 [some (.inr (some 44)), some (.inr (some t)), some (.inl a2), some (.inl a3), some (.inl a4), none, none] [] (qL j r, M) (K11 a2 a3 a4 M)) (a2 a3 a4 : Int32) (M : qM) : qAE g k zX0_doSteps (qL j r) 162 [some (.inr (some 44)), some (.inr (some t)), some (.inl a2), some (.inl a3), some (.inl a4), none, none] [] (qL j r, M) (f_X0_doSteps_162 n t j K11 a2 a3 a4 M) := by
  unfold f_X0_doSteps_162
  refine qr_aload_n o (q_dm dm_X0_doSteps 90 rfl) rfl ?_
  refine qr_getr (kf := 7) o cf_X10 (shT0 j r ht) rfl (Nat.le_of_ble_eq_true rfl) fl_X0_115 (q_dm dm_X0_doSteps 91 rfl) ?_
  refine qr_iload_n o (q_dm dm_X0_doSteps 92 rfl) rfl ?_
  refine qr_iload o (q_dm dm_X0_doSteps 93 rfl) rfl ?_
  refine qr_iconst o (q_dm dm_X0_doSteps 94 rfl) ic_1 ?_
  refine qr_iadd o (q_dm dm_X0_doSteps 95 rfl) ?_
  refine qr_iast o (shT8 j r ht) (q_dm dm_X0_doSteps 96 rfl) ?_
  refine qr_letm (fun m1 => ?_)
  refine qs_iincl2 (L' := fun x2 => [some (.inr (some 44)), some (.inr (some t)), some (.inl a2), some (.inl a3), some (.inl x2), none, none]) o (q_dm dm_X0_doSteps 97 rfl) rfl ic_1 (Nat.le_of_ble_eq_true rfl) (fun _ => rfl) (fun x2 => ?_)
  refine qr_goto (tgt := 11) o (q_dm dm_X0_doSteps 98 rfl) (by decide) ?_
  exact qr_loc (q_leS (q_leS (q_leS (q_leS (q_leS (q_leN (q_leN q_le0))))))) (hK11 a2 a3 x2 m1)

def f_X0_doSteps_84 (n : Nat) (t j : Nat) (K11 : Int32 → Int32 → Int32 → qM → qR) (a2 a3 a4 a5 a6 : Int32) (M : qM) : qR :=
  qg a5 12 ((if (M 4 a5.toNatClampNeg) ≤ a3 then qg a5 12 (ql (a3 - (M 4 a5.toNatClampNeg)) (fun x1 => qg a5 12 (qlm (mu M 44 6 ((M 44 6) + (M 4 a5.toNatClampNeg))) (fun m2 => qlm (mu m2 44 4 ((m2 44 4) + (1 : Int32))) (fun m3 => qc (f_X0_attempt n t j a2 a5 a6 m3) (fun r4 m5 => qc (f_X0_noteOutcome n (m3 t 9) a2 a5 r4 m5) (fun _ m6 => f_X0_doSteps_162 n t j K11 a2 x1 a4 m6))))))) else some (0, M)))
set_option maxRecDepth 4000 in
theorem w_X0_doSteps_84 {g : qG} {k : qK} (n : Nat) (j r : Nat) (hj : q_isLaw j) (hr : q_isLaw r) {t : Nat} (ht : q_isTown t) (o : qOk g 5 zX0_doSteps k) (K11 : Int32 → Int32 → Int32 → qM → qR) (hK11 : ∀ (a2 a3 a4 : Int32) (M : qM), qAE g k zX0_doSteps (qL j r) 11 [some (.inr (some 44)), some (.inr (some t)), some (.inl a2), some (.inl a3), some (.inl a4), none, none] [] (qL j r, M) (K11 a2 a3 a4 M)) (a2 a3 a4 a5 a6 : Int32) (M : qM) : qAE g k zX0_doSteps (qL j r) 84 [some (.inr (some 44)), some (.inr (some t)), some (.inl a2), some (.inl a3), some (.inl a4), some (.inl a5), some (.inl a6)] [] (qL j r, M) (f_X0_doSteps_84 n t j K11 a2 a3 a4 a5 a6 M) := by
  unfold f_X0_doSteps_84
  refine qr_aload_n o (q_dm dm_X0_doSteps 46 rfl) rfl ?_
  refine qr_getr (kf := 0) o cf_X0 (sh44 j r) rfl (Nat.le_of_ble_eq_true rfl) fl_X0_9 (q_dm dm_X0_doSteps 47 rfl) ?_
  refine qr_getr (kf := 0) o cf_X2 (sh3 j r) rfl (Nat.le_of_ble_eq_true rfl) fl_X0_128 (q_dm dm_X0_doSteps 48 rfl) ?_
  refine qr_iload o (q_dm dm_X0_doSteps 49 rfl) rfl ?_
  refine qr_iald o (sh4 j r) (q_dm dm_X0_doSteps 50 rfl) ?_
  refine qr_iload_n o (q_dm dm_X0_doSteps 51 rfl) rfl ?_
  refine qr_icmp_le (tgt := 99) o (q_dm dm_X0_doSteps 52 rfl) (by decide) ?_ ?_
  · refine qr_iload_n o (q_dm dm_X0_doSteps 54 rfl) rfl ?_
    refine qr_aload_n o (q_dm dm_X0_doSteps 55 rfl) rfl ?_
    refine qr_getr (kf := 0) o cf_X0 (sh44 j r) rfl (Nat.le_of_ble_eq_true rfl) fl_X0_9 (q_dm dm_X0_doSteps 56 rfl) ?_
    refine qr_getr (kf := 0) o cf_X2 (sh3 j r) rfl (Nat.le_of_ble_eq_true rfl) fl_X0_128 (q_dm dm_X0_doSteps 57 rfl) ?_
    refine qr_iload o (q_dm dm_X0_doSteps 58 rfl) rfl ?_
    refine qr_iald o (sh4 j r) (q_dm dm_X0_doSteps 59 rfl) ?_
    refine qr_isub o (q_dm dm_X0_doSteps 60 rfl) ?_
    refine qr_lt (fun x1 => ?_)
    refine qs_istore_n (L' := [some (.inr (some 44)), some (.inr (some t)), some (.inl a2), some (.inl x1), some (.inl a4), some (.inl a5), some (.inl a6)]) o (q_dm dm_X0_doSteps 61 rfl) (Nat.le_of_ble_eq_true rfl) rfl ?_
    refine qr_aload_n o (q_dm dm_X0_doSteps 62 rfl) rfl ?_
    refine qr_dup o (q_dm dm_X0_doSteps 63 rfl) ?_
    refine qr_getf (kf := 6) o cf_X0 (sh44 j r) rfl (Nat.le_of_ble_eq_true rfl) fl_X0_95 (q_dm dm_X0_doSteps 64 rfl) ?_
    refine qr_aload_n o (q_dm dm_X0_doSteps 65 rfl) rfl ?_
    refine qr_getr (kf := 0) o cf_X0 (sh44 j r) rfl (Nat.le_of_ble_eq_true rfl) fl_X0_9 (q_dm dm_X0_doSteps 66 rfl) ?_
    refine qr_getr (kf := 0) o cf_X2 (sh3 j r) rfl (Nat.le_of_ble_eq_true rfl) fl_X0_128 (q_dm dm_X0_doSteps 67 rfl) ?_
    refine qr_iload o (q_dm dm_X0_doSteps 68 rfl) rfl ?_
    refine qr_iald o (sh4 j r) (q_dm dm_X0_doSteps 69 rfl) ?_
    refine qr_iadd o (q_dm dm_X0_doSteps 70 rfl) ?_
    refine qr_putf (kf := 6) o cf_X0 (sh44 j r) rfl (Nat.le_of_ble_eq_true rfl) fl_X0_95 rfl (by decide +kernel) (q_dm dm_X0_doSteps 71 rfl) ?_
    refine qr_letm (fun m2 => ?_)
    refine qr_aload_n o (q_dm dm_X0_doSteps 72 rfl) rfl ?_
    refine qr_dup o (q_dm dm_X0_doSteps 73 rfl) ?_
    refine qr_getf (kf := 4) o cf_X0 (sh44 j r) rfl (Nat.le_of_ble_eq_true rfl) fl_X0_89 (q_dm dm_X0_doSteps 74 rfl) ?_
    refine qr_iconst o (q_dm dm_X0_doSteps 75 rfl) ic_1 ?_
    refine qr_iadd o (q_dm dm_X0_doSteps 76 rfl) ?_
    refine qr_putf (kf := 4) o cf_X0 (sh44 j r) rfl (Nat.le_of_ble_eq_true rfl) fl_X0_89 rfl (by decide +kernel) (q_dm dm_X0_doSteps 77 rfl) ?_
    refine qr_letm (fun m3 => ?_)
    refine qr_aload_n o (q_dm dm_X0_doSteps 78 rfl) rfl ?_
    refine qr_aload_n o (q_dm dm_X0_doSteps 79 rfl) rfl ?_
    refine qr_getf (kf := 9) o cf_X10 (shT0 j r ht) rfl (Nat.le_of_ble_eq_true rfl) fl_X0_19 (q_dm dm_X0_doSteps 80 rfl) ?_
    refine qr_iload_n o (q_dm dm_X0_doSteps 81 rfl) rfl ?_
    refine qr_iload o (q_dm dm_X0_doSteps 82 rfl) rfl ?_
    refine qr_aload_n o (q_dm dm_X0_doSteps 83 rfl) rfl ?_
    refine qr_aload_n o (q_dm dm_X0_doSteps 84 rfl) rfl ?_
    refine qr_iload_n o (q_dm dm_X0_doSteps 85 rfl) rfl ?_
    refine qr_iload o (q_dm dm_X0_doSteps 86 rfl) rfl ?_
    refine qr_iload o (q_dm dm_X0_doSteps 87 rfl) rfl ?_
    refine qr_callv_i (As := [.inr (some t), .inl a2, .inl a5, .inl a6]) (S := [.inl a5, .inl a2, .inl (m3 t 9), .inr (some 44)]) o (a_X0_attempt g k.2.1 n j r hj hr ht a2 a5 a6 m3) (Nat.le_of_ble_eq_true rfl) zv_X0_attempt rfl cf_X0 (sh44 j r) ml_X0_131 (Nat.le_of_ble_eq_true rfl) (q_dm dm_X0_doSteps 88 rfl) (fun r4 m5 => ?_)
    refine qr_callv_v (As := [.inl (m3 t 9), .inl a2, .inl a5, .inl r4]) (S := []) o (a_X0_noteOutcome g k.2.1 n j r hj hr (m3 t 9) a2 a5 r4 m5) (Nat.le_of_ble_eq_true rfl) zv_X0_noteOutcome rfl cf_X0 (sh44 j r) ml_X0_134 (Nat.le_of_ble_eq_true rfl) (q_dm dm_X0_doSteps 89 rfl) (fun _ m6 => ?_)
    exact qr_loc (q_leS (q_leS (q_leS (q_leS (q_leS (q_leN (q_leN q_le0))))))) (w_X0_doSteps_162 n j r hj hr ht o K11 hK11 a2 x1 a4 m6)
  · exact qr_vret o rfl (q_dm dm_X0_doSteps 53 rfl)

def b_X0_doSteps_11 (n : Nat) (t j : Nat) (K11 : Int32 → Int32 → Int32 → qM → qR) (a2 a3 a4 : Int32) (M : qM) : qR :=
  qg a2 8 ((if (M (t + 7) a2.toNatClampNeg) ≤ a4 then some (0, M) else qg ((a2 * (40 : Int32)) + a4) 320 (ql (M (t + 5) ((a2 * (40 : Int32)) + a4).toNatClampNeg) (fun x1 => qg ((a2 * (40 : Int32)) + a4) 320 (ql (M (t + 6) ((a2 * (40 : Int32)) + a4).toNatClampNeg) (fun x2 => qc (f_X2_knows n x1 M) (fun r3 m4 => (if r3 = (0 : Int32) then f_X0_doSteps_162 n t j K11 a2 a3 a4 m4 else (if x2 = (8 : Int32) then f_X0_doSteps_84 n t j K11 a2 a3 a4 x1 x2 m4 else (if x2 = a2 then f_X0_doSteps_162 n t j K11 a2 a3 a4 m4 else qc (f_X10_knows n t x2 m4) (fun r5 m6 => (if r5 = (0 : Int32) then f_X0_doSteps_162 n t j K11 a2 a3 a4 m6 else f_X0_doSteps_84 n t j K11 a2 a3 a4 x1 x2 m6))))))))))))
set_option maxRecDepth 4000 in
theorem wb_X0_doSteps_11 {g : qG} {k : qK} (n : Nat) (j r : Nat) (hj : q_isLaw j) (hr : q_isLaw r) {t : Nat} (ht : q_isTown t) (o : qOk g 5 zX0_doSteps k) (K11 : Int32 → Int32 → Int32 → qM → qR) (hK11 : ∀ (a2 a3 a4 : Int32) (M : qM), qAE g k zX0_doSteps (qL j r) 11 [some (.inr (some 44)), some (.inr (some t)), some (.inl a2), some (.inl a3), some (.inl a4), none, none] [] (qL j r, M) (K11 a2 a3 a4 M)) (a2 a3 a4 : Int32) (M : qM) : qAE g k zX0_doSteps (qL j r) 11 [some (.inr (some 44)), some (.inr (some t)), some (.inl a2), some (.inl a3), some (.inl a4), none, none] [] (qL j r, M) (b_X0_doSteps_11 n t j K11 a2 a3 a4 M) := by
  unfold b_X0_doSteps_11
  refine qr_iload o (q_dm dm_X0_doSteps 7 rfl) rfl ?_
  refine qr_aload_n o (q_dm dm_X0_doSteps 8 rfl) rfl ?_
  refine qr_getr (kf := 6) o cf_X10 (shT0 j r ht) rfl (Nat.le_of_ble_eq_true rfl) fl_X0_118 (q_dm dm_X0_doSteps 9 rfl) ?_
  refine qr_iload_n o (q_dm dm_X0_doSteps 10 rfl) rfl ?_
  refine qr_iald o (shT7 j r ht) (q_dm dm_X0_doSteps 11 rfl) ?_
  refine qr_icmp_ge (tgt := 178) o (q_dm dm_X0_doSteps 12 rfl) (by decide) ?_ ?_
  · exact qr_vret o rfl (q_dm dm_X0_doSteps 99 rfl)
  · refine qr_aload_n o (q_dm dm_X0_doSteps 13 rfl) rfl ?_
    refine qr_getr (kf := 4) o cf_X10 (shT0 j r ht) rfl (Nat.le_of_ble_eq_true rfl) fl_X0_121 (q_dm dm_X0_doSteps 14 rfl) ?_
    refine qr_iload_n o (q_dm dm_X0_doSteps 15 rfl) rfl ?_
    refine qr_bipush o (q_dm dm_X0_doSteps 16 rfl) bi_40 ?_
    refine qr_imul o (q_dm dm_X0_doSteps 17 rfl) ?_
    refine qr_iload o (q_dm dm_X0_doSteps 18 rfl) rfl ?_
    refine qr_iadd o (q_dm dm_X0_doSteps 19 rfl) ?_
    refine qr_iald o (shT5 j r ht) (q_dm dm_X0_doSteps 20 rfl) ?_
    refine qr_lt (fun x1 => ?_)
    refine qs_istore (L' := [some (.inr (some 44)), some (.inr (some t)), some (.inl a2), some (.inl a3), some (.inl a4), some (.inl x1), none]) o (q_dm dm_X0_doSteps 21 rfl) (Nat.le_of_ble_eq_true rfl) rfl ?_
    refine qr_aload_n o (q_dm dm_X0_doSteps 22 rfl) rfl ?_
    refine qr_getr (kf := 5) o cf_X10 (shT0 j r ht) rfl (Nat.le_of_ble_eq_true rfl) fl_X0_124 (q_dm dm_X0_doSteps 23 rfl) ?_
    refine qr_iload_n o (q_dm dm_X0_doSteps 24 rfl) rfl ?_
    refine qr_bipush o (q_dm dm_X0_doSteps 25 rfl) bi_40 ?_
    refine qr_imul o (q_dm dm_X0_doSteps 26 rfl) ?_
    refine qr_iload o (q_dm dm_X0_doSteps 27 rfl) rfl ?_
    refine qr_iadd o (q_dm dm_X0_doSteps 28 rfl) ?_
    refine qr_iald o (shT6 j r ht) (q_dm dm_X0_doSteps 29 rfl) ?_
    refine qr_lt (fun x2 => ?_)
    refine qs_istore (L' := [some (.inr (some 44)), some (.inr (some t)), some (.inl a2), some (.inl a3), some (.inl a4), some (.inl x1), some (.inl x2)]) o (q_dm dm_X0_doSteps 30 rfl) (Nat.le_of_ble_eq_true rfl) rfl ?_
    refine qr_aload_n o (q_dm dm_X0_doSteps 31 rfl) rfl ?_
    refine qr_getr (kf := 0) o cf_X0 (sh44 j r) rfl (Nat.le_of_ble_eq_true rfl) fl_X0_9 (q_dm dm_X0_doSteps 32 rfl) ?_
    refine qr_iload o (q_dm dm_X0_doSteps 33 rfl) rfl ?_
    refine qr_callv_i (As := [.inl x1]) (S := []) o (a_X2_knows g k.2.1 n j r hj hr x1 M) (Nat.le_of_ble_eq_true rfl) zv_X2_knows rfl cf_X2 (sh3 j r) ml_X0_127 (Nat.le_of_ble_eq_true rfl) (q_dm dm_X0_doSteps 34 rfl) (fun r3 m4 => ?_)
    refine qr_if_eq (tgt := 162) o (q_dm dm_X0_doSteps 35 rfl) (by decide) ?_ ?_
    · exact qr_loc (q_leS (q_leS (q_leS (q_leS (q_leS (q_leN (q_leN q_le0))))))) (w_X0_doSteps_162 n j r hj hr ht o K11 hK11 a2 a3 a4 m4)
    · refine qr_iload o (q_dm dm_X0_doSteps 36 rfl) rfl ?_
      refine qr_bipush o (q_dm dm_X0_doSteps 37 rfl) bi_8 ?_
      refine qr_icmp_eq (tgt := 84) o (q_dm dm_X0_doSteps 38 rfl) (by decide) ?_ ?_
      · exact qr_loc (q_leS (q_leS (q_leS (q_leS (q_leS (q_leS (q_leS q_le0))))))) (w_X0_doSteps_84 n j r hj hr ht o K11 hK11 a2 a3 a4 x1 x2 m4)
      · refine qr_iload o (q_dm dm_X0_doSteps 39 rfl) rfl ?_
        refine qr_iload_n o (q_dm dm_X0_doSteps 40 rfl) rfl ?_
        refine qr_icmp_eq (tgt := 162) o (q_dm dm_X0_doSteps 41 rfl) (by decide) ?_ ?_
        · exact qr_loc (q_leS (q_leS (q_leS (q_leS (q_leS (q_leN (q_leN q_le0))))))) (w_X0_doSteps_162 n j r hj hr ht o K11 hK11 a2 a3 a4 m4)
        · refine qr_aload_n o (q_dm dm_X0_doSteps 42 rfl) rfl ?_
          refine qr_iload o (q_dm dm_X0_doSteps 43 rfl) rfl ?_
          refine qr_callv_i (As := [.inl x2]) (S := []) o (a_X10_knows g k.2.1 n j r hj hr ht x2 m4) (Nat.le_of_ble_eq_true rfl) zv_X10_knows rfl cf_X10 (shT0 j r ht) ml_X0_107 (Nat.le_of_ble_eq_true rfl) (q_dm dm_X0_doSteps 44 rfl) (fun r5 m6 => ?_)
          refine qr_if_eq (tgt := 162) o (q_dm dm_X0_doSteps 45 rfl) (by decide) ?_ ?_
          · exact qr_loc (q_leS (q_leS (q_leS (q_leS (q_leS (q_leN (q_leN q_le0))))))) (w_X0_doSteps_162 n j r hj hr ht o K11 hK11 a2 a3 a4 m6)
          · exact qr_loc (q_leS (q_leS (q_leS (q_leS (q_leS (q_leS (q_leS q_le0))))))) (w_X0_doSteps_84 n j r hj hr ht o K11 hK11 a2 a3 a4 x1 x2 m6)

def f_X0_doSteps_11 (n : Nat) (t j : Nat) : Nat → Int32 → Int32 → Int32 → qM → qR
  | 0, _, _, _, _ => none
  | m + 1, a2, a3, a4, M => b_X0_doSteps_11 n t j (f_X0_doSteps_11 n t j m) a2 a3 a4 M
theorem w_X0_doSteps_11 {g : qG} {k : qK} (n : Nat) (j r : Nat) (hj : q_isLaw j) (hr : q_isLaw r) {t : Nat} (ht : q_isTown t) (o : qOk g 5 zX0_doSteps k) : ∀ (m : Nat) (a2 a3 a4 : Int32) (M : qM), qAE g k zX0_doSteps (qL j r) 11 [some (.inr (some 44)), some (.inr (some t)), some (.inl a2), some (.inl a3), some (.inl a4), none, none] [] (qL j r, M) (f_X0_doSteps_11 n t j m a2 a3 a4 M) := by
  intro m
  induction m with
  | zero =>
    intro a2 a3 a4 M
    exact qr_none
  | succ m ih =>
    intro a2 a3 a4 M
    exact wb_X0_doSteps_11 n j r hj hr ht o (f_X0_doSteps_11 n t j m) ih a2 a3 a4 M
def f_X0_doSteps (n : Nat) (t j : Nat) (a2 : Int32) (M : qM) : qR :=
  qg a2 8 (ql (M (t + 8) a2.toNatClampNeg) (fun x1 => f_X0_doSteps_11 n t j n a2 (12 : Int32) x1 M))
set_option maxRecDepth 4000 in
theorem w_X0_doSteps {g : qG} {k : qK} (n : Nat) (j r : Nat) (hj : q_isLaw j) (hr : q_isLaw r) {t : Nat} (ht : q_isTown t) (o : qOk g 5 zX0_doSteps k) (a2 : Int32) (M : qM) : qAE g k zX0_doSteps (qL j r) 0 [some (.inr (some 44)), some (.inr (some t)), some (.inl a2), none, none, none, none] [] (qL j r, M) (f_X0_doSteps n t j a2 M) := by
  unfold f_X0_doSteps
  refine qr_bipush o (q_dm dm_X0_doSteps 0 rfl) bi_12 ?_
  refine qs_istore_n (L' := [some (.inr (some 44)), some (.inr (some t)), some (.inl a2), some (.inl (12 : Int32)), none, none, none]) o (q_dm dm_X0_doSteps 1 rfl) (Nat.le_of_ble_eq_true rfl) rfl ?_
  refine qr_aload_n o (q_dm dm_X0_doSteps 2 rfl) rfl ?_
  refine qr_getr (kf := 7) o cf_X10 (shT0 j r ht) rfl (Nat.le_of_ble_eq_true rfl) fl_X0_115 (q_dm dm_X0_doSteps 3 rfl) ?_
  refine qr_iload_n o (q_dm dm_X0_doSteps 4 rfl) rfl ?_
  refine qr_iald o (shT8 j r ht) (q_dm dm_X0_doSteps 5 rfl) ?_
  refine qr_lt (fun x1 => ?_)
  refine qs_istore (L' := [some (.inr (some 44)), some (.inr (some t)), some (.inl a2), some (.inl (12 : Int32)), some (.inl x1), none, none]) o (q_dm dm_X0_doSteps 6 rfl) (Nat.le_of_ble_eq_true rfl) rfl ?_
  exact qr_loc (q_leS (q_leS (q_leS (q_leS (q_leS (q_leN (q_leN q_le0))))))) (w_X0_doSteps_11 n j r hj hr ht o n a2 (12 : Int32) x1 M)

theorem a_X0_doSteps (g : qG) (l : Launch) (n : Nat) (j r : Nat) (hj : q_isLaw j) (hr : q_isLaw r) {t : Nat} (ht : q_isTown t) (a2 : Int32) (M : qM) : qAM g l 5 zX0_doSteps (qL j r) [.inr (some 44), .inr (some t), .inl a2] (qL j r, M) (f_X0_doSteps n t j a2 M) :=
  qAM.of zv_X0_doSteps.1 (by show 3 ≤ 7; decide) (fun k hk o => w_X0_doSteps n j r hj hr ht o a2 M)
def tb_X0_goDays : List (Nat × Instr × Nat) := [(0, (.aload_n 0, 1)), (1, (.iconst 0, 1)), (2, (.putfield 89, 3)), (5, (.aload_n 0, 1)), (6, (.iconst 0, 1)), (7, (.putfield 92, 3)), (10, (.aload_n 0, 1)), (11, (.iconst 0, 1)), (12, (.putfield 95, 3)), (15, (.aload_n 0, 1)), (16, (.bipush (-2), 2)), (18, (.putfield 98, 3)), (21, (.aload_n 0, 1)), (22, (.bipush (-2), 2)), (24, (.putfield 101, 3)), (27, (.aload_n 0, 1)), (28, (.bipush (-2), 2)), (30, (.putfield 104, 3)), (33, (.iconst 0, 1)), (34, (.istore_n 3, 1)), (35, (.iload_n 3, 1)), (36, (.iload_n 2, 1)), (37, (.if_icmp .ge 61, 3)), (40, (.aload_n 1, 1)), (41, (.getfield 19, 3)), (44, (.sipush 9999, 3)), (47, (.if_icmp .ge 51, 3)), (50, (.iconst 0, 1)), (51, (.istore 4, 2)), (53, (.iload 4, 2)), (55, (.bipush 8, 2)), (57, (.if_icmp .ge 25, 3)), (60, (.aload_n 1, 1)), (61, (.iload 4, 2)), (63, (.invokevirtual 107, 3)), (66, (.ifCond .eq 10, 3)), (69, (.aload_n 0, 1)), (70, (.aload_n 1, 1)), (71, (.iload 4, 2)), (73, (.invokevirtual 111, 3)), (76, (.iinc 4 1, 3)), (79, (.goto (-26), 3)), (82, (.aload_n 1, 1)), (83, (.dup, 1)), (84, (.getfield 19, 3)), (87, (.iconst 1, 1)), (88, (.iadd, 1)), (89, (.putfield 19, 3)), (92, (.iinc 3 1, 3)), (95, (.goto (-60), 3)), (98, (.return_, 1))]
theorem dm_X0_goDays : ∀ q ∈ tb_X0_goDays, decode zX0_goDays.2.1 q.1 = .ok q.2 := by decide +kernel
def b_X0_goDays_53 (n : Nat) (t j : Nat) (K35 : Int32 → Int32 → qM → qR) (K53 : Int32 → Int32 → Int32 → qM → qR) (a2 a3 a4 : Int32) (M : qM) : qR :=
  (if (8 : Int32) ≤ a4 then qlm (mu M t 9 ((M t 9) + (1 : Int32))) (fun m1 => ql (a3 + (1 : Int32)) (fun x2 => K35 a2 x2 m1)) else qc (f_X10_knows n t a4 M) (fun r3 m4 => (if r3 = (0 : Int32) then ql (a4 + (1 : Int32)) (fun x5 => K53 a2 a3 x5 m4) else qc (f_X0_doSteps n t j a4 m4) (fun _ m6 => ql (a4 + (1 : Int32)) (fun x7 => K53 a2 a3 x7 m6)))))
set_option maxRecDepth 4000 in
theorem wb_X0_goDays_53 {g : qG} {k : qK} (n : Nat) (j r : Nat) (hj : q_isLaw j) (hr : q_isLaw r) {t : Nat} (ht : q_isTown t) (o : qOk g 6 zX0_goDays k) (K35 : Int32 → Int32 → qM → qR) (hK35 : ∀ (a2 a3 : Int32) (M : qM), qAE g k zX0_goDays (qL j r) 35 [some (.inr (some 44)), some (.inr (some t)), some (.inl a2), some (.inl a3), none] [] (qL j r, M) (K35 a2 a3 M)) (K53 : Int32 → Int32 → Int32 → qM → qR) (hK53 : ∀ (a2 a3 a4 : Int32) (M : qM), qAE g k zX0_goDays (qL j r) 53 [some (.inr (some 44)), some (.inr (some t)), some (.inl a2), some (.inl a3), some (.inl a4)] [] (qL j r, M) (K53 a2 a3 a4 M)) (a2 a3 a4 : Int32) (M : qM) : qAE g k zX0_goDays (qL j r) 53 [some (.inr (some 44)), some (.inr (some t)), some (.inl a2), some (.inl a3), some (.inl a4)] [] (qL j r, M) (b_X0_goDays_53 n t j K35 K53 a2 a3 a4 M) := by
  unfold b_X0_goDays_53
  refine qr_iload o (q_dm dm_X0_goDays 29 rfl) rfl ?_
  refine qr_bipush o (q_dm dm_X0_goDays 30 rfl) bi_8 ?_
  refine qr_icmp_ge (tgt := 82) o (q_dm dm_X0_goDays 31 rfl) (by decide) ?_ ?_
  · refine qr_aload_n o (q_dm dm_X0_goDays 42 rfl) rfl ?_
    refine qr_dup o (q_dm dm_X0_goDays 43 rfl) ?_
    refine qr_getf (kf := 9) o cf_X10 (shT0 j r ht) rfl (Nat.le_of_ble_eq_true rfl) fl_X0_19 (q_dm dm_X0_goDays 44 rfl) ?_
    refine qr_iconst o (q_dm dm_X0_goDays 45 rfl) ic_1 ?_
    refine qr_iadd o (q_dm dm_X0_goDays 46 rfl) ?_
    refine qr_putf (kf := 9) o cf_X10 (shT0 j r ht) rfl (Nat.le_of_ble_eq_true rfl) fl_X0_19 rfl (by decide +kernel) (q_dm dm_X0_goDays 47 rfl) ?_
    refine qr_letm (fun m1 => ?_)
    refine qs_iincl2 (L' := fun x2 => [some (.inr (some 44)), some (.inr (some t)), some (.inl a2), some (.inl x2), some (.inl a4)]) o (q_dm dm_X0_goDays 48 rfl) rfl ic_1 (Nat.le_of_ble_eq_true rfl) (fun _ => rfl) (fun x2 => ?_)
    refine qr_goto (tgt := 35) o (q_dm dm_X0_goDays 49 rfl) (by decide) ?_
    exact qr_loc (q_leS (q_leS (q_leS (q_leS (q_leN q_le0))))) (hK35 a2 x2 m1)
  · refine qr_aload_n o (q_dm dm_X0_goDays 32 rfl) rfl ?_
    refine qr_iload o (q_dm dm_X0_goDays 33 rfl) rfl ?_
    refine qr_callv_i (As := [.inl a4]) (S := []) o (a_X10_knows g k.2.1 n j r hj hr ht a4 M) (Nat.le_of_ble_eq_true rfl) zv_X10_knows rfl cf_X10 (shT0 j r ht) ml_X0_107 (Nat.le_of_ble_eq_true rfl) (q_dm dm_X0_goDays 34 rfl) (fun r3 m4 => ?_)
    refine qr_if_eq (tgt := 76) o (q_dm dm_X0_goDays 35 rfl) (by decide) ?_ ?_
    · refine qs_iincl2 (L' := fun x5 => [some (.inr (some 44)), some (.inr (some t)), some (.inl a2), some (.inl a3), some (.inl x5)]) o (q_dm dm_X0_goDays 40 rfl) rfl ic_1 (Nat.le_of_ble_eq_true rfl) (fun _ => rfl) (fun x5 => ?_)
      refine qr_goto (tgt := 53) o (q_dm dm_X0_goDays 41 rfl) (by decide) ?_
      exact qr_loc (q_leS (q_leS (q_leS (q_leS (q_leS q_le0))))) (hK53 a2 a3 x5 m4)
    · refine qr_aload_n o (q_dm dm_X0_goDays 36 rfl) rfl ?_
      refine qr_aload_n o (q_dm dm_X0_goDays 37 rfl) rfl ?_
      refine qr_iload o (q_dm dm_X0_goDays 38 rfl) rfl ?_
      refine qr_callv_v (As := [.inr (some t), .inl a4]) (S := []) o (a_X0_doSteps g k.2.1 n j r hj hr ht a4 m4) (Nat.le_of_ble_eq_true rfl) zv_X0_doSteps rfl cf_X0 (sh44 j r) ml_X0_111 (Nat.le_of_ble_eq_true rfl) (q_dm dm_X0_goDays 39 rfl) (fun _ m6 => ?_)
      refine qs_iincl2 (L' := fun x7 => [some (.inr (some 44)), some (.inr (some t)), some (.inl a2), some (.inl a3), some (.inl x7)]) o (q_dm dm_X0_goDays 40 rfl) rfl ic_1 (Nat.le_of_ble_eq_true rfl) (fun _ => rfl) (fun x7 => ?_)
      refine qr_goto (tgt := 53) o (q_dm dm_X0_goDays 41 rfl) (by decide) ?_
      exact qr_loc (q_leS (q_leS (q_leS (q_leS (q_leS q_le0))))) (hK53 a2 a3 x7 m6)

def f_X0_goDays_53 (n : Nat) (t j : Nat) (K35 : Int32 → Int32 → qM → qR) : Nat → Int32 → Int32 → Int32 → qM → qR
  | 0, _, _, _, _ => none
  | m + 1, a2, a3, a4, M => b_X0_goDays_53 n t j K35 (f_X0_goDays_53 n t j K35 m) a2 a3 a4 M
theorem w_X0_goDays_53 {g : qG} {k : qK} (n : Nat) (j r : Nat) (hj : q_isLaw j) (hr : q_isLaw r) {t : Nat} (ht : q_isTown t) (o : qOk g 6 zX0_goDays k) (K35 : Int32 → Int32 → qM → qR) (hK35 : ∀ (a2 a3 : Int32) (M : qM), qAE g k zX0_goDays (qL j r) 35 [some (.inr (some 44)), some (.inr (some t)), some (.inl a2), some (.inl a3), none] [] (qL j r, M) (K35 a2 a3 M)) : ∀ (m : Nat) (a2 a3 a4 : Int32) (M : qM), qAE g k zX0_goDays (qL j r) 53 [some (.inr (some 44)), some (.inr (some t)), some (.inl a2), some (.inl a3), some (.inl a4)] [] (qL j r, M) (f_X0_goDays_53 n t j K35 m a2 a3 a4 M) := by
  intro m
  induction m with
  | zero =>
    intro a2 a3 a4 M
    exact qr_none
  | succ m ih =>
    intro a2 a3 a4 M
    exact wb_X0_goDays_53 n j r hj hr ht o K35 hK35 (f_X0_goDays_53 n t j K35 m) ih a2 a3 a4 M
def b_X0_goDays_35 (n : Nat) (t j : Nat) (K35 : Int32 → Int32 → qM → qR) (a2 a3 : Int32) (M : qM) : qR :=
  (if a2 ≤ a3 then some (0, M) else (if (9999 : Int32) ≤ (M t 9) then some (0, M) else f_X0_goDays_53 n t j K35 n a2 a3 (0 : Int32) M))
set_option maxRecDepth 4000 in
theorem wb_X0_goDays_35 {g : qG} {k : qK} (n : Nat) (j r : Nat) (hj : q_isLaw j) (hr : q_isLaw r) {t : Nat} (ht : q_isTown t) (o : qOk g 6 zX0_goDays k) (K35 : Int32 → Int32 → qM → qR) (hK35 : ∀ (a2 a3 : Int32) (M : qM), qAE g k zX0_goDays (qL j r) 35 [some (.inr (some 44)), some (.inr (some t)), some (.inl a2), some (.inl a3), none] [] (qL j r, M) (K35 a2 a3 M)) (a2 a3 : Int32) (M : qM) : qAE g k zX0_goDays (qL j r) 35 [some (.inr (some 44)), some (.inr (some t)), some (.inl a2), some (.inl a3), none] [] (qL j r, M) (b_X0_goDays_35 n t j K35 a2 a3 M) := by
  unfold b_X0_goDays_35
  refine qr_iload_n o (q_dm dm_X0_goDays 20 rfl) rfl ?_
  refine qr_iload_n o (q_dm dm_X0_goDays 21 rfl) rfl ?_
  refine qr_icmp_ge (tgt := 98) o (q_dm dm_X0_goDays 22 rfl) (by decide) ?_ ?_
  · exact qr_vret o rfl (q_dm dm_X0_goDays 50 rfl)
  · refine qr_aload_n o (q_dm dm_X0_goDays 23 rfl) rfl ?_
    refine qr_getf (kf := 9) o cf_X10 (shT0 j r ht) rfl (Nat.le_of_ble_eq_true rfl) fl_X0_19 (q_dm dm_X0_goDays 24 rfl) ?_
    refine qr_sipush o (q_dm dm_X0_goDays 25 rfl) si_9999 ?_
    refine qr_icmp_ge (tgt := 98) o (q_dm dm_X0_goDays 26 rfl) (by decide) ?_ ?_
    · exact qr_vret o rfl (q_dm dm_X0_goDays 50 rfl)
    · refine qr_iconst o (q_dm dm_X0_goDays 27 rfl) ic_0 ?_
      refine qs_istore (L' := [some (.inr (some 44)), some (.inr (some t)), some (.inl a2), some (.inl a3), some (.inl (0 : Int32))]) o (q_dm dm_X0_goDays 28 rfl) (Nat.le_of_ble_eq_true rfl) rfl ?_
      exact qr_loc (q_leS (q_leS (q_leS (q_leS (q_leS q_le0))))) (w_X0_goDays_53 n j r hj hr ht o K35 hK35 n a2 a3 (0 : Int32) M)

def f_X0_goDays_35 (n : Nat) (t j : Nat) : Nat → Int32 → Int32 → qM → qR
  | 0, _, _, _ => none
  | m + 1, a2, a3, M => b_X0_goDays_35 n t j (f_X0_goDays_35 n t j m) a2 a3 M
theorem w_X0_goDays_35 {g : qG} {k : qK} (n : Nat) (j r : Nat) (hj : q_isLaw j) (hr : q_isLaw r) {t : Nat} (ht : q_isTown t) (o : qOk g 6 zX0_goDays k) : ∀ (m : Nat) (a2 a3 : Int32) (M : qM), qAE g k zX0_goDays (qL j r) 35 [some (.inr (some 44)), some (.inr (some t)), some (.inl a2), some (.inl a3), none] [] (qL j r, M) (f_X0_goDays_35 n t j m a2 a3 M) := by
  intro m
  induction m with
  | zero =>
    intro a2 a3 M
    exact qr_none
  | succ m ih =>
    intro a2 a3 M
    exact wb_X0_goDays_35 n j r hj hr ht o (f_X0_goDays_35 n t j m) ih a2 a3 M
def f_X0_goDays (n : Nat) (t j : Nat) (a2 : Int32) (M : qM) : qR :=
  qlm (mu M 44 4 (0 : Int32)) (fun m1 => qlm (mu m1 44 5 (0 : Int32)) (fun m2 => qlm (mu m2 44 6 (0 : Int32)) (fun m3 => qlm (mu m3 44 7 (-2 : Int32)) (fun m4 => qlm (mu m4 44 8 (-2 : Int32)) (fun m5 => qlm (mu m5 44 9 (-2 : Int32)) (fun m6 => f_X0_goDays_35 n t j n a2 (0 : Int32) m6))))))
set_option maxRecDepth 4000 in
theorem w_X0_goDays {g : qG} {k : qK} (n : Nat) (j r : Nat) (hj : q_isLaw j) (hr : q_isLaw r) {t : Nat} (ht : q_isTown t) (o : qOk g 6 zX0_goDays k) (a2 : Int32) (M : qM) : qAE g k zX0_goDays (qL j r) 0 [some (.inr (some 44)), some (.inr (some t)), some (.inl a2), none, none] [] (qL j r, M) (f_X0_goDays n t j a2 M) := by
  unfold f_X0_goDays
  refine qr_aload_n o (q_dm dm_X0_goDays 0 rfl) rfl ?_
  refine qr_iconst o (q_dm dm_X0_goDays 1 rfl) ic_0 ?_
  refine qr_putf (kf := 4) o cf_X0 (sh44 j r) rfl (Nat.le_of_ble_eq_true rfl) fl_X0_89 rfl (by decide +kernel) (q_dm dm_X0_goDays 2 rfl) ?_
  refine qr_letm (fun m1 => ?_)
  refine qr_aload_n o (q_dm dm_X0_goDays 3 rfl) rfl ?_
  refine qr_iconst o (q_dm dm_X0_goDays 4 rfl) ic_0 ?_
  refine qr_putf (kf := 5) o cf_X0 (sh44 j r) rfl (Nat.le_of_ble_eq_true rfl) fl_X0_92 rfl (by decide +kernel) (q_dm dm_X0_goDays 5 rfl) ?_
  refine qr_letm (fun m2 => ?_)
  refine qr_aload_n o (q_dm dm_X0_goDays 6 rfl) rfl ?_
  refine qr_iconst o (q_dm dm_X0_goDays 7 rfl) ic_0 ?_
  refine qr_putf (kf := 6) o cf_X0 (sh44 j r) rfl (Nat.le_of_ble_eq_true rfl) fl_X0_95 rfl (by decide +kernel) (q_dm dm_X0_goDays 8 rfl) ?_
  refine qr_letm (fun m3 => ?_)
  refine qr_aload_n o (q_dm dm_X0_goDays 9 rfl) rfl ?_
  refine qr_bipush o (q_dm dm_X0_goDays 10 rfl) bi_m2 ?_
  refine qr_putf (kf := 7) o cf_X0 (sh44 j r) rfl (Nat.le_of_ble_eq_true rfl) fl_X0_98 rfl (by decide +kernel) (q_dm dm_X0_goDays 11 rfl) ?_
  refine qr_letm (fun m4 => ?_)
  refine qr_aload_n o (q_dm dm_X0_goDays 12 rfl) rfl ?_
  refine qr_bipush o (q_dm dm_X0_goDays 13 rfl) bi_m2 ?_
  refine qr_putf (kf := 8) o cf_X0 (sh44 j r) rfl (Nat.le_of_ble_eq_true rfl) fl_X0_101 rfl (by decide +kernel) (q_dm dm_X0_goDays 14 rfl) ?_
  refine qr_letm (fun m5 => ?_)
  refine qr_aload_n o (q_dm dm_X0_goDays 15 rfl) rfl ?_
  refine qr_bipush o (q_dm dm_X0_goDays 16 rfl) bi_m2 ?_
  refine qr_putf (kf := 9) o cf_X0 (sh44 j r) rfl (Nat.le_of_ble_eq_true rfl) fl_X0_104 rfl (by decide +kernel) (q_dm dm_X0_goDays 17 rfl) ?_
  refine qr_letm (fun m6 => ?_)
  refine qr_iconst o (q_dm dm_X0_goDays 18 rfl) ic_0 ?_
  refine qs_istore_n (L' := [some (.inr (some 44)), some (.inr (some t)), some (.inl a2), some (.inl (0 : Int32)), none]) o (q_dm dm_X0_goDays 19 rfl) (Nat.le_of_ble_eq_true rfl) rfl ?_
  exact qr_loc (q_leS (q_leS (q_leS (q_leS (q_leN q_le0))))) (w_X0_goDays_35 n j r hj hr ht o n a2 (0 : Int32) m6)

theorem a_X0_goDays (g : qG) (l : Launch) (n : Nat) (j r : Nat) (hj : q_isLaw j) (hr : q_isLaw r) {t : Nat} (ht : q_isTown t) (a2 : Int32) (M : qM) : qAM g l 6 zX0_goDays (qL j r) [.inr (some 44), .inr (some t), .inl a2] (qL j r, M) (f_X0_goDays n t j a2 M) :=
  qAM.of zv_X0_goDays.1 (by show 3 ≤ 5; decide) (fun k hk o => w_X0_goDays n j r hj hr ht o a2 M)
def tb_X10_copy : List (Nat × Instr × Nat) := [(0, (.aload_n 1, 1)), (1, (.getfield 9, 3)), (4, (.iconst 0, 1)), (5, (.aload_n 0, 1)), (6, (.getfield 9, 3)), (9, (.iconst 0, 1)), (10, (.bipush 8, 2)), (12, (.invokestatic 36, 3)), (15, (.aload_n 1, 1)), (16, (.getfield 15, 3)), (19, (.iconst 0, 1)), (20, (.aload_n 0, 1)), (21, (.getfield 15, 3)), (24, (.iconst 0, 1)), (25, (.bipush 96, 2)), (27, (.invokestatic 36, 3)), (30, (.aload_n 1, 1)), (31, (.getfield 18, 3)), (34, (.iconst 0, 1)), (35, (.aload_n 0, 1)), (36, (.getfield 18, 3)), (39, (.iconst 0, 1)), (40, (.bipush 96, 2)), (42, (.invokestatic 36, 3)), (45, (.aload_n 1, 1)), (46, (.getfield 21, 3)), (49, (.iconst 0, 1)), (50, (.aload_n 0, 1)), (51, (.getfield 21, 3)), (54, (.iconst 0, 1)), (55, (.bipush 96, 2)), (57, (.invokestatic 36, 3)), (60, (.aload_n 1, 1)), (61, (.getfield 24, 3)), (64, (.iconst 0, 1)), (65, (.aload_n 0, 1)), (66, (.getfield 24, 3)), (69, (.iconst 0, 1)), (70, (.sipush 320, 3)), (73, (.invokestatic 36, 3)), (76, (.aload_n 1, 1)), (77, (.getfield 27, 3)), (80, (.iconst 0, 1)), (81, (.aload_n 0, 1)), (82, (.getfield 27, 3)), (85, (.iconst 0, 1)), (86, (.sipush 320, 3)), (89, (.invokestatic 36, 3)), (92, (.aload_n 1, 1)), (93, (.getfield 30, 3)), (96, (.iconst 0, 1)), (97, (.aload_n 0, 1)), (98, (.getfield 30, 3)), (101, (.iconst 0, 1)), (102, (.bipush 8, 2)), (104, (.invokestatic 36, 3)), (107, (.aload_n 1, 1)), (108, (.getfield 33, 3)), (111, (.iconst 0, 1)), (112, (.aload_n 0, 1)), (113, (.getfield 33, 3)), (116, (.iconst 0, 1)), (117, (.bipush 8, 2)), (119, (.invokestatic 36, 3)), (122, (.aload_n 0, 1)), (123, (.aload_n 1, 1)), (124, (.getfield 42, 3)), (127, (.putfield 42, 3)), (130, (.aload_n 0, 1)), (131, (.aload_n 1, 1)), (132, (.getfield 46, 3)), (135, (.putfield 46, 3)), (138, (.return_, 1))]
theorem dm_X10_copy : ∀ q ∈ tb_X10_copy, decode zX10_copy.2.1 q.1 = .ok q.2 := by decide +kernel
def f_X10_copy (n : Nat) (t u : Nat) (M : qM) : qR :=
  qcp (0 : Int32) (0 : Int32) (8 : Int32) 8 8 (qlm (mr M (t + 1) (va_cpy (M (u + 1)) (M (t + 1)) (0 : Int32).toNatClampNeg (0 : Int32).toNatClampNeg (8 : Int32).toNatClampNeg)) (fun m1 => qcp (0 : Int32) (0 : Int32) (96 : Int32) 96 96 (qlm (mr m1 (t + 2) (va_cpy (m1 (u + 2)) (m1 (t + 2)) (0 : Int32).toNatClampNeg (0 : Int32).toNatClampNeg (96 : Int32).toNatClampNeg)) (fun m2 => qcp (0 : Int32) (0 : Int32) (96 : Int32) 96 96 (qlm (mr m2 (t + 3) (va_cpy (m2 (u + 3)) (m2 (t + 3)) (0 : Int32).toNatClampNeg (0 : Int32).toNatClampNeg (96 : Int32).toNatClampNeg)) (fun m3 => qcp (0 : Int32) (0 : Int32) (96 : Int32) 96 96 (qlm (mr m3 (t + 4) (va_cpy (m3 (u + 4)) (m3 (t + 4)) (0 : Int32).toNatClampNeg (0 : Int32).toNatClampNeg (96 : Int32).toNatClampNeg)) (fun m4 => qcp (0 : Int32) (0 : Int32) (320 : Int32) 320 320 (qlm (mr m4 (t + 5) (va_cpy (m4 (u + 5)) (m4 (t + 5)) (0 : Int32).toNatClampNeg (0 : Int32).toNatClampNeg (320 : Int32).toNatClampNeg)) (fun m5 => qcp (0 : Int32) (0 : Int32) (320 : Int32) 320 320 (qlm (mr m5 (t + 6) (va_cpy (m5 (u + 6)) (m5 (t + 6)) (0 : Int32).toNatClampNeg (0 : Int32).toNatClampNeg (320 : Int32).toNatClampNeg)) (fun m6 => qcp (0 : Int32) (0 : Int32) (8 : Int32) 8 8 (qlm (mr m6 (t + 7) (va_cpy (m6 (u + 7)) (m6 (t + 7)) (0 : Int32).toNatClampNeg (0 : Int32).toNatClampNeg (8 : Int32).toNatClampNeg)) (fun m7 => qcp (0 : Int32) (0 : Int32) (8 : Int32) 8 8 (qlm (mr m7 (t + 8) (va_cpy (m7 (u + 8)) (m7 (t + 8)) (0 : Int32).toNatClampNeg (0 : Int32).toNatClampNeg (8 : Int32).toNatClampNeg)) (fun m8 => qlm (mu m8 t 8 (m8 u 8)) (fun m9 => qlm (mu m9 t 9 (m9 u 9)) (fun m10 => some (0, m10)))))))))))))))))))
set_option maxRecDepth 4000 in
theorem w_X10_copy {g : qG} {k : qK} (n : Nat) (j r : Nat) (hj : q_isLaw j) (hr : q_isLaw r) {t : Nat} {u : Nat} (ht : q_isTown t) (hu : q_isTown u) (o : qOk g 1 zX10_copy k) (M : qM) : qAE g k zX10_copy (qL j r) 0 [some (.inr (some t)), some (.inr (some u))] [] (qL j r, M) (f_X10_copy n t u  M) := by
  unfold f_X10_copy
  refine qr_aload_n o (q_dm dm_X10_copy 0 rfl) rfl ?_
  refine qr_getr (kf := 0) o cf_X10 (shT0 j r hu) rfl (Nat.le_of_ble_eq_true rfl) fl_X10_9 (q_dm dm_X10_copy 1 rfl) ?_
  refine qr_iconst o (q_dm dm_X10_copy 2 rfl) ic_0 ?_
  refine qr_aload_n o (q_dm dm_X10_copy 3 rfl) rfl ?_
  refine qr_getr (kf := 0) o cf_X10 (shT0 j r ht) rfl (Nat.le_of_ble_eq_true rfl) fl_X10_9 (q_dm dm_X10_copy 4 rfl) ?_
  refine qr_iconst o (q_dm dm_X10_copy 5 rfl) ic_0 ?_
  refine qr_bipush o (q_dm dm_X10_copy 6 rfl) bi_8 ?_
  refine qr_copyp o (shT1 j r hu) (shT1 j r ht) ml_X10_36 (by omega) (by show 0 + _ ≤ _; decide) (q_dm dm_X10_copy 7 rfl) ?_
  refine qr_letm (fun m1 => ?_)
  refine qr_aload_n o (q_dm dm_X10_copy 8 rfl) rfl ?_
  refine qr_getr (kf := 1) o cf_X10 (shT0 j r hu) rfl (Nat.le_of_ble_eq_true rfl) fl_X10_15 (q_dm dm_X10_copy 9 rfl) ?_
  refine qr_iconst o (q_dm dm_X10_copy 10 rfl) ic_0 ?_
  refine qr_aload_n o (q_dm dm_X10_copy 11 rfl) rfl ?_
  refine qr_getr (kf := 1) o cf_X10 (shT0 j r ht) rfl (Nat.le_of_ble_eq_true rfl) fl_X10_15 (q_dm dm_X10_copy 12 rfl) ?_
  refine qr_iconst o (q_dm dm_X10_copy 13 rfl) ic_0 ?_
  refine qr_bipush o (q_dm dm_X10_copy 14 rfl) bi_96 ?_
  refine qr_copyp o (shT2 j r hu) (shT2 j r ht) ml_X10_36 (by omega) (by show 0 + _ ≤ _; decide) (q_dm dm_X10_copy 15 rfl) ?_
  refine qr_letm (fun m2 => ?_)
  refine qr_aload_n o (q_dm dm_X10_copy 16 rfl) rfl ?_
  refine qr_getr (kf := 2) o cf_X10 (shT0 j r hu) rfl (Nat.le_of_ble_eq_true rfl) fl_X10_18 (q_dm dm_X10_copy 17 rfl) ?_
  refine qr_iconst o (q_dm dm_X10_copy 18 rfl) ic_0 ?_
  refine qr_aload_n o (q_dm dm_X10_copy 19 rfl) rfl ?_
  refine qr_getr (kf := 2) o cf_X10 (shT0 j r ht) rfl (Nat.le_of_ble_eq_true rfl) fl_X10_18 (q_dm dm_X10_copy 20 rfl) ?_
  refine qr_iconst o (q_dm dm_X10_copy 21 rfl) ic_0 ?_
  refine qr_bipush o (q_dm dm_X10_copy 22 rfl) bi_96 ?_
  refine qr_copyp o (shT3 j r hu) (shT3 j r ht) ml_X10_36 (by omega) (by show 0 + _ ≤ _; decide) (q_dm dm_X10_copy 23 rfl) ?_
  refine qr_letm (fun m3 => ?_)
  refine qr_aload_n o (q_dm dm_X10_copy 24 rfl) rfl ?_
  refine qr_getr (kf := 3) o cf_X10 (shT0 j r hu) rfl (Nat.le_of_ble_eq_true rfl) fl_X10_21 (q_dm dm_X10_copy 25 rfl) ?_
  refine qr_iconst o (q_dm dm_X10_copy 26 rfl) ic_0 ?_
  refine qr_aload_n o (q_dm dm_X10_copy 27 rfl) rfl ?_
  refine qr_getr (kf := 3) o cf_X10 (shT0 j r ht) rfl (Nat.le_of_ble_eq_true rfl) fl_X10_21 (q_dm dm_X10_copy 28 rfl) ?_
  refine qr_iconst o (q_dm dm_X10_copy 29 rfl) ic_0 ?_
  refine qr_bipush o (q_dm dm_X10_copy 30 rfl) bi_96 ?_
  refine qr_copyp o (shT4 j r hu) (shT4 j r ht) ml_X10_36 (by omega) (by show 0 + _ ≤ _; decide) (q_dm dm_X10_copy 31 rfl) ?_
  refine qr_letm (fun m4 => ?_)
  refine qr_aload_n o (q_dm dm_X10_copy 32 rfl) rfl ?_
  refine qr_getr (kf := 4) o cf_X10 (shT0 j r hu) rfl (Nat.le_of_ble_eq_true rfl) fl_X10_24 (q_dm dm_X10_copy 33 rfl) ?_
  refine qr_iconst o (q_dm dm_X10_copy 34 rfl) ic_0 ?_
  refine qr_aload_n o (q_dm dm_X10_copy 35 rfl) rfl ?_
  refine qr_getr (kf := 4) o cf_X10 (shT0 j r ht) rfl (Nat.le_of_ble_eq_true rfl) fl_X10_24 (q_dm dm_X10_copy 36 rfl) ?_
  refine qr_iconst o (q_dm dm_X10_copy 37 rfl) ic_0 ?_
  refine qr_sipush o (q_dm dm_X10_copy 38 rfl) si_320 ?_
  refine qr_copyp o (shT5 j r hu) (shT5 j r ht) ml_X10_36 (by omega) (by show 0 + _ ≤ _; decide) (q_dm dm_X10_copy 39 rfl) ?_
  refine qr_letm (fun m5 => ?_)
  refine qr_aload_n o (q_dm dm_X10_copy 40 rfl) rfl ?_
  refine qr_getr (kf := 5) o cf_X10 (shT0 j r hu) rfl (Nat.le_of_ble_eq_true rfl) fl_X10_27 (q_dm dm_X10_copy 41 rfl) ?_
  refine qr_iconst o (q_dm dm_X10_copy 42 rfl) ic_0 ?_
  refine qr_aload_n o (q_dm dm_X10_copy 43 rfl) rfl ?_
  refine qr_getr (kf := 5) o cf_X10 (shT0 j r ht) rfl (Nat.le_of_ble_eq_true rfl) fl_X10_27 (q_dm dm_X10_copy 44 rfl) ?_
  refine qr_iconst o (q_dm dm_X10_copy 45 rfl) ic_0 ?_
  refine qr_sipush o (q_dm dm_X10_copy 46 rfl) si_320 ?_
  refine qr_copyp o (shT6 j r hu) (shT6 j r ht) ml_X10_36 (by omega) (by show 0 + _ ≤ _; decide) (q_dm dm_X10_copy 47 rfl) ?_
  refine qr_letm (fun m6 => ?_)
  refine qr_aload_n o (q_dm dm_X10_copy 48 rfl) rfl ?_
  refine qr_getr (kf := 6) o cf_X10 (shT0 j r hu) rfl (Nat.le_of_ble_eq_true rfl) fl_X10_30 (q_dm dm_X10_copy 49 rfl) ?_
  refine qr_iconst o (q_dm dm_X10_copy 50 rfl) ic_0 ?_
  refine qr_aload_n o (q_dm dm_X10_copy 51 rfl) rfl ?_
  refine qr_getr (kf := 6) o cf_X10 (shT0 j r ht) rfl (Nat.le_of_ble_eq_true rfl) fl_X10_30 (q_dm dm_X10_copy 52 rfl) ?_
  refine qr_iconst o (q_dm dm_X10_copy 53 rfl) ic_0 ?_
  refine qr_bipush o (q_dm dm_X10_copy 54 rfl) bi_8 ?_
  refine qr_copyp o (shT7 j r hu) (shT7 j r ht) ml_X10_36 (by omega) (by show 0 + _ ≤ _; decide) (q_dm dm_X10_copy 55 rfl) ?_
  refine qr_letm (fun m7 => ?_)
  refine qr_aload_n o (q_dm dm_X10_copy 56 rfl) rfl ?_
  refine qr_getr (kf := 7) o cf_X10 (shT0 j r hu) rfl (Nat.le_of_ble_eq_true rfl) fl_X10_33 (q_dm dm_X10_copy 57 rfl) ?_
  refine qr_iconst o (q_dm dm_X10_copy 58 rfl) ic_0 ?_
  refine qr_aload_n o (q_dm dm_X10_copy 59 rfl) rfl ?_
  refine qr_getr (kf := 7) o cf_X10 (shT0 j r ht) rfl (Nat.le_of_ble_eq_true rfl) fl_X10_33 (q_dm dm_X10_copy 60 rfl) ?_
  refine qr_iconst o (q_dm dm_X10_copy 61 rfl) ic_0 ?_
  refine qr_bipush o (q_dm dm_X10_copy 62 rfl) bi_8 ?_
  refine qr_copyp o (shT8 j r hu) (shT8 j r ht) ml_X10_36 (by omega) (by show 0 + _ ≤ _; decide) (q_dm dm_X10_copy 63 rfl) ?_
  refine qr_letm (fun m8 => ?_)
  refine qr_aload_n o (q_dm dm_X10_copy 64 rfl) rfl ?_
  refine qr_aload_n o (q_dm dm_X10_copy 65 rfl) rfl ?_
  refine qr_getf (kf := 8) o cf_X10 (shT0 j r hu) rfl (Nat.le_of_ble_eq_true rfl) fl_X10_42 (q_dm dm_X10_copy 66 rfl) ?_
  refine qr_putf (kf := 8) o cf_X10 (shT0 j r ht) rfl (Nat.le_of_ble_eq_true rfl) fl_X10_42 rfl (by decide +kernel) (q_dm dm_X10_copy 67 rfl) ?_
  refine qr_letm (fun m9 => ?_)
  refine qr_aload_n o (q_dm dm_X10_copy 68 rfl) rfl ?_
  refine qr_aload_n o (q_dm dm_X10_copy 69 rfl) rfl ?_
  refine qr_getf (kf := 9) o cf_X10 (shT0 j r hu) rfl (Nat.le_of_ble_eq_true rfl) fl_X10_46 (q_dm dm_X10_copy 70 rfl) ?_
  refine qr_putf (kf := 9) o cf_X10 (shT0 j r ht) rfl (Nat.le_of_ble_eq_true rfl) fl_X10_46 rfl (by decide +kernel) (q_dm dm_X10_copy 71 rfl) ?_
  refine qr_letm (fun m10 => ?_)
  exact qr_vret o rfl (q_dm dm_X10_copy 72 rfl)

theorem a_X10_copy (g : qG) (l : Launch) (n : Nat) (j r : Nat) (hj : q_isLaw j) (hr : q_isLaw r) {t : Nat} {u : Nat} (ht : q_isTown t) (hu : q_isTown u) (M : qM) : qAM g l 1 zX10_copy (qL j r) [.inr (some t), .inr (some u)] (qL j r, M) (f_X10_copy n t u  M) :=
  qAM.of zv_X10_copy.1 (by show 2 ≤ 2; decide) (fun k hk o => w_X10_copy n j r hj hr ht hu o  M)
def tb_X10_knowsAll : List (Nat × Instr × Nat) := [(0, (.iload_n 1, 1)), (1, (.aload_n 0, 1)), (2, (.getfield 42, 3)), (5, (.iconst (-1), 1)), (6, (.ixor, 1)), (7, (.iand, 1)), (8, (.ifCond .ne 7, 3)), (11, (.iconst 1, 1)), (12, (.goto 4, 3)), (15, (.iconst 0, 1)), (16, (.ireturn, 1))]
theorem dm_X10_knowsAll : ∀ q ∈ tb_X10_knowsAll, decode zX10_knowsAll.2.1 q.1 = .ok q.2 := by decide +kernel
def f_X10_knowsAll (n : Nat) (t : Nat) (a1 : Int32) (M : qM) : qR :=
  (if (a1 &&& ((M t 8) ^^^ (-1 : Int32))) = (0 : Int32) then some ((1 : Int32), M) else some ((0 : Int32), M))
set_option maxRecDepth 4000 in
theorem w_X10_knowsAll {g : qG} {k : qK} (n : Nat) (j r : Nat) (hj : q_isLaw j) (hr : q_isLaw r) {t : Nat} (ht : q_isTown t) (o : qOk g 0 zX10_knowsAll k) (a1 : Int32) (M : qM) : qAE g k zX10_knowsAll (qL j r) 0 [some (.inr (some t)), some (.inl a1)] [] (qL j r, M) (f_X10_knowsAll n t a1 M) := by
  unfold f_X10_knowsAll
  refine qr_iload_n o (q_dm dm_X10_knowsAll 0 rfl) rfl ?_
  refine qr_aload_n o (q_dm dm_X10_knowsAll 1 rfl) rfl ?_
  refine qr_getf (kf := 8) o cf_X10 (shT0 j r ht) rfl (Nat.le_of_ble_eq_true rfl) fl_X10_42 (q_dm dm_X10_knowsAll 2 rfl) ?_
  refine qr_iconst o (q_dm dm_X10_knowsAll 3 rfl) ic_m1 ?_
  refine qr_ixor o (q_dm dm_X10_knowsAll 4 rfl) ?_
  refine qr_iand o (q_dm dm_X10_knowsAll 5 rfl) ?_
  refine qr_if_ne (tgt := 15) o (q_dm dm_X10_knowsAll 6 rfl) (by decide) ?_ ?_
  · refine qr_iconst o (q_dm dm_X10_knowsAll 9 rfl) ic_0 ?_
    exact qr_iret o rfl (by decide) (q_dm dm_X10_knowsAll 10 rfl)
  · refine qr_iconst o (q_dm dm_X10_knowsAll 7 rfl) ic_1 ?_
    refine qr_goto (tgt := 16) o (q_dm dm_X10_knowsAll 8 rfl) (by decide) ?_
    exact qr_iret o rfl (by decide) (q_dm dm_X10_knowsAll 10 rfl)

theorem a_X10_knowsAll (g : qG) (l : Launch) (n : Nat) (j r : Nat) (hj : q_isLaw j) (hr : q_isLaw r) {t : Nat} (ht : q_isTown t) (a1 : Int32) (M : qM) : qAM g l 0 zX10_knowsAll (qL j r) [.inr (some t), .inl a1] (qL j r, M) (f_X10_knowsAll n t a1 M) :=
  qAM.of zv_X10_knowsAll.1 (by show 2 ≤ 2; decide) (fun k hk o => w_X10_knowsAll n j r hj hr ht o a1 M)
def tb_X10_stepsLeft : List (Nat × Instr × Nat) := [(0, (.aload_n 0, 1)), (1, (.getfield 30, 3)), (4, (.iload_n 1, 1)), (5, (.iaload, 1)), (6, (.aload_n 0, 1)), (7, (.getfield 33, 3)), (10, (.iload_n 1, 1)), (11, (.iaload, 1)), (12, (.isub, 1)), (13, (.ireturn, 1))]
theorem dm_X10_stepsLeft : ∀ q ∈ tb_X10_stepsLeft, decode zX10_stepsLeft.2.1 q.1 = .ok q.2 := by decide +kernel
def f_X10_stepsLeft (n : Nat) (t : Nat) (a1 : Int32) (M : qM) : qR :=
  qg a1 8 (qg a1 8 (some (((M (t + 7) a1.toNatClampNeg) - (M (t + 8) a1.toNatClampNeg)), M)))
set_option maxRecDepth 4000 in
theorem w_X10_stepsLeft {g : qG} {k : qK} (n : Nat) (j r : Nat) (hj : q_isLaw j) (hr : q_isLaw r) {t : Nat} (ht : q_isTown t) (o : qOk g 0 zX10_stepsLeft k) (a1 : Int32) (M : qM) : qAE g k zX10_stepsLeft (qL j r) 0 [some (.inr (some t)), some (.inl a1)] [] (qL j r, M) (f_X10_stepsLeft n t a1 M) := by
  unfold f_X10_stepsLeft
  refine qr_aload_n o (q_dm dm_X10_stepsLeft 0 rfl) rfl ?_
  refine qr_getr (kf := 6) o cf_X10 (shT0 j r ht) rfl (Nat.le_of_ble_eq_true rfl) fl_X10_30 (q_dm dm_X10_stepsLeft 1 rfl) ?_
  refine qr_iload_n o (q_dm dm_X10_stepsLeft 2 rfl) rfl ?_
  refine qr_iald o (shT7 j r ht) (q_dm dm_X10_stepsLeft 3 rfl) ?_
  refine qr_aload_n o (q_dm dm_X10_stepsLeft 4 rfl) rfl ?_
  refine qr_getr (kf := 7) o cf_X10 (shT0 j r ht) rfl (Nat.le_of_ble_eq_true rfl) fl_X10_33 (q_dm dm_X10_stepsLeft 5 rfl) ?_
  refine qr_iload_n o (q_dm dm_X10_stepsLeft 6 rfl) rfl ?_
  refine qr_iald o (shT8 j r ht) (q_dm dm_X10_stepsLeft 7 rfl) ?_
  refine qr_isub o (q_dm dm_X10_stepsLeft 8 rfl) ?_
  exact qr_iret o rfl rfl (q_dm dm_X10_stepsLeft 9 rfl)

theorem a_X10_stepsLeft (g : qG) (l : Launch) (n : Nat) (j r : Nat) (hj : q_isLaw j) (hr : q_isLaw r) {t : Nat} (ht : q_isTown t) (a1 : Int32) (M : qM) : qAM g l 0 zX10_stepsLeft (qL j r) [.inr (some t), .inl a1] (qL j r, M) (f_X10_stepsLeft n t a1 M) :=
  qAM.of zv_X10_stepsLeft.1 (by show 2 ≤ 2; decide) (fun k hk o => w_X10_stepsLeft n j r hj hr ht o a1 M)
def tb_X10_sumOf : List (Nat × Instr × Nat) := [(0, (.iconst 0, 1)), (1, (.istore_n 3, 1)), (2, (.iconst 0, 1)), (3, (.istore 4, 2)), (5, (.iload 4, 2)), (7, (.bipush 12, 2)), (9, (.if_icmp .ge 21, 3)), (12, (.iload_n 3, 1)), (13, (.aload_n 1, 1)), (14, (.iload_n 2, 1)), (15, (.bipush 12, 2)), (17, (.imul, 1)), (18, (.iload 4, 2)), (20, (.iadd, 1)), (21, (.iaload, 1)), (22, (.iadd, 1)), (23, (.istore_n 3, 1)), (24, (.iinc 4 1, 3)), (27, (.goto (-22), 3)), (30, (.iload_n 3, 1)), (31, (.ireturn, 1))]
theorem dm_X10_sumOf : ∀ q ∈ tb_X10_sumOf, decode zX10_sumOf.2.1 q.1 = .ok q.2 := by decide +kernel
def b_X10_sumOf_5 (n : Nat) (t c1 : Nat) (K5 : Int32 → Int32 → Int32 → qM → qR) (a2 a3 a4 : Int32) (M : qM) : qR :=
  (if (12 : Int32) ≤ a4 then some (a3, M) else qg ((a2 * (12 : Int32)) + a4) 96 (ql (a3 + (M c1 ((a2 * (12 : Int32)) + a4).toNatClampNeg)) (fun x1 => ql (a4 + (1 : Int32)) (fun x2 => K5 a2 x1 x2 M))))
set_option maxRecDepth 4000 in
theorem wb_X10_sumOf_5 {g : qG} {k : qK} (n : Nat) (j r : Nat) (hj : q_isLaw j) (hr : q_isLaw r) {t : Nat} {c1 : Nat} (ht : q_isTown t) (hc1 : (qL j r)[c1]? = some (.inl (0, 96))) (o : qOk g 0 zX10_sumOf k) (K5 : Int32 → Int32 → Int32 → qM → qR) (hK5 : ∀ (a2 a3 a4 : Int32) (M : qM), qAE g k zX10_sumOf (qL j r) 5 [none, some (.inr (some c1)), some (.inl a2), some (.inl a3), some (.inl a4)] [] (qL j r, M) (K5 a2 a3 a4 M)) (a2 a3 a4 : Int32) (M : qM) : qAE g k zX10_sumOf (qL j r) 5 [none, some (.inr (some c1)), some (.inl a2), some (.inl a3), some (.inl a4)] [] (qL j r, M) (b_X10_sumOf_5 n t c1 K5 a2 a3 a4 M) := by
  unfold b_X10_sumOf_5
  refine qr_iload o (q_dm dm_X10_sumOf 4 rfl) rfl ?_
  refine qr_bipush o (q_dm dm_X10_sumOf 5 rfl) bi_12 ?_
  refine qr_icmp_ge (tgt := 30) o (q_dm dm_X10_sumOf 6 rfl) (by decide) ?_ ?_
  · refine qr_iload_n o (q_dm dm_X10_sumOf 19 rfl) rfl ?_
    exact qr_iret o rfl rfl (q_dm dm_X10_sumOf 20 rfl)
  · refine qr_iload_n o (q_dm dm_X10_sumOf 7 rfl) rfl ?_
    refine qr_aload_n o (q_dm dm_X10_sumOf 8 rfl) rfl ?_
    refine qr_iload_n o (q_dm dm_X10_sumOf 9 rfl) rfl ?_
    refine qr_bipush o (q_dm dm_X10_sumOf 10 rfl) bi_12 ?_
    refine qr_imul o (q_dm dm_X10_sumOf 11 rfl) ?_
    refine qr_iload o (q_dm dm_X10_sumOf 12 rfl) rfl ?_
    refine qr_iadd o (q_dm dm_X10_sumOf 13 rfl) ?_
    refine qr_iald o hc1 (q_dm dm_X10_sumOf 14 rfl) ?_
    refine qr_iadd o (q_dm dm_X10_sumOf 15 rfl) ?_
    refine qr_lt (fun x1 => ?_)
    refine qs_istore_n (L' := [none, some (.inr (some c1)), some (.inl a2), some (.inl x1), some (.inl a4)]) o (q_dm dm_X10_sumOf 16 rfl) (Nat.le_of_ble_eq_true rfl) rfl ?_
    refine qs_iincl2 (L' := fun x2 => [none, some (.inr (some c1)), some (.inl a2), some (.inl x1), some (.inl x2)]) o (q_dm dm_X10_sumOf 17 rfl) rfl ic_1 (Nat.le_of_ble_eq_true rfl) (fun _ => rfl) (fun x2 => ?_)
    refine qr_goto (tgt := 5) o (q_dm dm_X10_sumOf 18 rfl) (by decide) ?_
    exact qr_loc (q_leN (q_leS (q_leS (q_leS (q_leS q_le0))))) (hK5 a2 x1 x2 M)

def f_X10_sumOf_5 (n : Nat) (t c1 : Nat) : Nat → Int32 → Int32 → Int32 → qM → qR
  | 0, _, _, _, _ => none
  | m + 1, a2, a3, a4, M => b_X10_sumOf_5 n t c1 (f_X10_sumOf_5 n t c1 m) a2 a3 a4 M
theorem w_X10_sumOf_5 {g : qG} {k : qK} (n : Nat) (j r : Nat) (hj : q_isLaw j) (hr : q_isLaw r) {t : Nat} {c1 : Nat} (ht : q_isTown t) (hc1 : (qL j r)[c1]? = some (.inl (0, 96))) (o : qOk g 0 zX10_sumOf k) : ∀ (m : Nat) (a2 a3 a4 : Int32) (M : qM), qAE g k zX10_sumOf (qL j r) 5 [none, some (.inr (some c1)), some (.inl a2), some (.inl a3), some (.inl a4)] [] (qL j r, M) (f_X10_sumOf_5 n t c1 m a2 a3 a4 M) := by
  intro m
  induction m with
  | zero =>
    intro a2 a3 a4 M
    exact qr_none
  | succ m ih =>
    intro a2 a3 a4 M
    exact wb_X10_sumOf_5 n j r hj hr ht hc1 o (f_X10_sumOf_5 n t c1 m) ih a2 a3 a4 M
def f_X10_sumOf (n : Nat) (t c1 : Nat) (a2 : Int32) (M : qM) : qR :=
  f_X10_sumOf_5 n t c1 n a2 (0 : Int32) (0 : Int32) M
set_option maxRecDepth 4000 in
theorem w_X10_sumOf {g : qG} {k : qK} (n : Nat) (j r : Nat) (hj : q_isLaw j) (hr : q_isLaw r) {t : Nat} {c1 : Nat} (ht : q_isTown t) (hc1 : (qL j r)[c1]? = some (.inl (0, 96))) (o : qOk g 0 zX10_sumOf k) (a2 : Int32) (M : qM) : qAE g k zX10_sumOf (qL j r) 0 [some (.inr (some t)), some (.inr (some c1)), some (.inl a2), none, none] [] (qL j r, M) (f_X10_sumOf n t c1 a2 M) := by
  unfold f_X10_sumOf
  refine qr_iconst o (q_dm dm_X10_sumOf 0 rfl) ic_0 ?_
  refine qs_istore_n (L' := [some (.inr (some t)), some (.inr (some c1)), some (.inl a2), some (.inl (0 : Int32)), none]) o (q_dm dm_X10_sumOf 1 rfl) (Nat.le_of_ble_eq_true rfl) rfl ?_
  refine qr_iconst o (q_dm dm_X10_sumOf 2 rfl) ic_0 ?_
  refine qs_istore (L' := [some (.inr (some t)), some (.inr (some c1)), some (.inl a2), some (.inl (0 : Int32)), some (.inl (0 : Int32))]) o (q_dm dm_X10_sumOf 3 rfl) (Nat.le_of_ble_eq_true rfl) rfl ?_
  exact qr_loc (q_leN (q_leS (q_leS (q_leS (q_leS q_le0))))) (w_X10_sumOf_5 n j r hj hr ht hc1 o n a2 (0 : Int32) (0 : Int32) M)

theorem a_X10_sumOf (g : qG) (l : Launch) (n : Nat) (j r : Nat) (hj : q_isLaw j) (hr : q_isLaw r) {t : Nat} {c1 : Nat} (ht : q_isTown t) (hc1 : (qL j r)[c1]? = some (.inl (0, 96))) (a2 : Int32) (M : qM) : qAM g l 0 zX10_sumOf (qL j r) [.inr (some t), .inr (some c1), .inl a2] (qL j r, M) (f_X10_sumOf n t c1 a2 M) :=
  qAM.of zv_X10_sumOf.1 (by show 3 ≤ 5; decide) (fun k hk o => w_X10_sumOf n j r hj hr ht hc1 o a2 M)
def tb_X10_takePlan : List (Nat × Instr × Nat) := [(0, (.aload_n 2, 1)), (1, (.getfield 49, 3)), (4, (.iconst 0, 1)), (5, (.aload_n 0, 1)), (6, (.getfield 24, 3)), (9, (.iload_n 1, 1)), (10, (.bipush 40, 2)), (12, (.imul, 1)), (13, (.bipush 40, 2)), (15, (.invokestatic 36, 3)), (18, (.aload_n 2, 1)), (19, (.getfield 52, 3)), (22, (.iconst 0, 1)), (23, (.aload_n 0, 1)), (24, (.getfield 27, 3)), (27, (.iload_n 1, 1)), (28, (.bipush 40, 2)), (30, (.imul, 1)), (31, (.bipush 40, 2)), (33, (.invokestatic 36, 3)), (36, (.aload_n 0, 1)), (37, (.getfield 30, 3)), (40, (.iload_n 1, 1)), (41, (.aload_n 2, 1)), (42, (.getfield 53, 3)), (45, (.iastore, 1)), (46, (.aload_n 0, 1)), (47, (.getfield 33, 3)), (50, (.iload_n 1, 1)), (51, (.iconst 0, 1)), (52, (.iastore, 1)), (53, (.return_, 1))]
theorem dm_X10_takePlan : ∀ q ∈ tb_X10_takePlan, decode zX10_takePlan.2.1 q.1 = .ok q.2 := by decide +kernel
def f_X10_takePlan (n : Nat) (t : Nat) (a1 : Int32) (M : qM) : qR :=
  qcp (0 : Int32) (a1 * (40 : Int32)) (40 : Int32) 40 320 (qlm (mr M (t + 5) (va_cpy (M 54) (M (t + 5)) (0 : Int32).toNatClampNeg (a1 * (40 : Int32)).toNatClampNeg (40 : Int32).toNatClampNeg)) (fun m1 => qcp (0 : Int32) (a1 * (40 : Int32)) (40 : Int32) 40 320 (qlm (mr m1 (t + 6) (va_cpy (m1 55) (m1 (t + 6)) (0 : Int32).toNatClampNeg (a1 * (40 : Int32)).toNatClampNeg (40 : Int32).toNatClampNeg)) (fun m2 => qg a1 8 (qlm (mu m2 (t + 7) a1.toNatClampNeg (m2 53 3)) (fun m3 => qg a1 8 (qlm (mu m3 (t + 8) a1.toNatClampNeg (0 : Int32)) (fun m4 => some (0, m4)))))))))
set_option maxRecDepth 4000 in
theorem w_X10_takePlan {g : qG} {k : qK} (n : Nat) (j r : Nat) (hj : q_isLaw j) (hr : q_isLaw r) {t : Nat} (ht : q_isTown t) (o : qOk g 1 zX10_takePlan k) (a1 : Int32) (M : qM) : qAE g k zX10_takePlan (qL j r) 0 [some (.inr (some t)), some (.inl a1), some (.inr (some 53))] [] (qL j r, M) (f_X10_takePlan n t a1 M) := by
  unfold f_X10_takePlan
  refine qr_aload_n o (q_dm dm_X10_takePlan 0 rfl) rfl ?_
  refine qr_getr (kf := 1) o cf_X6 (sh53 j r) rfl (Nat.le_of_ble_eq_true rfl) fl_X10_49 (q_dm dm_X10_takePlan 1 rfl) ?_
  refine qr_iconst o (q_dm dm_X10_takePlan 2 rfl) ic_0 ?_
  refine qr_aload_n o (q_dm dm_X10_takePlan 3 rfl) rfl ?_
  refine qr_getr (kf := 4) o cf_X10 (shT0 j r ht) rfl (Nat.le_of_ble_eq_true rfl) fl_X10_24 (q_dm dm_X10_takePlan 4 rfl) ?_
  refine qr_iload_n o (q_dm dm_X10_takePlan 5 rfl) rfl ?_
  refine qr_bipush o (q_dm dm_X10_takePlan 6 rfl) bi_40 ?_
  refine qr_imul o (q_dm dm_X10_takePlan 7 rfl) ?_
  refine qr_bipush o (q_dm dm_X10_takePlan 8 rfl) bi_40 ?_
  refine qr_copyp o (sh54 j r) (shT5 j r ht) ml_X10_36 (by omega) (by show 0 + _ ≤ _; decide) (q_dm dm_X10_takePlan 9 rfl) ?_
  refine qr_letm (fun m1 => ?_)
  refine qr_aload_n o (q_dm dm_X10_takePlan 10 rfl) rfl ?_
  refine qr_getr (kf := 2) o cf_X6 (sh53 j r) rfl (Nat.le_of_ble_eq_true rfl) fl_X10_52 (q_dm dm_X10_takePlan 11 rfl) ?_
  refine qr_iconst o (q_dm dm_X10_takePlan 12 rfl) ic_0 ?_
  refine qr_aload_n o (q_dm dm_X10_takePlan 13 rfl) rfl ?_
  refine qr_getr (kf := 5) o cf_X10 (shT0 j r ht) rfl (Nat.le_of_ble_eq_true rfl) fl_X10_27 (q_dm dm_X10_takePlan 14 rfl) ?_
  refine qr_iload_n o (q_dm dm_X10_takePlan 15 rfl) rfl ?_
  refine qr_bipush o (q_dm dm_X10_takePlan 16 rfl) bi_40 ?_
  refine qr_imul o (q_dm dm_X10_takePlan 17 rfl) ?_
  refine qr_bipush o (q_dm dm_X10_takePlan 18 rfl) bi_40 ?_
  refine qr_copyp o (sh55 j r) (shT6 j r ht) ml_X10_36 (by omega) (by show 0 + _ ≤ _; decide) (q_dm dm_X10_takePlan 19 rfl) ?_
  refine qr_letm (fun m2 => ?_)
  refine qr_aload_n o (q_dm dm_X10_takePlan 20 rfl) rfl ?_
  refine qr_getr (kf := 6) o cf_X10 (shT0 j r ht) rfl (Nat.le_of_ble_eq_true rfl) fl_X10_30 (q_dm dm_X10_takePlan 21 rfl) ?_
  refine qr_iload_n o (q_dm dm_X10_takePlan 22 rfl) rfl ?_
  refine qr_aload_n o (q_dm dm_X10_takePlan 23 rfl) rfl ?_
  refine qr_getf (kf := 3) o cf_X6 (sh53 j r) rfl (Nat.le_of_ble_eq_true rfl) fl_X10_53 (q_dm dm_X10_takePlan 24 rfl) ?_
  refine qr_iast o (shT7 j r ht) (q_dm dm_X10_takePlan 25 rfl) ?_
  refine qr_letm (fun m3 => ?_)
  refine qr_aload_n o (q_dm dm_X10_takePlan 26 rfl) rfl ?_
  refine qr_getr (kf := 7) o cf_X10 (shT0 j r ht) rfl (Nat.le_of_ble_eq_true rfl) fl_X10_33 (q_dm dm_X10_takePlan 27 rfl) ?_
  refine qr_iload_n o (q_dm dm_X10_takePlan 28 rfl) rfl ?_
  refine qr_iconst o (q_dm dm_X10_takePlan 29 rfl) ic_0 ?_
  refine qr_iast o (shT8 j r ht) (q_dm dm_X10_takePlan 30 rfl) ?_
  refine qr_letm (fun m4 => ?_)
  exact qr_vret o rfl (q_dm dm_X10_takePlan 31 rfl)

theorem a_X10_takePlan (g : qG) (l : Launch) (n : Nat) (j r : Nat) (hj : q_isLaw j) (hr : q_isLaw r) {t : Nat} (ht : q_isTown t) (a1 : Int32) (M : qM) : qAM g l 1 zX10_takePlan (qL j r) [.inr (some t), .inl a1, .inr (some 53)] (qL j r, M) (f_X10_takePlan n t a1 M) :=
  qAM.of zv_X10_takePlan.1 (by show 3 ≤ 3; decide) (fun k hk o => w_X10_takePlan n j r hj hr ht o a1 M)
def tb_X1_findsAlike : List (Nat × Instr × Nat) := [(0, (.iload_n 1, 1)), (1, (.iload_n 2, 1)), (2, (.if_icmp .ne 5, 3)), (5, (.iconst 1, 1)), (6, (.ireturn, 1)), (7, (.aload_n 0, 1)), (8, (.iload_n 1, 1)), (9, (.aload_n 0, 1)), (10, (.getfield 28, 3)), (13, (.getfield 32, 3)), (16, (.iload_n 1, 1)), (17, (.iaload, 1)), (18, (.aload_n 0, 1)), (19, (.getfield 28, 3)), (22, (.getfield 37, 3)), (25, (.iload_n 1, 1)), (26, (.iaload, 1)), (27, (.iload_n 3, 1)), (28, (.invokevirtual 40, 3)), (31, (.aload_n 0, 1)), (32, (.iload_n 2, 1)), (33, (.invokevirtual 44, 3)), (36, (.ireturn, 1))]
theorem dm_X1_findsAlike : ∀ q ∈ tb_X1_findsAlike, decode zX1_findsAlike.2.1 q.1 = .ok q.2 := by decide +kernel
def f_X1_findsAlike (n : Nat) (j : Nat) (a1 a2 a3 : Int32) (M : qM) : qR :=
  (if a1 = a2 then some ((1 : Int32), M) else qg a1 12 (qg a1 12 (qc (f_X1_tellDeed n a1 (M 4 a1.toNatClampNeg) (M 5 a1.toNatClampNeg) a3 M) (fun _ m1 => qc (f_X1_isAlike n j a2 m1) (fun r2 m3 => qb r2 (some (r2, m3)))))))
set_option maxRecDepth 4000 in
theorem w_X1_findsAlike {g : qG} {k : qK} (n : Nat) (j r : Nat) (hj : q_isLaw j) (hr : q_isLaw r) (o : qOk g 3 zX1_findsAlike k) (a1 a2 a3 : Int32) (M : qM) : qAE g k zX1_findsAlike (qL j r) 0 [some (.inr (some 34)), some (.inl a1), some (.inl a2), some (.inl a3)] [] (qL j r, M) (f_X1_findsAlike n j a1 a2 a3 M) := by
  unfold f_X1_findsAlike
  refine qr_iload_n o (q_dm dm_X1_findsAlike 0 rfl) rfl ?_
  refine qr_iload_n o (q_dm dm_X1_findsAlike 1 rfl) rfl ?_
  refine qr_icmp_ne (tgt := 7) o (q_dm dm_X1_findsAlike 2 rfl) (by decide) ?_ ?_
  · refine qr_aload_n o (q_dm dm_X1_findsAlike 5 rfl) rfl ?_
    refine qr_iload_n o (q_dm dm_X1_findsAlike 6 rfl) rfl ?_
    refine qr_aload_n o (q_dm dm_X1_findsAlike 7 rfl) rfl ?_
    refine qr_getr (kf := 0) o cf_X1 (sh34 j r) rfl (Nat.le_of_ble_eq_true rfl) fl_X1_28 (q_dm dm_X1_findsAlike 8 rfl) ?_
    refine qr_getr (kf := 0) o cf_X2 (sh3 j r) rfl (Nat.le_of_ble_eq_true rfl) fl_X1_32 (q_dm dm_X1_findsAlike 9 rfl) ?_
    refine qr_iload_n o (q_dm dm_X1_findsAlike 10 rfl) rfl ?_
    refine qr_iald o (sh4 j r) (q_dm dm_X1_findsAlike 11 rfl) ?_
    refine qr_aload_n o (q_dm dm_X1_findsAlike 12 rfl) rfl ?_
    refine qr_getr (kf := 0) o cf_X1 (sh34 j r) rfl (Nat.le_of_ble_eq_true rfl) fl_X1_28 (q_dm dm_X1_findsAlike 13 rfl) ?_
    refine qr_getr (kf := 1) o cf_X2 (sh3 j r) rfl (Nat.le_of_ble_eq_true rfl) fl_X1_37 (q_dm dm_X1_findsAlike 14 rfl) ?_
    refine qr_iload_n o (q_dm dm_X1_findsAlike 15 rfl) rfl ?_
    refine qr_iald o (sh5 j r) (q_dm dm_X1_findsAlike 16 rfl) ?_
    refine qr_iload_n o (q_dm dm_X1_findsAlike 17 rfl) rfl ?_
    refine qr_callv_v (As := [.inl a1, .inl (M 4 a1.toNatClampNeg), .inl (M 5 a1.toNatClampNeg), .inl a3]) (S := []) o (a_X1_tellDeed g k.2.1 n j r hj hr a1 (M 4 a1.toNatClampNeg) (M 5 a1.toNatClampNeg) a3 M) (Nat.le_of_ble_eq_true rfl) zv_X1_tellDeed rfl cf_X1 (sh34 j r) ml_X1_40 (Nat.le_of_ble_eq_true rfl) (q_dm dm_X1_findsAlike 18 rfl) (fun _ m1 => ?_)
    refine qr_aload_n o (q_dm dm_X1_findsAlike 19 rfl) rfl ?_
    refine qr_iload_n o (q_dm dm_X1_findsAlike 20 rfl) rfl ?_
    refine qr_callv_i (As := [.inl a2]) (S := []) o (a_X1_isAlike g k.2.1 n j r hj hr a2 m1) (Nat.le_of_ble_eq_true rfl) zv_X1_isAlike rfl cf_X1 (sh34 j r) ml_X1_44 (Nat.le_of_ble_eq_true rfl) (q_dm dm_X1_findsAlike 21 rfl) (fun r2 m3 => ?_)
    exact qr_zret o rfl (q_dm dm_X1_findsAlike 22 rfl)
  · refine qr_iconst o (q_dm dm_X1_findsAlike 3 rfl) ic_1 ?_
    exact qr_iret o rfl (by decide) (q_dm dm_X1_findsAlike 4 rfl)

theorem a_X1_findsAlike (g : qG) (l : Launch) (n : Nat) (j r : Nat) (hj : q_isLaw j) (hr : q_isLaw r) (a1 a2 a3 : Int32) (M : qM) : qAM g l 3 zX1_findsAlike (qL j r) [.inr (some 34), .inl a1, .inl a2, .inl a3] (qL j r, M) (f_X1_findsAlike n j a1 a2 a3 M) :=
  qAM.of zv_X1_findsAlike.1 (by show 4 ≤ 4; decide) (fun k hk o => w_X1_findsAlike n j r hj hr o a1 a2 a3 M)
def tb_X11_alike : List (Nat × Instr × Nat) := [(0, (.aload_n 0, 1)), (1, (.getfield 19, 3)), (4, (.iload_n 1, 1)), (5, (.invokevirtual 140, 3)), (8, (.ifCond .eq 14, 3)), (11, (.aload_n 0, 1)), (12, (.getfield 19, 3)), (15, (.iload_n 2, 1)), (16, (.invokevirtual 140, 3)), (19, (.ifCond .ne 5, 3)), (22, (.iconst (-1), 1)), (23, (.ireturn, 1)), (24, (.aload_n 0, 1)), (25, (.getfield 41, 3)), (28, (.iload_n 1, 1)), (29, (.iload_n 2, 1)), (30, (.aload_n 0, 1)), (31, (.getfield 26, 3)), (34, (.getfield 184, 3)), (37, (.invokevirtual 187, 3)), (40, (.ifCond .eq 7, 3)), (43, (.iconst 1, 1)), (44, (.goto 4, 3)), (47, (.iconst 0, 1)), (48, (.ireturn, 1))]
theorem dm_X11_alike : ∀ q ∈ tb_X11_alike, decode zX11_alike.2.1 q.1 = .ok q.2 := by decide +kernel
def f_X11_alike (n : Nat) (j : Nat) (a1 a2 : Int32) (M : qM) : qR :=
  qc (f_X2_knows n a1 M) (fun r1 m2 => (if r1 = (0 : Int32) then some ((-1 : Int32), m2) else qc (f_X2_knows n a2 m2) (fun r3 m4 => (if r3 = (0 : Int32) then some ((-1 : Int32), m4) else qc (f_X1_findsAlike n j a1 a2 (m4 7 9) m4) (fun r5 m6 => (if r5 = (0 : Int32) then some ((0 : Int32), m6) else some ((1 : Int32), m6)))))))
set_option maxRecDepth 4000 in
theorem w_X11_alike {g : qG} {k : qK} (n : Nat) (j r : Nat) (hj : q_isLaw j) (hr : q_isLaw r) (o : qOk g 4 zX11_alike k) (a1 a2 : Int32) (M : qM) : qAE g k zX11_alike (qL j r) 0 [some (.inr (some 0)), some (.inl a1), some (.inl a2)] [] (qL j r, M) (f_X11_alike n j a1 a2 M) := by
  unfold f_X11_alike
  refine qr_aload_n o (q_dm dm_X11_alike 0 rfl) rfl ?_
  refine qr_getr (kf := 1) o cf_X11 (sh0 j r) rfl (Nat.le_of_ble_eq_true rfl) fl_X11_19 (q_dm dm_X11_alike 1 rfl) ?_
  refine qr_iload_n o (q_dm dm_X11_alike 2 rfl) rfl ?_
  refine qr_callv_i (As := [.inl a1]) (S := []) o (a_X2_knows g k.2.1 n j r hj hr a1 M) (Nat.le_of_ble_eq_true rfl) zv_X2_knows rfl cf_X2 (sh3 j r) ml_X11_140 (Nat.le_of_ble_eq_true rfl) (q_dm dm_X11_alike 3 rfl) (fun r1 m2 => ?_)
  refine qr_if_eq (tgt := 22) o (q_dm dm_X11_alike 4 rfl) (by decide) ?_ ?_
  · refine qr_iconst o (q_dm dm_X11_alike 10 rfl) ic_m1 ?_
    exact qr_iret o rfl rfl (q_dm dm_X11_alike 11 rfl)
  · refine qr_aload_n o (q_dm dm_X11_alike 5 rfl) rfl ?_
    refine qr_getr (kf := 1) o cf_X11 (sh0 j r) rfl (Nat.le_of_ble_eq_true rfl) fl_X11_19 (q_dm dm_X11_alike 6 rfl) ?_
    refine qr_iload_n o (q_dm dm_X11_alike 7 rfl) rfl ?_
    refine qr_callv_i (As := [.inl a2]) (S := []) o (a_X2_knows g k.2.1 n j r hj hr a2 m2) (Nat.le_of_ble_eq_true rfl) zv_X2_knows rfl cf_X2 (sh3 j r) ml_X11_140 (Nat.le_of_ble_eq_true rfl) (q_dm dm_X11_alike 8 rfl) (fun r3 m4 => ?_)
    refine qr_if_ne (tgt := 24) o (q_dm dm_X11_alike 9 rfl) (by decide) ?_ ?_
    · refine qr_aload_n o (q_dm dm_X11_alike 12 rfl) rfl ?_
      refine qr_getr (kf := 5) o cf_X11 (sh0 j r) rfl (Nat.le_of_ble_eq_true rfl) fl_X11_41 (q_dm dm_X11_alike 13 rfl) ?_
      refine qr_iload_n o (q_dm dm_X11_alike 14 rfl) rfl ?_
      refine qr_iload_n o (q_dm dm_X11_alike 15 rfl) rfl ?_
      refine qr_aload_n o (q_dm dm_X11_alike 16 rfl) rfl ?_
      refine qr_getr (kf := 2) o cf_X11 (sh0 j r) rfl (Nat.le_of_ble_eq_true rfl) fl_X11_26 (q_dm dm_X11_alike 17 rfl) ?_
      refine qr_getf (kf := 9) o cf_X10 (sh7 j r) rfl (Nat.le_of_ble_eq_true rfl) fl_X11_184 (q_dm dm_X11_alike 18 rfl) ?_
      refine qr_callv_i (As := [.inl a1, .inl a2, .inl (m4 7 9)]) (S := []) o (a_X1_findsAlike g k.2.1 n j r hj hr a1 a2 (m4 7 9) m4) (Nat.le_of_ble_eq_true rfl) zv_X1_findsAlike rfl cf_X1 (sh34 j r) ml_X11_187 (Nat.le_of_ble_eq_true rfl) (q_dm dm_X11_alike 19 rfl) (fun r5 m6 => ?_)
      refine qr_if_eq (tgt := 47) o (q_dm dm_X11_alike 20 rfl) (by decide) ?_ ?_
      · refine qr_iconst o (q_dm dm_X11_alike 23 rfl) ic_0 ?_
        exact qr_iret o rfl rfl (q_dm dm_X11_alike 24 rfl)
      · refine qr_iconst o (q_dm dm_X11_alike 21 rfl) ic_1 ?_
        refine qr_goto (tgt := 48) o (q_dm dm_X11_alike 22 rfl) (by decide) ?_
        exact qr_iret o rfl rfl (q_dm dm_X11_alike 24 rfl)
    · refine qr_iconst o (q_dm dm_X11_alike 10 rfl) ic_m1 ?_
      exact qr_iret o rfl rfl (q_dm dm_X11_alike 11 rfl)

theorem a_X11_alike (g : qG) (l : Launch) (n : Nat) (j r : Nat) (hj : q_isLaw j) (hr : q_isLaw r) (a1 a2 : Int32) (M : qM) : qAM g l 4 zX11_alike (qL j r) [.inr (some 0), .inl a1, .inl a2] (qL j r, M) (f_X11_alike n j a1 a2 M) :=
  qAM.of zv_X11_alike.1 (by show 3 ≤ 3; decide) (fun k hk o => w_X11_alike n j r hj hr o a1 a2 M)
def tb_X11_nextOneWins : List (Nat × Instr × Nat) := [(0, (.iload_n 0, 1)), (1, (.iload_n 0, 1)), (2, (.iconst 3, 1)), (3, (.ishr, 1)), (4, (.ixor, 1)), (5, (.iload_n 0, 1)), (6, (.bipush 6, 2)), (8, (.ishr, 1)), (9, (.ixor, 1)), (10, (.iconst 3, 1)), (11, (.iand, 1)), (12, (.ifCond .eq 7, 3)), (15, (.iconst 1, 1)), (16, (.goto 4, 3)), (19, (.iconst 0, 1)), (20, (.istore_n 2, 1)), (21, (.iload_n 1, 1)), (22, (.ifCond .eq 7, 3)), (25, (.iload_n 2, 1)), (26, (.goto 16, 3)), (29, (.iload_n 0, 1)), (30, (.ifCond .eq 11, 3)), (33, (.iload_n 2, 1)), (34, (.ifCond .ne 7, 3)), (37, (.iconst 1, 1)), (38, (.goto 4, 3)), (41, (.iconst 0, 1)), (42, (.ireturn, 1))]
theorem dm_X11_nextOneWins : ∀ q ∈ tb_X11_nextOneWins, decode zX11_nextOneWins.2.1 q.1 = .ok q.2 := by decide +kernel
def f_X11_nextOneWins_20 (n : Nat) (a0 a1 s0 : Int32) (M : qM) : qR :=
  (if a1 = (0 : Int32) then (if a0 = (0 : Int32) then some ((0 : Int32), M) else (if s0 = (0 : Int32) then some ((1 : Int32), M) else some ((0 : Int32), M))) else qb s0 (some (s0, M)))
set_option maxRecDepth 4000 in
theorem w_X11_nextOneWins_20 {g : qG} {k : qK} (n : Nat) (j r : Nat) (hj : q_isLaw j) (hr : q_isLaw r) (o : qOk g 0 zX11_nextOneWins k) (a0 a1 s0 : Int32) (M : qM) : qAE g k zX11_nextOneWins (qL j r) 20 [some (.inl a0), some (.inl a1), none] [.inl s0] (qL j r, M) (f_X11_nextOneWins_20 n a0 a1 s0 M) := by
  unfold f_X11_nextOneWins_20
  refine qs_istore_n (L' := [some (.inl a0), some (.inl a1), some (.inl s0)]) o (q_dm dm_X11_nextOneWins 15 rfl) (Nat.le_of_ble_eq_true rfl) rfl ?_
  refine qr_iload_n o (q_dm dm_X11_nextOneWins 16 rfl) rfl ?_
  refine qr_if_eq (tgt := 29) o (q_dm dm_X11_nextOneWins 17 rfl) (by decide) ?_ ?_
  · refine qr_iload_n o (q_dm dm_X11_nextOneWins 20 rfl) rfl ?_
    refine qr_if_eq (tgt := 41) o (q_dm dm_X11_nextOneWins 21 rfl) (by decide) ?_ ?_
    · refine qr_iconst o (q_dm dm_X11_nextOneWins 26 rfl) ic_0 ?_
      exact qr_iret o rfl (by decide) (q_dm dm_X11_nextOneWins 27 rfl)
    · refine qr_iload_n o (q_dm dm_X11_nextOneWins 22 rfl) rfl ?_
      refine qr_if_ne (tgt := 41) o (q_dm dm_X11_nextOneWins 23 rfl) (by decide) ?_ ?_
      · refine qr_iconst o (q_dm dm_X11_nextOneWins 26 rfl) ic_0 ?_
        exact qr_iret o rfl (by decide) (q_dm dm_X11_nextOneWins 27 rfl)
      · refine qr_iconst o (q_dm dm_X11_nextOneWins 24 rfl) ic_1 ?_
        refine qr_goto (tgt := 42) o (q_dm dm_X11_nextOneWins 25 rfl) (by decide) ?_
        exact qr_iret o rfl (by decide) (q_dm dm_X11_nextOneWins 27 rfl)
  · refine qr_iload_n o (q_dm dm_X11_nextOneWins 18 rfl) rfl ?_
    refine qr_goto (tgt := 42) o (q_dm dm_X11_nextOneWins 19 rfl) (by decide) ?_
    exact qr_zret o rfl (q_dm dm_X11_nextOneWins 27 rfl)

def f_X11_nextOneWins (n : Nat) (a0 a1 : Int32) (M : qM) : qR :=
  (if (((a0 ^^^ (a0 >>> ((3 : Int32) &&& 31))) ^^^ (a0 >>> ((6 : Int32) &&& 31))) &&& (3 : Int32)) = (0 : Int32) then f_X11_nextOneWins_20 n a0 a1 (0 : Int32) M else f_X11_nextOneWins_20 n a0 a1 (1 : Int32) M)
set_option maxRecDepth 4000 in
theorem w_X11_nextOneWins {g : qG} {k : qK} (n : Nat) (j r : Nat) (hj : q_isLaw j) (hr : q_isLaw r) (o : qOk g 0 zX11_nextOneWins k) (a0 a1 : Int32) (M : qM) : qAE g k zX11_nextOneWins (qL j r) 0 [some (.inl a0), some (.inl a1), none] [] (qL j r, M) (f_X11_nextOneWins n a0 a1 M) := by
  unfold f_X11_nextOneWins
  refine qr_iload_n o (q_dm dm_X11_nextOneWins 0 rfl) rfl ?_
  refine qr_iload_n o (q_dm dm_X11_nextOneWins 1 rfl) rfl ?_
  refine qr_iconst o (q_dm dm_X11_nextOneWins 2 rfl) ic_3 ?_
  refine qr_ishr o (q_dm dm_X11_nextOneWins 3 rfl) ?_
  refine qr_ixor o (q_dm dm_X11_nextOneWins 4 rfl) ?_
  refine qr_iload_n o (q_dm dm_X11_nextOneWins 5 rfl) rfl ?_
  refine qr_bipush o (q_dm dm_X11_nextOneWins 6 rfl) bi_6 ?_
  refine qr_ishr o (q_dm dm_X11_nextOneWins 7 rfl) ?_
  refine qr_ixor o (q_dm dm_X11_nextOneWins 8 rfl) ?_
  refine qr_iconst o (q_dm dm_X11_nextOneWins 9 rfl) ic_3 ?_
  refine qr_iand o (q_dm dm_X11_nextOneWins 10 rfl) ?_
  refine qr_if_eq (tgt := 19) o (q_dm dm_X11_nextOneWins 11 rfl) (by decide) ?_ ?_
  · refine qr_iconst o (q_dm dm_X11_nextOneWins 14 rfl) ic_0 ?_
    exact qr_loc (q_leS (q_leS (q_leN q_le0))) (w_X11_nextOneWins_20 n j r hj hr o a0 a1 (0 : Int32) M)
  · refine qr_iconst o (q_dm dm_X11_nextOneWins 12 rfl) ic_1 ?_
    refine qr_goto (tgt := 20) o (q_dm dm_X11_nextOneWins 13 rfl) (by decide) ?_
    exact qr_loc (q_leS (q_leS (q_leN q_le0))) (w_X11_nextOneWins_20 n j r hj hr o a0 a1 (1 : Int32) M)

theorem a_X11_nextOneWins (g : qG) (l : Launch) (n : Nat) (j r : Nat) (hj : q_isLaw j) (hr : q_isLaw r) (a0 a1 : Int32) (M : qM) : qAM g l 0 zX11_nextOneWins (qL j r) [.inl a0, .inl a1] (qL j r, M) (f_X11_nextOneWins n a0 a1 M) :=
  qAM.of zs_X11_nextOneWins.1 (by show 2 ≤ 3; decide) (fun k hk o => w_X11_nextOneWins n j r hj hr o a0 a1 M)
def tb_X11_bestMove : List (Nat × Instr × Nat) := [(0, (.iconst 0, 1)), (1, (.istore_n 3, 1)), (2, (.iload_n 3, 1)), (3, (.iconst 3, 1)), (4, (.if_icmp .ge 76, 3)), (7, (.iload_n 0, 1)), (8, (.iconst 3, 1)), (9, (.iload_n 3, 1)), (10, (.imul, 1)), (11, (.ishr, 1)), (12, (.bipush 7, 2)), (14, (.iand, 1)), (15, (.istore 4, 2)), (17, (.iconst 1, 1)), (18, (.istore 5, 2)), (20, (.iload 5, 2)), (22, (.iconst 3, 1)), (23, (.if_icmp .gt 51, 3)), (26, (.iload 5, 2)), (28, (.iload 4, 2)), (30, (.if_icmp .gt 44, 3)), (33, (.iload_n 1, 1)), (34, (.ifCond .eq 14, 3)), (37, (.iload_n 0, 1)), (38, (.iload 5, 2)), (40, (.iconst 3, 1)), (41, (.iload_n 3, 1)), (42, (.imul, 1)), (43, (.ishl, 1)), (44, (.isub, 1)), (45, (.goto 4, 3)), (48, (.iload_n 0, 1)), (49, (.istore 6, 2)), (51, (.iload 6, 2)), (53, (.iload_n 2, 1)), (54, (.invokestatic 300, 3)), (57, (.ifCond .ne 11, 3)), (60, (.bipush 10, 2)), (62, (.iload_n 3, 1)), (63, (.imul, 1)), (64, (.iload 5, 2)), (66, (.iadd, 1)), (67, (.ireturn, 1)), (68, (.iinc 5 1, 3)), (71, (.goto (-51), 3)), (74, (.iinc 3 1, 3)), (77, (.goto (-75), 3)), (80, (.bipush (-2), 2)), (82, (.ireturn, 1))]
theorem dm_X11_bestMove : ∀ q ∈ tb_X11_bestMove, decode zX11_bestMove.2.1 q.1 = .ok q.2 := by decide +kernel
def f_X11_bestMove_49 (n : Nat) (K2 : Int32 → Int32 → Int32 → Int32 → qM → qR) (K20 : Int32 → Int32 → Int32 → Int32 → Int32 → Int32 → qM → qR) (a0 a1 a2 a3 a4 a5 s0 : Int32) (M : qM) : qR :=
  qc (f_X11_nextOneWins n s0 a2 M) (fun r1 m2 => (if r1 = (0 : Int32) then some ((((10 : Int32) * a3) + a5), m2) else ql (a5 + (1 : Int32)) (fun x3 => K20 a0 a1 a2 a3 a4 x3 m2)))
set_option maxRecDepth 4000 in
theorem w_X11_bestMove_49 {g : qG} {k : qK} (n : Nat) (j r : Nat) (hj : q_isLaw j) (hr : q_isLaw r) (o : qOk g 1 zX11_bestMove k) (K2 : Int32 → Int32 → Int32 → Int32 → qM → qR) (hK2 : ∀ (a0 a1 a2 a3 : Int32) (M : qM), qAE g k zX11_bestMove (qL j r) 2 [some (.inl a0), some (.inl a1), some (.inl a2), some (.inl a3), none, none, none] [] (qL j r, M) (K2 a0 a1 a2 a3 M)) (K20 : Int32 → Int32 → Int32 → Int32 → Int32 → Int32 → qM → qR) (hK20 : ∀ (a0 a1 a2 a3 a4 a5 : Int32) (M : qM), qAE g k zX11_bestMove (qL j r) 20 [some (.inl a0), some (.inl a1), some (.inl a2), some (.inl a3), some (.inl a4), some (.inl a5), none] [] (qL j r, M) (K20 a0 a1 a2 a3 a4 a5 M)) (a0 a1 a2 a3 a4 a5 s0 : Int32) (M : qM) : qAE g k zX11_bestMove (qL j r) 49 [some (.inl a0), some (.inl a1), some (.inl a2), some (.inl a3), some (.inl a4), some (.inl a5), none] [.inl s0] (qL j r, M) (f_X11_bestMove_49 n K2 K20 a0 a1 a2 a3 a4 a5 s0 M) := by
  unfold f_X11_bestMove_49
  refine qs_istore (L' := [some (.inl a0), some (.inl a1), some (.inl a2), some (.inl a3), some (.inl a4), some (.inl a5), some (.inl s0)]) o (q_dm dm_X11_bestMove 32 rfl) (Nat.le_of_ble_eq_true rfl) rfl ?_
  refine qr_iload o (q_dm dm_X11_bestMove 33 rfl) rfl ?_
  refine qr_iload_n o (q_dm dm_X11_bestMove 34 rfl) rfl ?_
  refine qr_calls_i (As := [.inl s0, .inl a2]) (S := []) o (a_X11_nextOneWins g k.2.1 n j r hj hr s0 a2 M) (Nat.le_of_ble_eq_true rfl) zs_X11_nextOneWins rfl ml_X11_300 (Nat.le_of_ble_eq_true rfl) (q_dm dm_X11_bestMove 35 rfl) (fun r1 m2 => ?_)
  refine qr_if_ne (tgt := 68) o (q_dm dm_X11_bestMove 36 rfl) (by decide) ?_ ?_
  · refine qs_iincl2 (L' := fun x3 => [some (.inl a0), some (.inl a1), some (.inl a2), some (.inl a3), some (.inl a4), some (.inl x3), some (.inl s0)]) o (q_dm dm_X11_bestMove 43 rfl) rfl ic_1 (Nat.le_of_ble_eq_true rfl) (fun _ => rfl) (fun x3 => ?_)
    refine qr_goto (tgt := 20) o (q_dm dm_X11_bestMove 44 rfl) (by decide) ?_
    exact qr_loc (q_leS (q_leS (q_leS (q_leS (q_leS (q_leS (q_leN q_le0))))))) (hK20 a0 a1 a2 a3 a4 x3 m2)
  · refine qr_bipush o (q_dm dm_X11_bestMove 37 rfl) bi_10 ?_
    refine qr_iload_n o (q_dm dm_X11_bestMove 38 rfl) rfl ?_
    refine qr_imul o (q_dm dm_X11_bestMove 39 rfl) ?_
    refine qr_iload o (q_dm dm_X11_bestMove 40 rfl) rfl ?_
    refine qr_iadd o (q_dm dm_X11_bestMove 41 rfl) ?_
    exact qr_iret o rfl rfl (q_dm dm_X11_bestMove 42 rfl)

def b_X11_bestMove_20 (n : Nat) (K2 : Int32 → Int32 → Int32 → Int32 → qM → qR) (K20 : Int32 → Int32 → Int32 → Int32 → Int32 → Int32 → qM → qR) (a0 a1 a2 a3 a4 a5 : Int32) (M : qM) : qR :=
  (if (3 : Int32) < a5 then ql (a3 + (1 : Int32)) (fun x1 => K2 a0 a1 a2 x1 M) else (if a4 < a5 then ql (a3 + (1 : Int32)) (fun x2 => K2 a0 a1 a2 x2 M) else (if a1 = (0 : Int32) then f_X11_bestMove_49 n K2 K20 a0 a1 a2 a3 a4 a5 a0 M else f_X11_bestMove_49 n K2 K20 a0 a1 a2 a3 a4 a5 (a0 - (a5 <<< (((3 : Int32) * a3) &&& 31))) M)))
set_option maxRecDepth 4000 in
theorem wb_X11_bestMove_20 {g : qG} {k : qK} (n : Nat) (j r : Nat) (hj : q_isLaw j) (hr : q_isLaw r) (o : qOk g 1 zX11_bestMove k) (K2 : Int32 → Int32 → Int32 → Int32 → qM → qR) (hK2 : ∀ (a0 a1 a2 a3 : Int32) (M : qM), qAE g k zX11_bestMove (qL j r) 2 [some (.inl a0), some (.inl a1), some (.inl a2), some (.inl a3), none, none, none] [] (qL j r, M) (K2 a0 a1 a2 a3 M)) (K20 : Int32 → Int32 → Int32 → Int32 → Int32 → Int32 → qM → qR) (hK20 : ∀ (a0 a1 a2 a3 a4 a5 : Int32) (M : qM), qAE g k zX11_bestMove (qL j r) 20 [some (.inl a0), some (.inl a1), some (.inl a2), some (.inl a3), some (.inl a4), some (.inl a5), none] [] (qL j r, M) (K20 a0 a1 a2 a3 a4 a5 M)) (a0 a1 a2 a3 a4 a5 : Int32) (M : qM) : qAE g k zX11_bestMove (qL j r) 20 [some (.inl a0), some (.inl a1), some (.inl a2), some (.inl a3), some (.inl a4), some (.inl a5), none] [] (qL j r, M) (b_X11_bestMove_20 n K2 K20 a0 a1 a2 a3 a4 a5 M) := by
  unfold b_X11_bestMove_20
  refine qr_iload o (q_dm dm_X11_bestMove 15 rfl) rfl ?_
  refine qr_iconst o (q_dm dm_X11_bestMove 16 rfl) ic_3 ?_
  refine qr_icmp_gt (tgt := 74) o (q_dm dm_X11_bestMove 17 rfl) (by decide) ?_ ?_
  · refine qs_iincl2 (L' := fun x1 => [some (.inl a0), some (.inl a1), some (.inl a2), some (.inl x1), some (.inl a4), some (.inl a5), none]) o (q_dm dm_X11_bestMove 45 rfl) rfl ic_1 (Nat.le_of_ble_eq_true rfl) (fun _ => rfl) (fun x1 => ?_)
    refine qr_goto (tgt := 2) o (q_dm dm_X11_bestMove 46 rfl) (by decide) ?_
    exact qr_loc (q_leS (q_leS (q_leS (q_leS (q_leN (q_leN (q_leN q_le0))))))) (hK2 a0 a1 a2 x1 M)
  · refine qr_iload o (q_dm dm_X11_bestMove 18 rfl) rfl ?_
    refine qr_iload o (q_dm dm_X11_bestMove 19 rfl) rfl ?_
    refine qr_icmp_gt (tgt := 74) o (q_dm dm_X11_bestMove 20 rfl) (by decide) ?_ ?_
    · refine qs_iincl2 (L' := fun x2 => [some (.inl a0), some (.inl a1), some (.inl a2), some (.inl x2), some (.inl a4), some (.inl a5), none]) o (q_dm dm_X11_bestMove 45 rfl) rfl ic_1 (Nat.le_of_ble_eq_true rfl) (fun _ => rfl) (fun x2 => ?_)
      refine qr_goto (tgt := 2) o (q_dm dm_X11_bestMove 46 rfl) (by decide) ?_
      exact qr_loc (q_leS (q_leS (q_leS (q_leS (q_leN (q_leN (q_leN q_le0))))))) (hK2 a0 a1 a2 x2 M)
    · refine qr_iload_n o (q_dm dm_X11_bestMove 21 rfl) rfl ?_
      refine qr_if_eq (tgt := 48) o (q_dm dm_X11_bestMove 22 rfl) (by decide) ?_ ?_
      · refine qr_iload_n o (q_dm dm_X11_bestMove 31 rfl) rfl ?_
        exact qr_loc (q_leS (q_leS (q_leS (q_leS (q_leS (q_leS (q_leN q_le0))))))) (w_X11_bestMove_49 n j r hj hr o K2 hK2 K20 hK20 a0 a1 a2 a3 a4 a5 a0 M)
      · refine qr_iload_n o (q_dm dm_X11_bestMove 23 rfl) rfl ?_
        refine qr_iload o (q_dm dm_X11_bestMove 24 rfl) rfl ?_
        refine qr_iconst o (q_dm dm_X11_bestMove 25 rfl) ic_3 ?_
        refine qr_iload_n o (q_dm dm_X11_bestMove 26 rfl) rfl ?_
        refine qr_imul o (q_dm dm_X11_bestMove 27 rfl) ?_
        refine qr_ishl o (q_dm dm_X11_bestMove 28 rfl) ?_
        refine qr_isub o (q_dm dm_X11_bestMove 29 rfl) ?_
        refine qr_goto (tgt := 49) o (q_dm dm_X11_bestMove 30 rfl) (by decide) ?_
        exact qr_loc (q_leS (q_leS (q_leS (q_leS (q_leS (q_leS (q_leN q_le0))))))) (w_X11_bestMove_49 n j r hj hr o K2 hK2 K20 hK20 a0 a1 a2 a3 a4 a5 (a0 - (a5 <<< (((3 : Int32) * a3) &&& 31))) M)

def f_X11_bestMove_20 (n : Nat) (K2 : Int32 → Int32 → Int32 → Int32 → qM → qR) : Nat → Int32 → Int32 → Int32 → Int32 → Int32 → Int32 → qM → qR
  | 0, _, _, _, _, _, _, _ => none
  | m + 1, a0, a1, a2, a3, a4, a5, M => b_X11_bestMove_20 n K2 (f_X11_bestMove_20 n K2 m) a0 a1 a2 a3 a4 a5 M
theorem w_X11_bestMove_20 {g : qG} {k : qK} (n : Nat) (j r : Nat) (hj : q_isLaw j) (hr : q_isLaw r) (o : qOk g 1 zX11_bestMove k) (K2 : Int32 → Int32 → Int32 → Int32 → qM → qR) (hK2 : ∀ (a0 a1 a2 a3 : Int32) (M : qM), qAE g k zX11_bestMove (qL j r) 2 [some (.inl a0), some (.inl a1), some (.inl a2), some (.inl a3), none, none, none] [] (qL j r, M) (K2 a0 a1 a2 a3 M)) : ∀ (m : Nat) (a0 a1 a2 a3 a4 a5 : Int32) (M : qM), qAE g k zX11_bestMove (qL j r) 20 [some (.inl a0), some (.inl a1), some (.inl a2), some (.inl a3), some (.inl a4), some (.inl a5), none] [] (qL j r, M) (f_X11_bestMove_20 n K2 m a0 a1 a2 a3 a4 a5 M) := by
  intro m
  induction m with
  | zero =>
    intro a0 a1 a2 a3 a4 a5 M
    exact qr_none
  | succ m ih =>
    intro a0 a1 a2 a3 a4 a5 M
    exact wb_X11_bestMove_20 n j r hj hr o K2 hK2 (f_X11_bestMove_20 n K2 m) ih a0 a1 a2 a3 a4 a5 M
def b_X11_bestMove_2 (n : Nat) (K2 : Int32 → Int32 → Int32 → Int32 → qM → qR) (a0 a1 a2 a3 : Int32) (M : qM) : qR :=
  (if (3 : Int32) ≤ a3 then some ((-2 : Int32), M) else ql ((a0 >>> (((3 : Int32) * a3) &&& 31)) &&& (7 : Int32)) (fun x1 => f_X11_bestMove_20 n K2 n a0 a1 a2 a3 x1 (1 : Int32) M))
set_option maxRecDepth 4000 in
theorem wb_X11_bestMove_2 {g : qG} {k : qK} (n : Nat) (j r : Nat) (hj : q_isLaw j) (hr : q_isLaw r) (o : qOk g 1 zX11_bestMove k) (K2 : Int32 → Int32 → Int32 → Int32 → qM → qR) (hK2 : ∀ (a0 a1 a2 a3 : Int32) (M : qM), qAE g k zX11_bestMove (qL j r) 2 [some (.inl a0), some (.inl a1), some (.inl a2), some (.inl a3), none, none, none] [] (qL j r, M) (K2 a0 a1 a2 a3 M)) (a0 a1 a2 a3 : Int32) (M : qM) : qAE g k zX11_bestMove (qL j r) 2 [some (.inl a0), some (.inl a1), some (.inl a2), some (.inl a3), none, none, none] [] (qL j r, M) (b_X11_bestMove_2 n K2 a0 a1 a2 a3 M) := by
  unfold b_X11_bestMove_2
  refine qr_iload_n o (q_dm dm_X11_bestMove 2 rfl) rfl ?_
  refine qr_iconst o (q_dm dm_X11_bestMove 3 rfl) ic_3 ?_
  refine qr_icmp_ge (tgt := 80) o (q_dm dm_X11_bestMove 4 rfl) (by decide) ?_ ?_
  · refine qr_bipush o (q_dm dm_X11_bestMove 47 rfl) bi_m2 ?_
    exact qr_iret o rfl rfl (q_dm dm_X11_bestMove 48 rfl)
  · refine qr_iload_n o (q_dm dm_X11_bestMove 5 rfl) rfl ?_
    refine qr_iconst o (q_dm dm_X11_bestMove 6 rfl) ic_3 ?_
    refine qr_iload_n o (q_dm dm_X11_bestMove 7 rfl) rfl ?_
    refine qr_imul o (q_dm dm_X11_bestMove 8 rfl) ?_
    refine qr_ishr o (q_dm dm_X11_bestMove 9 rfl) ?_
    refine qr_bipush o (q_dm dm_X11_bestMove 10 rfl) bi_7 ?_
    refine qr_iand o (q_dm dm_X11_bestMove 11 rfl) ?_
    refine qr_lt (fun x1 => ?_)
    refine qs_istore (L' := [some (.inl a0), some (.inl a1), some (.inl a2), some (.inl a3), some (.inl x1), none, none]) o (q_dm dm_X11_bestMove 12 rfl) (Nat.le_of_ble_eq_true rfl) rfl ?_
    refine qr_iconst o (q_dm dm_X11_bestMove 13 rfl) ic_1 ?_
    refine qs_istore (L' := [some (.inl a0), some (.inl a1), some (.inl a2), some (.inl a3), some (.inl x1), some (.inl (1 : Int32)), none]) o (q_dm dm_X11_bestMove 14 rfl) (Nat.le_of_ble_eq_true rfl) rfl ?_
    exact qr_loc (q_leS (q_leS (q_leS (q_leS (q_leS (q_leS (q_leN q_le0))))))) (w_X11_bestMove_20 n j r hj hr o K2 hK2 n a0 a1 a2 a3 x1 (1 : Int32) M)

def f_X11_bestMove_2 (n : Nat) : Nat → Int32 → Int32 → Int32 → Int32 → qM → qR
  | 0, _, _, _, _, _ => none
  | m + 1, a0, a1, a2, a3, M => b_X11_bestMove_2 n (f_X11_bestMove_2 n m) a0 a1 a2 a3 M
theorem w_X11_bestMove_2 {g : qG} {k : qK} (n : Nat) (j r : Nat) (hj : q_isLaw j) (hr : q_isLaw r) (o : qOk g 1 zX11_bestMove k) : ∀ (m : Nat) (a0 a1 a2 a3 : Int32) (M : qM), qAE g k zX11_bestMove (qL j r) 2 [some (.inl a0), some (.inl a1), some (.inl a2), some (.inl a3), none, none, none] [] (qL j r, M) (f_X11_bestMove_2 n m a0 a1 a2 a3 M) := by
  intro m
  induction m with
  | zero =>
    intro a0 a1 a2 a3 M
    exact qr_none
  | succ m ih =>
    intro a0 a1 a2 a3 M
    exact wb_X11_bestMove_2 n j r hj hr o (f_X11_bestMove_2 n m) ih a0 a1 a2 a3 M
def f_X11_bestMove (n : Nat) (a0 a1 a2 : Int32) (M : qM) : qR :=
  f_X11_bestMove_2 n n a0 a1 a2 (0 : Int32) M
set_option maxRecDepth 4000 in
theorem w_X11_bestMove {g : qG} {k : qK} (n : Nat) (j r : Nat) (hj : q_isLaw j) (hr : q_isLaw r) (o : qOk g 1 zX11_bestMove k) (a0 a1 a2 : Int32) (M : qM) : qAE g k zX11_bestMove (qL j r) 0 [some (.inl a0), some (.inl a1), some (.inl a2), none, none, none, none] [] (qL j r, M) (f_X11_bestMove n a0 a1 a2 M) := by
  unfold f_X11_bestMove
  refine qr_iconst o (q_dm dm_X11_bestMove 0 rfl) ic_0 ?_
  refine qs_istore_n (L' := [some (.inl a0), some (.inl a1), some (.inl a2), some (.inl (0 : Int32)), none, none, none]) o (q_dm dm_X11_bestMove 1 rfl) (Nat.le_of_ble_eq_true rfl) rfl ?_
  exact qr_loc (q_leS (q_leS (q_leS (q_leS (q_leN (q_leN (q_leN q_le0))))))) (w_X11_bestMove_2 n j r hj hr o n a0 a1 a2 (0 : Int32) M)

theorem a_X11_bestMove (g : qG) (l : Launch) (n : Nat) (j r : Nat) (hj : q_isLaw j) (hr : q_isLaw r) (a0 a1 a2 : Int32) (M : qM) : qAM g l 1 zX11_bestMove (qL j r) [.inl a0, .inl a1, .inl a2] (qL j r, M) (f_X11_bestMove n a0 a1 a2 M) :=
  qAM.of zs_X11_bestMove.1 (by show 3 ≤ 7; decide) (fun k hk o => w_X11_bestMove n j r hj hr o a0 a1 a2 M)
def tb_X11_canDeal : List (Nat × Instr × Nat) := [(0, (.aload_n 0, 1)), (1, (.getfield 26, 3)), (4, (.iload_n 1, 1)), (5, (.invokevirtual 131, 3)), (8, (.ifCond .eq 34, 3)), (11, (.aload_n 0, 1)), (12, (.getfield 19, 3)), (15, (.iload_n 2, 1)), (16, (.invokevirtual 140, 3)), (19, (.ifCond .eq 23, 3)), (22, (.aload_n 0, 1)), (23, (.getfield 26, 3)), (26, (.iload_n 3, 1)), (27, (.invokevirtual 131, 3)), (30, (.ifCond .eq 12, 3)), (33, (.iload_n 1, 1)), (34, (.iload_n 3, 1)), (35, (.if_icmp .eq 7, 3)), (38, (.iconst 1, 1)), (39, (.goto 4, 3)), (42, (.iconst 0, 1)), (43, (.ireturn, 1))]
theorem dm_X11_canDeal : ∀ q ∈ tb_X11_canDeal, decode zX11_canDeal.2.1 q.1 = .ok q.2 := by decide +kernel
def f_X11_canDeal (n : Nat) (a1 a2 a3 : Int32) (M : qM) : qR :=
  qc (f_X10_knows n 7 a1 M) (fun r1 m2 => (if r1 = (0 : Int32) then some ((0 : Int32), m2) else qc (f_X2_knows n a2 m2) (fun r3 m4 => (if r3 = (0 : Int32) then some ((0 : Int32), m4) else qc (f_X10_knows n 7 a3 m4) (fun r5 m6 => (if r5 = (0 : Int32) then some ((0 : Int32), m6) else (if a1 = a3 then some ((0 : Int32), m6) else some ((1 : Int32), m6))))))))
set_option maxRecDepth 4000 in
theorem w_X11_canDeal {g : qG} {k : qK} (n : Nat) (j r : Nat) (hj : q_isLaw j) (hr : q_isLaw r) (o : qOk g 1 zX11_canDeal k) (a1 a2 a3 : Int32) (M : qM) : qAE g k zX11_canDeal (qL j r) 0 [some (.inr (some 0)), some (.inl a1), some (.inl a2), some (.inl a3)] [] (qL j r, M) (f_X11_canDeal n a1 a2 a3 M) := by
  unfold f_X11_canDeal
  refine qr_aload_n o (q_dm dm_X11_canDeal 0 rfl) rfl ?_
  refine qr_getr (kf := 2) o cf_X11 (sh0 j r) rfl (Nat.le_of_ble_eq_true rfl) fl_X11_26 (q_dm dm_X11_canDeal 1 rfl) ?_
  refine qr_iload_n o (q_dm dm_X11_canDeal 2 rfl) rfl ?_
  refine qr_callv_i (As := [.inl a1]) (S := []) o (a_X10_knows g k.2.1 n j r hj hr (Or.inl rfl) a1 M) (Nat.le_of_ble_eq_true rfl) zv_X10_knows rfl cf_X10 (sh7 j r) ml_X11_131 (Nat.le_of_ble_eq_true rfl) (q_dm dm_X11_canDeal 3 rfl) (fun r1 m2 => ?_)
  refine qr_if_eq (tgt := 42) o (q_dm dm_X11_canDeal 4 rfl) (by decide) ?_ ?_
  · refine qr_iconst o (q_dm dm_X11_canDeal 20 rfl) ic_0 ?_
    exact qr_iret o rfl (by decide) (q_dm dm_X11_canDeal 21 rfl)
  · refine qr_aload_n o (q_dm dm_X11_canDeal 5 rfl) rfl ?_
    refine qr_getr (kf := 1) o cf_X11 (sh0 j r) rfl (Nat.le_of_ble_eq_true rfl) fl_X11_19 (q_dm dm_X11_canDeal 6 rfl) ?_
    refine qr_iload_n o (q_dm dm_X11_canDeal 7 rfl) rfl ?_
    refine qr_callv_i (As := [.inl a2]) (S := []) o (a_X2_knows g k.2.1 n j r hj hr a2 m2) (Nat.le_of_ble_eq_true rfl) zv_X2_knows rfl cf_X2 (sh3 j r) ml_X11_140 (Nat.le_of_ble_eq_true rfl) (q_dm dm_X11_canDeal 8 rfl) (fun r3 m4 => ?_)
    refine qr_if_eq (tgt := 42) o (q_dm dm_X11_canDeal 9 rfl) (by decide) ?_ ?_
    · refine qr_iconst o (q_dm dm_X11_canDeal 20 rfl) ic_0 ?_
      exact qr_iret o rfl (by decide) (q_dm dm_X11_canDeal 21 rfl)
    · refine qr_aload_n o (q_dm dm_X11_canDeal 10 rfl) rfl ?_
      refine qr_getr (kf := 2) o cf_X11 (sh0 j r) rfl (Nat.le_of_ble_eq_true rfl) fl_X11_26 (q_dm dm_X11_canDeal 11 rfl) ?_
      refine qr_iload_n o (q_dm dm_X11_canDeal 12 rfl) rfl ?_
      refine qr_callv_i (As := [.inl a3]) (S := []) o (a_X10_knows g k.2.1 n j r hj hr (Or.inl rfl) a3 m4) (Nat.le_of_ble_eq_true rfl) zv_X10_knows rfl cf_X10 (sh7 j r) ml_X11_131 (Nat.le_of_ble_eq_true rfl) (q_dm dm_X11_canDeal 13 rfl) (fun r5 m6 => ?_)
      refine qr_if_eq (tgt := 42) o (q_dm dm_X11_canDeal 14 rfl) (by decide) ?_ ?_
      · refine qr_iconst o (q_dm dm_X11_canDeal 20 rfl) ic_0 ?_
        exact qr_iret o rfl (by decide) (q_dm dm_X11_canDeal 21 rfl)
      · refine qr_iload_n o (q_dm dm_X11_canDeal 15 rfl) rfl ?_
        refine qr_iload_n o (q_dm dm_X11_canDeal 16 rfl) rfl ?_
        refine qr_icmp_eq (tgt := 42) o (q_dm dm_X11_canDeal 17 rfl) (by decide) ?_ ?_
        · refine qr_iconst o (q_dm dm_X11_canDeal 20 rfl) ic_0 ?_
          exact qr_iret o rfl (by decide) (q_dm dm_X11_canDeal 21 rfl)
        · refine qr_iconst o (q_dm dm_X11_canDeal 18 rfl) ic_1 ?_
          refine qr_goto (tgt := 43) o (q_dm dm_X11_canDeal 19 rfl) (by decide) ?_
          exact qr_iret o rfl (by decide) (q_dm dm_X11_canDeal 21 rfl)

theorem a_X11_canDeal (g : qG) (l : Launch) (n : Nat) (j r : Nat) (hj : q_isLaw j) (hr : q_isLaw r) (a1 a2 a3 : Int32) (M : qM) : qAM g l 1 zX11_canDeal (qL j r) [.inr (some 0), .inl a1, .inl a2, .inl a3] (qL j r, M) (f_X11_canDeal n a1 a2 a3 M) :=
  qAM.of zv_X11_canDeal.1 (by show 4 ≤ 4; decide) (fun k hk o => w_X11_canDeal n j r hj hr o a1 a2 a3 M)
def tb_X11_buys : List (Nat × Instr × Nat) := [(0, (.aload_n 0, 1)), (1, (.iload_n 1, 1)), (2, (.iload_n 2, 1)), (3, (.iload_n 3, 1)), (4, (.invokevirtual 145, 3)), (7, (.ifCond .ne 5, 3)), (10, (.iconst (-1), 1)), (11, (.ireturn, 1)), (12, (.aload_n 0, 1)), (13, (.getfield 50, 3)), (16, (.aload_n 0, 1)), (17, (.getfield 26, 3)), (20, (.iload_n 1, 1)), (21, (.iload_n 2, 1)), (22, (.iload_n 3, 1)), (23, (.invokevirtual 149, 3)), (26, (.ireturn, 1))]
theorem dm_X11_buys : ∀ q ∈ tb_X11_buys, decode zX11_buys.2.1 q.1 = .ok q.2 := by decide +kernel
def f_X11_buys (n : Nat) (j : Nat) (a1 a2 a3 : Int32) (M : qM) : qR :=
  qc (f_X11_canDeal n a1 a2 a3 M) (fun r1 m2 => (if r1 = (0 : Int32) then some ((-1 : Int32), m2) else qc (f_X0_buyGo n 7 j a1 a2 a3 m2) (fun r3 m4 => some (r3, m4))))
set_option maxRecDepth 4000 in
theorem w_X11_buys {g : qG} {k : qK} (n : Nat) (j r : Nat) (hj : q_isLaw j) (hr : q_isLaw r) (o : qOk g 5 zX11_buys k) (a1 a2 a3 : Int32) (M : qM) : qAE g k zX11_buys (qL j r) 0 [some (.inr (some 0)), some (.inl a1), some (.inl a2), some (.inl a3)] [] (qL j r, M) (f_X11_buys n j a1 a2 a3 M) := by
  unfold f_X11_buys
  refine qr_aload_n o (q_dm dm_X11_buys 0 rfl) rfl ?_
  refine qr_iload_n o (q_dm dm_X11_buys 1 rfl) rfl ?_
  refine qr_iload_n o (q_dm dm_X11_buys 2 rfl) rfl ?_
  refine qr_iload_n o (q_dm dm_X11_buys 3 rfl) rfl ?_
  refine qr_callv_i (As := [.inl a1, .inl a2, .inl a3]) (S := []) o (a_X11_canDeal g k.2.1 n j r hj hr a1 a2 a3 M) (Nat.le_of_ble_eq_true rfl) zv_X11_canDeal rfl cf_X11 (sh0 j r) ml_X11_145 (Nat.le_of_ble_eq_true rfl) (q_dm dm_X11_buys 4 rfl) (fun r1 m2 => ?_)
  refine qr_if_ne (tgt := 12) o (q_dm dm_X11_buys 5 rfl) (by decide) ?_ ?_
  · refine qr_aload_n o (q_dm dm_X11_buys 8 rfl) rfl ?_
    refine qr_getr (kf := 6) o cf_X11 (sh0 j r) rfl (Nat.le_of_ble_eq_true rfl) fl_X11_50 (q_dm dm_X11_buys 9 rfl) ?_
    refine qr_aload_n o (q_dm dm_X11_buys 10 rfl) rfl ?_
    refine qr_getr (kf := 2) o cf_X11 (sh0 j r) rfl (Nat.le_of_ble_eq_true rfl) fl_X11_26 (q_dm dm_X11_buys 11 rfl) ?_
    refine qr_iload_n o (q_dm dm_X11_buys 12 rfl) rfl ?_
    refine qr_iload_n o (q_dm dm_X11_buys 13 rfl) rfl ?_
    refine qr_iload_n o (q_dm dm_X11_buys 14 rfl) rfl ?_
    refine qr_callv_i (As := [.inr (some 7), .inl a1, .inl a2, .inl a3]) (S := []) o (a_X0_buyGo g k.2.1 n j r hj hr (Or.inl rfl) a1 a2 a3 m2) (Nat.le_of_ble_eq_true rfl) zv_X0_buyGo rfl cf_X0 (sh44 j r) ml_X11_149 (Nat.le_of_ble_eq_true rfl) (q_dm dm_X11_buys 15 rfl) (fun r3 m4 => ?_)
    exact qr_iret o rfl rfl (q_dm dm_X11_buys 16 rfl)
  · refine qr_iconst o (q_dm dm_X11_buys 6 rfl) ic_m1 ?_
    exact qr_iret o rfl rfl (q_dm dm_X11_buys 7 rfl)

theorem a_X11_buys (g : qG) (l : Launch) (n : Nat) (j r : Nat) (hj : q_isLaw j) (hr : q_isLaw r) (a1 a2 a3 : Int32) (M : qM) : qAM g l 5 zX11_buys (qL j r) [.inr (some 0), .inl a1, .inl a2, .inl a3] (qL j r, M) (f_X11_buys n j a1 a2 a3 M) :=
  qAM.of zv_X11_buys.1 (by show 4 ≤ 4; decide) (fun k hk o => w_X11_buys n j r hj hr o a1 a2 a3 M)
def tb_X2_knowsAll : List (Nat × Instr × Nat) := [(0, (.iload_n 1, 1)), (1, (.aload_n 0, 1)), (2, (.getfield 21, 3)), (5, (.iconst (-1), 1)), (6, (.ixor, 1)), (7, (.iand, 1)), (8, (.ifCond .ne 7, 3)), (11, (.iconst 1, 1)), (12, (.goto 4, 3)), (15, (.iconst 0, 1)), (16, (.ireturn, 1))]
theorem dm_X2_knowsAll : ∀ q ∈ tb_X2_knowsAll, decode zX2_knowsAll.2.1 q.1 = .ok q.2 := by decide +kernel
def f_X2_knowsAll (n : Nat) (a1 : Int32) (M : qM) : qR :=
  (if (a1 &&& ((M 3 3) ^^^ (-1 : Int32))) = (0 : Int32) then some ((1 : Int32), M) else some ((0 : Int32), M))
set_option maxRecDepth 4000 in
theorem w_X2_knowsAll {g : qG} {k : qK} (n : Nat) (j r : Nat) (hj : q_isLaw j) (hr : q_isLaw r) (o : qOk g 0 zX2_knowsAll k) (a1 : Int32) (M : qM) : qAE g k zX2_knowsAll (qL j r) 0 [some (.inr (some 3)), some (.inl a1)] [] (qL j r, M) (f_X2_knowsAll n a1 M) := by
  unfold f_X2_knowsAll
  refine qr_iload_n o (q_dm dm_X2_knowsAll 0 rfl) rfl ?_
  refine qr_aload_n o (q_dm dm_X2_knowsAll 1 rfl) rfl ?_
  refine qr_getf (kf := 3) o cf_X2 (sh3 j r) rfl (Nat.le_of_ble_eq_true rfl) fl_X2_21 (q_dm dm_X2_knowsAll 2 rfl) ?_
  refine qr_iconst o (q_dm dm_X2_knowsAll 3 rfl) ic_m1 ?_
  refine qr_ixor o (q_dm dm_X2_knowsAll 4 rfl) ?_
  refine qr_iand o (q_dm dm_X2_knowsAll 5 rfl) ?_
  refine qr_if_ne (tgt := 15) o (q_dm dm_X2_knowsAll 6 rfl) (by decide) ?_ ?_
  · refine qr_iconst o (q_dm dm_X2_knowsAll 9 rfl) ic_0 ?_
    exact qr_iret o rfl (by decide) (q_dm dm_X2_knowsAll 10 rfl)
  · refine qr_iconst o (q_dm dm_X2_knowsAll 7 rfl) ic_1 ?_
    refine qr_goto (tgt := 16) o (q_dm dm_X2_knowsAll 8 rfl) (by decide) ?_
    exact qr_iret o rfl (by decide) (q_dm dm_X2_knowsAll 10 rfl)

theorem a_X2_knowsAll (g : qG) (l : Launch) (n : Nat) (j r : Nat) (hj : q_isLaw j) (hr : q_isLaw r) (a1 : Int32) (M : qM) : qAM g l 0 zX2_knowsAll (qL j r) [.inr (some 3), .inl a1] (qL j r, M) (f_X2_knowsAll n a1 M) :=
  qAM.of zv_X2_knowsAll.1 (by show 2 ≤ 2; decide) (fun k hk o => w_X2_knowsAll n j r hj hr o a1 M)
