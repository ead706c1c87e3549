def tb_X7_lackedPlaces : List (Nat × Instr × Nat) := [(0, (.iconst 0, 1)), (1, (.istore 4, 2)), (3, (.iconst 0, 1)), (4, (.istore 5, 2)), (6, (.iload 5, 2)), (8, (.bipush 12, 2)), (10, (.if_icmp .ge 47, 3)), (13, (.aload_n 1, 1)), (14, (.iload_n 2, 1)), (15, (.iload_n 3, 1)), (16, (.iconst 1, 1)), (17, (.iload 5, 2)), (19, (.ishl, 1)), (20, (.iand, 1)), (21, (.invokevirtual 132, 3)), (24, (.ifCond .ne 27, 3)), (27, (.aload_n 0, 1)), (28, (.iconst 1, 1)), (29, (.iload 5, 2)), (31, (.ishl, 1)), (32, (.invokevirtual 65, 3)), (35, (.istore 6, 2)), (37, (.iload 6, 2)), (39, (.ifCond .ne 5, 3)), (42, (.iconst (-1), 1)), (43, (.ireturn, 1)), (44, (.iload 4, 2)), (46, (.iload 6, 2)), (48, (.ior, 1)), (49, (.istore 4, 2)), (51, (.iinc 5 1, 3)), (54, (.goto (-48), 3)), (57, (.iload 4, 2)), (59, (.ireturn, 1))]
theorem dm_X7_lackedPlaces : ∀ q ∈ tb_X7_lackedPlaces, decode zX7_lackedPlaces.2.1 q.1 = .ok q.2 := by decide +kernel
def b_X7_lackedPlaces_6 (n : Nat) (t : Nat) (K6 : Int32 → Int32 → Int32 → Int32 → qM → qR) (a2 a3 a4 a5 : Int32) (M : qM) : qR :=
  (if (12 : Int32) ≤ a5 then some (a4, M) else qc (f_X10_hasCounted n t a2 (a3 &&& ((1 : Int32) <<< (a5 &&& 31))) M) (fun r1 m2 => (if r1 = (0 : Int32) then qc (f_X7_toPlaces n ((1 : Int32) <<< (a5 &&& 31)) m2) (fun r4 m5 => (if r4 = (0 : Int32) then some ((-1 : Int32), m5) else ql (a4 ||| r4) (fun x6 => ql (a5 + (1 : Int32)) (fun x7 => K6 a2 a3 x6 x7 m5)))) else ql (a5 + (1 : Int32)) (fun x3 => K6 a2 a3 a4 x3 m2))))
set_option maxRecDepth 4000 in
theorem wb_X7_lackedPlaces_6 {g : qG} {k : qK} (n : Nat) (j r : Nat) (hj : q_isLaw j) (hr : q_isLaw r) {t : Nat} (ht : q_isTown t) (o : qOk g 1 zX7_lackedPlaces k) (K6 : Int32 → Int32 → Int32 → Int32 → qM → qR) (hK6 : ∀ (a2 a3 a4 a5 : Int32) (M : qM), qAE g k zX7_lackedPlaces (qL j r) 6 [some (.inr (some 56)), some (.inr (some t)), some (.inl a2), some (.inl a3), some (.inl a4), some (.inl a5), none] [] (qL j r, M) (K6 a2 a3 a4 a5 M)) (a2 a3 a4 a5 : Int32) (M : qM) : qAE g k zX7_lackedPlaces (qL j r) 6 [some (.inr (some 56)), some (.inr (some t)), some (.inl a2), some (.inl a3), some (.inl a4), some (.inl a5), none] [] (qL j r, M) (b_X7_lackedPlaces_6 n t K6 a2 a3 a4 a5 M) := by
  unfold b_X7_lackedPlaces_6
  refine qr_iload o (q_dm dm_X7_lackedPlaces 4 rfl) rfl ?_
  refine qr_bipush o (q_dm dm_X7_lackedPlaces 5 rfl) bi_12 ?_
  refine qr_icmp_ge (tgt := 57) o (q_dm dm_X7_lackedPlaces 6 rfl) (by decide) ?_ ?_
  · refine qr_iload o (q_dm dm_X7_lackedPlaces 32 rfl) rfl ?_
    exact qr_iret o rfl rfl (q_dm dm_X7_lackedPlaces 33 rfl)
  · refine qr_aload_n o (q_dm dm_X7_lackedPlaces 7 rfl) rfl ?_
    refine qr_iload_n o (q_dm dm_X7_lackedPlaces 8 rfl) rfl ?_
    refine qr_iload_n o (q_dm dm_X7_lackedPlaces 9 rfl) rfl ?_
    refine qr_iconst o (q_dm dm_X7_lackedPlaces 10 rfl) ic_1 ?_
    refine qr_iload o (q_dm dm_X7_lackedPlaces 11 rfl) rfl ?_
    refine qr_ishl o (q_dm dm_X7_lackedPlaces 12 rfl) ?_
    refine qr_iand o (q_dm dm_X7_lackedPlaces 13 rfl) ?_
    refine qr_callv_i (As := [.inl a2, .inl (a3 &&& ((1 : Int32) <<< (a5 &&& 31)))]) (S := []) o (a_X10_hasCounted g k.2.1 n j r hj hr ht a2 (a3 &&& ((1 : Int32) <<< (a5 &&& 31))) M) (Nat.le_of_ble_eq_true rfl) zv_X10_hasCounted rfl cf_X10 (shT0 j r ht) ml_X7_132 (Nat.le_of_ble_eq_true rfl) (q_dm dm_X7_lackedPlaces 14 rfl) (fun r1 m2 => ?_)
    refine qr_if_ne (tgt := 51) o (q_dm dm_X7_lackedPlaces 15 rfl) (by decide) ?_ ?_
    · refine qs_iincl2 (L' := fun x3 => [some (.inr (some 56)), some (.inr (some t)), some (.inl a2), some (.inl a3), some (.inl a4), some (.inl x3), none]) o (q_dm dm_X7_lackedPlaces 30 rfl) rfl ic_1 (Nat.le_of_ble_eq_true rfl) (fun _ => rfl) (fun x3 => ?_)
      refine qr_goto (tgt := 6) o (q_dm dm_X7_lackedPlaces 31 rfl) (by decide) ?_
      exact qr_loc (q_leS (q_leS (q_leS (q_leS (q_leS (q_leS (q_leN q_le0))))))) (hK6 a2 a3 a4 x3 m2)
    · refine qr_aload_n o (q_dm dm_X7_lackedPlaces 16 rfl) rfl ?_
      refine qr_iconst o (q_dm dm_X7_lackedPlaces 17 rfl) ic_1 ?_
      refine qr_iload o (q_dm dm_X7_lackedPlaces 18 rfl) rfl ?_
      refine qr_ishl o (q_dm dm_X7_lackedPlaces 19 rfl) ?_
      refine qr_callv_i (As := [.inl ((1 : Int32) <<< (a5 &&& 31))]) (S := []) o (a_X7_toPlaces g k.2.1 n j r hj hr ((1 : Int32) <<< (a5 &&& 31)) m2) (Nat.le_of_ble_eq_true rfl) zv_X7_toPlaces rfl cf_X7 (sh56 j r) ml_X7_65 (Nat.le_of_ble_eq_true rfl) (q_dm dm_X7_lackedPlaces 20 rfl) (fun r4 m5 => ?_)
      refine qs_istore (L' := [some (.inr (some 56)), some (.inr (some t)), some (.inl a2), some (.inl a3), some (.inl a4), some (.inl a5), some (.inl r4)]) o (q_dm dm_X7_lackedPlaces 21 rfl) (Nat.le_of_ble_eq_true rfl) rfl ?_
      refine qr_iload o (q_dm dm_X7_lackedPlaces 22 rfl) rfl ?_
      refine qr_if_ne (tgt := 44) o (q_dm dm_X7_lackedPlaces 23 rfl) (by decide) ?_ ?_
      · refine qr_iload o (q_dm dm_X7_lackedPlaces 26 rfl) rfl ?_
        refine qr_iload o (q_dm dm_X7_lackedPlaces 27 rfl) rfl ?_
        refine qr_ior o (q_dm dm_X7_lackedPlaces 28 rfl) ?_
        refine qr_lt (fun x6 => ?_)
        refine qs_istore (L' := [some (.inr (some 56)), some (.inr (some t)), some (.inl a2), some (.inl a3), some (.inl x6), some (.inl a5), some (.inl r4)]) o (q_dm dm_X7_lackedPlaces 29 rfl) (Nat.le_of_ble_eq_true rfl) rfl ?_
        refine qs_iincl2 (L' := fun x7 => [some (.inr (some 56)), some (.inr (some t)), some (.inl a2), some (.inl a3), some (.inl x6), some (.inl x7), some (.inl r4)]) o (q_dm dm_X7_lackedPlaces 30 rfl) rfl ic_1 (Nat.le_of_ble_eq_true rfl) (fun _ => rfl) (fun x7 => ?_)
        refine qr_goto (tgt := 6) o (q_dm dm_X7_lackedPlaces 31 rfl) (by decide) ?_
        exact qr_loc (q_leS (q_leS (q_leS (q_leS (q_leS (q_leS (q_leN q_le0))))))) (hK6 a2 a3 x6 x7 m5)
      · refine qr_iconst o (q_dm dm_X7_lackedPlaces 24 rfl) ic_m1 ?_
        exact qr_iret o rfl rfl (q_dm dm_X7_lackedPlaces 25 rfl)

def f_X7_lackedPlaces_6 (n : Nat) (t : Nat) : Nat → Int32 → Int32 → Int32 → Int32 → qM → qR
  | 0, _, _, _, _, _ => none
  | m + 1, a2, a3, a4, a5, M => b_X7_lackedPlaces_6 n t (f_X7_lackedPlaces_6 n t m) a2 a3 a4 a5 M
theorem w_X7_lackedPlaces_6 {g : qG} {k : qK} (n : Nat) (j r : Nat) (hj : q_isLaw j) (hr : q_isLaw r) {t : Nat} (ht : q_isTown t) (o : qOk g 1 zX7_lackedPlaces k) : ∀ (m : Nat) (a2 a3 a4 a5 : Int32) (M : qM), qAE g k zX7_lackedPlaces (qL j r) 6 [some (.inr (some 56)), some (.inr (some t)), some (.inl a2), some (.inl a3), some (.inl a4), some (.inl a5), none] [] (qL j r, M) (f_X7_lackedPlaces_6 n t m a2 a3 a4 a5 M) := by
  intro m
  induction m with
  | zero =>
    intro a2 a3 a4 a5 M
    exact qr_none
  | succ m ih =>
    intro a2 a3 a4 a5 M
    exact wb_X7_lackedPlaces_6 n j r hj hr ht o (f_X7_lackedPlaces_6 n t m) ih a2 a3 a4 a5 M
def f_X7_lackedPlaces (n : Nat) (t : Nat) (a2 a3 : Int32) (M : qM) : qR :=
  f_X7_lackedPlaces_6 n t n a2 a3 (0 : Int32) (0 : Int32) M
set_option maxRecDepth 4000 in
theorem w_X7_lackedPlaces {g : qG} {k : qK} (n : Nat) (j r : Nat) (hj : q_isLaw j) (hr : q_isLaw r) {t : Nat} (ht : q_isTown t) (o : qOk g 1 zX7_lackedPlaces k) (a2 a3 : Int32) (M : qM) : qAE g k zX7_lackedPlaces (qL j r) 0 [some (.inr (some 56)), some (.inr (some t)), some (.inl a2), some (.inl a3), none, none, none] [] (qL j r, M) (f_X7_lackedPlaces n t a2 a3 M) := by
  unfold f_X7_lackedPlaces
  refine qr_iconst o (q_dm dm_X7_lackedPlaces 0 rfl) ic_0 ?_
  refine qs_istore (L' := [some (.inr (some 56)), some (.inr (some t)), some (.inl a2), some (.inl a3), some (.inl (0 : Int32)), none, none]) o (q_dm dm_X7_lackedPlaces 1 rfl) (Nat.le_of_ble_eq_true rfl) rfl ?_
  refine qr_iconst o (q_dm dm_X7_lackedPlaces 2 rfl) ic_0 ?_
  refine qs_istore (L' := [some (.inr (some 56)), some (.inr (some t)), some (.inl a2), some (.inl a3), some (.inl (0 : Int32)), some (.inl (0 : Int32)), none]) o (q_dm dm_X7_lackedPlaces 3 rfl) (Nat.le_of_ble_eq_true rfl) rfl ?_
  exact qr_loc (q_leS (q_leS (q_leS (q_leS (q_leS (q_leS (q_leN q_le0))))))) (w_X7_lackedPlaces_6 n j r hj hr ht o n a2 a3 (0 : Int32) (0 : Int32) M)

theorem a_X7_lackedPlaces (g : qG) (l : Launch) (n : Nat) (j r : Nat) (hj : q_isLaw j) (hr : q_isLaw r) {t : Nat} (ht : q_isTown t) (a2 a3 : Int32) (M : qM) : qAM g l 1 zX7_lackedPlaces (qL j r) [.inr (some 56), .inr (some t), .inl a2, .inl a3] (qL j r, M) (f_X7_lackedPlaces n t a2 a3 M) :=
  qAM.of zv_X7_lackedPlaces.1 (by show 4 ≤ 7; decide) (fun k hk o => w_X7_lackedPlaces n j r hj hr ht o a2 a3 M)
def tb_X7_prepare : List (Nat × Instr × Nat) := [(0, (.aload_n 0, 1)), (1, (.iconst 0, 1)), (2, (.putfield 45, 3)), (5, (.iconst 0, 1)), (6, (.istore 5, 2)), (8, (.iload 5, 2)), (10, (.bipush 12, 2)), (12, (.if_icmp .ge 70, 3)), (15, (.aload_n 0, 1)), (16, (.getfield 45, 3)), (19, (.iconst 4, 1)), (20, (.if_icmp .ge 62, 3)), (23, (.iload_n 3, 1)), (24, (.iload 5, 2)), (26, (.ishr, 1)), (27, (.iconst 1, 1)), (28, (.iand, 1)), (29, (.iconst 1, 1)), (30, (.if_icmp .ne 46, 3)), (33, (.aload_n 0, 1)), (34, (.iload 5, 2)), (36, (.iload 4, 2)), (38, (.if_icmp .ne 10, 3)), (41, (.aload_n 0, 1)), (42, (.getfield 45, 3)), (45, (.goto 7, 3)), (48, (.aload_n 0, 1)), (49, (.getfield 49, 3)), (52, (.putfield 49, 3)), (55, (.aload_n 0, 1)), (56, (.getfield 9, 3)), (59, (.aload_n 0, 1)), (60, (.getfield 45, 3)), (63, (.iload 5, 2)), (65, (.iastore, 1)), (66, (.aload_n 0, 1)), (67, (.dup, 1)), (68, (.getfield 45, 3)), (71, (.iconst 1, 1)), (72, (.iadd, 1)), (73, (.putfield 45, 3)), (76, (.iinc 5 1, 3)), (79, (.goto (-71), 3)), (82, (.iconst 0, 1)), (83, (.istore 5, 2)), (85, (.iload 5, 2)), (87, (.aload_n 0, 1)), (88, (.getfield 45, 3)), (91, (.if_icmp .ge 92, 3)), (94, (.aload_n 0, 1)), (95, (.getfield 37, 3)), (98, (.aload_n 0, 1)), (99, (.getfield 9, 3)), (102, (.iload 5, 2)), (104, (.iaload, 1)), (105, (.aload_n 1, 1)), (106, (.getfield 52, 3)), (109, (.invokevirtual 57, 3)), (112, (.istore 6, 2)), (114, (.aload_n 0, 1)), (115, (.getfield 15, 3)), (118, (.iload 5, 2)), (120, (.aload_n 1, 1)), (121, (.iload_n 2, 1)), (122, (.iload 6, 2)), (124, (.invokevirtual 62, 3)), (127, (.iastore, 1)), (128, (.aload_n 0, 1)), (129, (.getfield 18, 3)), (132, (.iload 5, 2)), (134, (.aload_n 0, 1)), (135, (.iload 6, 2)), (137, (.invokevirtual 65, 3)), (140, (.iastore, 1)), (141, (.aload_n 0, 1)), (142, (.getfield 21, 3)), (145, (.iload 5, 2)), (147, (.aload_n 0, 1)), (148, (.aload_n 1, 1)), (149, (.iload_n 2, 1)), (150, (.aload_n 0, 1)), (151, (.getfield 33, 3)), (154, (.getfield 69, 3)), (157, (.aload_n 0, 1)), (158, (.getfield 9, 3)), (161, (.iload 5, 2)), (163, (.iaload, 1)), (164, (.iaload, 1)), (165, (.invokevirtual 74, 3)), (168, (.iastore, 1)), (169, (.aload_n 0, 1)), (170, (.aload_n 1, 1)), (171, (.iload_n 2, 1)), (172, (.iload 5, 2)), (174, (.invokevirtual 78, 3)), (177, (.iinc 5 1, 3)), (180, (.goto (-95), 3)), (183, (.aload_n 0, 1)), (184, (.getfield 30, 3)), (187, (.iconst (-1), 1)), (188, (.invokestatic 82, 3)), (191, (.return_, 1))]
theorem dm_X7_prepare : ∀ q ∈ tb_X7_prepare, decode zX7_prepare.2.1 q.1 = .ok q.2 := by decide +kernel
def b_X7_prepare_85 (n : Nat) (t j : Nat) (K85 : Int32 → Int32 → qM → qR) (a2 a5 : Int32) (M : qM) : qR :=
  (if (M 56 10) ≤ a5 then qc (f_J7_fill_53178 n 63 8192 (-1 : Int32) M) (fun _ m1 => some (0, m1)) else qg a5 4 (qc (f_X1_alikes n j (M 57 a5.toNatClampNeg) (M t 9) M) (fun r2 m3 => qc (f_X10_triesAmong n t a2 r2 m3) (fun r4 m5 => qg a5 4 (qlm (mu m5 58 a5.toNatClampNeg r4) (fun m6 => qc (f_X7_toPlaces n r2 m6) (fun r7 m8 => qg a5 4 (qlm (mu m8 59 a5.toNatClampNeg r7) (fun m9 => qg a5 4 (qg (m9 57 a5.toNatClampNeg) 12 (qc (f_X7_lackedPlaces n t a2 (m9 6 (m9 57 a5.toNatClampNeg).toNatClampNeg) m9) (fun r10 m11 => qg a5 4 (qlm (mu m11 60 a5.toNatClampNeg r10) (fun m12 => qc (f_X7_askVoids n t j a2 a5 m12) (fun _ m13 => ql (a5 + (1 : Int32)) (fun x14 => K85 a2 x14 m13))))))))))))))))
set_option maxRecDepth 4000 in
theorem wb_X7_prepare_85 {g : qG} {k : qK} (n : Nat) (j r : Nat) (hj : q_isLaw j) (hr : q_isLaw r) {t : Nat} (ht : q_isTown t) (o : qOk g 5 zX7_prepare k) (K85 : Int32 → Int32 → qM → qR) (hK85 : ∀ (a2 a5 : Int32) (M : qM), qAE g k zX7_prepare (qL j r) 85 [some (.inr (some 56)), some (.inr (some t)), some (.inl a2), none, none, some (.inl a5), none] [] (qL j r, M) (K85 a2 a5 M)) (a2 a5 : Int32) (M : qM) : qAE g k zX7_prepare (qL j r) 85 [some (.inr (some 56)), some (.inr (some t)), some (.inl a2), none, none, some (.inl a5), none] [] (qL j r, M) (b_X7_prepare_85 n t j K85 a2 a5 M) := by
  unfold b_X7_prepare_85
  refine qr_iload o (q_dm dm_X7_prepare 45 rfl) rfl ?_
  refine qr_aload_n o (q_dm dm_X7_prepare 46 rfl) rfl ?_
  refine qr_getf (kf := 10) o cf_X7 (sh56 j r) rfl (Nat.le_of_ble_eq_true rfl) fl_X7_45 (q_dm dm_X7_prepare 47 rfl) ?_
  refine qr_icmp_ge (tgt := 183) o (q_dm dm_X7_prepare 48 rfl) (by decide) ?_ ?_
  · refine qr_aload_n o (q_dm dm_X7_prepare 97 rfl) rfl ?_
    refine qr_getr (kf := 9) o cf_X7 (sh56 j r) rfl (Nat.le_of_ble_eq_true rfl) fl_X7_30 (q_dm dm_X7_prepare 98 rfl) ?_
    refine qr_iconst o (q_dm dm_X7_prepare 99 rfl) ic_m1 ?_
    refine qr_calls_v (As := [.inr (some 63), .inl (-1 : Int32)]) (S := []) o (a_J7_fill_53178 g k.2.1 n j r hj hr (sh63 j r) (-1 : Int32) M) (Nat.le_of_ble_eq_true rfl) zs_J7_fill_53178 rfl ml_X7_82 (Nat.le_of_ble_eq_true rfl) (q_dm dm_X7_prepare 100 rfl) (fun _ m1 => ?_)
    exact qr_vret o rfl (q_dm dm_X7_prepare 101 rfl)
  · refine qr_aload_n o (q_dm dm_X7_prepare 49 rfl) rfl ?_
    refine qr_getr (kf := 1) o cf_X7 (sh56 j r) rfl (Nat.le_of_ble_eq_true rfl) fl_X7_37 (q_dm dm_X7_prepare 50 rfl) ?_
    refine qr_aload_n o (q_dm dm_X7_prepare 51 rfl) rfl ?_
    refine qr_getr (kf := 3) o cf_X7 (sh56 j r) rfl (Nat.le_of_ble_eq_true rfl) fl_X7_9 (q_dm dm_X7_prepare 52 rfl) ?_
    refine qr_iload o (q_dm dm_X7_prepare 53 rfl) rfl ?_
    refine qr_iald o (sh57 j r) (q_dm dm_X7_prepare 54 rfl) ?_
    refine qr_aload_n o (q_dm dm_X7_prepare 55 rfl) rfl ?_
    refine qr_getf (kf := 9) o cf_X10 (shT0 j r ht) rfl (Nat.le_of_ble_eq_true rfl) fl_X7_52 (q_dm dm_X7_prepare 56 rfl) ?_
    refine qr_callv_i (As := [.inl (M 57 a5.toNatClampNeg), .inl (M t 9)]) (S := []) o (a_X1_alikes g k.2.1 n j r hj hr (M 57 a5.toNatClampNeg) (M t 9) M) (Nat.le_of_ble_eq_true rfl) zv_X1_alikes rfl cf_X1 (sh34 j r) ml_X7_57 (Nat.le_of_ble_eq_true rfl) (q_dm dm_X7_prepare 57 rfl) (fun r2 m3 => ?_)
    refine qs_istore (L' := [some (.inr (some 56)), some (.inr (some t)), some (.inl a2), none, none, some (.inl a5), some (.inl r2)]) o (q_dm dm_X7_prepare 58 rfl) (Nat.le_of_ble_eq_true rfl) rfl ?_
    refine qr_aload_n o (q_dm dm_X7_prepare 59 rfl) rfl ?_
    refine qr_getr (kf := 4) o cf_X7 (sh56 j r) rfl (Nat.le_of_ble_eq_true rfl) fl_X7_15 (q_dm dm_X7_prepare 60 rfl) ?_
    refine qr_iload o (q_dm dm_X7_prepare 61 rfl) rfl ?_
    refine qr_aload_n o (q_dm dm_X7_prepare 62 rfl) rfl ?_
    refine qr_iload_n o (q_dm dm_X7_prepare 63 rfl) rfl ?_
    refine qr_iload o (q_dm dm_X7_prepare 64 rfl) rfl ?_
    refine qr_callv_i (As := [.inl a2, .inl r2]) (S := [.inl a5, .inr (some 58)]) o (a_X10_triesAmong g k.2.1 n j r hj hr ht a2 r2 m3) (Nat.le_of_ble_eq_true rfl) zv_X10_triesAmong rfl cf_X10 (shT0 j r ht) ml_X7_62 (Nat.le_of_ble_eq_true rfl) (q_dm dm_X7_prepare 65 rfl) (fun r4 m5 => ?_)
    refine qr_iast o (sh58 j r) (q_dm dm_X7_prepare 66 rfl) ?_
    refine qr_letm (fun m6 => ?_)
    refine qr_aload_n o (q_dm dm_X7_prepare 67 rfl) rfl ?_
    refine qr_getr (kf := 5) o cf_X7 (sh56 j r) rfl (Nat.le_of_ble_eq_true rfl) fl_X7_18 (q_dm dm_X7_prepare 68 rfl) ?_
    refine qr_iload o (q_dm dm_X7_prepare 69 rfl) rfl ?_
    refine qr_aload_n o (q_dm dm_X7_prepare 70 rfl) rfl ?_
    refine qr_iload o (q_dm dm_X7_prepare 71 rfl) rfl ?_
    refine qr_callv_i (As := [.inl r2]) (S := [.inl a5, .inr (some 59)]) o (a_X7_toPlaces g k.2.1 n j r hj hr r2 m6) (Nat.le_of_ble_eq_true rfl) zv_X7_toPlaces rfl cf_X7 (sh56 j r) ml_X7_65 (Nat.le_of_ble_eq_true rfl) (q_dm dm_X7_prepare 72 rfl) (fun r7 m8 => ?_)
    refine qr_iast o (sh59 j r) (q_dm dm_X7_prepare 73 rfl) ?_
    refine qr_letm (fun m9 => ?_)
    refine qr_aload_n o (q_dm dm_X7_prepare 74 rfl) rfl ?_
    refine qr_getr (kf := 6) o cf_X7 (sh56 j r) rfl (Nat.le_of_ble_eq_true rfl) fl_X7_21 (q_dm dm_X7_prepare 75 rfl) ?_
    refine qr_iload o (q_dm dm_X7_prepare 76 rfl) rfl ?_
    refine qr_aload_n o (q_dm dm_X7_prepare 77 rfl) rfl ?_
    refine qr_aload_n o (q_dm dm_X7_prepare 78 rfl) rfl ?_
    refine qr_iload_n o (q_dm dm_X7_prepare 79 rfl) rfl ?_
    refine qr_aload_n o (q_dm dm_X7_prepare 80 rfl) rfl ?_
    refine qr_getr (kf := 0) o cf_X7 (sh56 j r) rfl (Nat.le_of_ble_eq_true rfl) fl_X7_33 (q_dm dm_X7_prepare 81 rfl) ?_
    refine qr_getr (kf := 2) o cf_X2 (sh3 j r) rfl (Nat.le_of_ble_eq_true rfl) fl_X7_69 (q_dm dm_X7_prepare 82 rfl) ?_
    refine qr_aload_n o (q_dm dm_X7_prepare 83 rfl) rfl ?_
    refine qr_getr (kf := 3) o cf_X7 (sh56 j r) rfl (Nat.le_of_ble_eq_true rfl) fl_X7_9 (q_dm dm_X7_prepare 84 rfl) ?_
    refine qr_iload o (q_dm dm_X7_prepare 85 rfl) rfl ?_
    refine qr_iald o (sh57 j r) (q_dm dm_X7_prepare 86 rfl) ?_
    refine qr_iald o (sh6 j r) (q_dm dm_X7_prepare 87 rfl) ?_
    refine qr_callv_i (As := [.inr (some t), .inl a2, .inl (m9 6 (m9 57 a5.toNatClampNeg).toNatClampNeg)]) (S := [.inl a5, .inr (some 60)]) o (a_X7_lackedPlaces g k.2.1 n j r hj hr ht a2 (m9 6 (m9 57 a5.toNatClampNeg).toNatClampNeg) m9) (Nat.le_of_ble_eq_true rfl) zv_X7_lackedPlaces rfl cf_X7 (sh56 j r) ml_X7_74 (Nat.le_of_ble_eq_true rfl) (q_dm dm_X7_prepare 88 rfl) (fun r10 m11 => ?_)
    refine qr_iast o (sh60 j r) (q_dm dm_X7_prepare 89 rfl) ?_
    refine qr_letm (fun m12 => ?_)
    refine qr_aload_n o (q_dm dm_X7_prepare 90 rfl) rfl ?_
    refine qr_aload_n o (q_dm dm_X7_prepare 91 rfl) rfl ?_
    refine qr_iload_n o (q_dm dm_X7_prepare 92 rfl) rfl ?_
    refine qr_iload o (q_dm dm_X7_prepare 93 rfl) rfl ?_
    refine qr_callv_v (As := [.inr (some t), .inl a2, .inl a5]) (S := []) o (a_X7_askVoids g k.2.1 n j r hj hr ht a2 a5 m12) (Nat.le_of_ble_eq_true rfl) zv_X7_askVoids rfl cf_X7 (sh56 j r) ml_X7_78 (Nat.le_of_ble_eq_true rfl) (q_dm dm_X7_prepare 94 rfl) (fun _ m13 => ?_)
    refine qs_iincl2 (L' := fun x14 => [some (.inr (some 56)), some (.inr (some t)), some (.inl a2), none, none, some (.inl x14), some (.inl r2)]) o (q_dm dm_X7_prepare 95 rfl) rfl ic_1 (Nat.le_of_ble_eq_true rfl) (fun _ => rfl) (fun x14 => ?_)
    refine qr_goto (tgt := 85) o (q_dm dm_X7_prepare 96 rfl) (by decide) ?_
    exact qr_loc (q_leS (q_leS (q_leS (q_leN (q_leN (q_leS (q_leN q_le0))))))) (hK85 a2 x14 m13)

def f_X7_prepare_85 (n : Nat) (t j : Nat) : Nat → Int32 → Int32 → qM → qR
  | 0, _, _, _ => none
  | m + 1, a2, a5, M => b_X7_prepare_85 n t j (f_X7_prepare_85 n t j m) a2 a5 M
theorem w_X7_prepare_85 {g : qG} {k : qK} (n : Nat) (j r : Nat) (hj : q_isLaw j) (hr : q_isLaw r) {t : Nat} (ht : q_isTown t) (o : qOk g 5 zX7_prepare k) : ∀ (m : Nat) (a2 a5 : Int32) (M : qM), qAE g k zX7_prepare (qL j r) 85 [some (.inr (some 56)), some (.inr (some t)), some (.inl a2), none, none, some (.inl a5), none] [] (qL j r, M) (f_X7_prepare_85 n t j m a2 a5 M) := by
  intro m
  induction m with
  | zero =>
    intro a2 a5 M
    exact qr_none
  | succ m ih =>
    intro a2 a5 M
    exact wb_X7_prepare_85 n j r hj hr ht o (f_X7_prepare_85 n t j m) ih a2 a5 M
def f_X7_prepare_52 (n : Nat) (t j : Nat) (K8 : Int32 → Int32 → Int32 → Int32 → qM → qR) (a2 a3 a4 a5 s1 : Int32) (M : qM) : qR :=
  qlm (mu M 56 11 s1) (fun m1 => qg (m1 56 10) 4 (qlm (mu m1 57 (m1 56 10).toNatClampNeg a5) (fun m2 => qlm (mu m2 56 10 ((m2 56 10) + (1 : Int32))) (fun m3 => ql (a5 + (1 : Int32)) (fun x4 => K8 a2 a3 a4 x4 m3)))))
set_option maxRecDepth 4000 in
theorem w_X7_prepare_52 {g : qG} {k : qK} (n : Nat) (j r : Nat) (hj : q_isLaw j) (hr : q_isLaw r) {t : Nat} (ht : q_isTown t) (o : qOk g 5 zX7_prepare k) (K8 : Int32 → Int32 → Int32 → Int32 → qM → qR) (hK8 : ∀ (a2 a3 a4 a5 : Int32) (M : qM), qAE g k zX7_prepare (qL j r) 8 [some (.inr (some 56)), some (.inr (some t)), some (.inl a2), some (.inl a3), some (.inl a4), some (.inl a5), none] [] (qL j r, M) (K8 a2 a3 a4 a5 M)) (a2 a3 a4 a5 s1 : Int32) (M : qM) : qAE g k zX7_prepare (qL j r) 52 [some (.inr (some 56)), some (.inr (some t)), some (.inl a2), some (.inl a3), some (.inl a4), some (.inl a5), none] [.inl s1, .inr (some 56)] (qL j r, M) (f_X7_prepare_52 n t j K8 a2 a3 a4 a5 s1 M) := by
  unfold f_X7_prepare_52
  refine qr_putf (kf := 11) o cf_X7 (sh56 j r) rfl (Nat.le_of_ble_eq_true rfl) fl_X7_49 rfl (by decide +kernel) (q_dm dm_X7_prepare 28 rfl) ?_
  refine qr_letm (fun m1 => ?_)
  refine qr_aload_n o (q_dm dm_X7_prepare 29 rfl) rfl ?_
  refine qr_getr (kf := 3) o cf_X7 (sh56 j r) rfl (Nat.le_of_ble_eq_true rfl) fl_X7_9 (q_dm dm_X7_prepare 30 rfl) ?_
  refine qr_aload_n o (q_dm dm_X7_prepare 31 rfl) rfl ?_
  refine qr_getf (kf := 10) o cf_X7 (sh56 j r) rfl (Nat.le_of_ble_eq_true rfl) fl_X7_45 (q_dm dm_X7_prepare 32 rfl) ?_
  refine qr_iload o (q_dm dm_X7_prepare 33 rfl) rfl ?_
  refine qr_iast o (sh57 j r) (q_dm dm_X7_prepare 34 rfl) ?_
  refine qr_letm (fun m2 => ?_)
  refine qr_aload_n o (q_dm dm_X7_prepare 35 rfl) rfl ?_
  refine qr_dup o (q_dm dm_X7_prepare 36 rfl) ?_
  refine qr_getf (kf := 10) o cf_X7 (sh56 j r) rfl (Nat.le_of_ble_eq_true rfl) fl_X7_45 (q_dm dm_X7_prepare 37 rfl) ?_
  refine qr_iconst o (q_dm dm_X7_prepare 38 rfl) ic_1 ?_
  refine qr_iadd o (q_dm dm_X7_prepare 39 rfl) ?_
  refine qr_putf (kf := 10) o cf_X7 (sh56 j r) rfl (Nat.le_of_ble_eq_true rfl) fl_X7_45 rfl (by decide +kernel) (q_dm dm_X7_prepare 40 rfl) ?_
  refine qr_letm (fun m3 => ?_)
  refine qs_iincl2 (L' := fun x4 => [some (.inr (some 56)), some (.inr (some t)), some (.inl a2), some (.inl a3), some (.inl a4), some (.inl x4), none]) o (q_dm dm_X7_prepare 41 rfl) rfl ic_1 (Nat.le_of_ble_eq_true rfl) (fun _ => rfl) (fun x4 => ?_)
  refine qr_goto (tgt := 8) o (q_dm dm_X7_prepare 42 rfl) (by decide) ?_
  exact qr_loc (q_leS (q_leS (q_leS (q_leS (q_leS (q_leS (q_leN q_le0))))))) (hK8 a2 a3 a4 x4 m3)

def b_X7_prepare_8 (n : Nat) (t j : Nat) (K8 : Int32 → Int32 → Int32 → Int32 → qM → qR) (a2 a3 a4 a5 : Int32) (M : qM) : qR :=
  (if (12 : Int32) ≤ a5 then f_X7_prepare_85 n t j n a2 (0 : Int32) M else (if (4 : Int32) ≤ (M 56 10) then f_X7_prepare_85 n t j n a2 (0 : Int32) M else (if ((a3 >>> (a5 &&& 31)) &&& (1 : Int32)) = (1 : Int32) then (if a5 = a4 then f_X7_prepare_52 n t j K8 a2 a3 a4 a5 (M 56 10) M else f_X7_prepare_52 n t j K8 a2 a3 a4 a5 (M 56 11) M) else ql (a5 + (1 : Int32)) (fun x1 => K8 a2 a3 a4 x1 M))))
set_option maxRecDepth 4000 in
theorem wb_X7_prepare_8 {g : qG} {k : qK} (n : Nat) (j r : Nat) (hj : q_isLaw j) (hr : q_isLaw r) {t : Nat} (ht : q_isTown t) (o : qOk g 5 zX7_prepare k) (K8 : Int32 → Int32 → Int32 → Int32 → qM → qR) (hK8 : ∀ (a2 a3 a4 a5 : Int32) (M : qM), qAE g k zX7_prepare (qL j r) 8 [some (.inr (some 56)), some (.inr (some t)), some (.inl a2), some (.inl a3), some (.inl a4), some (.inl a5), none] [] (qL j r, M) (K8 a2 a3 a4 a5 M)) (a2 a3 a4 a5 : Int32) (M : qM) : qAE g k zX7_prepare (qL j r) 8 [some (.inr (some 56)), some (.inr (some t)), some (.inl a2), some (.inl a3), some (.inl a4), some (.inl a5), none] [] (qL j r, M) (b_X7_prepare_8 n t j K8 a2 a3 a4 a5 M) := by
  unfold b_X7_prepare_8
  refine qr_iload o (q_dm dm_X7_prepare 5 rfl) rfl ?_
  refine qr_bipush o (q_dm dm_X7_prepare 6 rfl) bi_12 ?_
  refine qr_icmp_ge (tgt := 82) o (q_dm dm_X7_prepare 7 rfl) (by decide) ?_ ?_
  · refine qr_iconst o (q_dm dm_X7_prepare 43 rfl) ic_0 ?_
    refine qs_istore (L' := [some (.inr (some 56)), some (.inr (some t)), some (.inl a2), some (.inl a3), some (.inl a4), some (.inl (0 : Int32)), none]) o (q_dm dm_X7_prepare 44 rfl) (Nat.le_of_ble_eq_true rfl) rfl ?_
    exact qr_loc (q_leS (q_leS (q_leS (q_leN (q_leN (q_leS (q_leN q_le0))))))) (w_X7_prepare_85 n j r hj hr ht o n a2 (0 : Int32) M)
  · refine qr_aload_n o (q_dm dm_X7_prepare 8 rfl) rfl ?_
    refine qr_getf (kf := 10) o cf_X7 (sh56 j r) rfl (Nat.le_of_ble_eq_true rfl) fl_X7_45 (q_dm dm_X7_prepare 9 rfl) ?_
    refine qr_iconst o (q_dm dm_X7_prepare 10 rfl) ic_4 ?_
    refine qr_icmp_ge (tgt := 82) o (q_dm dm_X7_prepare 11 rfl) (by decide) ?_ ?_
    · refine qr_iconst o (q_dm dm_X7_prepare 43 rfl) ic_0 ?_
      refine qs_istore (L' := [some (.inr (some 56)), some (.inr (some t)), some (.inl a2), some (.inl a3), some (.inl a4), some (.inl (0 : Int32)), none]) o (q_dm dm_X7_prepare 44 rfl) (Nat.le_of_ble_eq_true rfl) rfl ?_
      exact qr_loc (q_leS (q_leS (q_leS (q_leN (q_leN (q_leS (q_leN q_le0))))))) (w_X7_prepare_85 n j r hj hr ht o n a2 (0 : Int32) M)
    · refine qr_iload_n o (q_dm dm_X7_prepare 12 rfl) rfl ?_
      refine qr_iload o (q_dm dm_X7_prepare 13 rfl) rfl ?_
      refine qr_ishr o (q_dm dm_X7_prepare 14 rfl) ?_
      refine qr_iconst o (q_dm dm_X7_prepare 15 rfl) ic_1 ?_
      refine qr_iand o (q_dm dm_X7_prepare 16 rfl) ?_
      refine qr_iconst o (q_dm dm_X7_prepare 17 rfl) ic_1 ?_
      refine qr_icmp_ne (tgt := 76) o (q_dm dm_X7_prepare 18 rfl) (by decide) ?_ ?_
      · refine qs_iincl2 (L' := fun x1 => [some (.inr (some 56)), some (.inr (some t)), some (.inl a2), some (.inl a3), some (.inl a4), some (.inl x1), none]) o (q_dm dm_X7_prepare 41 rfl) rfl ic_1 (Nat.le_of_ble_eq_true rfl) (fun _ => rfl) (fun x1 => ?_)
        refine qr_goto (tgt := 8) o (q_dm dm_X7_prepare 42 rfl) (by decide) ?_
        exact qr_loc (q_leS (q_leS (q_leS (q_leS (q_leS (q_leS (q_leN q_le0))))))) (hK8 a2 a3 a4 x1 M)
      · refine qr_aload_n o (q_dm dm_X7_prepare 19 rfl) rfl ?_
        refine qr_iload o (q_dm dm_X7_prepare 20 rfl) rfl ?_
        refine qr_iload o (q_dm dm_X7_prepare 21 rfl) rfl ?_
        refine qr_icmp_ne (tgt := 48) o (q_dm dm_X7_prepare 22 rfl) (by decide) ?_ ?_
        · refine qr_aload_n o (q_dm dm_X7_prepare 26 rfl) rfl ?_
          refine qr_getf (kf := 11) o cf_X7 (sh56 j r) rfl (Nat.le_of_ble_eq_true rfl) fl_X7_49 (q_dm dm_X7_prepare 27 rfl) ?_
          exact qr_loc (q_leS (q_leS (q_leS (q_leS (q_leS (q_leS (q_leN q_le0))))))) (w_X7_prepare_52 n j r hj hr ht o K8 hK8 a2 a3 a4 a5 (M 56 11) M)
        · refine qr_aload_n o (q_dm dm_X7_prepare 23 rfl) rfl ?_
          refine qr_getf (kf := 10) o cf_X7 (sh56 j r) rfl (Nat.le_of_ble_eq_true rfl) fl_X7_45 (q_dm dm_X7_prepare 24 rfl) ?_
          refine qr_goto (tgt := 52) o (q_dm dm_X7_prepare 25 rfl) (by decide) ?_
          exact qr_loc (q_leS (q_leS (q_leS (q_leS (q_leS (q_leS (q_leN q_le0))))))) (w_X7_prepare_52 n j r hj hr ht o K8 hK8 a2 a3 a4 a5 (M 56 10) M)

def f_X7_prepare_8 (n : Nat) (t j : Nat) : Nat → Int32 → Int32 → Int32 → Int32 → qM → qR
  | 0, _, _, _, _, _ => none
  | m + 1, a2, a3, a4, a5, M => b_X7_prepare_8 n t j (f_X7_prepare_8 n t j m) a2 a3 a4 a5 M
theorem w_X7_prepare_8 {g : qG} {k : qK} (n : Nat) (j r : Nat) (hj : q_isLaw j) (hr : q_isLaw r) {t : Nat} (ht : q_isTown t) (o : qOk g 5 zX7_prepare k) : ∀ (m : Nat) (a2 a3 a4 a5 : Int32) (M : qM), qAE g k zX7_prepare (qL j r) 8 [some (.inr (some 56)), some (.inr (some t)), some (.inl a2), some (.inl a3), some (.inl a4), some (.inl a5), none] [] (qL j r, M) (f_X7_prepare_8 n t j m a2 a3 a4 a5 M) := by
  intro m
  induction m with
  | zero =>
    intro a2 a3 a4 a5 M
    exact qr_none
  | succ m ih =>
    intro a2 a3 a4 a5 M
    exact wb_X7_prepare_8 n j r hj hr ht o (f_X7_prepare_8 n t j m) ih a2 a3 a4 a5 M
def f_X7_prepare (n : Nat) (t j : Nat) (a2 a3 a4 : Int32) (M : qM) : qR :=
  qlm (mu M 56 10 (0 : Int32)) (fun m1 => f_X7_prepare_8 n t j n a2 a3 a4 (0 : Int32) m1)
set_option maxRecDepth 4000 in
theorem w_X7_prepare {g : qG} {k : qK} (n : Nat) (j r : Nat) (hj : q_isLaw j) (hr : q_isLaw r) {t : Nat} (ht : q_isTown t) (o : qOk g 5 zX7_prepare k) (a2 a3 a4 : Int32) (M : qM) : qAE g k zX7_prepare (qL j r) 0 [some (.inr (some 56)), some (.inr (some t)), some (.inl a2), some (.inl a3), some (.inl a4), none, none] [] (qL j r, M) (f_X7_prepare n t j a2 a3 a4 M) := by
  unfold f_X7_prepare
  refine qr_aload_n o (q_dm dm_X7_prepare 0 rfl) rfl ?_
  refine qr_iconst o (q_dm dm_X7_prepare 1 rfl) ic_0 ?_
  refine qr_putf (kf := 10) o cf_X7 (sh56 j r) rfl (Nat.le_of_ble_eq_true rfl) fl_X7_45 rfl (by decide +kernel) (q_dm dm_X7_prepare 2 rfl) ?_
  refine qr_letm (fun m1 => ?_)
  refine qr_iconst o (q_dm dm_X7_prepare 3 rfl) ic_0 ?_
  refine qs_istore (L' := [some (.inr (some 56)), some (.inr (some t)), some (.inl a2), some (.inl a3), some (.inl a4), some (.inl (0 : Int32)), none]) o (q_dm dm_X7_prepare 4 rfl) (Nat.le_of_ble_eq_true rfl) rfl ?_
  exact qr_loc (q_leS (q_leS (q_leS (q_leS (q_leS (q_leS (q_leN q_le0))))))) (w_X7_prepare_8 n j r hj hr ht o n a2 a3 a4 (0 : Int32) m1)

theorem a_X7_prepare (g : qG) (l : Launch) (n : Nat) (j r : Nat) (hj : q_isLaw j) (hr : q_isLaw r) {t : Nat} (ht : q_isTown t) (a2 a3 a4 : Int32) (M : qM) : qAM g l 5 zX7_prepare (qL j r) [.inr (some 56), .inr (some t), .inl a2, .inl a3, .inl a4] (qL j r, M) (f_X7_prepare n t j a2 a3 a4 M) :=
  qAM.of zv_X7_prepare.1 (by show 5 ≤ 7; decide) (fun k hk o => w_X7_prepare n j r hj hr ht o a2 a3 a4 M)
def tb_X11_cheapest : List (Nat × Instr × Nat) := [(0, (.aload_n 0, 1)), (1, (.iload_n 1, 1)), (2, (.iload_n 2, 1)), (3, (.iload_n 3, 1)), (4, (.invokevirtual 193, 3)), (7, (.ifCond .eq 27, 3)), (10, (.iload 4, 2)), (12, (.ifCond .lt 22, 3)), (15, (.iload 4, 2)), (17, (.sipush 200, 3)), (20, (.if_icmp .gt 14, 3)), (23, (.iload 5, 2)), (25, (.ifCond .lt 9, 3)), (28, (.iload 5, 2)), (30, (.iconst 1, 1)), (31, (.if_icmp .le 5, 3)), (34, (.iconst (-1), 1)), (35, (.ireturn, 1)), (36, (.aload_n 0, 1)), (37, (.getfield 75, 3)), (40, (.aload_n 0, 1)), (41, (.getfield 26, 3)), (44, (.iload_n 1, 1)), (45, (.iload_n 2, 1)), (46, (.iload_n 3, 1)), (47, (.invokevirtual 196, 3)), (50, (.aload_n 0, 1)), (51, (.getfield 75, 3)), (54, (.aload_n 0, 1)), (55, (.getfield 26, 3)), (58, (.iload_n 1, 1)), (59, (.iload 4, 2)), (61, (.invokevirtual 204, 3)), (64, (.aload_n 0, 1)), (65, (.getfield 75, 3)), (68, (.getfield 208, 3)), (71, (.ldc 203, 2)), (73, (.if_icmp .lt 6, 3)), (76, (.bipush (-2), 2)), (78, (.ireturn, 1)), (79, (.iload 5, 2)), (81, (.ifCond .ne 13, 3)), (84, (.aload_n 0, 1)), (85, (.getfield 75, 3)), (88, (.getfield 208, 3)), (91, (.goto 10, 3)), (94, (.aload_n 0, 1)), (95, (.getfield 75, 3)), (98, (.getfield 211, 3)), (101, (.ireturn, 1))]
theorem dm_X11_cheapest : ∀ q ∈ tb_X11_cheapest, decode zX11_cheapest.2.1 q.1 = .ok q.2 := by decide +kernel
def f_X11_cheapest (n : Nat) (j : Nat) (a1 a2 a3 a4 a5 : Int32) (M : qM) : qR :=
  qc (f_X11_canChoose n a1 a2 a3 M) (fun r1 m2 => (if r1 = (0 : Int32) then some ((-1 : Int32), m2) else (if a4 < (0 : Int32) then some ((-1 : Int32), m2) else (if (200 : Int32) < a4 then some ((-1 : Int32), m2) else (if a5 < (0 : Int32) then some ((-1 : Int32), m2) else (if a5 ≤ (1 : Int32) then qc (f_X7_prepare n 7 j a1 a2 a3 m2) (fun _ m3 => qc (f_X7_findCheapest n 7 j a1 a4 m3) (fun _ m4 => (if (m4 56 12) < (1048576 : Int32) then (if a5 = (0 : Int32) then some ((m4 56 12), m4) else some ((m4 56 13), m4)) else some ((-2 : Int32), m4)))) else some ((-1 : Int32), m2)))))))
set_option maxRecDepth 4000 in
theorem w_X11_cheapest {g : qG} {k : qK} (n : Nat) (j r : Nat) (hj : q_isLaw j) (hr : q_isLaw r) (o : qOk g 29 zX11_cheapest k) (a1 a2 a3 a4 a5 : Int32) (M : qM) : qAE g k zX11_cheapest (qL j r) 0 [some (.inr (some 0)), some (.inl a1), some (.inl a2), some (.inl a3), some (.inl a4), some (.inl a5)] [] (qL j r, M) (f_X11_cheapest n j a1 a2 a3 a4 a5 M) := by
  unfold f_X11_cheapest
  refine qr_aload_n o (q_dm dm_X11_cheapest 0 rfl) rfl ?_
  refine qr_iload_n o (q_dm dm_X11_cheapest 1 rfl) rfl ?_
  refine qr_iload_n o (q_dm dm_X11_cheapest 2 rfl) rfl ?_
  refine qr_iload_n o (q_dm dm_X11_cheapest 3 rfl) rfl ?_
  refine qr_callv_i (As := [.inl a1, .inl a2, .inl a3]) (S := []) o (a_X11_canChoose g k.2.1 n j r hj hr a1 a2 a3 M) (Nat.le_of_ble_eq_true rfl) zv_X11_canChoose rfl cf_X11 (sh0 j r) ml_X11_193 (Nat.le_of_ble_eq_true rfl) (q_dm dm_X11_cheapest 4 rfl) (fun r1 m2 => ?_)
  refine qr_if_eq (tgt := 34) o (q_dm dm_X11_cheapest 5 rfl) (by decide) ?_ ?_
  · refine qr_iconst o (q_dm dm_X11_cheapest 16 rfl) ic_m1 ?_
    exact qr_iret o rfl rfl (q_dm dm_X11_cheapest 17 rfl)
  · refine qr_iload o (q_dm dm_X11_cheapest 6 rfl) rfl ?_
    refine qr_if_lt (tgt := 34) o (q_dm dm_X11_cheapest 7 rfl) (by decide) ?_ ?_
    · refine qr_iconst o (q_dm dm_X11_cheapest 16 rfl) ic_m1 ?_
      exact qr_iret o rfl rfl (q_dm dm_X11_cheapest 17 rfl)
    · refine qr_iload o (q_dm dm_X11_cheapest 8 rfl) rfl ?_
      refine qr_sipush o (q_dm dm_X11_cheapest 9 rfl) si_200 ?_
      refine qr_icmp_gt (tgt := 34) o (q_dm dm_X11_cheapest 10 rfl) (by decide) ?_ ?_
      · refine qr_iconst o (q_dm dm_X11_cheapest 16 rfl) ic_m1 ?_
        exact qr_iret o rfl rfl (q_dm dm_X11_cheapest 17 rfl)
      · refine qr_iload o (q_dm dm_X11_cheapest 11 rfl) rfl ?_
        refine qr_if_lt (tgt := 34) o (q_dm dm_X11_cheapest 12 rfl) (by decide) ?_ ?_
        · refine qr_iconst o (q_dm dm_X11_cheapest 16 rfl) ic_m1 ?_
          exact qr_iret o rfl rfl (q_dm dm_X11_cheapest 17 rfl)
        · refine qr_iload o (q_dm dm_X11_cheapest 13 rfl) rfl ?_
          refine qr_iconst o (q_dm dm_X11_cheapest 14 rfl) ic_1 ?_
          refine qr_icmp_le (tgt := 36) o (q_dm dm_X11_cheapest 15 rfl) (by decide) ?_ ?_
          · refine qr_aload_n o (q_dm dm_X11_cheapest 18 rfl) rfl ?_
            refine qr_getr (kf := 9) o cf_X11 (sh0 j r) rfl (Nat.le_of_ble_eq_true rfl) fl_X11_75 (q_dm dm_X11_cheapest 19 rfl) ?_
            refine qr_aload_n o (q_dm dm_X11_cheapest 20 rfl) rfl ?_
            refine qr_getr (kf := 2) o cf_X11 (sh0 j r) rfl (Nat.le_of_ble_eq_true rfl) fl_X11_26 (q_dm dm_X11_cheapest 21 rfl) ?_
            refine qr_iload_n o (q_dm dm_X11_cheapest 22 rfl) rfl ?_
            refine qr_iload_n o (q_dm dm_X11_cheapest 23 rfl) rfl ?_
            refine qr_iload_n o (q_dm dm_X11_cheapest 24 rfl) rfl ?_
            refine qr_callv_v (As := [.inr (some 7), .inl a1, .inl a2, .inl a3]) (S := []) o (a_X7_prepare g k.2.1 n j r hj hr (Or.inl rfl) a1 a2 a3 m2) (Nat.le_of_ble_eq_true rfl) zv_X7_prepare rfl cf_X7 (sh56 j r) ml_X11_196 (Nat.le_of_ble_eq_true rfl) (q_dm dm_X11_cheapest 25 rfl) (fun _ m3 => ?_)
            refine qr_aload_n o (q_dm dm_X11_cheapest 26 rfl) rfl ?_
            refine qr_getr (kf := 9) o cf_X11 (sh0 j r) rfl (Nat.le_of_ble_eq_true rfl) fl_X11_75 (q_dm dm_X11_cheapest 27 rfl) ?_
            refine qr_aload_n o (q_dm dm_X11_cheapest 28 rfl) rfl ?_
            refine qr_getr (kf := 2) o cf_X11 (sh0 j r) rfl (Nat.le_of_ble_eq_true rfl) fl_X11_26 (q_dm dm_X11_cheapest 29 rfl) ?_
            refine qr_iload_n o (q_dm dm_X11_cheapest 30 rfl) rfl ?_
            refine qr_iload o (q_dm dm_X11_cheapest 31 rfl) rfl ?_
            refine qr_callv_v (As := [.inr (some 7), .inl a1, .inl a4]) (S := []) o (a_X7_findCheapest g k.2.1 n j r hj hr (Or.inl rfl) a1 a4 m3) (Nat.le_of_ble_eq_true rfl) zv_X7_findCheapest rfl cf_X7 (sh56 j r) ml_X11_204 (Nat.le_of_ble_eq_true rfl) (q_dm dm_X11_cheapest 32 rfl) (fun _ m4 => ?_)
            refine qr_aload_n o (q_dm dm_X11_cheapest 33 rfl) rfl ?_
            refine qr_getr (kf := 9) o cf_X11 (sh0 j r) rfl (Nat.le_of_ble_eq_true rfl) fl_X11_75 (q_dm dm_X11_cheapest 34 rfl) ?_
            refine qr_getf (kf := 12) o cf_X7 (sh56 j r) rfl (Nat.le_of_ble_eq_true rfl) fl_X11_208 (q_dm dm_X11_cheapest 35 rfl) ?_
            refine qr_ldc o (q_dm dm_X11_cheapest 36 rfl) kc_X11_203 ?_
            refine qr_icmp_lt (tgt := 79) o (q_dm dm_X11_cheapest 37 rfl) (by decide) ?_ ?_
            · refine qr_iload o (q_dm dm_X11_cheapest 40 rfl) rfl ?_
              refine qr_if_ne (tgt := 94) o (q_dm dm_X11_cheapest 41 rfl) (by decide) ?_ ?_
              · refine qr_aload_n o (q_dm dm_X11_cheapest 46 rfl) rfl ?_
                refine qr_getr (kf := 9) o cf_X11 (sh0 j r) rfl (Nat.le_of_ble_eq_true rfl) fl_X11_75 (q_dm dm_X11_cheapest 47 rfl) ?_
                refine qr_getf (kf := 13) o cf_X7 (sh56 j r) rfl (Nat.le_of_ble_eq_true rfl) fl_X11_211 (q_dm dm_X11_cheapest 48 rfl) ?_
                exact qr_iret o rfl rfl (q_dm dm_X11_cheapest 49 rfl)
              · refine qr_aload_n o (q_dm dm_X11_cheapest 42 rfl) rfl ?_
                refine qr_getr (kf := 9) o cf_X11 (sh0 j r) rfl (Nat.le_of_ble_eq_true rfl) fl_X11_75 (q_dm dm_X11_cheapest 43 rfl) ?_
                refine qr_getf (kf := 12) o cf_X7 (sh56 j r) rfl (Nat.le_of_ble_eq_true rfl) fl_X11_208 (q_dm dm_X11_cheapest 44 rfl) ?_
                refine qr_goto (tgt := 101) o (q_dm dm_X11_cheapest 45 rfl) (by decide) ?_
                exact qr_iret o rfl rfl (q_dm dm_X11_cheapest 49 rfl)
            · refine qr_bipush o (q_dm dm_X11_cheapest 38 rfl) bi_m2 ?_
              exact qr_iret o rfl rfl (q_dm dm_X11_cheapest 39 rfl)
          · refine qr_iconst o (q_dm dm_X11_cheapest 16 rfl) ic_m1 ?_
            exact qr_iret o rfl rfl (q_dm dm_X11_cheapest 17 rfl)

theorem a_X11_cheapest (g : qG) (l : Launch) (n : Nat) (j r : Nat) (hj : q_isLaw j) (hr : q_isLaw r) (a1 a2 a3 a4 a5 : Int32) (M : qM) : qAM g l 29 zX11_cheapest (qL j r) [.inr (some 0), .inl a1, .inl a2, .inl a3, .inl a4, .inl a5] (qL j r, M) (f_X11_cheapest n j a1 a2 a3 a4 a5 M) :=
  qAM.of zv_X11_cheapest.1 (by show 6 ≤ 6; decide) (fun k hk o => w_X11_cheapest n j r hj hr o a1 a2 a3 a4 a5 M)
def tb_X9_clear : List (Nat × Instr × Nat) := [(0, (.aload_n 0, 1)), (1, (.iconst 0, 1)), (2, (.putfield 15, 3)), (5, (.return_, 1))]
theorem dm_X9_clear : ∀ q ∈ tb_X9_clear, decode zX9_clear.2.1 q.1 = .ok q.2 := by decide +kernel
def f_X9_clear (n : Nat) (M : qM) : qR :=
  qlm (mu M 1 1 (0 : Int32)) (fun m1 => some (0, m1))
set_option maxRecDepth 4000 in
theorem w_X9_clear {g : qG} {k : qK} (n : Nat) (j r : Nat) (hj : q_isLaw j) (hr : q_isLaw r) (o : qOk g 0 zX9_clear k) (M : qM) : qAE g k zX9_clear (qL j r) 0 [some (.inr (some 1))] [] (qL j r, M) (f_X9_clear n  M) := by
  unfold f_X9_clear
  refine qr_aload_n o (q_dm dm_X9_clear 0 rfl) rfl ?_
  refine qr_iconst o (q_dm dm_X9_clear 1 rfl) ic_0 ?_
  refine qr_putf (kf := 1) o cf_X9 (sh1 j r) rfl (Nat.le_of_ble_eq_true rfl) fl_X9_15 rfl (by decide +kernel) (q_dm dm_X9_clear 2 rfl) ?_
  refine qr_letm (fun m1 => ?_)
  exact qr_vret o rfl (q_dm dm_X9_clear 3 rfl)

theorem a_X9_clear (g : qG) (l : Launch) (n : Nat) (j r : Nat) (hj : q_isLaw j) (hr : q_isLaw r) (M : qM) : qAM g l 0 zX9_clear (qL j r) [.inr (some 1)] (qL j r, M) (f_X9_clear n  M) :=
  qAM.of zv_X9_clear.1 (by show 1 ≤ 1; decide) (fun k hk o => w_X9_clear n j r hj hr o  M)
def tb_X9_at : List (Nat × Instr × Nat) := [(0, (.iload_n 1, 1)), (1, (.ifCond .lt 20, 3)), (4, (.iload_n 1, 1)), (5, (.aload_n 0, 1)), (6, (.getfield 15, 3)), (9, (.if_icmp .ge 12, 3)), (12, (.aload_n 0, 1)), (13, (.getfield 9, 3)), (16, (.iload_n 1, 1)), (17, (.iaload, 1)), (18, (.goto 4, 3)), (21, (.iconst (-1), 1)), (22, (.ireturn, 1))]
theorem dm_X9_at : ∀ q ∈ tb_X9_at, decode zX9_at.2.1 q.1 = .ok q.2 := by decide +kernel
def f_X9_at (n : Nat) (a1 : Int32) (M : qM) : qR :=
  (if a1 < (0 : Int32) then some ((-1 : Int32), M) else (if (M 1 1) ≤ a1 then some ((-1 : Int32), M) else qg a1 260 (some ((M 2 a1.toNatClampNeg), M))))
set_option maxRecDepth 4000 in
theorem w_X9_at {g : qG} {k : qK} (n : Nat) (j r : Nat) (hj : q_isLaw j) (hr : q_isLaw r) (o : qOk g 0 zX9_at k) (a1 : Int32) (M : qM) : qAE g k zX9_at (qL j r) 0 [some (.inr (some 1)), some (.inl a1)] [] (qL j r, M) (f_X9_at n a1 M) := by
  unfold f_X9_at
  refine qr_iload_n o (q_dm dm_X9_at 0 rfl) rfl ?_
  refine qr_if_lt (tgt := 21) o (q_dm dm_X9_at 1 rfl) (by decide) ?_ ?_
  · refine qr_iconst o (q_dm dm_X9_at 11 rfl) ic_m1 ?_
    exact qr_iret o rfl rfl (q_dm dm_X9_at 12 rfl)
  · refine qr_iload_n o (q_dm dm_X9_at 2 rfl) rfl ?_
    refine qr_aload_n o (q_dm dm_X9_at 3 rfl) rfl ?_
    refine qr_getf (kf := 1) o cf_X9 (sh1 j r) rfl (Nat.le_of_ble_eq_true rfl) fl_X9_15 (q_dm dm_X9_at 4 rfl) ?_
    refine qr_icmp_ge (tgt := 21) o (q_dm dm_X9_at 5 rfl) (by decide) ?_ ?_
    · refine qr_iconst o (q_dm dm_X9_at 11 rfl) ic_m1 ?_
      exact qr_iret o rfl rfl (q_dm dm_X9_at 12 rfl)
    · refine qr_aload_n o (q_dm dm_X9_at 6 rfl) rfl ?_
      refine qr_getr (kf := 0) o cf_X9 (sh1 j r) rfl (Nat.le_of_ble_eq_true rfl) fl_X9_9 (q_dm dm_X9_at 7 rfl) ?_
      refine qr_iload_n o (q_dm dm_X9_at 8 rfl) rfl ?_
      refine qr_iald o (sh2 j r) (q_dm dm_X9_at 9 rfl) ?_
      refine qr_goto (tgt := 22) o (q_dm dm_X9_at 10 rfl) (by decide) ?_
      exact qr_iret o rfl rfl (q_dm dm_X9_at 12 rfl)

theorem a_X9_at (g : qG) (l : Launch) (n : Nat) (j r : Nat) (hj : q_isLaw j) (hr : q_isLaw r) (a1 : Int32) (M : qM) : qAM g l 0 zX9_at (qL j r) [.inr (some 1), .inl a1] (qL j r, M) (f_X9_at n a1 M) :=
  qAM.of zv_X9_at.1 (by show 2 ≤ 2; decide) (fun k hk o => w_X9_at n j r hj hr o a1 M)
def tb_X9_word : List (Nat × Instr × Nat) := [(0, (.aload_n 0, 1)), (1, (.iload_n 1, 1)), (2, (.invokevirtual 19, 3)), (5, (.bipush 24, 2)), (7, (.ishl, 1)), (8, (.aload_n 0, 1)), (9, (.iload_n 1, 1)), (10, (.iconst 1, 1)), (11, (.iadd, 1)), (12, (.invokevirtual 19, 3)), (15, (.bipush 16, 2)), (17, (.ishl, 1)), (18, (.ior, 1)), (19, (.aload_n 0, 1)), (20, (.iload_n 1, 1)), (21, (.iconst 2, 1)), (22, (.iadd, 1)), (23, (.invokevirtual 19, 3)), (26, (.bipush 8, 2)), (28, (.ishl, 1)), (29, (.ior, 1)), (30, (.aload_n 0, 1)), (31, (.iload_n 1, 1)), (32, (.iconst 3, 1)), (33, (.iadd, 1)), (34, (.invokevirtual 19, 3)), (37, (.ior, 1)), (38, (.ireturn, 1))]
theorem dm_X9_word : ∀ q ∈ tb_X9_word, decode zX9_word.2.1 q.1 = .ok q.2 := by decide +kernel
def f_X9_word (n : Nat) (a1 : Int32) (M : qM) : qR :=
  qc (f_X9_at n a1 M) (fun r1 m2 => qc (f_X9_at n (a1 + (1 : Int32)) m2) (fun r3 m4 => qc (f_X9_at n (a1 + (2 : Int32)) m4) (fun r5 m6 => qc (f_X9_at n (a1 + (3 : Int32)) m6) (fun r7 m8 => some (((((r1 <<< ((24 : Int32) &&& 31)) ||| (r3 <<< ((16 : Int32) &&& 31))) ||| (r5 <<< ((8 : Int32) &&& 31))) ||| r7), m8)))))
set_option maxRecDepth 4000 in
theorem w_X9_word {g : qG} {k : qK} (n : Nat) (j r : Nat) (hj : q_isLaw j) (hr : q_isLaw r) (o : qOk g 1 zX9_word k) (a1 : Int32) (M : qM) : qAE g k zX9_word (qL j r) 0 [some (.inr (some 1)), some (.inl a1)] [] (qL j r, M) (f_X9_word n a1 M) := by
  unfold f_X9_word
  refine qr_aload_n o (q_dm dm_X9_word 0 rfl) rfl ?_
  refine qr_iload_n o (q_dm dm_X9_word 1 rfl) rfl ?_
  refine qr_callv_i (As := [.inl a1]) (S := []) o (a_X9_at g k.2.1 n j r hj hr a1 M) (Nat.le_of_ble_eq_true rfl) zv_X9_at rfl cf_X9 (sh1 j r) ml_X9_19 (Nat.le_of_ble_eq_true rfl) (q_dm dm_X9_word 2 rfl) (fun r1 m2 => ?_)
  refine qr_bipush o (q_dm dm_X9_word 3 rfl) bi_24 ?_
  refine qr_ishl o (q_dm dm_X9_word 4 rfl) ?_
  refine qr_aload_n o (q_dm dm_X9_word 5 rfl) rfl ?_
  refine qr_iload_n o (q_dm dm_X9_word 6 rfl) rfl ?_
  refine qr_iconst o (q_dm dm_X9_word 7 rfl) ic_1 ?_
  refine qr_iadd o (q_dm dm_X9_word 8 rfl) ?_
  refine qr_callv_i (As := [.inl (a1 + (1 : Int32))]) (S := [.inl (r1 <<< ((24 : Int32) &&& 31))]) o (a_X9_at g k.2.1 n j r hj hr (a1 + (1 : Int32)) m2) (Nat.le_of_ble_eq_true rfl) zv_X9_at rfl cf_X9 (sh1 j r) ml_X9_19 (Nat.le_of_ble_eq_true rfl) (q_dm dm_X9_word 9 rfl) (fun r3 m4 => ?_)
  refine qr_bipush o (q_dm dm_X9_word 10 rfl) bi_16 ?_
  refine qr_ishl o (q_dm dm_X9_word 11 rfl) ?_
  refine qr_ior o (q_dm dm_X9_word 12 rfl) ?_
  refine qr_aload_n o (q_dm dm_X9_word 13 rfl) rfl ?_
  refine qr_iload_n o (q_dm dm_X9_word 14 rfl) rfl ?_
  refine qr_iconst o (q_dm dm_X9_word 15 rfl) ic_2 ?_
  refine qr_iadd o (q_dm dm_X9_word 16 rfl) ?_
  refine qr_callv_i (As := [.inl (a1 + (2 : Int32))]) (S := [.inl ((r1 <<< ((24 : Int32) &&& 31)) ||| (r3 <<< ((16 : Int32) &&& 31)))]) o (a_X9_at g k.2.1 n j r hj hr (a1 + (2 : Int32)) m4) (Nat.le_of_ble_eq_true rfl) zv_X9_at rfl cf_X9 (sh1 j r) ml_X9_19 (Nat.le_of_ble_eq_true rfl) (q_dm dm_X9_word 17 rfl) (fun r5 m6 => ?_)
  refine qr_bipush o (q_dm dm_X9_word 18 rfl) bi_8 ?_
  refine qr_ishl o (q_dm dm_X9_word 19 rfl) ?_
  refine qr_ior o (q_dm dm_X9_word 20 rfl) ?_
  refine qr_aload_n o (q_dm dm_X9_word 21 rfl) rfl ?_
  refine qr_iload_n o (q_dm dm_X9_word 22 rfl) rfl ?_
  refine qr_iconst o (q_dm dm_X9_word 23 rfl) ic_3 ?_
  refine qr_iadd o (q_dm dm_X9_word 24 rfl) ?_
  refine qr_callv_i (As := [.inl (a1 + (3 : Int32))]) (S := [.inl (((r1 <<< ((24 : Int32) &&& 31)) ||| (r3 <<< ((16 : Int32) &&& 31))) ||| (r5 <<< ((8 : Int32) &&& 31)))]) o (a_X9_at g k.2.1 n j r hj hr (a1 + (3 : Int32)) m6) (Nat.le_of_ble_eq_true rfl) zv_X9_at rfl cf_X9 (sh1 j r) ml_X9_19 (Nat.le_of_ble_eq_true rfl) (q_dm dm_X9_word 25 rfl) (fun r7 m8 => ?_)
  refine qr_ior o (q_dm dm_X9_word 26 rfl) ?_
  exact qr_iret o rfl rfl (q_dm dm_X9_word 27 rfl)

theorem a_X9_word (g : qG) (l : Launch) (n : Nat) (j r : Nat) (hj : q_isLaw j) (hr : q_isLaw r) (a1 : Int32) (M : qM) : qAM g l 1 zX9_word (qL j r) [.inr (some 1), .inl a1] (qL j r, M) (f_X9_word n a1 M) :=
  qAM.of zv_X9_word.1 (by show 2 ≤ 2; decide) (fun k hk o => w_X9_word n j r hj hr o a1 M)
def tb_X11_check : List (Nat × Instr × Nat) := [(0, (.aload_n 0, 1)), (1, (.getfield 26, 3)), (4, (.iload_n 1, 1)), (5, (.invokevirtual 131, 3)), (8, (.ifCond .eq 26, 3)), (11, (.iload_n 2, 1)), (12, (.ifCond .lt 22, 3)), (15, (.iload_n 2, 1)), (16, (.bipush 12, 2)), (18, (.if_icmp .gt 16, 3)), (21, (.iconst 4, 1)), (22, (.iload_n 2, 1)), (23, (.imul, 1)), (24, (.aload_n 0, 1)), (25, (.getfield 10, 3)), (28, (.getfield 112, 3)), (31, (.if_icmp .le 6, 3)), (34, (.bipush (-2), 2)), (36, (.ireturn, 1)), (37, (.iconst (-1), 1)), (38, (.istore_n 3, 1)), (39, (.iload_n 2, 1)), (40, (.iconst 1, 1)), (41, (.isub, 1)), (42, (.istore 4, 2)), (44, (.iload 4, 2)), (46, (.ifCond .lt 41, 3)), (49, (.aload_n 0, 1)), (50, (.getfield 10, 3)), (53, (.iconst 4, 1)), (54, (.iload 4, 2)), (56, (.imul, 1)), (57, (.invokevirtual 266, 3)), (60, (.aload_n 0, 1)), (61, (.getfield 26, 3)), (64, (.getfield 169, 3)), (67, (.iload_n 1, 1)), (68, (.bipush 12, 2)), (70, (.imul, 1)), (71, (.iload 4, 2)), (73, (.iadd, 1)), (74, (.iaload, 1)), (75, (.if_icmp .eq 6, 3)), (78, (.iload 4, 2)), (80, (.istore_n 3, 1)), (81, (.iinc 4 (-1), 3)), (84, (.goto (-40), 3)), (87, (.aload_n 0, 1)), (88, (.getfield 10, 3)), (91, (.invokevirtual 123, 3)), (94, (.iload_n 3, 1)), (95, (.ireturn, 1))]
theorem dm_X11_check : ∀ q ∈ tb_X11_check, decode zX11_check.2.1 q.1 = .ok q.2 := by decide +kernel
def b_X11_check_44 (n : Nat) (K44 : Int32 → Int32 → Int32 → qM → qR) (a1 a3 a4 : Int32) (M : qM) : qR :=
  (if a4 < (0 : Int32) then qc (f_X9_clear n  M) (fun _ m1 => some (a3, m1)) else qc (f_X9_word n ((4 : Int32) * a4) M) (fun r2 m3 => qg ((a1 * (12 : Int32)) + a4) 96 ((if r2 = (m3 9 ((a1 * (12 : Int32)) + a4).toNatClampNeg) then ql (a4 + (-1 : Int32)) (fun x4 => K44 a1 a3 x4 m3) else ql (a4 + (-1 : Int32)) (fun x5 => K44 a1 a4 x5 m3)))))
set_option maxRecDepth 4000 in
theorem wb_X11_check_44 {g : qG} {k : qK} (n : Nat) (j r : Nat) (hj : q_isLaw j) (hr : q_isLaw r) (o : qOk g 2 zX11_check k) (K44 : Int32 → Int32 → Int32 → qM → qR) (hK44 : ∀ (a1 a3 a4 : Int32) (M : qM), qAE g k zX11_check (qL j r) 44 [some (.inr (some 0)), some (.inl a1), none, some (.inl a3), some (.inl a4)] [] (qL j r, M) (K44 a1 a3 a4 M)) (a1 a3 a4 : Int32) (M : qM) : qAE g k zX11_check (qL j r) 44 [some (.inr (some 0)), some (.inl a1), none, some (.inl a3), some (.inl a4)] [] (qL j r, M) (b_X11_check_44 n K44 a1 a3 a4 M) := by
  unfold b_X11_check_44
  refine qr_iload o (q_dm dm_X11_check 25 rfl) rfl ?_
  refine qr_if_lt (tgt := 87) o (q_dm dm_X11_check 26 rfl) (by decide) ?_ ?_
  · refine qr_aload_n o (q_dm dm_X11_check 47 rfl) rfl ?_
    refine qr_getr (kf := 0) o cf_X11 (sh0 j r) rfl (Nat.le_of_ble_eq_true rfl) fl_X11_10 (q_dm dm_X11_check 48 rfl) ?_
    refine qr_callv_v (As := []) (S := []) o (a_X9_clear g k.2.1 n j r hj hr  M) (Nat.le_of_ble_eq_true rfl) zv_X9_clear rfl cf_X9 (sh1 j r) ml_X11_123 (Nat.le_of_ble_eq_true rfl) (q_dm dm_X11_check 49 rfl) (fun _ m1 => ?_)
    refine qr_iload_n o (q_dm dm_X11_check 50 rfl) rfl ?_
    exact qr_iret o rfl rfl (q_dm dm_X11_check 51 rfl)
  · refine qr_aload_n o (q_dm dm_X11_check 27 rfl) rfl ?_
    refine qr_getr (kf := 0) o cf_X11 (sh0 j r) rfl (Nat.le_of_ble_eq_true rfl) fl_X11_10 (q_dm dm_X11_check 28 rfl) ?_
    refine qr_iconst o (q_dm dm_X11_check 29 rfl) ic_4 ?_
    refine qr_iload o (q_dm dm_X11_check 30 rfl) rfl ?_
    refine qr_imul o (q_dm dm_X11_check 31 rfl) ?_
    refine qr_callv_i (As := [.inl ((4 : Int32) * a4)]) (S := []) o (a_X9_word g k.2.1 n j r hj hr ((4 : Int32) * a4) M) (Nat.le_of_ble_eq_true rfl) zv_X9_word rfl cf_X9 (sh1 j r) ml_X11_266 (Nat.le_of_ble_eq_true rfl) (q_dm dm_X11_check 32 rfl) (fun r2 m3 => ?_)
    refine qr_aload_n o (q_dm dm_X11_check 33 rfl) rfl ?_
    refine qr_getr (kf := 2) o cf_X11 (sh0 j r) rfl (Nat.le_of_ble_eq_true rfl) fl_X11_26 (q_dm dm_X11_check 34 rfl) ?_
    refine qr_getr (kf := 1) o cf_X10 (sh7 j r) rfl (Nat.le_of_ble_eq_true rfl) fl_X11_169 (q_dm dm_X11_check 35 rfl) ?_
    refine qr_iload_n o (q_dm dm_X11_check 36 rfl) rfl ?_
    refine qr_bipush o (q_dm dm_X11_check 37 rfl) bi_12 ?_
    refine qr_imul o (q_dm dm_X11_check 38 rfl) ?_
    refine qr_iload o (q_dm dm_X11_check 39 rfl) rfl ?_
    refine qr_iadd o (q_dm dm_X11_check 40 rfl) ?_
    refine qr_iald o (sh9 j r) (q_dm dm_X11_check 41 rfl) ?_
    refine qr_icmp_eq (tgt := 81) o (q_dm dm_X11_check 42 rfl) (by decide) ?_ ?_
    · refine qs_iincl2 (L' := fun x4 => [some (.inr (some 0)), some (.inl a1), none, some (.inl a3), some (.inl x4)]) o (q_dm dm_X11_check 45 rfl) rfl ic_m1 (Nat.le_of_ble_eq_true rfl) (fun _ => rfl) (fun x4 => ?_)
      refine qr_goto (tgt := 44) o (q_dm dm_X11_check 46 rfl) (by decide) ?_
      exact qr_loc (q_leS (q_leS (q_leN (q_leS (q_leS q_le0))))) (hK44 a1 a3 x4 m3)
    · refine qr_iload o (q_dm dm_X11_check 43 rfl) rfl ?_
      refine qs_istore_n (L' := [some (.inr (some 0)), some (.inl a1), none, some (.inl a4), some (.inl a4)]) o (q_dm dm_X11_check 44 rfl) (Nat.le_of_ble_eq_true rfl) rfl ?_
      refine qs_iincl2 (L' := fun x5 => [some (.inr (some 0)), some (.inl a1), none, some (.inl a4), some (.inl x5)]) o (q_dm dm_X11_check 45 rfl) rfl ic_m1 (Nat.le_of_ble_eq_true rfl) (fun _ => rfl) (fun x5 => ?_)
      refine qr_goto (tgt := 44) o (q_dm dm_X11_check 46 rfl) (by decide) ?_
      exact qr_loc (q_leS (q_leS (q_leN (q_leS (q_leS q_le0))))) (hK44 a1 a4 x5 m3)

def f_X11_check_44 (n : Nat) : Nat → Int32 → Int32 → Int32 → qM → qR
  | 0, _, _, _, _ => none
  | m + 1, a1, a3, a4, M => b_X11_check_44 n (f_X11_check_44 n m) a1 a3 a4 M
theorem w_X11_check_44 {g : qG} {k : qK} (n : Nat) (j r : Nat) (hj : q_isLaw j) (hr : q_isLaw r) (o : qOk g 2 zX11_check k) : ∀ (m : Nat) (a1 a3 a4 : Int32) (M : qM), qAE g k zX11_check (qL j r) 44 [some (.inr (some 0)), some (.inl a1), none, some (.inl a3), some (.inl a4)] [] (qL j r, M) (f_X11_check_44 n m a1 a3 a4 M) := by
  intro m
  induction m with
  | zero =>
    intro a1 a3 a4 M
    exact qr_none
  | succ m ih =>
    intro a1 a3 a4 M
    exact wb_X11_check_44 n j r hj hr o (f_X11_check_44 n m) ih a1 a3 a4 M
def f_X11_check (n : Nat) (a1 a2 : Int32) (M : qM) : qR :=
  qc (f_X10_knows n 7 a1 M) (fun r1 m2 => (if r1 = (0 : Int32) then some ((-2 : Int32), m2) else (if a2 < (0 : Int32) then some ((-2 : Int32), m2) else (if (12 : Int32) < a2 then some ((-2 : Int32), m2) else (if ((4 : Int32) * a2) ≤ (m2 1 1) then ql (a2 - (1 : Int32)) (fun x3 => f_X11_check_44 n n a1 (-1 : Int32) x3 m2) else some ((-2 : Int32), m2))))))
set_option maxRecDepth 4000 in
theorem w_X11_check {g : qG} {k : qK} (n : Nat) (j r : Nat) (hj : q_isLaw j) (hr : q_isLaw r) (o : qOk g 2 zX11_check k) (a1 a2 : Int32) (M : qM) : qAE g k zX11_check (qL j r) 0 [some (.inr (some 0)), some (.inl a1), some (.inl a2), none, none] [] (qL j r, M) (f_X11_check n a1 a2 M) := by
  unfold f_X11_check
  refine qr_aload_n o (q_dm dm_X11_check 0 rfl) rfl ?_
  refine qr_getr (kf := 2) o cf_X11 (sh0 j r) rfl (Nat.le_of_ble_eq_true rfl) fl_X11_26 (q_dm dm_X11_check 1 rfl) ?_
  refine qr_iload_n o (q_dm dm_X11_check 2 rfl) rfl ?_
  refine qr_callv_i (As := [.inl a1]) (S := []) o (a_X10_knows g k.2.1 n j r hj hr (Or.inl rfl) a1 M) (Nat.le_of_ble_eq_true rfl) zv_X10_knows rfl cf_X10 (sh7 j r) ml_X11_131 (Nat.le_of_ble_eq_true rfl) (q_dm dm_X11_check 3 rfl) (fun r1 m2 => ?_)
  refine qr_if_eq (tgt := 34) o (q_dm dm_X11_check 4 rfl) (by decide) ?_ ?_
  · refine qr_bipush o (q_dm dm_X11_check 17 rfl) bi_m2 ?_
    exact qr_iret o rfl rfl (q_dm dm_X11_check 18 rfl)
  · refine qr_iload_n o (q_dm dm_X11_check 5 rfl) rfl ?_
    refine qr_if_lt (tgt := 34) o (q_dm dm_X11_check 6 rfl) (by decide) ?_ ?_
    · refine qr_bipush o (q_dm dm_X11_check 17 rfl) bi_m2 ?_
      exact qr_iret o rfl rfl (q_dm dm_X11_check 18 rfl)
    · refine qr_iload_n o (q_dm dm_X11_check 7 rfl) rfl ?_
      refine qr_bipush o (q_dm dm_X11_check 8 rfl) bi_12 ?_
      refine qr_icmp_gt (tgt := 34) o (q_dm dm_X11_check 9 rfl) (by decide) ?_ ?_
      · refine qr_bipush o (q_dm dm_X11_check 17 rfl) bi_m2 ?_
        exact qr_iret o rfl rfl (q_dm dm_X11_check 18 rfl)
      · refine qr_iconst o (q_dm dm_X11_check 10 rfl) ic_4 ?_
        refine qr_iload_n o (q_dm dm_X11_check 11 rfl) rfl ?_
        refine qr_imul o (q_dm dm_X11_check 12 rfl) ?_
        refine qr_aload_n o (q_dm dm_X11_check 13 rfl) rfl ?_
        refine qr_getr (kf := 0) o cf_X11 (sh0 j r) rfl (Nat.le_of_ble_eq_true rfl) fl_X11_10 (q_dm dm_X11_check 14 rfl) ?_
        refine qr_getf (kf := 1) o cf_X9 (sh1 j r) rfl (Nat.le_of_ble_eq_true rfl) fl_X11_112 (q_dm dm_X11_check 15 rfl) ?_
        refine qr_icmp_le (tgt := 37) o (q_dm dm_X11_check 16 rfl) (by decide) ?_ ?_
        · refine qr_iconst o (q_dm dm_X11_check 19 rfl) ic_m1 ?_
          refine qs_istore_n (L' := [some (.inr (some 0)), some (.inl a1), some (.inl a2), some (.inl (-1 : Int32)), none]) o (q_dm dm_X11_check 20 rfl) (Nat.le_of_ble_eq_true rfl) rfl ?_
          refine qr_iload_n o (q_dm dm_X11_check 21 rfl) rfl ?_
          refine qr_iconst o (q_dm dm_X11_check 22 rfl) ic_1 ?_
          refine qr_isub o (q_dm dm_X11_check 23 rfl) ?_
          refine qr_lt (fun x3 => ?_)
          refine qs_istore (L' := [some (.inr (some 0)), some (.inl a1), some (.inl a2), some (.inl (-1 : Int32)), some (.inl x3)]) o (q_dm dm_X11_check 24 rfl) (Nat.le_of_ble_eq_true rfl) rfl ?_
          exact qr_loc (q_leS (q_leS (q_leN (q_leS (q_leS q_le0))))) (w_X11_check_44 n j r hj hr o n a1 (-1 : Int32) x3 m2)
        · refine qr_bipush o (q_dm dm_X11_check 17 rfl) bi_m2 ?_
          exact qr_iret o rfl rfl (q_dm dm_X11_check 18 rfl)

theorem a_X11_check (g : qG) (l : Launch) (n : Nat) (j r : Nat) (hj : q_isLaw j) (hr : q_isLaw r) (a1 a2 : Int32) (M : qM) : qAM g l 2 zX11_check (qL j r) [.inr (some 0), .inl a1, .inl a2] (qL j r, M) (f_X11_check n a1 a2 M) :=
  qAM.of zv_X11_check.1 (by show 3 ≤ 5; decide) (fun k hk o => w_X11_check n j r hj hr o a1 a2 M)
def tb_X11_cost : List (Nat × Instr × Nat) := [(0, (.aload_n 0, 1)), (1, (.iload_n 1, 1)), (2, (.iload_n 2, 1)), (3, (.iload_n 3, 1)), (4, (.invokevirtual 145, 3)), (7, (.ifCond .ne 5, 3)), (10, (.iconst (-1), 1)), (11, (.ireturn, 1)), (12, (.aload_n 0, 1)), (13, (.getfield 50, 3)), (16, (.aload_n 0, 1)), (17, (.getfield 26, 3)), (20, (.iload_n 1, 1)), (21, (.iload_n 2, 1)), (22, (.iload_n 3, 1)), (23, (.invokevirtual 190, 3)), (26, (.ireturn, 1))]
theorem dm_X11_cost : ∀ q ∈ tb_X11_cost, decode zX11_cost.2.1 q.1 = .ok q.2 := by decide +kernel
def f_X11_cost (n : Nat) (j : Nat) (a1 a2 a3 : Int32) (M : qM) : qR :=
  qc (f_X11_canDeal n a1 a2 a3 M) (fun r1 m2 => (if r1 = (0 : Int32) then some ((-1 : Int32), m2) else qc (f_X0_price n 7 j a1 a2 a3 m2) (fun r3 m4 => some (r3, m4))))
set_option maxRecDepth 4000 in
theorem w_X11_cost {g : qG} {k : qK} (n : Nat) (j r : Nat) (hj : q_isLaw j) (hr : q_isLaw r) (o : qOk g 4 zX11_cost k) (a1 a2 a3 : Int32) (M : qM) : qAE g k zX11_cost (qL j r) 0 [some (.inr (some 0)), some (.inl a1), some (.inl a2), some (.inl a3)] [] (qL j r, M) (f_X11_cost n j a1 a2 a3 M) := by
  unfold f_X11_cost
  refine qr_aload_n o (q_dm dm_X11_cost 0 rfl) rfl ?_
  refine qr_iload_n o (q_dm dm_X11_cost 1 rfl) rfl ?_
  refine qr_iload_n o (q_dm dm_X11_cost 2 rfl) rfl ?_
  refine qr_iload_n o (q_dm dm_X11_cost 3 rfl) rfl ?_
  refine qr_callv_i (As := [.inl a1, .inl a2, .inl a3]) (S := []) o (a_X11_canDeal g k.2.1 n j r hj hr a1 a2 a3 M) (Nat.le_of_ble_eq_true rfl) zv_X11_canDeal rfl cf_X11 (sh0 j r) ml_X11_145 (Nat.le_of_ble_eq_true rfl) (q_dm dm_X11_cost 4 rfl) (fun r1 m2 => ?_)
  refine qr_if_ne (tgt := 12) o (q_dm dm_X11_cost 5 rfl) (by decide) ?_ ?_
  · refine qr_aload_n o (q_dm dm_X11_cost 8 rfl) rfl ?_
    refine qr_getr (kf := 6) o cf_X11 (sh0 j r) rfl (Nat.le_of_ble_eq_true rfl) fl_X11_50 (q_dm dm_X11_cost 9 rfl) ?_
    refine qr_aload_n o (q_dm dm_X11_cost 10 rfl) rfl ?_
    refine qr_getr (kf := 2) o cf_X11 (sh0 j r) rfl (Nat.le_of_ble_eq_true rfl) fl_X11_26 (q_dm dm_X11_cost 11 rfl) ?_
    refine qr_iload_n o (q_dm dm_X11_cost 12 rfl) rfl ?_
    refine qr_iload_n o (q_dm dm_X11_cost 13 rfl) rfl ?_
    refine qr_iload_n o (q_dm dm_X11_cost 14 rfl) rfl ?_
    refine qr_callv_i (As := [.inr (some 7), .inl a1, .inl a2, .inl a3]) (S := []) o (a_X0_price g k.2.1 n j r hj hr (Or.inl rfl) a1 a2 a3 m2) (Nat.le_of_ble_eq_true rfl) zv_X0_price rfl cf_X0 (sh44 j r) ml_X11_190 (Nat.le_of_ble_eq_true rfl) (q_dm dm_X11_cost 15 rfl) (fun r3 m4 => ?_)
    exact qr_iret o rfl rfl (q_dm dm_X11_cost 16 rfl)
  · refine qr_iconst o (q_dm dm_X11_cost 6 rfl) ic_m1 ?_
    exact qr_iret o rfl rfl (q_dm dm_X11_cost 7 rfl)

theorem a_X11_cost (g : qG) (l : Launch) (n : Nat) (j r : Nat) (hj : q_isLaw j) (hr : q_isLaw r) (a1 a2 a3 : Int32) (M : qM) : qAM g l 4 zX11_cost (qL j r) [.inr (some 0), .inl a1, .inl a2, .inl a3] (qL j r, M) (f_X11_cost n j a1 a2 a3 M) :=
  qAM.of zv_X11_cost.1 (by show 4 ≤ 4; decide) (fun k hk o => w_X11_cost n j r hj hr o a1 a2 a3 M)
def tb_X11_countOfKind : List (Nat × Instr × Nat) := [(0, (.aload_n 0, 1)), (1, (.getfield 19, 3)), (4, (.iload_n 1, 1)), (5, (.bipush 10, 2)), (7, (.isub, 1)), (8, (.invokevirtual 140, 3)), (11, (.ifCond .eq 16, 3)), (14, (.aload_n 0, 1)), (15, (.getfield 19, 3)), (18, (.getfield 283, 3)), (21, (.iload_n 1, 1)), (22, (.bipush 10, 2)), (24, (.isub, 1)), (25, (.iaload, 1)), (26, (.ireturn, 1)), (27, (.aload_n 0, 1)), (28, (.getfield 19, 3)), (31, (.iload_n 1, 1)), (32, (.bipush 30, 2)), (34, (.isub, 1)), (35, (.invokevirtual 140, 3)), (38, (.ifCond .eq 16, 3)), (41, (.aload_n 0, 1)), (42, (.getfield 19, 3)), (45, (.getfield 286, 3)), (48, (.iload_n 1, 1)), (49, (.bipush 30, 2)), (51, (.isub, 1)), (52, (.iaload, 1)), (53, (.ireturn, 1)), (54, (.aload_n 0, 1)), (55, (.getfield 19, 3)), (58, (.iload_n 1, 1)), (59, (.bipush 50, 2)), (61, (.isub, 1)), (62, (.invokevirtual 140, 3)), (65, (.ifCond .eq 18, 3)), (68, (.aload_n 0, 1)), (69, (.getfield 19, 3)), (72, (.getfield 289, 3)), (75, (.iload_n 1, 1)), (76, (.bipush 50, 2)), (78, (.isub, 1)), (79, (.iaload, 1)), (80, (.goto 4, 3)), (83, (.iconst (-1), 1)), (84, (.ireturn, 1))]
theorem dm_X11_countOfKind : ∀ q ∈ tb_X11_countOfKind, decode zX11_countOfKind.2.1 q.1 = .ok q.2 := by decide +kernel
def f_X11_countOfKind (n : Nat) (a1 : Int32) (M : qM) : qR :=
  qc (f_X2_knows n (a1 - (10 : Int32)) M) (fun r1 m2 => (if r1 = (0 : Int32) then qc (f_X2_knows n (a1 - (30 : Int32)) m2) (fun r3 m4 => (if r3 = (0 : Int32) then qc (f_X2_knows n (a1 - (50 : Int32)) m4) (fun r5 m6 => (if r5 = (0 : Int32) then some ((-1 : Int32), m6) else qg (a1 - (50 : Int32)) 12 (some ((m6 6 (a1 - (50 : Int32)).toNatClampNeg), m6)))) else qg (a1 - (30 : Int32)) 12 (some ((m4 5 (a1 - (30 : Int32)).toNatClampNeg), m4)))) else qg (a1 - (10 : Int32)) 12 (some ((m2 4 (a1 - (10 : Int32)).toNatClampNeg), m2))))
set_option maxRecDepth 4000 in
theorem w_X11_countOfKind {g : qG} {k : qK} (n : Nat) (j r : Nat) (hj : q_isLaw j) (hr : q_isLaw r) (o : qOk g 1 zX11_countOfKind k) (a1 : Int32) (M : qM) : qAE g k zX11_countOfKind (qL j r) 0 [some (.inr (some 0)), some (.inl a1)] [] (qL j r, M) (f_X11_countOfKind n a1 M) := by
  unfold f_X11_countOfKind
  refine qr_aload_n o (q_dm dm_X11_countOfKind 0 rfl) rfl ?_
  refine qr_getr (kf := 1) o cf_X11 (sh0 j r) rfl (Nat.le_of_ble_eq_true rfl) fl_X11_19 (q_dm dm_X11_countOfKind 1 rfl) ?_
  refine qr_iload_n o (q_dm dm_X11_countOfKind 2 rfl) rfl ?_
  refine qr_bipush o (q_dm dm_X11_countOfKind 3 rfl) bi_10 ?_
  refine qr_isub o (q_dm dm_X11_countOfKind 4 rfl) ?_
  refine qr_callv_i (As := [.inl (a1 - (10 : Int32))]) (S := []) o (a_X2_knows g k.2.1 n j r hj hr (a1 - (10 : Int32)) M) (Nat.le_of_ble_eq_true rfl) zv_X2_knows rfl cf_X2 (sh3 j r) ml_X11_140 (Nat.le_of_ble_eq_true rfl) (q_dm dm_X11_countOfKind 5 rfl) (fun r1 m2 => ?_)
  refine qr_if_eq (tgt := 27) o (q_dm dm_X11_countOfKind 6 rfl) (by decide) ?_ ?_
  · refine qr_aload_n o (q_dm dm_X11_countOfKind 15 rfl) rfl ?_
    refine qr_getr (kf := 1) o cf_X11 (sh0 j r) rfl (Nat.le_of_ble_eq_true rfl) fl_X11_19 (q_dm dm_X11_countOfKind 16 rfl) ?_
    refine qr_iload_n o (q_dm dm_X11_countOfKind 17 rfl) rfl ?_
    refine qr_bipush o (q_dm dm_X11_countOfKind 18 rfl) bi_30 ?_
    refine qr_isub o (q_dm dm_X11_countOfKind 19 rfl) ?_
    refine qr_callv_i (As := [.inl (a1 - (30 : Int32))]) (S := []) o (a_X2_knows g k.2.1 n j r hj hr (a1 - (30 : Int32)) m2) (Nat.le_of_ble_eq_true rfl) zv_X2_knows rfl cf_X2 (sh3 j r) ml_X11_140 (Nat.le_of_ble_eq_true rfl) (q_dm dm_X11_countOfKind 20 rfl) (fun r3 m4 => ?_)
    refine qr_if_eq (tgt := 54) o (q_dm dm_X11_countOfKind 21 rfl) (by decide) ?_ ?_
    · refine qr_aload_n o (q_dm dm_X11_countOfKind 30 rfl) rfl ?_
      refine qr_getr (kf := 1) o cf_X11 (sh0 j r) rfl (Nat.le_of_ble_eq_true rfl) fl_X11_19 (q_dm dm_X11_countOfKind 31 rfl) ?_
      refine qr_iload_n o (q_dm dm_X11_countOfKind 32 rfl) rfl ?_
      refine qr_bipush o (q_dm dm_X11_countOfKind 33 rfl) bi_50 ?_
      refine qr_isub o (q_dm dm_X11_countOfKind 34 rfl) ?_
      refine qr_callv_i (As := [.inl (a1 - (50 : Int32))]) (S := []) o (a_X2_knows g k.2.1 n j r hj hr (a1 - (50 : Int32)) m4) (Nat.le_of_ble_eq_true rfl) zv_X2_knows rfl cf_X2 (sh3 j r) ml_X11_140 (Nat.le_of_ble_eq_true rfl) (q_dm dm_X11_countOfKind 35 rfl) (fun r5 m6 => ?_)
      refine qr_if_eq (tgt := 83) o (q_dm dm_X11_countOfKind 36 rfl) (by decide) ?_ ?_
      · refine qr_iconst o (q_dm dm_X11_countOfKind 45 rfl) ic_m1 ?_
        exact qr_iret o rfl rfl (q_dm dm_X11_countOfKind 46 rfl)
      · refine qr_aload_n o (q_dm dm_X11_countOfKind 37 rfl) rfl ?_
        refine qr_getr (kf := 1) o cf_X11 (sh0 j r) rfl (Nat.le_of_ble_eq_true rfl) fl_X11_19 (q_dm dm_X11_countOfKind 38 rfl) ?_
        refine qr_getr (kf := 2) o cf_X2 (sh3 j r) rfl (Nat.le_of_ble_eq_true rfl) fl_X11_289 (q_dm dm_X11_countOfKind 39 rfl) ?_
        refine qr_iload_n o (q_dm dm_X11_countOfKind 40 rfl) rfl ?_
        refine qr_bipush o (q_dm dm_X11_countOfKind 41 rfl) bi_50 ?_
        refine qr_isub o (q_dm dm_X11_countOfKind 42 rfl) ?_
        refine qr_iald o (sh6 j r) (q_dm dm_X11_countOfKind 43 rfl) ?_
        refine qr_goto (tgt := 84) o (q_dm dm_X11_countOfKind 44 rfl) (by decide) ?_
        exact qr_iret o rfl rfl (q_dm dm_X11_countOfKind 46 rfl)
    · refine qr_aload_n o (q_dm dm_X11_countOfKind 22 rfl) rfl ?_
      refine qr_getr (kf := 1) o cf_X11 (sh0 j r) rfl (Nat.le_of_ble_eq_true rfl) fl_X11_19 (q_dm dm_X11_countOfKind 23 rfl) ?_
      refine qr_getr (kf := 1) o cf_X2 (sh3 j r) rfl (Nat.le_of_ble_eq_true rfl) fl_X11_286 (q_dm dm_X11_countOfKind 24 rfl) ?_
      refine qr_iload_n o (q_dm dm_X11_countOfKind 25 rfl) rfl ?_
      refine qr_bipush o (q_dm dm_X11_countOfKind 26 rfl) bi_30 ?_
      refine qr_isub o (q_dm dm_X11_countOfKind 27 rfl) ?_
      refine qr_iald o (sh5 j r) (q_dm dm_X11_countOfKind 28 rfl) ?_
      exact qr_iret o rfl rfl (q_dm dm_X11_countOfKind 29 rfl)
  · refine qr_aload_n o (q_dm dm_X11_countOfKind 7 rfl) rfl ?_
    refine qr_getr (kf := 1) o cf_X11 (sh0 j r) rfl (Nat.le_of_ble_eq_true rfl) fl_X11_19 (q_dm dm_X11_countOfKind 8 rfl) ?_
    refine qr_getr (kf := 0) o cf_X2 (sh3 j r) rfl (Nat.le_of_ble_eq_true rfl) fl_X11_283 (q_dm dm_X11_countOfKind 9 rfl) ?_
    refine qr_iload_n o (q_dm dm_X11_countOfKind 10 rfl) rfl ?_
    refine qr_bipush o (q_dm dm_X11_countOfKind 11 rfl) bi_10 ?_
    refine qr_isub o (q_dm dm_X11_countOfKind 12 rfl) ?_
    refine qr_iald o (sh4 j r) (q_dm dm_X11_countOfKind 13 rfl) ?_
    exact qr_iret o rfl rfl (q_dm dm_X11_countOfKind 14 rfl)

theorem a_X11_countOfKind (g : qG) (l : Launch) (n : Nat) (j r : Nat) (hj : q_isLaw j) (hr : q_isLaw r) (a1 : Int32) (M : qM) : qAM g l 1 zX11_countOfKind (qL j r) [.inr (some 0), .inl a1] (qL j r, M) (f_X11_countOfKind n a1 M) :=
  qAM.of zv_X11_countOfKind.1 (by show 2 ≤ 2; decide) (fun k hk o => w_X11_countOfKind n j r hj hr o a1 M)
def tb_X11_countOfPerson : List (Nat × Instr × Nat) := [(0, (.aload_n 0, 1)), (1, (.getfield 26, 3)), (4, (.iload_n 1, 1)), (5, (.bipush 70, 2)), (7, (.isub, 1)), (8, (.invokevirtual 131, 3)), (11, (.ifCond .eq 16, 3)), (14, (.aload_n 0, 1)), (15, (.getfield 26, 3)), (18, (.getfield 108, 3)), (21, (.iload_n 1, 1)), (22, (.bipush 70, 2)), (24, (.isub, 1)), (25, (.iaload, 1)), (26, (.ireturn, 1)), (27, (.aload_n 0, 1)), (28, (.getfield 26, 3)), (31, (.iload_n 1, 1)), (32, (.bipush 80, 2)), (34, (.isub, 1)), (35, (.invokevirtual 131, 3)), (38, (.ifCond .eq 15, 3)), (41, (.aload_n 0, 1)), (42, (.getfield 26, 3)), (45, (.iload_n 1, 1)), (46, (.bipush 80, 2)), (48, (.isub, 1)), (49, (.invokevirtual 163, 3)), (52, (.ireturn, 1)), (53, (.aload_n 0, 1)), (54, (.getfield 26, 3)), (57, (.iload_n 1, 1)), (58, (.bipush 90, 2)), (60, (.isub, 1)), (61, (.invokevirtual 131, 3)), (64, (.ifCond .eq 22, 3)), (67, (.aload_n 0, 1)), (68, (.getfield 26, 3)), (71, (.aload_n 0, 1)), (72, (.getfield 26, 3)), (75, (.getfield 169, 3)), (78, (.iload_n 1, 1)), (79, (.bipush 90, 2)), (81, (.isub, 1)), (82, (.invokevirtual 292, 3)), (85, (.ireturn, 1)), (86, (.aload_n 0, 1)), (87, (.getfield 26, 3)), (90, (.iload_n 1, 1)), (91, (.bipush 100, 2)), (93, (.isub, 1)), (94, (.invokevirtual 131, 3)), (97, (.ifCond .eq 24, 3)), (100, (.aload_n 0, 1)), (101, (.getfield 26, 3)), (104, (.aload_n 0, 1)), (105, (.getfield 26, 3)), (108, (.getfield 172, 3)), (111, (.iload_n 1, 1)), (112, (.bipush 100, 2)), (114, (.isub, 1)), (115, (.invokevirtual 292, 3)), (118, (.goto 4, 3)), (121, (.iconst (-1), 1)), (122, (.ireturn, 1))]
theorem dm_X11_countOfPerson : ∀ q ∈ tb_X11_countOfPerson, decode zX11_countOfPerson.2.1 q.1 = .ok q.2 := by decide +kernel
def f_X11_countOfPerson (n : Nat) (a1 : Int32) (M : qM) : qR :=
  qc (f_X10_knows n 7 (a1 - (70 : Int32)) M) (fun r1 m2 => (if r1 = (0 : Int32) then qc (f_X10_knows n 7 (a1 - (80 : Int32)) m2) (fun r3 m4 => (if r3 = (0 : Int32) then qc (f_X10_knows n 7 (a1 - (90 : Int32)) m4) (fun r5 m6 => (if r5 = (0 : Int32) then qc (f_X10_knows n 7 (a1 - (100 : Int32)) m6) (fun r7 m8 => (if r7 = (0 : Int32) then some ((-1 : Int32), m8) else qc (f_X10_sumOf n 7 11 (a1 - (100 : Int32)) m8) (fun r9 m10 => some (r9, m10)))) else qc (f_X10_sumOf n 7 9 (a1 - (90 : Int32)) m6) (fun r11 m12 => some (r11, m12)))) else qc (f_X10_stepsLeft n 7 (a1 - (80 : Int32)) m4) (fun r13 m14 => some (r13, m14)))) else qg (a1 - (70 : Int32)) 8 (some ((m2 8 (a1 - (70 : Int32)).toNatClampNeg), m2))))
set_option maxRecDepth 4000 in
theorem w_X11_countOfPerson {g : qG} {k : qK} (n : Nat) (j r : Nat) (hj : q_isLaw j) (hr : q_isLaw r) (o : qOk g 1 zX11_countOfPerson k) (a1 : Int32) (M : qM) : qAE g k zX11_countOfPerson (qL j r) 0 [some (.inr (some 0)), some (.inl a1)] [] (qL j r, M) (f_X11_countOfPerson n a1 M) := by
  unfold f_X11_countOfPerson
  refine qr_aload_n o (q_dm dm_X11_countOfPerson 0 rfl) rfl ?_
  refine qr_getr (kf := 2) o cf_X11 (sh0 j r) rfl (Nat.le_of_ble_eq_true rfl) fl_X11_26 (q_dm dm_X11_countOfPerson 1 rfl) ?_
  refine qr_iload_n o (q_dm dm_X11_countOfPerson 2 rfl) rfl ?_
  refine qr_bipush o (q_dm dm_X11_countOfPerson 3 rfl) bi_70 ?_
  refine qr_isub o (q_dm dm_X11_countOfPerson 4 rfl) ?_
  refine qr_callv_i (As := [.inl (a1 - (70 : Int32))]) (S := []) o (a_X10_knows g k.2.1 n j r hj hr (Or.inl rfl) (a1 - (70 : Int32)) M) (Nat.le_of_ble_eq_true rfl) zv_X10_knows rfl cf_X10 (sh7 j r) ml_X11_131 (Nat.le_of_ble_eq_true rfl) (q_dm dm_X11_countOfPerson 5 rfl) (fun r1 m2 => ?_)
  refine qr_if_eq (tgt := 27) o (q_dm dm_X11_countOfPerson 6 rfl) (by decide) ?_ ?_
  · refine qr_aload_n o (q_dm dm_X11_countOfPerson 15 rfl) rfl ?_
    refine qr_getr (kf := 2) o cf_X11 (sh0 j r) rfl (Nat.le_of_ble_eq_true rfl) fl_X11_26 (q_dm dm_X11_countOfPerson 16 rfl) ?_
    refine qr_iload_n o (q_dm dm_X11_countOfPerson 17 rfl) rfl ?_
    refine qr_bipush o (q_dm dm_X11_countOfPerson 18 rfl) bi_80 ?_
    refine qr_isub o (q_dm dm_X11_countOfPerson 19 rfl) ?_
    refine qr_callv_i (As := [.inl (a1 - (80 : Int32))]) (S := []) o (a_X10_knows g k.2.1 n j r hj hr (Or.inl rfl) (a1 - (80 : Int32)) m2) (Nat.le_of_ble_eq_true rfl) zv_X10_knows rfl cf_X10 (sh7 j r) ml_X11_131 (Nat.le_of_ble_eq_true rfl) (q_dm dm_X11_countOfPerson 20 rfl) (fun r3 m4 => ?_)
    refine qr_if_eq (tgt := 53) o (q_dm dm_X11_countOfPerson 21 rfl) (by decide) ?_ ?_
    · refine qr_aload_n o (q_dm dm_X11_countOfPerson 29 rfl) rfl ?_
      refine qr_getr (kf := 2) o cf_X11 (sh0 j r) rfl (Nat.le_of_ble_eq_true rfl) fl_X11_26 (q_dm dm_X11_countOfPerson 30 rfl) ?_
      refine qr_iload_n o (q_dm dm_X11_countOfPerson 31 rfl) rfl ?_
      refine qr_bipush o (q_dm dm_X11_countOfPerson 32 rfl) bi_90 ?_
      refine qr_isub o (q_dm dm_X11_countOfPerson 33 rfl) ?_
      refine qr_callv_i (As := [.inl (a1 - (90 : Int32))]) (S := []) o (a_X10_knows g k.2.1 n j r hj hr (Or.inl rfl) (a1 - (90 : Int32)) m4) (Nat.le_of_ble_eq_true rfl) zv_X10_knows rfl cf_X10 (sh7 j r) ml_X11_131 (Nat.le_of_ble_eq_true rfl) (q_dm dm_X11_countOfPerson 34 rfl) (fun r5 m6 => ?_)
      refine qr_if_eq (tgt := 86) o (q_dm dm_X11_countOfPerson 35 rfl) (by decide) ?_ ?_
      · refine qr_aload_n o (q_dm dm_X11_countOfPerson 46 rfl) rfl ?_
        refine qr_getr (kf := 2) o cf_X11 (sh0 j r) rfl (Nat.le_of_ble_eq_true rfl) fl_X11_26 (q_dm dm_X11_countOfPerson 47 rfl) ?_
        refine qr_iload_n o (q_dm dm_X11_countOfPerson 48 rfl) rfl ?_
        refine qr_bipush o (q_dm dm_X11_countOfPerson 49 rfl) bi_100 ?_
        refine qr_isub o (q_dm dm_X11_countOfPerson 50 rfl) ?_
        refine qr_callv_i (As := [.inl (a1 - (100 : Int32))]) (S := []) o (a_X10_knows g k.2.1 n j r hj hr (Or.inl rfl) (a1 - (100 : Int32)) m6) (Nat.le_of_ble_eq_true rfl) zv_X10_knows rfl cf_X10 (sh7 j r) ml_X11_131 (Nat.le_of_ble_eq_true rfl) (q_dm dm_X11_countOfPerson 51 rfl) (fun r7 m8 => ?_)
        refine qr_if_eq (tgt := 121) o (q_dm dm_X11_countOfPerson 52 rfl) (by decide) ?_ ?_
        · refine qr_iconst o (q_dm dm_X11_countOfPerson 63 rfl) ic_m1 ?_
          exact qr_iret o rfl rfl (q_dm dm_X11_countOfPerson 64 rfl)
        · refine qr_aload_n o (q_dm dm_X11_countOfPerson 53 rfl) rfl ?_
          refine qr_getr (kf := 2) o cf_X11 (sh0 j r) rfl (Nat.le_of_ble_eq_true rfl) fl_X11_26 (q_dm dm_X11_countOfPerson 54 rfl) ?_
          refine qr_aload_n o (q_dm dm_X11_countOfPerson 55 rfl) rfl ?_
          refine qr_getr (kf := 2) o cf_X11 (sh0 j r) rfl (Nat.le_of_ble_eq_true rfl) fl_X11_26 (q_dm dm_X11_countOfPerson 56 rfl) ?_
          refine qr_getr (kf := 3) o cf_X10 (sh7 j r) rfl (Nat.le_of_ble_eq_true rfl) fl_X11_172 (q_dm dm_X11_countOfPerson 57 rfl) ?_
          refine qr_iload_n o (q_dm dm_X11_countOfPerson 58 rfl) rfl ?_
          refine qr_bipush o (q_dm dm_X11_countOfPerson 59 rfl) bi_100 ?_
          refine qr_isub o (q_dm dm_X11_countOfPerson 60 rfl) ?_
          refine qr_callv_i (As := [.inr (some 11), .inl (a1 - (100 : Int32))]) (S := []) o (a_X10_sumOf g k.2.1 n j r hj hr (Or.inl rfl) (sh11 j r) (a1 - (100 : Int32)) m8) (Nat.le_of_ble_eq_true rfl) zv_X10_sumOf rfl cf_X10 (sh7 j r) ml_X11_292 (Nat.le_of_ble_eq_true rfl) (q_dm dm_X11_countOfPerson 61 rfl) (fun r9 m10 => ?_)
          refine qr_goto (tgt := 122) o (q_dm dm_X11_countOfPerson 62 rfl) (by decide) ?_
          exact qr_iret o rfl rfl (q_dm dm_X11_countOfPerson 64 rfl)
      · refine qr_aload_n o (q_dm dm_X11_countOfPerson 36 rfl) rfl ?_
        refine qr_getr (kf := 2) o cf_X11 (sh0 j r) rfl (Nat.le_of_ble_eq_true rfl) fl_X11_26 (q_dm dm_X11_countOfPerson 37 rfl) ?_
        refine qr_aload_n o (q_dm dm_X11_countOfPerson 38 rfl) rfl ?_
        refine qr_getr (kf := 2) o cf_X11 (sh0 j r) rfl (Nat.le_of_ble_eq_true rfl) fl_X11_26 (q_dm dm_X11_countOfPerson 39 rfl) ?_
        refine qr_getr (kf := 1) o cf_X10 (sh7 j r) rfl (Nat.le_of_ble_eq_true rfl) fl_X11_169 (q_dm dm_X11_countOfPerson 40 rfl) ?_
        refine qr_iload_n o (q_dm dm_X11_countOfPerson 41 rfl) rfl ?_
        refine qr_bipush o (q_dm dm_X11_countOfPerson 42 rfl) bi_90 ?_
        refine qr_isub o (q_dm dm_X11_countOfPerson 43 rfl) ?_
        refine qr_callv_i (As := [.inr (some 9), .inl (a1 - (90 : Int32))]) (S := []) o (a_X10_sumOf g k.2.1 n j r hj hr (Or.inl rfl) (sh9 j r) (a1 - (90 : Int32)) m6) (Nat.le_of_ble_eq_true rfl) zv_X10_sumOf rfl cf_X10 (sh7 j r) ml_X11_292 (Nat.le_of_ble_eq_true rfl) (q_dm dm_X11_countOfPerson 44 rfl) (fun r11 m12 => ?_)
        exact qr_iret o rfl rfl (q_dm dm_X11_countOfPerson 45 rfl)
    · refine qr_aload_n o (q_dm dm_X11_countOfPerson 22 rfl) rfl ?_
      refine qr_getr (kf := 2) o cf_X11 (sh0 j r) rfl (Nat.le_of_ble_eq_true rfl) fl_X11_26 (q_dm dm_X11_countOfPerson 23 rfl) ?_
      refine qr_iload_n o (q_dm dm_X11_countOfPerson 24 rfl) rfl ?_
      refine qr_bipush o (q_dm dm_X11_countOfPerson 25 rfl) bi_80 ?_
      refine qr_isub o (q_dm dm_X11_countOfPerson 26 rfl) ?_
      refine qr_callv_i (As := [.inl (a1 - (80 : Int32))]) (S := []) o (a_X10_stepsLeft g k.2.1 n j r hj hr (Or.inl rfl) (a1 - (80 : Int32)) m4) (Nat.le_of_ble_eq_true rfl) zv_X10_stepsLeft rfl cf_X10 (sh7 j r) ml_X11_163 (Nat.le_of_ble_eq_true rfl) (q_dm dm_X11_countOfPerson 27 rfl) (fun r13 m14 => ?_)
      exact qr_iret o rfl rfl (q_dm dm_X11_countOfPerson 28 rfl)
  · refine qr_aload_n o (q_dm dm_X11_countOfPerson 7 rfl) rfl ?_
    refine qr_getr (kf := 2) o cf_X11 (sh0 j r) rfl (Nat.le_of_ble_eq_true rfl) fl_X11_26 (q_dm dm_X11_countOfPerson 8 rfl) ?_
    refine qr_getr (kf := 0) o cf_X10 (sh7 j r) rfl (Nat.le_of_ble_eq_true rfl) fl_X11_108 (q_dm dm_X11_countOfPerson 9 rfl) ?_
    refine qr_iload_n o (q_dm dm_X11_countOfPerson 10 rfl) rfl ?_
    refine qr_bipush o (q_dm dm_X11_countOfPerson 11 rfl) bi_70 ?_
    refine qr_isub o (q_dm dm_X11_countOfPerson 12 rfl) ?_
    refine qr_iald o (sh8 j r) (q_dm dm_X11_countOfPerson 13 rfl) ?_
    exact qr_iret o rfl rfl (q_dm dm_X11_countOfPerson 14 rfl)

theorem a_X11_countOfPerson (g : qG) (l : Launch) (n : Nat) (j r : Nat) (hj : q_isLaw j) (hr : q_isLaw r) (a1 : Int32) (M : qM) : qAM g l 1 zX11_countOfPerson (qL j r) [.inr (some 0), .inl a1] (qL j r, M) (f_X11_countOfPerson n a1 M) :=
  qAM.of zv_X11_countOfPerson.1 (by show 2 ≤ 2; decide) (fun k hk o => w_X11_countOfPerson n j r hj hr o a1 M)
def tb_X11_count : List (Nat × Instr × Nat) := [(0, (.iload_n 1, 1)), (1, (.tableswitch 78 0 4 #[35, 43, 51, 59, 70], 35)), (36, (.aload_n 0, 1)), (37, (.getfield 26, 3)), (40, (.getfield 184, 3)), (43, (.ireturn, 1)), (44, (.aload_n 0, 1)), (45, (.getfield 19, 3)), (48, (.getfield 269, 3)), (51, (.ireturn, 1)), (52, (.aload_n 0, 1)), (53, (.getfield 26, 3)), (56, (.getfield 104, 3)), (59, (.ireturn, 1)), (60, (.aload_n 0, 1)), (61, (.getfield 41, 3)), (64, (.getfield 126, 3)), (67, (.getfield 272, 3)), (70, (.ireturn, 1)), (71, (.aload_n 0, 1)), (72, (.getfield 10, 3)), (75, (.getfield 112, 3)), (78, (.ireturn, 1)), (79, (.iload_n 1, 1)), (80, (.bipush 70, 2)), (82, (.if_icmp .ge 11, 3)), (85, (.aload_n 0, 1)), (86, (.iload_n 1, 1)), (87, (.invokevirtual 277, 3)), (90, (.goto 8, 3)), (93, (.aload_n 0, 1)), (94, (.iload_n 1, 1)), (95, (.invokevirtual 280, 3)), (98, (.ireturn, 1))]
theorem dm_X11_count : ∀ q ∈ tb_X11_count, decode zX11_count.2.1 q.1 = .ok q.2 := by decide +kernel
def f_X11_count (n : Nat) (j : Nat) (a1 : Int32) (M : qM) : qR :=
  qsw a1 [((0 : Int32), some ((M 7 9), M)), ((1 : Int32), some ((M 3 3), M)), ((2 : Int32), some ((M 7 8), M)), ((3 : Int32), some ((M j 7), M)), ((4 : Int32), some ((M 1 1), M))] ((if (70 : Int32) ≤ a1 then qc (f_X11_countOfPerson n a1 M) (fun r1 m2 => some (r1, m2)) else qc (f_X11_countOfKind n a1 M) (fun r3 m4 => some (r3, m4))))
set_option maxRecDepth 4000 in
theorem w_X11_count {g : qG} {k : qK} (n : Nat) (j r : Nat) (hj : q_isLaw j) (hr : q_isLaw r) (o : qOk g 2 zX11_count k) (a1 : Int32) (M : qM) : qAE g k zX11_count (qL j r) 0 [some (.inr (some 0)), some (.inl a1)] [] (qL j r, M) (f_X11_count n j a1 M) := by
  unfold f_X11_count
  refine qr_iload_n o (q_dm dm_X11_count 0 rfl) rfl ?_
  refine qr_tablep (tgt := 79) o (q_dm dm_X11_count 1 rfl) (by show (_ : Int) + (5 : Nat) = _; decide) (by decide) ?_ (q_tbc (35) 36 (by decide) rfl (by decide) ?_ (q_tbc (43) 44 (by decide) rfl (by decide) ?_ (q_tbc (51) 52 (by decide) rfl (by decide) ?_ (q_tbc (59) 60 (by decide) rfl (by decide) ?_ (q_tbc (70) 71 (by decide) rfl (by decide) ?_ q_tbn)))))
  · refine qr_iload_n o (q_dm dm_X11_count 23 rfl) rfl ?_
    refine qr_bipush o (q_dm dm_X11_count 24 rfl) bi_70 ?_
    refine qr_icmp_ge (tgt := 93) o (q_dm dm_X11_count 25 rfl) (by decide) ?_ ?_
    · refine qr_aload_n o (q_dm dm_X11_count 30 rfl) rfl ?_
      refine qr_iload_n o (q_dm dm_X11_count 31 rfl) rfl ?_
      refine qr_callv_i (As := [.inl a1]) (S := []) o (a_X11_countOfPerson g k.2.1 n j r hj hr a1 M) (Nat.le_of_ble_eq_true rfl) zv_X11_countOfPerson rfl cf_X11 (sh0 j r) ml_X11_280 (Nat.le_of_ble_eq_true rfl) (q_dm dm_X11_count 32 rfl) (fun r1 m2 => ?_)
      exact qr_iret o rfl rfl (q_dm dm_X11_count 33 rfl)
    · refine qr_aload_n o (q_dm dm_X11_count 26 rfl) rfl ?_
      refine qr_iload_n o (q_dm dm_X11_count 27 rfl) rfl ?_
      refine qr_callv_i (As := [.inl a1]) (S := []) o (a_X11_countOfKind g k.2.1 n j r hj hr a1 M) (Nat.le_of_ble_eq_true rfl) zv_X11_countOfKind rfl cf_X11 (sh0 j r) ml_X11_277 (Nat.le_of_ble_eq_true rfl) (q_dm dm_X11_count 28 rfl) (fun r3 m4 => ?_)
      refine qr_goto (tgt := 98) o (q_dm dm_X11_count 29 rfl) (by decide) ?_
      exact qr_iret o rfl rfl (q_dm dm_X11_count 33 rfl)
  · refine qr_aload_n o (q_dm dm_X11_count 2 rfl) rfl ?_
    refine qr_getr (kf := 2) o cf_X11 (sh0 j r) rfl (Nat.le_of_ble_eq_true rfl) fl_X11_26 (q_dm dm_X11_count 3 rfl) ?_
    refine qr_getf (kf := 9) o cf_X10 (sh7 j r) rfl (Nat.le_of_ble_eq_true rfl) fl_X11_184 (q_dm dm_X11_count 4 rfl) ?_
    exact qr_iret o rfl rfl (q_dm dm_X11_count 5 rfl)
  · refine qr_aload_n o (q_dm dm_X11_count 6 rfl) rfl ?_
    refine qr_getr (kf := 1) o cf_X11 (sh0 j r) rfl (Nat.le_of_ble_eq_true rfl) fl_X11_19 (q_dm dm_X11_count 7 rfl) ?_
    refine qr_getf (kf := 3) o cf_X2 (sh3 j r) rfl (Nat.le_of_ble_eq_true rfl) fl_X11_269 (q_dm dm_X11_count 8 rfl) ?_
    exact qr_iret o rfl rfl (q_dm dm_X11_count 9 rfl)
  · refine qr_aload_n o (q_dm dm_X11_count 10 rfl) rfl ?_
    refine qr_getr (kf := 2) o cf_X11 (sh0 j r) rfl (Nat.le_of_ble_eq_true rfl) fl_X11_26 (q_dm dm_X11_count 11 rfl) ?_
    refine qr_getf (kf := 8) o cf_X10 (sh7 j r) rfl (Nat.le_of_ble_eq_true rfl) fl_X11_104 (q_dm dm_X11_count 12 rfl) ?_
    exact qr_iret o rfl rfl (q_dm dm_X11_count 13 rfl)
  · refine qr_aload_n o (q_dm dm_X11_count 14 rfl) rfl ?_
    refine qr_getr (kf := 5) o cf_X11 (sh0 j r) rfl (Nat.le_of_ble_eq_true rfl) fl_X11_41 (q_dm dm_X11_count 15 rfl) ?_
    refine qr_getr (kf := 3) o cf_X1 (sh34 j r) rfl (Nat.le_of_ble_eq_true rfl) fl_X11_126 (q_dm dm_X11_count 16 rfl) ?_
    refine qr_getf (kf := 7) o cf_X3 (shW0 j r hj) rfl (Nat.le_of_ble_eq_true rfl) fl_X11_272 (q_dm dm_X11_count 17 rfl) ?_
    exact qr_iret o rfl rfl (q_dm dm_X11_count 18 rfl)
  · refine qr_aload_n o (q_dm dm_X11_count 19 rfl) rfl ?_
    refine qr_getr (kf := 0) o cf_X11 (sh0 j r) rfl (Nat.le_of_ble_eq_true rfl) fl_X11_10 (q_dm dm_X11_count 20 rfl) ?_
    refine qr_getf (kf := 1) o cf_X9 (sh1 j r) rfl (Nat.le_of_ble_eq_true rfl) fl_X11_112 (q_dm dm_X11_count 21 rfl) ?_
    exact qr_iret o rfl rfl (q_dm dm_X11_count 22 rfl)

theorem a_X11_count (g : qG) (l : Launch) (n : Nat) (j r : Nat) (hj : q_isLaw j) (hr : q_isLaw r) (a1 : Int32) (M : qM) : qAM g l 2 zX11_count (qL j r) [.inr (some 0), .inl a1] (qL j r, M) (f_X11_count n j a1 M) :=
  qAM.of zv_X11_count.1 (by show 2 ≤ 2; decide) (fun k hk o => w_X11_count n j r hj hr o a1 M)

def tb_X11_court : List (Nat × Instr × Nat) := [(0, (.iload_n 1, 1)), (1, (.iconst 1, 1)), (2, (.if_icmp .lt 31, 3)), (5, (.iload_n 1, 1)), (6, (.bipush 9, 2)), (8, (.if_icmp .gt 25, 3)), (11, (.iload 5, 2)), (13, (.ifCond .lt 20, 3)), (16, (.iload 5, 2)), (18, (.iload_n 1, 1)), (19, (.if_icmp .gt 14, 3)), (22, (.iload 6, 2)), (24, (.ifCond .lt 9, 3)), (27, (.iload 6, 2)), (29, (.iconst 2, 1)), (30, (.if_icmp .le 5, 3)), (33, (.iconst (-1), 1)), (34, (.ireturn, 1)), (35, (.iconst 1, 1)), (36, (.iload_n 1, 1)), (37, (.ishl, 1)), (38, (.iconst 1, 1)), (39, (.isub, 1)), (40, (.istore 7, 2)), (42, (.iload_n 2, 1)), (43, (.iload 7, 2)), (45, (.iconst (-1), 1)), (46, (.ixor, 1)), (47, (.iand, 1)), (48, (.ifCond .ne 22, 3)), (51, (.iload_n 3, 1)), (52, (.iload 7, 2)), (54, (.iconst (-1), 1)), (55, (.ixor, 1)), (56, (.iand, 1)), (57, (.ifCond .ne 13, 3)), (60, (.iload 4, 2)), (62, (.iload 7, 2)), (64, (.iconst (-1), 1)), (65, (.ixor, 1)), (66, (.iand, 1)), (67, (.ifCond .eq 5, 3)), (70, (.iconst (-1), 1)), (71, (.ireturn, 1)), (72, (.iload_n 2, 1)), (73, (.invokestatic 220, 3)), (76, (.istore 8, 2)), (78, (.iload_n 2, 1)), (79, (.istore 9, 2)), (81, (.iload 8, 2)), (83, (.iload 5, 2)), (85, (.if_icmp .lt 37, 3)), (88, (.iconst 2, 1)), (89, (.iload 8, 2)), (91, (.imul, 1)), (92, (.iload_n 1, 1)), (93, (.if_icmp .lt 7, 3)), (96, (.iload_n 2, 1)), (97, (.goto 9, 3)), (100, (.iload 7, 2)), (102, (.iload_n 2, 1)), (103, (.iconst (-1), 1)), (104, (.ixor, 1)), (105, (.iand, 1)), (106, (.istore 10, 2)), (108, (.iload_n 3, 1)), (109, (.iload 10, 2)), (111, (.iand, 1)), (112, (.iload 4, 2)), (114, (.iload 10, 2)), (116, (.iconst (-1), 1)), (117, (.ixor, 1)), (118, (.iand, 1)), (119, (.ior, 1)), (120, (.istore 9, 2)), (122, (.iload 6, 2)), (124, (.ifCond .ne 9, 3)), (127, (.iload 9, 2)), (129, (.invokestatic 220, 3)), (132, (.ireturn, 1)), (133, (.iload 6, 2)), (135, (.iconst 1, 1)), (136, (.if_icmp .ne 20, 3)), (139, (.iconst 2, 1)), (140, (.iload 9, 2)), (142, (.invokestatic 220, 3)), (145, (.imul, 1)), (146, (.iload_n 1, 1)), (147, (.if_icmp .le 7, 3)), (150, (.iconst 1, 1)), (151, (.goto 4, 3)), (154, (.iconst 0, 1)), (155, (.ireturn, 1)), (156, (.iload_n 2, 1)), (157, (.iload 9, 2)), (159, (.ixor, 1)), (160, (.invokestatic 220, 3)), (163, (.ireturn, 1))]
theorem dm_X11_court : ∀ q ∈ tb_X11_court, decode zX11_court.2.1 q.1 = .ok q.2 := by decide +kernel
def f_X11_court_122 (n : Nat) (a1 a2 a6 a9 : Int32) (M : qM) : qR :=
  (if a6 = (0 : Int32) then qc (f_J6_bitCount_0f7a4 n a9 M) (fun r5 m6 => some (r5, m6)) else (if a6 = (1 : Int32) then qc (f_J6_bitCount_0f7a4 n a9 M) (fun r3 m4 => (if ((2 : Int32) * r3) ≤ a1 then some ((0 : Int32), m4) else some ((1 : Int32), m4))) else qc (f_J6_bitCount_0f7a4 n (a2 ^^^ a9) M) (fun r1 m2 => some (r1, m2))))
set_option maxRecDepth 4000 in
theorem w_X11_court_122 {g : qG} {k : qK} (n : Nat) (j r : Nat) (hj : q_isLaw j) (hr : q_isLaw r) (o : qOk g 1 zX11_court k) (a1 a2 a6 a9 : Int32) (M : qM) : qAE g k zX11_court (qL j r) 122 [none, some (.inl a1), some (.inl a2), none, none, none, some (.inl a6), none, none, some (.inl a9), none] [] (qL j r, M) (f_X11_court_122 n a1 a2 a6 a9 M) := by
  unfold f_X11_court_122
  refine qr_iload o (q_dm dm_X11_court 75 rfl) rfl ?_
  refine qr_if_ne (tgt := 133) o (q_dm dm_X11_court 76 rfl) (by decide) ?_ ?_
  · refine qr_iload o (q_dm dm_X11_court 80 rfl) rfl ?_
    refine qr_iconst o (q_dm dm_X11_court 81 rfl) ic_1 ?_
    refine qr_icmp_ne (tgt := 156) o (q_dm dm_X11_court 82 rfl) (by decide) ?_ ?_
    · refine qr_iload_n o (q_dm dm_X11_court 93 rfl) rfl ?_
      refine qr_iload o (q_dm dm_X11_court 94 rfl) rfl ?_
      refine qr_ixor o (q_dm dm_X11_court 95 rfl) ?_
      refine qr_calls_i (As := [.inl (a2 ^^^ a9)]) (S := []) o (a_J6_bitCount_0f7a4 g k.2.1 n j r hj hr (a2 ^^^ a9) M) (Nat.le_of_ble_eq_true rfl) zs_J6_bitCount_0f7a4 rfl ml_X11_220 (Nat.le_of_ble_eq_true rfl) (q_dm dm_X11_court 96 rfl) (fun r1 m2 => ?_)
      exact qr_iret o rfl rfl (q_dm dm_X11_court 97 rfl)
    · refine qr_iconst o (q_dm dm_X11_court 83 rfl) ic_2 ?_
      refine qr_iload o (q_dm dm_X11_court 84 rfl) rfl ?_
      refine qr_calls_i (As := [.inl a9]) (S := [.inl (2 : Int32)]) o (a_J6_bitCount_0f7a4 g k.2.1 n j r hj hr a9 M) (Nat.le_of_ble_eq_true rfl) zs_J6_bitCount_0f7a4 rfl ml_X11_220 (Nat.le_of_ble_eq_true rfl) (q_dm dm_X11_court 85 rfl) (fun r3 m4 => ?_)
      refine qr_imul o (q_dm dm_X11_court 86 rfl) ?_
      refine qr_iload_n o (q_dm dm_X11_court 87 rfl) rfl ?_
      refine qr_icmp_le (tgt := 154) o (q_dm dm_X11_court 88 rfl) (by decide) ?_ ?_
      · refine qr_iconst o (q_dm dm_X11_court 91 rfl) ic_0 ?_
        exact qr_iret o rfl rfl (q_dm dm_X11_court 92 rfl)
      · refine qr_iconst o (q_dm dm_X11_court 89 rfl) ic_1 ?_
        refine qr_goto (tgt := 155) o (q_dm dm_X11_court 90 rfl) (by decide) ?_
        exact qr_iret o rfl rfl (q_dm dm_X11_court 92 rfl)
  · refine qr_iload o (q_dm dm_X11_court 77 rfl) rfl ?_
    refine qr_calls_i (As := [.inl a9]) (S := []) o (a_J6_bitCount_0f7a4 g k.2.1 n j r hj hr a9 M) (Nat.le_of_ble_eq_true rfl) zs_J6_bitCount_0f7a4 rfl ml_X11_220 (Nat.le_of_ble_eq_true rfl) (q_dm dm_X11_court 78 rfl) (fun r5 m6 => ?_)
    exact qr_iret o rfl rfl (q_dm dm_X11_court 79 rfl)

def f_X11_court_106 (n : Nat) (a1 a2 a3 a4 a6 s0 : Int32) (M : qM) : qR :=
  ql ((a3 &&& s0) ||| (a4 &&& (s0 ^^^ (-1 : Int32)))) (fun x1 => f_X11_court_122 n a1 a2 a6 x1 M)
set_option maxRecDepth 4000 in
theorem w_X11_court_106 {g : qG} {k : qK} (n : Nat) (j r : Nat) (hj : q_isLaw j) (hr : q_isLaw r) (o : qOk g 1 zX11_court k) (a1 a2 a3 a4 a6 s0 : Int32) (M : qM) : qAE g k zX11_court (qL j r) 106 [none, some (.inl a1), some (.inl a2), some (.inl a3), some (.inl a4), none, some (.inl a6), none, none, none, none] [.inl s0] (qL j r, M) (f_X11_court_106 n a1 a2 a3 a4 a6 s0 M) := by
  unfold f_X11_court_106
  refine qs_istore (L' := [none, some (.inl a1), some (.inl a2), some (.inl a3), some (.inl a4), none, some (.inl a6), none, none, none, some (.inl s0)]) o (q_dm dm_X11_court 64 rfl) (Nat.le_of_ble_eq_true rfl) rfl ?_
  refine qr_iload_n o (q_dm dm_X11_court 65 rfl) rfl ?_
  refine qr_iload o (q_dm dm_X11_court 66 rfl) rfl ?_
  refine qr_iand o (q_dm dm_X11_court 67 rfl) ?_
  refine qr_iload o (q_dm dm_X11_court 68 rfl) rfl ?_
  refine qr_iload o (q_dm dm_X11_court 69 rfl) rfl ?_
  refine qr_iconst o (q_dm dm_X11_court 70 rfl) ic_m1 ?_
  refine qr_ixor o (q_dm dm_X11_court 71 rfl) ?_
  refine qr_iand o (q_dm dm_X11_court 72 rfl) ?_
  refine qr_ior o (q_dm dm_X11_court 73 rfl) ?_
  refine qr_lt (fun x1 => ?_)
  refine qs_istore (L' := [none, some (.inl a1), some (.inl a2), some (.inl a3), some (.inl a4), none, some (.inl a6), none, none, some (.inl x1), some (.inl s0)]) o (q_dm dm_X11_court 74 rfl) (Nat.le_of_ble_eq_true rfl) rfl ?_
  exact qr_loc (q_leN (q_leS (q_leS (q_leN (q_leN (q_leN (q_leS (q_leN (q_leN (q_leS (q_leN q_le0))))))))))) (w_X11_court_122 n j r hj hr o a1 a2 a6 x1 M)

def f_X11_court (n : Nat) (a1 a2 a3 a4 a5 a6 : Int32) (M : qM) : qR :=
  (if a1 < (1 : Int32) then some ((-1 : Int32), M) else (if (9 : Int32) < a1 then some ((-1 : Int32), M) else (if a5 < (0 : Int32) then some ((-1 : Int32), M) else (if a1 < a5 then some ((-1 : Int32), M) else (if a6 < (0 : Int32) then some ((-1 : Int32), M) else (if a6 ≤ (2 : Int32) then ql (((1 : Int32) <<< (a1 &&& 31)) - (1 : Int32)) (fun x1 => (if (a2 &&& (x1 ^^^ (-1 : Int32))) = (0 : Int32) then (if (a3 &&& (x1 ^^^ (-1 : Int32))) = (0 : Int32) then (if (a4 &&& (x1 ^^^ (-1 : Int32))) = (0 : Int32) then qc (f_J6_bitCount_0f7a4 n a2 M) (fun r2 m3 => (if r2 < a5 then f_X11_court_122 n a1 a2 a6 a2 m3 else (if ((2 : Int32) * r2) < a1 then f_X11_court_106 n a1 a2 a3 a4 a6 (x1 &&& (a2 ^^^ (-1 : Int32))) m3 else f_X11_court_106 n a1 a2 a3 a4 a6 a2 m3))) else some ((-1 : Int32), M)) else some ((-1 : Int32), M)) else some ((-1 : Int32), M))) else some ((-1 : Int32), M)))))))
set_option maxRecDepth 4000 in
theorem w_X11_court {g : qG} {k : qK} (n : Nat) (j r : Nat) (hj : q_isLaw j) (hr : q_isLaw r) (o : qOk g 1 zX11_court k) (a1 a2 a3 a4 a5 a6 : Int32) (M : qM) : qAE g k zX11_court (qL j r) 0 [some (.inr (some 0)), some (.inl a1), some (.inl a2), some (.inl a3), some (.inl a4), some (.inl a5), some (.inl a6), none, none, none, none] [] (qL j r, M) (f_X11_court n a1 a2 a3 a4 a5 a6 M) := by
  unfold f_X11_court
  refine qr_iload_n o (q_dm dm_X11_court 0 rfl) rfl ?_
  refine qr_iconst o (q_dm dm_X11_court 1 rfl) ic_1 ?_
  refine qr_icmp_lt (tgt := 33) o (q_dm dm_X11_court 2 rfl) (by decide) ?_ ?_
  · refine qr_iconst o (q_dm dm_X11_court 16 rfl) ic_m1 ?_
    exact qr_iret o rfl rfl (q_dm dm_X11_court 17 rfl)
  · refine qr_iload_n o (q_dm dm_X11_court 3 rfl) rfl ?_
    refine qr_bipush o (q_dm dm_X11_court 4 rfl) bi_9 ?_
    refine qr_icmp_gt (tgt := 33) o (q_dm dm_X11_court 5 rfl) (by decide) ?_ ?_
    · refine qr_iconst o (q_dm dm_X11_court 16 rfl) ic_m1 ?_
      exact qr_iret o rfl rfl (q_dm dm_X11_court 17 rfl)
    · refine qr_iload o (q_dm dm_X11_court 6 rfl) rfl ?_
      refine qr_if_lt (tgt := 33) o (q_dm dm_X11_court 7 rfl) (by decide) ?_ ?_
      · refine qr_iconst o (q_dm dm_X11_court 16 rfl) ic_m1 ?_
        exact qr_iret o rfl rfl (q_dm dm_X11_court 17 rfl)
      · refine qr_iload o (q_dm dm_X11_court 8 rfl) rfl ?_
        refine qr_iload_n o (q_dm dm_X11_court 9 rfl) rfl ?_
        refine qr_icmp_gt (tgt := 33) o (q_dm dm_X11_court 10 rfl) (by decide) ?_ ?_
        · refine qr_iconst o (q_dm dm_X11_court 16 rfl) ic_m1 ?_
          exact qr_iret o rfl rfl (q_dm dm_X11_court 17 rfl)
        · refine qr_iload o (q_dm dm_X11_court 11 rfl) rfl ?_
          refine qr_if_lt (tgt := 33) o (q_dm dm_X11_court 12 rfl) (by decide) ?_ ?_
          · refine qr_iconst o (q_dm dm_X11_court 16 rfl) ic_m1 ?_
            exact qr_iret o rfl rfl (q_dm dm_X11_court 17 rfl)
          · refine qr_iload o (q_dm dm_X11_court 13 rfl) rfl ?_
            refine qr_iconst o (q_dm dm_X11_court 14 rfl) ic_2 ?_
            refine qr_icmp_le (tgt := 35) o (q_dm dm_X11_court 15 rfl) (by decide) ?_ ?_
            · refine qr_iconst o (q_dm dm_X11_court 18 rfl) ic_1 ?_
              refine qr_iload_n o (q_dm dm_X11_court 19 rfl) rfl ?_
              refine qr_ishl o (q_dm dm_X11_court 20 rfl) ?_
              refine qr_iconst o (q_dm dm_X11_court 21 rfl) ic_1 ?_
              refine qr_isub o (q_dm dm_X11_court 22 rfl) ?_
              refine qr_lt (fun x1 => ?_)
              refine qs_istore (L' := [some (.inr (some 0)), some (.inl a1), some (.inl a2), some (.inl a3), some (.inl a4), some (.inl a5), some (.inl a6), some (.inl x1), none, none, none]) o (q_dm dm_X11_court 23 rfl) (Nat.le_of_ble_eq_true rfl) rfl ?_
              refine qr_iload_n o (q_dm dm_X11_court 24 rfl) rfl ?_
              refine qr_iload o (q_dm dm_X11_court 25 rfl) rfl ?_
              refine qr_iconst o (q_dm dm_X11_court 26 rfl) ic_m1 ?_
              refine qr_ixor o (q_dm dm_X11_court 27 rfl) ?_
              refine qr_iand o (q_dm dm_X11_court 28 rfl) ?_
              refine qr_if_ne (tgt := 70) o (q_dm dm_X11_court 29 rfl) (by decide) ?_ ?_
              · refine qr_iconst o (q_dm dm_X11_court 42 rfl) ic_m1 ?_
                exact qr_iret o rfl rfl (q_dm dm_X11_court 43 rfl)
              · refine qr_iload_n o (q_dm dm_X11_court 30 rfl) rfl ?_
                refine qr_iload o (q_dm dm_X11_court 31 rfl) rfl ?_
                refine qr_iconst o (q_dm dm_X11_court 32 rfl) ic_m1 ?_
                refine qr_ixor o (q_dm dm_X11_court 33 rfl) ?_
                refine qr_iand o (q_dm dm_X11_court 34 rfl) ?_
                refine qr_if_ne (tgt := 70) o (q_dm dm_X11_court 35 rfl) (by decide) ?_ ?_
                · refine qr_iconst o (q_dm dm_X11_court 42 rfl) ic_m1 ?_
                  exact qr_iret o rfl rfl (q_dm dm_X11_court 43 rfl)
                · refine qr_iload o (q_dm dm_X11_court 36 rfl) rfl ?_
                  refine qr_iload o (q_dm dm_X11_court 37 rfl) rfl ?_
                  refine qr_iconst o (q_dm dm_X11_court 38 rfl) ic_m1 ?_
                  refine qr_ixor o (q_dm dm_X11_court 39 rfl) ?_
                  refine qr_iand o (q_dm dm_X11_court 40 rfl) ?_
                  refine qr_if_eq (tgt := 72) o (q_dm dm_X11_court 41 rfl) (by decide) ?_ ?_
                  · refine qr_iload_n o (q_dm dm_X11_court 44 rfl) rfl ?_
                    refine qr_calls_i (As := [.inl a2]) (S := []) o (a_J6_bitCount_0f7a4 g k.2.1 n j r hj hr a2 M) (Nat.le_of_ble_eq_true rfl) zs_J6_bitCount_0f7a4 rfl ml_X11_220 (Nat.le_of_ble_eq_true rfl) (q_dm dm_X11_court 45 rfl) (fun r2 m3 => ?_)
                    refine qs_istore (L' := [some (.inr (some 0)), some (.inl a1), some (.inl a2), some (.inl a3), some (.inl a4), some (.inl a5), some (.inl a6), some (.inl x1), some (.inl r2), none, none]) o (q_dm dm_X11_court 46 rfl) (Nat.le_of_ble_eq_true rfl) rfl ?_
                    refine qr_iload_n o (q_dm dm_X11_court 47 rfl) rfl ?_
                    refine qs_istore (L' := [some (.inr (some 0)), some (.inl a1), some (.inl a2), some (.inl a3), some (.inl a4), some (.inl a5), some (.inl a6), some (.inl x1), some (.inl r2), some (.inl a2), none]) o (q_dm dm_X11_court 48 rfl) (Nat.le_of_ble_eq_true rfl) rfl ?_
                    refine qr_iload o (q_dm dm_X11_court 49 rfl) rfl ?_
                    refine qr_iload o (q_dm dm_X11_court 50 rfl) rfl ?_
                    refine qr_icmp_lt (tgt := 122) o (q_dm dm_X11_court 51 rfl) (by decide) ?_ ?_
                    · exact qr_loc (q_leN (q_leS (q_leS (q_leN (q_leN (q_leN (q_leS (q_leN (q_leN (q_leS (q_leN q_le0))))))))))) (w_X11_court_122 n j r hj hr o a1 a2 a6 a2 m3)
                    · refine qr_iconst o (q_dm dm_X11_court 52 rfl) ic_2 ?_
                      refine qr_iload o (q_dm dm_X11_court 53 rfl) rfl ?_
                      refine qr_imul o (q_dm dm_X11_court 54 rfl) ?_
                      refine qr_iload_n o (q_dm dm_X11_court 55 rfl) rfl ?_
                      refine qr_icmp_lt (tgt := 100) o (q_dm dm_X11_court 56 rfl) (by decide) ?_ ?_
                      · refine qr_iload o (q_dm dm_X11_court 59 rfl) rfl ?_
                        refine qr_iload_n o (q_dm dm_X11_court 60 rfl) rfl ?_
                        refine qr_iconst o (q_dm dm_X11_court 61 rfl) ic_m1 ?_
                        refine qr_ixor o (q_dm dm_X11_court 62 rfl) ?_
                        refine qr_iand o (q_dm dm_X11_court 63 rfl) ?_
                        exact qr_loc (q_leN (q_leS (q_leS (q_leS (q_leS (q_leN (q_leS (q_leN (q_leN (q_leN (q_leN q_le0))))))))))) (w_X11_court_106 n j r hj hr o a1 a2 a3 a4 a6 (x1 &&& (a2 ^^^ (-1 : Int32))) m3)
                      · refine qr_iload_n o (q_dm dm_X11_court 57 rfl) rfl ?_
                        refine qr_goto (tgt := 106) o (q_dm dm_X11_court 58 rfl) (by decide) ?_
                        exact qr_loc (q_leN (q_leS (q_leS (q_leS (q_leS (q_leN (q_leS (q_leN (q_leN (q_leN (q_leN q_le0))))))))))) (w_X11_court_106 n j r hj hr o a1 a2 a3 a4 a6 a2 m3)
                  · refine qr_iconst o (q_dm dm_X11_court 42 rfl) ic_m1 ?_
                    exact qr_iret o rfl rfl (q_dm dm_X11_court 43 rfl)
            · refine qr_iconst o (q_dm dm_X11_court 16 rfl) ic_m1 ?_
              exact qr_iret o rfl rfl (q_dm dm_X11_court 17 rfl)

theorem a_X11_court (g : qG) (l : Launch) (n : Nat) (j r : Nat) (hj : q_isLaw j) (hr : q_isLaw r) (a1 a2 a3 a4 a5 a6 : Int32) (M : qM) : qAM g l 1 zX11_court (qL j r) [.inr (some 0), .inl a1, .inl a2, .inl a3, .inl a4, .inl a5, .inl a6] (qL j r, M) (f_X11_court n a1 a2 a3 a4 a5 a6 M) :=
  qAM.of zv_X11_court.1 (by show 7 ≤ 11; decide) (fun k hk o => w_X11_court n j r hj hr o a1 a2 a3 a4 a5 a6 M)
def tb_X11_days : List (Nat × Instr × Nat) := [(0, (.iload_n 1, 1)), (1, (.iconst 1, 1)), (2, (.if_icmp .lt 9, 3)), (5, (.iload_n 1, 1)), (6, (.bipush 60, 2)), (8, (.if_icmp .le 5, 3)), (11, (.iconst (-1), 1)), (12, (.ireturn, 1)), (13, (.aload_n 0, 1)), (14, (.getfield 50, 3)), (17, (.aload_n 0, 1)), (18, (.getfield 26, 3)), (21, (.iload_n 1, 1)), (22, (.invokevirtual 152, 3)), (25, (.aload_n 0, 1)), (26, (.getfield 50, 3)), (29, (.getfield 156, 3)), (32, (.ireturn, 1))]
theorem dm_X11_days : ∀ q ∈ tb_X11_days, decode zX11_days.2.1 q.1 = .ok q.2 := by decide +kernel
def f_X11_days (n : Nat) (j : Nat) (a1 : Int32) (M : qM) : qR :=
  (if a1 < (1 : Int32) then some ((-1 : Int32), M) else (if a1 ≤ (60 : Int32) then qc (f_X0_goDays n 7 j a1 M) (fun _ m1 => some ((m1 44 5), m1)) else some ((-1 : Int32), M)))
set_option maxRecDepth 4000 in
theorem w_X11_days {g : qG} {k : qK} (n : Nat) (j r : Nat) (hj : q_isLaw j) (hr : q_isLaw r) (o : qOk g 7 zX11_days k) (a1 : Int32) (M : qM) : qAE g k zX11_days (qL j r) 0 [some (.inr (some 0)), some (.inl a1)] [] (qL j r, M) (f_X11_days n j a1 M) := by
  unfold f_X11_days
  refine qr_iload_n o (q_dm dm_X11_days 0 rfl) rfl ?_
  refine qr_iconst o (q_dm dm_X11_days 1 rfl) ic_1 ?_
  refine qr_icmp_lt (tgt := 11) o (q_dm dm_X11_days 2 rfl) (by decide) ?_ ?_
  · refine qr_iconst o (q_dm dm_X11_days 6 rfl) ic_m1 ?_
    exact qr_iret o rfl rfl (q_dm dm_X11_days 7 rfl)
  · refine qr_iload_n o (q_dm dm_X11_days 3 rfl) rfl ?_
    refine qr_bipush o (q_dm dm_X11_days 4 rfl) bi_60 ?_
    refine qr_icmp_le (tgt := 13) o (q_dm dm_X11_days 5 rfl) (by decide) ?_ ?_
    · refine qr_aload_n o (q_dm dm_X11_days 8 rfl) rfl ?_
      refine qr_getr (kf := 6) o cf_X11 (sh0 j r) rfl (Nat.le_of_ble_eq_true rfl) fl_X11_50 (q_dm dm_X11_days 9 rfl) ?_
      refine qr_aload_n o (q_dm dm_X11_days 10 rfl) rfl ?_
      refine qr_getr (kf := 2) o cf_X11 (sh0 j r) rfl (Nat.le_of_ble_eq_true rfl) fl_X11_26 (q_dm dm_X11_days 11 rfl) ?_
      refine qr_iload_n o (q_dm dm_X11_days 12 rfl) rfl ?_
      refine qr_callv_v (As := [.inr (some 7), .inl a1]) (S := []) o (a_X0_goDays g k.2.1 n j r hj hr (Or.inl rfl) a1 M) (Nat.le_of_ble_eq_true rfl) zv_X0_goDays rfl cf_X0 (sh44 j r) ml_X11_152 (Nat.le_of_ble_eq_true rfl) (q_dm dm_X11_days 13 rfl) (fun _ m1 => ?_)
      refine qr_aload_n o (q_dm dm_X11_days 14 rfl) rfl ?_
      refine qr_getr (kf := 6) o cf_X11 (sh0 j r) rfl (Nat.le_of_ble_eq_true rfl) fl_X11_50 (q_dm dm_X11_days 15 rfl) ?_
      refine qr_getf (kf := 5) o cf_X0 (sh44 j r) rfl (Nat.le_of_ble_eq_true rfl) fl_X11_156 (q_dm dm_X11_days 16 rfl) ?_
      exact qr_iret o rfl rfl (q_dm dm_X11_days 17 rfl)
    · refine qr_iconst o (q_dm dm_X11_days 6 rfl) ic_m1 ?_
      exact qr_iret o rfl rfl (q_dm dm_X11_days 7 rfl)

theorem a_X11_days (g : qG) (l : Launch) (n : Nat) (j r : Nat) (hj : q_isLaw j) (hr : q_isLaw r) (a1 : Int32) (M : qM) : qAM g l 7 zX11_days (qL j r) [.inr (some 0), .inl a1] (qL j r, M) (f_X11_days n j a1 M) :=
  qAM.of zv_X11_days.1 (by show 2 ≤ 2; decide) (fun k hk o => w_X11_days n j r hj hr o a1 M)
def tb_X9_put : List (Nat × Instr × Nat) := [(0, (.bipush 24, 2)), (2, (.istore_n 2, 1)), (3, (.iload_n 2, 1)), (4, (.ifCond .lt 45, 3)), (7, (.aload_n 0, 1)), (8, (.getfield 15, 3)), (11, (.sipush 260, 3)), (14, (.if_icmp .ge 35, 3)), (17, (.aload_n 0, 1)), (18, (.getfield 9, 3)), (21, (.aload_n 0, 1)), (22, (.getfield 15, 3)), (25, (.iload_n 1, 1)), (26, (.iload_n 2, 1)), (27, (.ishr, 1)), (28, (.sipush 255, 3)), (31, (.iand, 1)), (32, (.iastore, 1)), (33, (.aload_n 0, 1)), (34, (.dup, 1)), (35, (.getfield 15, 3)), (38, (.iconst 1, 1)), (39, (.iadd, 1)), (40, (.putfield 15, 3)), (43, (.iinc 2 (-8), 3)), (46, (.goto (-43), 3)), (49, (.return_, 1))]
theorem dm_X9_put : ∀ q ∈ tb_X9_put, decode zX9_put.2.1 q.1 = .ok q.2 := by decide +kernel
def b_X9_put_3 (n : Nat) (K3 : Int32 → Int32 → qM → qR) (a1 a2 : Int32) (M : qM) : qR :=
  (if a2 < (0 : Int32) then some (0, M) else (if (260 : Int32) ≤ (M 1 1) then some (0, M) else qg (M 1 1) 260 (qlm (mu M 2 (M 1 1).toNatClampNeg ((a1 >>> (a2 &&& 31)) &&& (255 : Int32))) (fun m1 => qlm (mu m1 1 1 ((m1 1 1) + (1 : Int32))) (fun m2 => ql (a2 + (-8 : Int32)) (fun x3 => K3 a1 x3 m2))))))
set_option maxRecDepth 4000 in
theorem wb_X9_put_3 {g : qG} {k : qK} (n : Nat) (j r : Nat) (hj : q_isLaw j) (hr : q_isLaw r) (o : qOk g 0 zX9_put k) (K3 : Int32 → Int32 → qM → qR) (hK3 : ∀ (a1 a2 : Int32) (M : qM), qAE g k zX9_put (qL j r) 3 [some (.inr (some 1)), some (.inl a1), some (.inl a2)] [] (qL j r, M) (K3 a1 a2 M)) (a1 a2 : Int32) (M : qM) : qAE g k zX9_put (qL j r) 3 [some (.inr (some 1)), some (.inl a1), some (.inl a2)] [] (qL j r, M) (b_X9_put_3 n K3 a1 a2 M) := by
  unfold b_X9_put_3
  refine qr_iload_n o (q_dm dm_X9_put 2 rfl) rfl ?_
  refine qr_if_lt (tgt := 49) o (q_dm dm_X9_put 3 rfl) (by decide) ?_ ?_
  · exact qr_vret o rfl (q_dm dm_X9_put 26 rfl)
  · refine qr_aload_n o (q_dm dm_X9_put 4 rfl) rfl ?_
    refine qr_getf (kf := 1) o cf_X9 (sh1 j r) rfl (Nat.le_of_ble_eq_true rfl) fl_X9_15 (q_dm dm_X9_put 5 rfl) ?_
    refine qr_sipush o (q_dm dm_X9_put 6 rfl) si_260 ?_
    refine qr_icmp_ge (tgt := 49) o (q_dm dm_X9_put 7 rfl) (by decide) ?_ ?_
    · exact qr_vret o rfl (q_dm dm_X9_put 26 rfl)
    · refine qr_aload_n o (q_dm dm_X9_put 8 rfl) rfl ?_
      refine qr_getr (kf := 0) o cf_X9 (sh1 j r) rfl (Nat.le_of_ble_eq_true rfl) fl_X9_9 (q_dm dm_X9_put 9 rfl) ?_
      refine qr_aload_n o (q_dm dm_X9_put 10 rfl) rfl ?_
      refine qr_getf (kf := 1) o cf_X9 (sh1 j r) rfl (Nat.le_of_ble_eq_true rfl) fl_X9_15 (q_dm dm_X9_put 11 rfl) ?_
      refine qr_iload_n o (q_dm dm_X9_put 12 rfl) rfl ?_
      refine qr_iload_n o (q_dm dm_X9_put 13 rfl) rfl ?_
      refine qr_ishr o (q_dm dm_X9_put 14 rfl) ?_
      refine qr_sipush o (q_dm dm_X9_put 15 rfl) si_255 ?_
      refine qr_iand o (q_dm dm_X9_put 16 rfl) ?_
      refine qr_iast o (sh2 j r) (q_dm dm_X9_put 17 rfl) ?_
      refine qr_letm (fun m1 => ?_)
      refine qr_aload_n o (q_dm dm_X9_put 18 rfl) rfl ?_
      refine qr_dup o (q_dm dm_X9_put 19 rfl) ?_
      refine qr_getf (kf := 1) o cf_X9 (sh1 j r) rfl (Nat.le_of_ble_eq_true rfl) fl_X9_15 (q_dm dm_X9_put 20 rfl) ?_
      refine qr_iconst o (q_dm dm_X9_put 21 rfl) ic_1 ?_
      refine qr_iadd o (q_dm dm_X9_put 22 rfl) ?_
      refine qr_putf (kf := 1) o cf_X9 (sh1 j r) rfl (Nat.le_of_ble_eq_true rfl) fl_X9_15 rfl (by decide +kernel) (q_dm dm_X9_put 23 rfl) ?_
      refine qr_letm (fun m2 => ?_)
      refine qs_iincl2 (L' := fun x3 => [some (.inr (some 1)), some (.inl a1), some (.inl x3)]) o (q_dm dm_X9_put 24 rfl) rfl ic_m8 (Nat.le_of_ble_eq_true rfl) (fun _ => rfl) (fun x3 => ?_)
      refine qr_goto (tgt := 3) o (q_dm dm_X9_put 25 rfl) (by decide) ?_
      exact qr_loc (q_leS (q_leS (q_leS q_le0))) (hK3 a1 x3 m2)

def f_X9_put_3 (n : Nat) : Nat → Int32 → Int32 → qM → qR
  | 0, _, _, _ => none
  | m + 1, a1, a2, M => b_X9_put_3 n (f_X9_put_3 n m) a1 a2 M
theorem w_X9_put_3 {g : qG} {k : qK} (n : Nat) (j r : Nat) (hj : q_isLaw j) (hr : q_isLaw r) (o : qOk g 0 zX9_put k) : ∀ (m : Nat) (a1 a2 : Int32) (M : qM), qAE g k zX9_put (qL j r) 3 [some (.inr (some 1)), some (.inl a1), some (.inl a2)] [] (qL j r, M) (f_X9_put_3 n m a1 a2 M) := by
  intro m
  induction m with
  | zero =>
    intro a1 a2 M
    exact qr_none
  | succ m ih =>
    intro a1 a2 M
    exact wb_X9_put_3 n j r hj hr o (f_X9_put_3 n m) ih a1 a2 M
def f_X9_put (n : Nat) (a1 : Int32) (M : qM) : qR :=
  f_X9_put_3 n n a1 (24 : Int32) M
set_option maxRecDepth 4000 in
theorem w_X9_put {g : qG} {k : qK} (n : Nat) (j r : Nat) (hj : q_isLaw j) (hr : q_isLaw r) (o : qOk g 0 zX9_put k) (a1 : Int32) (M : qM) : qAE g k zX9_put (qL j r) 0 [some (.inr (some 1)), some (.inl a1), none] [] (qL j r, M) (f_X9_put n a1 M) := by
  unfold f_X9_put
  refine qr_bipush o (q_dm dm_X9_put 0 rfl) bi_24 ?_
  refine qs_istore_n (L' := [some (.inr (some 1)), some (.inl a1), some (.inl (24 : Int32))]) o (q_dm dm_X9_put 1 rfl) (Nat.le_of_ble_eq_true rfl) rfl ?_
  exact qr_loc (q_leS (q_leS (q_leS q_le0))) (w_X9_put_3 n j r hj hr o n a1 (24 : Int32) M)

theorem a_X9_put (g : qG) (l : Launch) (n : Nat) (j r : Nat) (hj : q_isLaw j) (hr : q_isLaw r) (a1 : Int32) (M : qM) : qAM g l 0 zX9_put (qL j r) [.inr (some 1), .inl a1] (qL j r, M) (f_X9_put n a1 M) :=
  qAM.of zv_X9_put.1 (by show 2 ≤ 3; decide) (fun k hk o => w_X9_put n j r hj hr o a1 M)
def tb_X11_feed : List (Nat × Instr × Nat) := [(0, (.aload_n 0, 1)), (1, (.getfield 10, 3)), (4, (.getfield 112, 3)), (7, (.bipush 20, 2)), (9, (.iadd, 1)), (10, (.sipush 260, 3)), (13, (.if_icmp .le 5, 3)), (16, (.iconst (-1), 1)), (17, (.ireturn, 1)), (18, (.aload_n 0, 1)), (19, (.getfield 10, 3)), (22, (.iload_n 1, 1)), (23, (.invokevirtual 115, 3)), (26, (.aload_n 0, 1)), (27, (.getfield 10, 3)), (30, (.iload_n 2, 1)), (31, (.invokevirtual 115, 3)), (34, (.aload_n 0, 1)), (35, (.getfield 10, 3)), (38, (.iload_n 3, 1)), (39, (.invokevirtual 115, 3)), (42, (.aload_n 0, 1)), (43, (.getfield 10, 3)), (46, (.iload 4, 2)), (48, (.invokevirtual 115, 3)), (51, (.aload_n 0, 1)), (52, (.getfield 10, 3)), (55, (.iload 5, 2)), (57, (.invokevirtual 115, 3)), (60, (.aload_n 0, 1)), (61, (.getfield 10, 3)), (64, (.getfield 112, 3)), (67, (.ireturn, 1))]
theorem dm_X11_feed : ∀ q ∈ tb_X11_feed, decode zX11_feed.2.1 q.1 = .ok q.2 := by decide +kernel
def f_X11_feed (n : Nat) (a1 a2 a3 a4 a5 : Int32) (M : qM) : qR :=
  (if ((M 1 1) + (20 : Int32)) ≤ (260 : Int32) then qc (f_X9_put n a1 M) (fun _ m1 => qc (f_X9_put n a2 m1) (fun _ m2 => qc (f_X9_put n a3 m2) (fun _ m3 => qc (f_X9_put n a4 m3) (fun _ m4 => qc (f_X9_put n a5 m4) (fun _ m5 => some ((m5 1 1), m5)))))) else some ((-1 : Int32), M))
set_option maxRecDepth 4000 in
theorem w_X11_feed {g : qG} {k : qK} (n : Nat) (j r : Nat) (hj : q_isLaw j) (hr : q_isLaw r) (o : qOk g 1 zX11_feed k) (a1 a2 a3 a4 a5 : Int32) (M : qM) : qAE g k zX11_feed (qL j r) 0 [some (.inr (some 0)), some (.inl a1), some (.inl a2), some (.inl a3), some (.inl a4), some (.inl a5)] [] (qL j r, M) (f_X11_feed n a1 a2 a3 a4 a5 M) := by
  unfold f_X11_feed
  refine qr_aload_n o (q_dm dm_X11_feed 0 rfl) rfl ?_
  refine qr_getr (kf := 0) o cf_X11 (sh0 j r) rfl (Nat.le_of_ble_eq_true rfl) fl_X11_10 (q_dm dm_X11_feed 1 rfl) ?_
  refine qr_getf (kf := 1) o cf_X9 (sh1 j r) rfl (Nat.le_of_ble_eq_true rfl) fl_X11_112 (q_dm dm_X11_feed 2 rfl) ?_
  refine qr_bipush o (q_dm dm_X11_feed 3 rfl) bi_20 ?_
  refine qr_iadd o (q_dm dm_X11_feed 4 rfl) ?_
  refine qr_sipush o (q_dm dm_X11_feed 5 rfl) si_260 ?_
  refine qr_icmp_le (tgt := 18) o (q_dm dm_X11_feed 6 rfl) (by decide) ?_ ?_
  · refine qr_aload_n o (q_dm dm_X11_feed 9 rfl) rfl ?_
    refine qr_getr (kf := 0) o cf_X11 (sh0 j r) rfl (Nat.le_of_ble_eq_true rfl) fl_X11_10 (q_dm dm_X11_feed 10 rfl) ?_
    refine qr_iload_n o (q_dm dm_X11_feed 11 rfl) rfl ?_
    refine qr_callv_v (As := [.inl a1]) (S := []) o (a_X9_put g k.2.1 n j r hj hr a1 M) (Nat.le_of_ble_eq_true rfl) zv_X9_put rfl cf_X9 (sh1 j r) ml_X11_115 (Nat.le_of_ble_eq_true rfl) (q_dm dm_X11_feed 12 rfl) (fun _ m1 => ?_)
    refine qr_aload_n o (q_dm dm_X11_feed 13 rfl) rfl ?_
    refine qr_getr (kf := 0) o cf_X11 (sh0 j r) rfl (Nat.le_of_ble_eq_true rfl) fl_X11_10 (q_dm dm_X11_feed 14 rfl) ?_
    refine qr_iload_n o (q_dm dm_X11_feed 15 rfl) rfl ?_
    refine qr_callv_v (As := [.inl a2]) (S := []) o (a_X9_put g k.2.1 n j r hj hr a2 m1) (Nat.le_of_ble_eq_true rfl) zv_X9_put rfl cf_X9 (sh1 j r) ml_X11_115 (Nat.le_of_ble_eq_true rfl) (q_dm dm_X11_feed 16 rfl) (fun _ m2 => ?_)
    refine qr_aload_n o (q_dm dm_X11_feed 17 rfl) rfl ?_
    refine qr_getr (kf := 0) o cf_X11 (sh0 j r) rfl (Nat.le_of_ble_eq_true rfl) fl_X11_10 (q_dm dm_X11_feed 18 rfl) ?_
    refine qr_iload_n o (q_dm dm_X11_feed 19 rfl) rfl ?_
    refine qr_callv_v (As := [.inl a3]) (S := []) o (a_X9_put g k.2.1 n j r hj hr a3 m2) (Nat.le_of_ble_eq_true rfl) zv_X9_put rfl cf_X9 (sh1 j r) ml_X11_115 (Nat.le_of_ble_eq_true rfl) (q_dm dm_X11_feed 20 rfl) (fun _ m3 => ?_)
    refine qr_aload_n o (q_dm dm_X11_feed 21 rfl) rfl ?_
    refine qr_getr (kf := 0) o cf_X11 (sh0 j r) rfl (Nat.le_of_ble_eq_true rfl) fl_X11_10 (q_dm dm_X11_feed 22 rfl) ?_
    refine qr_iload o (q_dm dm_X11_feed 23 rfl) rfl ?_
    refine qr_callv_v (As := [.inl a4]) (S := []) o (a_X9_put g k.2.1 n j r hj hr a4 m3) (Nat.le_of_ble_eq_true rfl) zv_X9_put rfl cf_X9 (sh1 j r) ml_X11_115 (Nat.le_of_ble_eq_true rfl) (q_dm dm_X11_feed 24 rfl) (fun _ m4 => ?_)
    refine qr_aload_n o (q_dm dm_X11_feed 25 rfl) rfl ?_
    refine qr_getr (kf := 0) o cf_X11 (sh0 j r) rfl (Nat.le_of_ble_eq_true rfl) fl_X11_10 (q_dm dm_X11_feed 26 rfl) ?_
    refine qr_iload o (q_dm dm_X11_feed 27 rfl) rfl ?_
    refine qr_callv_v (As := [.inl a5]) (S := []) o (a_X9_put g k.2.1 n j r hj hr a5 m4) (Nat.le_of_ble_eq_true rfl) zv_X9_put rfl cf_X9 (sh1 j r) ml_X11_115 (Nat.le_of_ble_eq_true rfl) (q_dm dm_X11_feed 28 rfl) (fun _ m5 => ?_)
    refine qr_aload_n o (q_dm dm_X11_feed 29 rfl) rfl ?_
    refine qr_getr (kf := 0) o cf_X11 (sh0 j r) rfl (Nat.le_of_ble_eq_true rfl) fl_X11_10 (q_dm dm_X11_feed 30 rfl) ?_
    refine qr_getf (kf := 1) o cf_X9 (sh1 j r) rfl (Nat.le_of_ble_eq_true rfl) fl_X11_112 (q_dm dm_X11_feed 31 rfl) ?_
    exact qr_iret o rfl rfl (q_dm dm_X11_feed 32 rfl)
  · refine qr_iconst o (q_dm dm_X11_feed 7 rfl) ic_m1 ?_
    exact qr_iret o rfl rfl (q_dm dm_X11_feed 8 rfl)

theorem a_X11_feed (g : qG) (l : Launch) (n : Nat) (j r : Nat) (hj : q_isLaw j) (hr : q_isLaw r) (a1 a2 a3 a4 a5 : Int32) (M : qM) : qAM g l 1 zX11_feed (qL j r) [.inr (some 0), .inl a1, .inl a2, .inl a3, .inl a4, .inl a5] (qL j r, M) (f_X11_feed n a1 a2 a3 a4 a5 M) :=
  qAM.of zv_X11_feed.1 (by show 6 ≤ 6; decide) (fun k hk o => w_X11_feed n j r hj hr o a1 a2 a3 a4 a5 M)
def tb_X11_isHeap : List (Nat × Instr × Nat) := [(0, (.iload_n 0, 1)), (1, (.ifCond .lt 13, 3)), (4, (.iload_n 0, 1)), (5, (.bipush 7, 2)), (7, (.if_icmp .gt 7, 3)), (10, (.iconst 1, 1)), (11, (.goto 4, 3)), (14, (.iconst 0, 1)), (15, (.ireturn, 1))]
theorem dm_X11_isHeap : ∀ q ∈ tb_X11_isHeap, decode zX11_isHeap.2.1 q.1 = .ok q.2 := by decide +kernel
def f_X11_isHeap (n : Nat) (a0 : Int32) (M : qM) : qR :=
  (if a0 < (0 : Int32) then some ((0 : Int32), M) else (if (7 : Int32) < a0 then some ((0 : Int32), M) else some ((1 : Int32), M)))
set_option maxRecDepth 4000 in
theorem w_X11_isHeap {g : qG} {k : qK} (n : Nat) (j r : Nat) (hj : q_isLaw j) (hr : q_isLaw r) (o : qOk g 0 zX11_isHeap k) (a0 : Int32) (M : qM) : qAE g k zX11_isHeap (qL j r) 0 [some (.inl a0)] [] (qL j r, M) (f_X11_isHeap n a0 M) := by
  unfold f_X11_isHeap
  refine qr_iload_n o (q_dm dm_X11_isHeap 0 rfl) rfl ?_
  refine qr_if_lt (tgt := 14) o (q_dm dm_X11_isHeap 1 rfl) (by decide) ?_ ?_
  · refine qr_iconst o (q_dm dm_X11_isHeap 7 rfl) ic_0 ?_
    exact qr_iret o rfl (by decide) (q_dm dm_X11_isHeap 8 rfl)
  · refine qr_iload_n o (q_dm dm_X11_isHeap 2 rfl) rfl ?_
    refine qr_bipush o (q_dm dm_X11_isHeap 3 rfl) bi_7 ?_
    refine qr_icmp_gt (tgt := 14) o (q_dm dm_X11_isHeap 4 rfl) (by decide) ?_ ?_
    · refine qr_iconst o (q_dm dm_X11_isHeap 7 rfl) ic_0 ?_
      exact qr_iret o rfl (by decide) (q_dm dm_X11_isHeap 8 rfl)
    · refine qr_iconst o (q_dm dm_X11_isHeap 5 rfl) ic_1 ?_
      refine qr_goto (tgt := 15) o (q_dm dm_X11_isHeap 6 rfl) (by decide) ?_
      exact qr_iret o rfl (by decide) (q_dm dm_X11_isHeap 8 rfl)

theorem a_X11_isHeap (g : qG) (l : Launch) (n : Nat) (j r : Nat) (hj : q_isLaw j) (hr : q_isLaw r) (a0 : Int32) (M : qM) : qAM g l 0 zX11_isHeap (qL j r) [.inl a0] (qL j r, M) (f_X11_isHeap n a0 M) :=
  qAM.of zs_X11_isHeap.1 (by show 1 ≤ 1; decide) (fun k hk o => w_X11_isHeap n j r hj hr o a0 M)
def tb_X11_game : List (Nat × Instr × Nat) := [(0, (.iload_n 1, 1)), (1, (.invokestatic 259, 3)), (4, (.ifCond .eq 28, 3)), (7, (.iload_n 2, 1)), (8, (.invokestatic 259, 3)), (11, (.ifCond .eq 21, 3)), (14, (.iload_n 3, 1)), (15, (.invokestatic 259, 3)), (18, (.ifCond .eq 14, 3)), (21, (.iload 6, 2)), (23, (.ifCond .lt 9, 3)), (26, (.iload 6, 2)), (28, (.iconst 1, 1)), (29, (.if_icmp .le 5, 3)), (32, (.iconst (-1), 1)), (33, (.ireturn, 1)), (34, (.iload_n 1, 1)), (35, (.iload_n 2, 1)), (36, (.iconst 3, 1)), (37, (.ishl, 1)), (38, (.ior, 1)), (39, (.iload_n 3, 1)), (40, (.bipush 6, 2)), (42, (.ishl, 1)), (43, (.ior, 1)), (44, (.iload 4, 2)), (46, (.iload 5, 2)), (48, (.invokestatic 262, 3)), (51, (.istore 7, 2)), (53, (.iload 6, 2)), (55, (.iconst 1, 1)), (56, (.if_icmp .ne 6, 3)), (59, (.iload 7, 2)), (61, (.ireturn, 1)), (62, (.iload 7, 2)), (64, (.bipush (-2), 2)), (66, (.if_icmp .ne 7, 3)), (69, (.iconst 0, 1)), (70, (.goto 4, 3)), (73, (.iconst 1, 1)), (74, (.ireturn, 1))]
theorem dm_X11_game : ∀ q ∈ tb_X11_game, decode zX11_game.2.1 q.1 = .ok q.2 := by decide +kernel
def f_X11_game (n : Nat) (a1 a2 a3 a4 a5 a6 : Int32) (M : qM) : qR :=
  qc (f_X11_isHeap n a1 M) (fun r1 m2 => (if r1 = (0 : Int32) then some ((-1 : Int32), m2) else qc (f_X11_isHeap n a2 m2) (fun r3 m4 => (if r3 = (0 : Int32) then some ((-1 : Int32), m4) else qc (f_X11_isHeap n a3 m4) (fun r5 m6 => (if r5 = (0 : Int32) then some ((-1 : Int32), m6) else (if a6 < (0 : Int32) then some ((-1 : Int32), m6) else (if a6 ≤ (1 : Int32) then qc (f_X11_bestMove n ((a1 ||| (a2 <<< ((3 : Int32) &&& 31))) ||| (a3 <<< ((6 : Int32) &&& 31))) a4 a5 m6) (fun r7 m8 => (if a6 = (1 : Int32) then some (r7, m8) else (if r7 = (-2 : Int32) then some ((0 : Int32), m8) else some ((1 : Int32), m8)))) else some ((-1 : Int32), m6)))))))))
set_option maxRecDepth 4000 in
theorem w_X11_game {g : qG} {k : qK} (n : Nat) (j r : Nat) (hj : q_isLaw j) (hr : q_isLaw r) (o : qOk g 2 zX11_game k) (a1 a2 a3 a4 a5 a6 : Int32) (M : qM) : qAE g k zX11_game (qL j r) 0 [some (.inr (some 0)), some (.inl a1), some (.inl a2), some (.inl a3), some (.inl a4), some (.inl a5), some (.inl a6), none] [] (qL j r, M) (f_X11_game n a1 a2 a3 a4 a5 a6 M) := by
  unfold f_X11_game
  refine qr_iload_n o (q_dm dm_X11_game 0 rfl) rfl ?_
  refine qr_calls_i (As := [.inl a1]) (S := []) o (a_X11_isHeap g k.2.1 n j r hj hr a1 M) (Nat.le_of_ble_eq_true rfl) zs_X11_isHeap rfl ml_X11_259 (Nat.le_of_ble_eq_true rfl) (q_dm dm_X11_game 1 rfl) (fun r1 m2 => ?_)
  refine qr_if_eq (tgt := 32) o (q_dm dm_X11_game 2 rfl) (by decide) ?_ ?_
  · refine qr_iconst o (q_dm dm_X11_game 14 rfl) ic_m1 ?_
    exact qr_iret o rfl rfl (q_dm dm_X11_game 15 rfl)
  · refine qr_iload_n o (q_dm dm_X11_game 3 rfl) rfl ?_
    refine qr_calls_i (As := [.inl a2]) (S := []) o (a_X11_isHeap g k.2.1 n j r hj hr a2 m2) (Nat.le_of_ble_eq_true rfl) zs_X11_isHeap rfl ml_X11_259 (Nat.le_of_ble_eq_true rfl) (q_dm dm_X11_game 4 rfl) (fun r3 m4 => ?_)
    refine qr_if_eq (tgt := 32) o (q_dm dm_X11_game 5 rfl) (by decide) ?_ ?_
    · refine qr_iconst o (q_dm dm_X11_game 14 rfl) ic_m1 ?_
      exact qr_iret o rfl rfl (q_dm dm_X11_game 15 rfl)
    · refine qr_iload_n o (q_dm dm_X11_game 6 rfl) rfl ?_
      refine qr_calls_i (As := [.inl a3]) (S := []) o (a_X11_isHeap g k.2.1 n j r hj hr a3 m4) (Nat.le_of_ble_eq_true rfl) zs_X11_isHeap rfl ml_X11_259 (Nat.le_of_ble_eq_true rfl) (q_dm dm_X11_game 7 rfl) (fun r5 m6 => ?_)
      refine qr_if_eq (tgt := 32) o (q_dm dm_X11_game 8 rfl) (by decide) ?_ ?_
      · refine qr_iconst o (q_dm dm_X11_game 14 rfl) ic_m1 ?_
        exact qr_iret o rfl rfl (q_dm dm_X11_game 15 rfl)
      · refine qr_iload o (q_dm dm_X11_game 9 rfl) rfl ?_
        refine qr_if_lt (tgt := 32) o (q_dm dm_X11_game 10 rfl) (by decide) ?_ ?_
        · refine qr_iconst o (q_dm dm_X11_game 14 rfl) ic_m1 ?_
          exact qr_iret o rfl rfl (q_dm dm_X11_game 15 rfl)
        · refine qr_iload o (q_dm dm_X11_game 11 rfl) rfl ?_
          refine qr_iconst o (q_dm dm_X11_game 12 rfl) ic_1 ?_
          refine qr_icmp_le (tgt := 34) o (q_dm dm_X11_game 13 rfl) (by decide) ?_ ?_
          · refine qr_iload_n o (q_dm dm_X11_game 16 rfl) rfl ?_
            refine qr_iload_n o (q_dm dm_X11_game 17 rfl) rfl ?_
            refine qr_iconst o (q_dm dm_X11_game 18 rfl) ic_3 ?_
            refine qr_ishl o (q_dm dm_X11_game 19 rfl) ?_
            refine qr_ior o (q_dm dm_X11_game 20 rfl) ?_
            refine qr_iload_n o (q_dm dm_X11_game 21 rfl) rfl ?_
            refine qr_bipush o (q_dm dm_X11_game 22 rfl) bi_6 ?_
            refine qr_ishl o (q_dm dm_X11_game 23 rfl) ?_
            refine qr_ior o (q_dm dm_X11_game 24 rfl) ?_
            refine qr_iload o (q_dm dm_X11_game 25 rfl) rfl ?_
            refine qr_iload o (q_dm dm_X11_game 26 rfl) rfl ?_
            refine qr_calls_i (As := [.inl ((a1 ||| (a2 <<< ((3 : Int32) &&& 31))) ||| (a3 <<< ((6 : Int32) &&& 31))), .inl a4, .inl a5]) (S := []) o (a_X11_bestMove g k.2.1 n j r hj hr ((a1 ||| (a2 <<< ((3 : Int32) &&& 31))) ||| (a3 <<< ((6 : Int32) &&& 31))) a4 a5 m6) (Nat.le_of_ble_eq_true rfl) zs_X11_bestMove rfl ml_X11_262 (Nat.le_of_ble_eq_true rfl) (q_dm dm_X11_game 27 rfl) (fun r7 m8 => ?_)
            refine qs_istore (L' := [some (.inr (some 0)), some (.inl a1), some (.inl a2), some (.inl a3), some (.inl a4), some (.inl a5), some (.inl a6), some (.inl r7)]) o (q_dm dm_X11_game 28 rfl) (Nat.le_of_ble_eq_true rfl) rfl ?_
            refine qr_iload o (q_dm dm_X11_game 29 rfl) rfl ?_
            refine qr_iconst o (q_dm dm_X11_game 30 rfl) ic_1 ?_
            refine qr_icmp_ne (tgt := 62) o (q_dm dm_X11_game 31 rfl) (by decide) ?_ ?_
            · refine qr_iload o (q_dm dm_X11_game 34 rfl) rfl ?_
              refine qr_bipush o (q_dm dm_X11_game 35 rfl) bi_m2 ?_
              refine qr_icmp_ne (tgt := 73) o (q_dm dm_X11_game 36 rfl) (by decide) ?_ ?_
              · refine qr_iconst o (q_dm dm_X11_game 39 rfl) ic_1 ?_
                exact qr_iret o rfl rfl (q_dm dm_X11_game 40 rfl)
              · refine qr_iconst o (q_dm dm_X11_game 37 rfl) ic_0 ?_
                refine qr_goto (tgt := 74) o (q_dm dm_X11_game 38 rfl) (by decide) ?_
                exact qr_iret o rfl rfl (q_dm dm_X11_game 40 rfl)
            · refine qr_iload o (q_dm dm_X11_game 32 rfl) rfl ?_
              exact qr_iret o rfl rfl (q_dm dm_X11_game 33 rfl)
          · refine qr_iconst o (q_dm dm_X11_game 14 rfl) ic_m1 ?_
            exact qr_iret o rfl rfl (q_dm dm_X11_game 15 rfl)

theorem a_X11_game (g : qG) (l : Launch) (n : Nat) (j r : Nat) (hj : q_isLaw j) (hr : q_isLaw r) (a1 a2 a3 a4 a5 a6 : Int32) (M : qM) : qAM g l 2 zX11_game (qL j r) [.inr (some 0), .inl a1, .inl a2, .inl a3, .inl a4, .inl a5, .inl a6] (qL j r, M) (f_X11_game n a1 a2 a3 a4 a5 a6 M) :=
  qAM.of zv_X11_game.1 (by show 7 ≤ 8; decide) (fun k hk o => w_X11_game n j r hj hr o a1 a2 a3 a4 a5 a6 M)
def tb_X11_has : List (Nat × Instr × Nat) := [(0, (.aload_n 0, 1)), (1, (.getfield 26, 3)), (4, (.iload_n 1, 1)), (5, (.invokevirtual 131, 3)), (8, (.ifCond .eq 23, 3)), (11, (.aload_n 0, 1)), (12, (.getfield 19, 3)), (15, (.iload_n 2, 1)), (16, (.invokevirtual 140, 3)), (19, (.ifCond .eq 12, 3)), (22, (.iload_n 3, 1)), (23, (.ifCond .lt 8, 3)), (26, (.iload_n 3, 1)), (27, (.iconst 5, 1)), (28, (.if_icmp .le 5, 3)), (31, (.iconst (-1), 1)), (32, (.ireturn, 1)), (33, (.iload_n 1, 1)), (34, (.bipush 12, 2)), (36, (.imul, 1)), (37, (.iload_n 2, 1)), (38, (.iadd, 1)), (39, (.istore 4, 2)), (41, (.iload_n 3, 1)), (42, (.ifCond .ne 14, 3)), (45, (.aload_n 0, 1)), (46, (.getfield 26, 3)), (49, (.getfield 169, 3)), (52, (.iload 4, 2)), (54, (.iaload, 1)), (55, (.ireturn, 1)), (56, (.iload_n 3, 1)), (57, (.iconst 1, 1)), (58, (.if_icmp .ne 14, 3)), (61, (.aload_n 0, 1)), (62, (.getfield 26, 3)), (65, (.getfield 172, 3)), (68, (.iload 4, 2)), (70, (.iaload, 1)), (71, (.ireturn, 1)), (72, (.iload_n 3, 1)), (73, (.iconst 2, 1)), (74, (.if_icmp .ne 32, 3)), (77, (.aload_n 0, 1)), (78, (.getfield 26, 3)), (81, (.getfield 169, 3)), (84, (.iload 4, 2)), (86, (.iaload, 1)), (87, (.ifCond .le 16, 3)), (90, (.aload_n 0, 1)), (91, (.getfield 26, 3)), (94, (.getfield 175, 3)), (97, (.iload 4, 2)), (99, (.iaload, 1)), (100, (.goto 5, 3)), (103, (.bipush (-2), 2)), (105, (.ireturn, 1)), (106, (.aload_n 0, 1)), (107, (.getfield 33, 3)), (110, (.aload_n 0, 1)), (111, (.getfield 26, 3)), (114, (.invokevirtual 159, 3)), (117, (.aload_n 0, 1)), (118, (.getfield 50, 3)), (121, (.aload_n 0, 1)), (122, (.getfield 33, 3)), (125, (.iload_n 1, 1)), (126, (.iload_n 2, 1)), (127, (.bipush 8, 2)), (129, (.invokevirtual 141, 3)), (132, (.istore 5, 2)), (134, (.iload_n 3, 1)), (135, (.iconst 3, 1)), (136, (.if_icmp .ne 11, 3)), (139, (.aload_n 0, 1)), (140, (.getfield 50, 3)), (143, (.getfield 178, 3)), (146, (.ireturn, 1)), (147, (.iload_n 3, 1)), (148, (.iconst 4, 1)), (149, (.if_icmp .ne 11, 3)), (152, (.aload_n 0, 1)), (153, (.getfield 50, 3)), (156, (.getfield 181, 3)), (159, (.ireturn, 1)), (160, (.iload 5, 2)), (162, (.iconst 1, 1)), (163, (.if_icmp .ne 7, 3)), (166, (.iconst 1, 1)), (167, (.goto 4, 3)), (170, (.iconst 0, 1)), (171, (.ireturn, 1))]
theorem dm_X11_has : ∀ q ∈ tb_X11_has, decode zX11_has.2.1 q.1 = .ok q.2 := by decide +kernel
def f_X11_has (n : Nat) (j : Nat) (a1 a2 a3 : Int32) (M : qM) : qR :=
  qc (f_X10_knows n 7 a1 M) (fun r1 m2 => (if r1 = (0 : Int32) then some ((-1 : Int32), m2) else qc (f_X2_knows n a2 m2) (fun r3 m4 => (if r3 = (0 : Int32) then some ((-1 : Int32), m4) else (if a3 < (0 : Int32) then some ((-1 : Int32), m4) else (if a3 ≤ (5 : Int32) then ql ((a1 * (12 : Int32)) + a2) (fun x5 => (if a3 = (0 : Int32) then qg x5 96 (some ((m4 9 x5.toNatClampNeg), m4)) else (if a3 = (1 : Int32) then qg x5 96 (some ((m4 11 x5.toNatClampNeg), m4)) else (if a3 = (2 : Int32) then qg x5 96 ((if (m4 9 x5.toNatClampNeg) ≤ (0 : Int32) then some ((-2 : Int32), m4) else qg x5 96 (some ((m4 10 x5.toNatClampNeg), m4)))) else qc (f_X10_copy n 25 7 m4) (fun _ m6 => qc (f_X0_attempt n 25 j a1 a2 (8 : Int32) m6) (fun r7 m8 => (if a3 = (3 : Int32) then some ((m8 44 2), m8) else (if a3 = (4 : Int32) then some ((m8 44 3), m8) else (if r7 = (1 : Int32) then some ((1 : Int32), m8) else some ((0 : Int32), m8)))))))))) else some ((-1 : Int32), m4)))))))
set_option maxRecDepth 4000 in
theorem w_X11_has {g : qG} {k : qK} (n : Nat) (j r : Nat) (hj : q_isLaw j) (hr : q_isLaw r) (o : qOk g 5 zX11_has k) (a1 a2 a3 : Int32) (M : qM) : qAE g k zX11_has (qL j r) 0 [some (.inr (some 0)), some (.inl a1), some (.inl a2), some (.inl a3), none, none] [] (qL j r, M) (f_X11_has n j a1 a2 a3 M) := by
  unfold f_X11_has
  refine qr_aload_n o (q_dm dm_X11_has 0 rfl) rfl ?_
  refine qr_getr (kf := 2) o cf_X11 (sh0 j r) rfl (Nat.le_of_ble_eq_true rfl) fl_X11_26 (q_dm dm_X11_has 1 rfl) ?_
  refine qr_iload_n o (q_dm dm_X11_has 2 rfl) rfl ?_
  refine qr_callv_i (As := [.inl a1]) (S := []) o (a_X10_knows g k.2.1 n j r hj hr (Or.inl rfl) a1 M) (Nat.le_of_ble_eq_true rfl) zv_X10_knows rfl cf_X10 (sh7 j r) ml_X11_131 (Nat.le_of_ble_eq_true rfl) (q_dm dm_X11_has 3 rfl) (fun r1 m2 => ?_)
  refine qr_if_eq (tgt := 31) o (q_dm dm_X11_has 4 rfl) (by decide) ?_ ?_
  · refine qr_iconst o (q_dm dm_X11_has 15 rfl) ic_m1 ?_
    exact qr_iret o rfl rfl (q_dm dm_X11_has 16 rfl)
  · refine qr_aload_n o (q_dm dm_X11_has 5 rfl) rfl ?_
    refine qr_getr (kf := 1) o cf_X11 (sh0 j r) rfl (Nat.le_of_ble_eq_true rfl) fl_X11_19 (q_dm dm_X11_has 6 rfl) ?_
    refine qr_iload_n o (q_dm dm_X11_has 7 rfl) rfl ?_
    refine qr_callv_i (As := [.inl a2]) (S := []) o (a_X2_knows g k.2.1 n j r hj hr a2 m2) (Nat.le_of_ble_eq_true rfl) zv_X2_knows rfl cf_X2 (sh3 j r) ml_X11_140 (Nat.le_of_ble_eq_true rfl) (q_dm dm_X11_has 8 rfl) (fun r3 m4 => ?_)
    refine qr_if_eq (tgt := 31) o (q_dm dm_X11_has 9 rfl) (by decide) ?_ ?_
    · refine qr_iconst o (q_dm dm_X11_has 15 rfl) ic_m1 ?_
      exact qr_iret o rfl rfl (q_dm dm_X11_has 16 rfl)
    · refine qr_iload_n o (q_dm dm_X11_has 10 rfl) rfl ?_
      refine qr_if_lt (tgt := 31) o (q_dm dm_X11_has 11 rfl) (by decide) ?_ ?_
      · refine qr_iconst o (q_dm dm_X11_has 15 rfl) ic_m1 ?_
        exact qr_iret o rfl rfl (q_dm dm_X11_has 16 rfl)
      · refine qr_iload_n o (q_dm dm_X11_has 12 rfl) rfl ?_
        refine qr_iconst o (q_dm dm_X11_has 13 rfl) ic_5 ?_
        refine qr_icmp_le (tgt := 33) o (q_dm dm_X11_has 14 rfl) (by decide) ?_ ?_
        · refine qr_iload_n o (q_dm dm_X11_has 17 rfl) rfl ?_
          refine qr_bipush o (q_dm dm_X11_has 18 rfl) bi_12 ?_
          refine qr_imul o (q_dm dm_X11_has 19 rfl) ?_
          refine qr_iload_n o (q_dm dm_X11_has 20 rfl) rfl ?_
          refine qr_iadd o (q_dm dm_X11_has 21 rfl) ?_
          refine qr_lt (fun x5 => ?_)
          refine qs_istore (L' := [some (.inr (some 0)), some (.inl a1), some (.inl a2), some (.inl a3), some (.inl x5), none]) o (q_dm dm_X11_has 22 rfl) (Nat.le_of_ble_eq_true rfl) rfl ?_
          refine qr_iload_n o (q_dm dm_X11_has 23 rfl) rfl ?_
          refine qr_if_ne (tgt := 56) o (q_dm dm_X11_has 24 rfl) (by decide) ?_ ?_
          · refine qr_iload_n o (q_dm dm_X11_has 31 rfl) rfl ?_
            refine qr_iconst o (q_dm dm_X11_has 32 rfl) ic_1 ?_
            refine qr_icmp_ne (tgt := 72) o (q_dm dm_X11_has 33 rfl) (by decide) ?_ ?_
            · refine qr_iload_n o (q_dm dm_X11_has 40 rfl) rfl ?_
              refine qr_iconst o (q_dm dm_X11_has 41 rfl) ic_2 ?_
              refine qr_icmp_ne (tgt := 106) o (q_dm dm_X11_has 42 rfl) (by decide) ?_ ?_
              · refine qr_aload_n o (q_dm dm_X11_has 57 rfl) rfl ?_
                refine qr_getr (kf := 4) o cf_X11 (sh0 j r) rfl (Nat.le_of_ble_eq_true rfl) fl_X11_33 (q_dm dm_X11_has 58 rfl) ?_
                refine qr_aload_n o (q_dm dm_X11_has 59 rfl) rfl ?_
                refine qr_getr (kf := 2) o cf_X11 (sh0 j r) rfl (Nat.le_of_ble_eq_true rfl) fl_X11_26 (q_dm dm_X11_has 60 rfl) ?_
                refine qr_callv_v (As := [.inr (some 7)]) (S := []) o (a_X10_copy g k.2.1 n j r hj hr (Or.inr (Or.inr rfl)) (Or.inl rfl) m4) (Nat.le_of_ble_eq_true rfl) zv_X10_copy rfl cf_X10 (sh25 j r) ml_X11_159 (Nat.le_of_ble_eq_true rfl) (q_dm dm_X11_has 61 rfl) (fun _ m6 => ?_)
                refine qr_aload_n o (q_dm dm_X11_has 62 rfl) rfl ?_
                refine qr_getr (kf := 6) o cf_X11 (sh0 j r) rfl (Nat.le_of_ble_eq_true rfl) fl_X11_50 (q_dm dm_X11_has 63 rfl) ?_
                refine qr_aload_n o (q_dm dm_X11_has 64 rfl) rfl ?_
                refine qr_getr (kf := 4) o cf_X11 (sh0 j r) rfl (Nat.le_of_ble_eq_true rfl) fl_X11_33 (q_dm dm_X11_has 65 rfl) ?_
                refine qr_iload_n o (q_dm dm_X11_has 66 rfl) rfl ?_
                refine qr_iload_n o (q_dm dm_X11_has 67 rfl) rfl ?_
                refine qr_bipush o (q_dm dm_X11_has 68 rfl) bi_8 ?_
                refine qr_callv_i (As := [.inr (some 25), .inl a1, .inl a2, .inl (8 : Int32)]) (S := []) o (a_X0_attempt g k.2.1 n j r hj hr (Or.inr (Or.inr rfl)) a1 a2 (8 : Int32) m6) (Nat.le_of_ble_eq_true rfl) zv_X0_attempt rfl cf_X0 (sh44 j r) ml_X11_141 (Nat.le_of_ble_eq_true rfl) (q_dm dm_X11_has 69 rfl) (fun r7 m8 => ?_)
                refine qs_istore (L' := [some (.inr (some 0)), some (.inl a1), some (.inl a2), some (.inl a3), some (.inl x5), some (.inl r7)]) o (q_dm dm_X11_has 70 rfl) (Nat.le_of_ble_eq_true rfl) rfl ?_
                refine qr_iload_n o (q_dm dm_X11_has 71 rfl) rfl ?_
                refine qr_iconst o (q_dm dm_X11_has 72 rfl) ic_3 ?_
                refine qr_icmp_ne (tgt := 147) o (q_dm dm_X11_has 73 rfl) (by decide) ?_ ?_
                · refine qr_iload_n o (q_dm dm_X11_has 78 rfl) rfl ?_
                  refine qr_iconst o (q_dm dm_X11_has 79 rfl) ic_4 ?_
                  refine qr_icmp_ne (tgt := 160) o (q_dm dm_X11_has 80 rfl) (by decide) ?_ ?_
                  · refine qr_iload o (q_dm dm_X11_has 85 rfl) rfl ?_
                    refine qr_iconst o (q_dm dm_X11_has 86 rfl) ic_1 ?_
                    refine qr_icmp_ne (tgt := 170) o (q_dm dm_X11_has 87 rfl) (by decide) ?_ ?_
                    · refine qr_iconst o (q_dm dm_X11_has 90 rfl) ic_0 ?_
                      exact qr_iret o rfl rfl (q_dm dm_X11_has 91 rfl)
                    · refine qr_iconst o (q_dm dm_X11_has 88 rfl) ic_1 ?_
                      refine qr_goto (tgt := 171) o (q_dm dm_X11_has 89 rfl) (by decide) ?_
                      exact qr_iret o rfl rfl (q_dm dm_X11_has 91 rfl)
                  · refine qr_aload_n o (q_dm dm_X11_has 81 rfl) rfl ?_
                    refine qr_getr (kf := 6) o cf_X11 (sh0 j r) rfl (Nat.le_of_ble_eq_true rfl) fl_X11_50 (q_dm dm_X11_has 82 rfl) ?_
                    refine qr_getf (kf := 3) o cf_X0 (sh44 j r) rfl (Nat.le_of_ble_eq_true rfl) fl_X11_181 (q_dm dm_X11_has 83 rfl) ?_
                    exact qr_iret o rfl rfl (q_dm dm_X11_has 84 rfl)
                · refine qr_aload_n o (q_dm dm_X11_has 74 rfl) rfl ?_
                  refine qr_getr (kf := 6) o cf_X11 (sh0 j r) rfl (Nat.le_of_ble_eq_true rfl) fl_X11_50 (q_dm dm_X11_has 75 rfl) ?_
                  refine qr_getf (kf := 2) o cf_X0 (sh44 j r) rfl (Nat.le_of_ble_eq_true rfl) fl_X11_178 (q_dm dm_X11_has 76 rfl) ?_
                  exact qr_iret o rfl rfl (q_dm dm_X11_has 77 rfl)
              · refine qr_aload_n o (q_dm dm_X11_has 43 rfl) rfl ?_
                refine qr_getr (kf := 2) o cf_X11 (sh0 j r) rfl (Nat.le_of_ble_eq_true rfl) fl_X11_26 (q_dm dm_X11_has 44 rfl) ?_
                refine qr_getr (kf := 1) o cf_X10 (sh7 j r) rfl (Nat.le_of_ble_eq_true rfl) fl_X11_169 (q_dm dm_X11_has 45 rfl) ?_
                refine qr_iload o (q_dm dm_X11_has 46 rfl) rfl ?_
                refine qr_iald o (sh9 j r) (q_dm dm_X11_has 47 rfl) ?_
                refine qr_if_le (tgt := 103) o (q_dm dm_X11_has 48 rfl) (by decide) ?_ ?_
                · refine qr_bipush o (q_dm dm_X11_has 55 rfl) bi_m2 ?_
                  exact qr_iret o rfl rfl (q_dm dm_X11_has 56 rfl)
                · refine qr_aload_n o (q_dm dm_X11_has 49 rfl) rfl ?_
                  refine qr_getr (kf := 2) o cf_X11 (sh0 j r) rfl (Nat.le_of_ble_eq_true rfl) fl_X11_26 (q_dm dm_X11_has 50 rfl) ?_
                  refine qr_getr (kf := 2) o cf_X10 (sh7 j r) rfl (Nat.le_of_ble_eq_true rfl) fl_X11_175 (q_dm dm_X11_has 51 rfl) ?_
                  refine qr_iload o (q_dm dm_X11_has 52 rfl) rfl ?_
                  refine qr_iald o (sh10 j r) (q_dm dm_X11_has 53 rfl) ?_
                  refine qr_goto (tgt := 105) o (q_dm dm_X11_has 54 rfl) (by decide) ?_
                  exact qr_iret o rfl rfl (q_dm dm_X11_has 56 rfl)
            · refine qr_aload_n o (q_dm dm_X11_has 34 rfl) rfl ?_
              refine qr_getr (kf := 2) o cf_X11 (sh0 j r) rfl (Nat.le_of_ble_eq_true rfl) fl_X11_26 (q_dm dm_X11_has 35 rfl) ?_
              refine qr_getr (kf := 3) o cf_X10 (sh7 j r) rfl (Nat.le_of_ble_eq_true rfl) fl_X11_172 (q_dm dm_X11_has 36 rfl) ?_
              refine qr_iload o (q_dm dm_X11_has 37 rfl) rfl ?_
              refine qr_iald o (sh11 j r) (q_dm dm_X11_has 38 rfl) ?_
              exact qr_iret o rfl rfl (q_dm dm_X11_has 39 rfl)
          · refine qr_aload_n o (q_dm dm_X11_has 25 rfl) rfl ?_
            refine qr_getr (kf := 2) o cf_X11 (sh0 j r) rfl (Nat.le_of_ble_eq_true rfl) fl_X11_26 (q_dm dm_X11_has 26 rfl) ?_
            refine qr_getr (kf := 1) o cf_X10 (sh7 j r) rfl (Nat.le_of_ble_eq_true rfl) fl_X11_169 (q_dm dm_X11_has 27 rfl) ?_
            refine qr_iload o (q_dm dm_X11_has 28 rfl) rfl ?_
            refine qr_iald o (sh9 j r) (q_dm dm_X11_has 29 rfl) ?_
            exact qr_iret o rfl rfl (q_dm dm_X11_has 30 rfl)
        · refine qr_iconst o (q_dm dm_X11_has 15 rfl) ic_m1 ?_
          exact qr_iret o rfl rfl (q_dm dm_X11_has 16 rfl)

theorem a_X11_has (g : qG) (l : Launch) (n : Nat) (j r : Nat) (hj : q_isLaw j) (hr : q_isLaw r) (a1 a2 a3 : Int32) (M : qM) : qAM g l 5 zX11_has (qL j r) [.inr (some 0), .inl a1, .inl a2, .inl a3] (qL j r, M) (f_X11_has n j a1 a2 a3 M) :=
  qAM.of zv_X11_has.1 (by show 4 ≤ 6; decide) (fun k hk o => w_X11_has n j r hj hr o a1 a2 a3 M)
def tb_X8_old : List (Nat × Instr × Nat) := [(0, (.iconst 0, 1)), (1, (.istore_n 2, 1)), (2, (.iconst 0, 1)), (3, (.istore_n 3, 1)), (4, (.iload_n 3, 1)), (5, (.aload_n 0, 1)), (6, (.getfield 44, 3)), (9, (.if_icmp .ge 41, 3)), (12, (.iload_n 2, 1)), (13, (.aload_n 0, 1)), (14, (.getfield 15, 3)), (17, (.iload_n 1, 1)), (18, (.iaload, 1)), (19, (.aload_n 0, 1)), (20, (.getfield 9, 3)), (23, (.iload_n 3, 1)), (24, (.iaload, 1)), (25, (.ishr, 1)), (26, (.iconst 1, 1)), (27, (.iand, 1)), (28, (.iconst 1, 1)), (29, (.if_icmp .ne 12, 3)), (32, (.aload_n 0, 1)), (33, (.getfield 24, 3)), (36, (.iload_n 3, 1)), (37, (.iaload, 1)), (38, (.goto 4, 3)), (41, (.iconst 0, 1)), (42, (.iadd, 1)), (43, (.istore_n 2, 1)), (44, (.iinc 3 1, 3)), (47, (.goto (-43), 3)), (50, (.iload_n 2, 1)), (51, (.ireturn, 1))]
theorem dm_X8_old : ∀ q ∈ tb_X8_old, decode zX8_old.2.1 q.1 = .ok q.2 := by decide +kernel
def f_X8_old_42 (n : Nat) (K4 : Int32 → Int32 → Int32 → qM → qR) (a1 a3 s0 s1 : Int32) (M : qM) : qR :=
  ql (s0 + s1) (fun x1 => ql (a3 + (1 : Int32)) (fun x2 => K4 a1 x1 x2 M))
set_option maxRecDepth 4000 in
theorem w_X8_old_42 {g : qG} {k : qK} (n : Nat) (j r : Nat) (hj : q_isLaw j) (hr : q_isLaw r) (o : qOk g 0 zX8_old k) (K4 : Int32 → Int32 → Int32 → qM → qR) (hK4 : ∀ (a1 a2 a3 : Int32) (M : qM), qAE g k zX8_old (qL j r) 4 [some (.inr (some 70)), some (.inl a1), some (.inl a2), some (.inl a3)] [] (qL j r, M) (K4 a1 a2 a3 M)) (a1 a3 s0 s1 : Int32) (M : qM) : qAE g k zX8_old (qL j r) 42 [some (.inr (some 70)), some (.inl a1), none, some (.inl a3)] [.inl s1, .inl s0] (qL j r, M) (f_X8_old_42 n K4 a1 a3 s0 s1 M) := by
  unfold f_X8_old_42
  refine qr_iadd o (q_dm dm_X8_old 28 rfl) ?_
  refine qr_lt (fun x1 => ?_)
  refine qs_istore_n (L' := [some (.inr (some 70)), some (.inl a1), some (.inl x1), some (.inl a3)]) o (q_dm dm_X8_old 29 rfl) (Nat.le_of_ble_eq_true rfl) rfl ?_
  refine qs_iincl2 (L' := fun x2 => [some (.inr (some 70)), some (.inl a1), some (.inl x1), some (.inl x2)]) o (q_dm dm_X8_old 30 rfl) rfl ic_1 (Nat.le_of_ble_eq_true rfl) (fun _ => rfl) (fun x2 => ?_)
  refine qr_goto (tgt := 4) o (q_dm dm_X8_old 31 rfl) (by decide) ?_
  exact qr_loc (q_leS (q_leS (q_leS (q_leS q_le0)))) (hK4 a1 x1 x2 M)

def b_X8_old_4 (n : Nat) (K4 : Int32 → Int32 → Int32 → qM → qR) (a1 a2 a3 : Int32) (M : qM) : qR :=
  (if (M 70 8) ≤ a3 then some (a2, M) else qg a1 4 (qg a3 4 ((if (((M 72 a1.toNatClampNeg) >>> ((M 71 a3.toNatClampNeg) &&& 31)) &&& (1 : Int32)) = (1 : Int32) then qg a3 4 (f_X8_old_42 n K4 a1 a3 a2 (M 75 a3.toNatClampNeg) M) else f_X8_old_42 n K4 a1 a3 a2 (0 : Int32) M))))
set_option maxRecDepth 4000 in
theorem wb_X8_old_4 {g : qG} {k : qK} (n : Nat) (j r : Nat) (hj : q_isLaw j) (hr : q_isLaw r) (o : qOk g 0 zX8_old k) (K4 : Int32 → Int32 → Int32 → qM → qR) (hK4 : ∀ (a1 a2 a3 : Int32) (M : qM), qAE g k zX8_old (qL j r) 4 [some (.inr (some 70)), some (.inl a1), some (.inl a2), some (.inl a3)] [] (qL j r, M) (K4 a1 a2 a3 M)) (a1 a2 a3 : Int32) (M : qM) : qAE g k zX8_old (qL j r) 4 [some (.inr (some 70)), some (.inl a1), some (.inl a2), some (.inl a3)] [] (qL j r, M) (b_X8_old_4 n K4 a1 a2 a3 M) := by
  unfold b_X8_old_4
  refine qr_iload_n o (q_dm dm_X8_old 4 rfl) rfl ?_
  refine qr_aload_n o (q_dm dm_X8_old 5 rfl) rfl ?_
  refine qr_getf (kf := 8) o cf_X8 (sh70 j r) rfl (Nat.le_of_ble_eq_true rfl) fl_X8_44 (q_dm dm_X8_old 6 rfl) ?_
  refine qr_icmp_ge (tgt := 50) o (q_dm dm_X8_old 7 rfl) (by decide) ?_ ?_
  · refine qr_iload_n o (q_dm dm_X8_old 32 rfl) rfl ?_
    exact qr_iret o rfl rfl (q_dm dm_X8_old 33 rfl)
  · refine qr_iload_n o (q_dm dm_X8_old 8 rfl) rfl ?_
    refine qr_aload_n o (q_dm dm_X8_old 9 rfl) rfl ?_
    refine qr_getr (kf := 3) o cf_X8 (sh70 j r) rfl (Nat.le_of_ble_eq_true rfl) fl_X8_15 (q_dm dm_X8_old 10 rfl) ?_
    refine qr_iload_n o (q_dm dm_X8_old 11 rfl) rfl ?_
    refine qr_iald o (sh72 j r) (q_dm dm_X8_old 12 rfl) ?_
    refine qr_aload_n o (q_dm dm_X8_old 13 rfl) rfl ?_
    refine qr_getr (kf := 2) o cf_X8 (sh70 j r) rfl (Nat.le_of_ble_eq_true rfl) fl_X8_9 (q_dm dm_X8_old 14 rfl) ?_
    refine qr_iload_n o (q_dm dm_X8_old 15 rfl) rfl ?_
    refine qr_iald o (sh71 j r) (q_dm dm_X8_old 16 rfl) ?_
    refine qr_ishr o (q_dm dm_X8_old 17 rfl) ?_
    refine qr_iconst o (q_dm dm_X8_old 18 rfl) ic_1 ?_
    refine qr_iand o (q_dm dm_X8_old 19 rfl) ?_
    refine qr_iconst o (q_dm dm_X8_old 20 rfl) ic_1 ?_
    refine qr_icmp_ne (tgt := 41) o (q_dm dm_X8_old 21 rfl) (by decide) ?_ ?_
    · refine qr_iconst o (q_dm dm_X8_old 27 rfl) ic_0 ?_
      exact qr_loc (q_leS (q_leS (q_leN (q_leS q_le0)))) (w_X8_old_42 n j r hj hr o K4 hK4 a1 a3 a2 (0 : Int32) M)
    · refine qr_aload_n o (q_dm dm_X8_old 22 rfl) rfl ?_
      refine qr_getr (kf := 6) o cf_X8 (sh70 j r) rfl (Nat.le_of_ble_eq_true rfl) fl_X8_24 (q_dm dm_X8_old 23 rfl) ?_
      refine qr_iload_n o (q_dm dm_X8_old 24 rfl) rfl ?_
      refine qr_iald o (sh75 j r) (q_dm dm_X8_old 25 rfl) ?_
      refine qr_goto (tgt := 42) o (q_dm dm_X8_old 26 rfl) (by decide) ?_
      exact qr_loc (q_leS (q_leS (q_leN (q_leS q_le0)))) (w_X8_old_42 n j r hj hr o K4 hK4 a1 a3 a2 (M 75 a3.toNatClampNeg) M)

def f_X8_old_4 (n : Nat) : Nat → Int32 → Int32 → Int32 → qM → qR
  | 0, _, _, _, _ => none
  | m + 1, a1, a2, a3, M => b_X8_old_4 n (f_X8_old_4 n m) a1 a2 a3 M
theorem w_X8_old_4 {g : qG} {k : qK} (n : Nat) (j r : Nat) (hj : q_isLaw j) (hr : q_isLaw r) (o : qOk g 0 zX8_old k) : ∀ (m : Nat) (a1 a2 a3 : Int32) (M : qM), qAE g k zX8_old (qL j r) 4 [some (.inr (some 70)), some (.inl a1), some (.inl a2), some (.inl a3)] [] (qL j r, M) (f_X8_old_4 n m a1 a2 a3 M) := by
  intro m
  induction m with
  | zero =>
    intro a1 a2 a3 M
    exact qr_none
  | succ m ih =>
    intro a1 a2 a3 M
    exact wb_X8_old_4 n j r hj hr o (f_X8_old_4 n m) ih a1 a2 a3 M
def f_X8_old (n : Nat) (a1 : Int32) (M : qM) : qR :=
  f_X8_old_4 n n a1 (0 : Int32) (0 : Int32) M
set_option maxRecDepth 4000 in
theorem w_X8_old {g : qG} {k : qK} (n : Nat) (j r : Nat) (hj : q_isLaw j) (hr : q_isLaw r) (o : qOk g 0 zX8_old k) (a1 : Int32) (M : qM) : qAE g k zX8_old (qL j r) 0 [some (.inr (some 70)), some (.inl a1), none, none] [] (qL j r, M) (f_X8_old n a1 M) := by
  unfold f_X8_old
  refine qr_iconst o (q_dm dm_X8_old 0 rfl) ic_0 ?_
  refine qs_istore_n (L' := [some (.inr (some 70)), some (.inl a1), some (.inl (0 : Int32)), none]) o (q_dm dm_X8_old 1 rfl) (Nat.le_of_ble_eq_true rfl) rfl ?_
  refine qr_iconst o (q_dm dm_X8_old 2 rfl) ic_0 ?_
  refine qs_istore_n (L' := [some (.inr (some 70)), some (.inl a1), some (.inl (0 : Int32)), some (.inl (0 : Int32))]) o (q_dm dm_X8_old 3 rfl) (Nat.le_of_ble_eq_true rfl) rfl ?_
  exact qr_loc (q_leS (q_leS (q_leS (q_leS q_le0)))) (w_X8_old_4 n j r hj hr o n a1 (0 : Int32) (0 : Int32) M)

theorem a_X8_old (g : qG) (l : Launch) (n : Nat) (j r : Nat) (hj : q_isLaw j) (hr : q_isLaw r) (a1 : Int32) (M : qM) : qAM g l 0 zX8_old (qL j r) [.inr (some 70), .inl a1] (qL j r, M) (f_X8_old n a1 M) :=
  qAM.of zv_X8_old.1 (by show 2 ≤ 4; decide) (fun k hk o => w_X8_old n j r hj hr o a1 M)
def tb_X8_fits : List (Nat × Instr × Nat) := [(0, (.iconst 0, 1)), (1, (.istore_n 3, 1)), (2, (.iload_n 3, 1)), (3, (.aload_n 0, 1)), (4, (.getfield 44, 3)), (7, (.if_icmp .ge 29, 3)), (10, (.aload_n 0, 1)), (11, (.getfield 24, 3)), (14, (.iload_n 3, 1)), (15, (.iload_n 1, 1)), (16, (.iconst 2, 1)), (17, (.aload_n 0, 1)), (18, (.getfield 44, 3)), (21, (.iconst 1, 1)), (22, (.isub, 1)), (23, (.iload_n 3, 1)), (24, (.isub, 1)), (25, (.imul, 1)), (26, (.ishr, 1)), (27, (.iconst 3, 1)), (28, (.iand, 1)), (29, (.iastore, 1)), (30, (.iinc 3 1, 3)), (33, (.goto (-31), 3)), (36, (.iconst 0, 1)), (37, (.istore_n 3, 1)), (38, (.iload_n 3, 1)), (39, (.aload_n 0, 1)), (40, (.getfield 48, 3)), (43, (.if_icmp .ge 54, 3)), (46, (.aload_n 0, 1)), (47, (.aload_n 0, 1)), (48, (.getfield 18, 3)), (51, (.iload_n 3, 1)), (52, (.iaload, 1)), (53, (.invokevirtual 83, 3)), (56, (.iload_n 2, 1)), (57, (.if_icmp .lt 7, 3)), (60, (.iconst 1, 1)), (61, (.goto 4, 3)), (64, (.iconst 0, 1)), (65, (.aload_n 0, 1)), (66, (.getfield 21, 3)), (69, (.iload_n 3, 1)), (70, (.iaload, 1)), (71, (.if_icmp .eq 5, 3)), (74, (.iconst 0, 1)), (75, (.ireturn, 1)), (76, (.aload_n 0, 1)), (77, (.getfield 24, 3)), (80, (.aload_n 0, 1)), (81, (.getfield 18, 3)), (84, (.iload_n 3, 1)), (85, (.iaload, 1)), (86, (.dup2, 1)), (87, (.iaload, 1)), (88, (.iconst 1, 1)), (89, (.iadd, 1)), (90, (.iastore, 1)), (91, (.iinc 3 1, 3)), (94, (.goto (-56), 3)), (97, (.iconst 1, 1)), (98, (.ireturn, 1))]
theorem dm_X8_fits : ∀ q ∈ tb_X8_fits, decode zX8_fits.2.1 q.1 = .ok q.2 := by decide +kernel
def f_X8_fits_65 (n : Nat) (K38 : Int32 → Int32 → qM → qR) (a2 a3 s0 : Int32) (M : qM) : qR :=
  qg a3 10 ((if s0 = (M 74 a3.toNatClampNeg) then qg a3 10 (ql (M 73 a3.toNatClampNeg) (fun x1 => qg x1 4 (qg x1 4 (qlm (mu M 75 x1.toNatClampNeg ((M 75 x1.toNatClampNeg) + (1 : Int32))) (fun m2 => ql (a3 + (1 : Int32)) (fun x3 => K38 a2 x3 m2)))))) else some ((0 : Int32), M)))
set_option maxRecDepth 4000 in
theorem w_X8_fits_65 {g : qG} {k : qK} (n : Nat) (j r : Nat) (hj : q_isLaw j) (hr : q_isLaw r) (o : qOk g 1 zX8_fits k) (K38 : Int32 → Int32 → qM → qR) (hK38 : ∀ (a2 a3 : Int32) (M : qM), qAE g k zX8_fits (qL j r) 38 [some (.inr (some 70)), none, some (.inl a2), some (.inl a3)] [] (qL j r, M) (K38 a2 a3 M)) (a2 a3 s0 : Int32) (M : qM) : qAE g k zX8_fits (qL j r) 65 [some (.inr (some 70)), none, some (.inl a2), some (.inl a3)] [.inl s0] (qL j r, M) (f_X8_fits_65 n K38 a2 a3 s0 M) := by
  unfold f_X8_fits_65
  refine qr_aload_n o (q_dm dm_X8_fits 41 rfl) rfl ?_
  refine qr_getr (kf := 5) o cf_X8 (sh70 j r) rfl (Nat.le_of_ble_eq_true rfl) fl_X8_21 (q_dm dm_X8_fits 42 rfl) ?_
  refine qr_iload_n o (q_dm dm_X8_fits 43 rfl) rfl ?_
  refine qr_iald o (sh74 j r) (q_dm dm_X8_fits 44 rfl) ?_
  refine qr_icmp_eq (tgt := 76) o (q_dm dm_X8_fits 45 rfl) (by decide) ?_ ?_
  · refine qr_aload_n o (q_dm dm_X8_fits 48 rfl) rfl ?_
    refine qr_getr (kf := 6) o cf_X8 (sh70 j r) rfl (Nat.le_of_ble_eq_true rfl) fl_X8_24 (q_dm dm_X8_fits 49 rfl) ?_
    refine qr_aload_n o (q_dm dm_X8_fits 50 rfl) rfl ?_
    refine qr_getr (kf := 4) o cf_X8 (sh70 j r) rfl (Nat.le_of_ble_eq_true rfl) fl_X8_18 (q_dm dm_X8_fits 51 rfl) ?_
    refine qr_iload_n o (q_dm dm_X8_fits 52 rfl) rfl ?_
    refine qr_iald o (sh73 j r) (q_dm dm_X8_fits 53 rfl) ?_
    refine qr_lt (fun x1 => ?_)
    refine qr_dup2 o (q_dm dm_X8_fits 54 rfl) ?_
    refine qr_iald o (sh75 j r) (q_dm dm_X8_fits 55 rfl) ?_
    refine qr_iconst o (q_dm dm_X8_fits 56 rfl) ic_1 ?_
    refine qr_iadd o (q_dm dm_X8_fits 57 rfl) ?_
    refine qr_iast o (sh75 j r) (q_dm dm_X8_fits 58 rfl) ?_
    refine qr_letm (fun m2 => ?_)
    refine qs_iincl2 (L' := fun x3 => [some (.inr (some 70)), none, some (.inl a2), some (.inl x3)]) o (q_dm dm_X8_fits 59 rfl) rfl ic_1 (Nat.le_of_ble_eq_true rfl) (fun _ => rfl) (fun x3 => ?_)
    refine qr_goto (tgt := 38) o (q_dm dm_X8_fits 60 rfl) (by decide) ?_
    exact qr_loc (q_leS (q_leN (q_leS (q_leS q_le0)))) (hK38 a2 x3 m2)
  · refine qr_iconst o (q_dm dm_X8_fits 46 rfl) ic_0 ?_
    exact qr_iret o rfl (by decide) (q_dm dm_X8_fits 47 rfl)

def b_X8_fits_38 (n : Nat) (K38 : Int32 → Int32 → qM → qR) (a2 a3 : Int32) (M : qM) : qR :=
  (if (M 70 9) ≤ a3 then some ((1 : Int32), M) else qg a3 10 (qc (f_X8_old n (M 73 a3.toNatClampNeg) M) (fun r1 m2 => (if r1 < a2 then f_X8_fits_65 n K38 a2 a3 (0 : Int32) m2 else f_X8_fits_65 n K38 a2 a3 (1 : Int32) m2))))
set_option maxRecDepth 4000 in
theorem wb_X8_fits_38 {g : qG} {k : qK} (n : Nat) (j r : Nat) (hj : q_isLaw j) (hr : q_isLaw r) (o : qOk g 1 zX8_fits k) (K38 : Int32 → Int32 → qM → qR) (hK38 : ∀ (a2 a3 : Int32) (M : qM), qAE g k zX8_fits (qL j r) 38 [some (.inr (some 70)), none, some (.inl a2), some (.inl a3)] [] (qL j r, M) (K38 a2 a3 M)) (a2 a3 : Int32) (M : qM) : qAE g k zX8_fits (qL j r) 38 [some (.inr (some 70)), none, some (.inl a2), some (.inl a3)] [] (qL j r, M) (b_X8_fits_38 n K38 a2 a3 M) := by
  unfold b_X8_fits_38
  refine qr_iload_n o (q_dm dm_X8_fits 26 rfl) rfl ?_
  refine qr_aload_n o (q_dm dm_X8_fits 27 rfl) rfl ?_
  refine qr_getf (kf := 9) o cf_X8 (sh70 j r) rfl (Nat.le_of_ble_eq_true rfl) fl_X8_48 (q_dm dm_X8_fits 28 rfl) ?_
  refine qr_icmp_ge (tgt := 97) o (q_dm dm_X8_fits 29 rfl) (by decide) ?_ ?_
  · refine qr_iconst o (q_dm dm_X8_fits 61 rfl) ic_1 ?_
    exact qr_iret o rfl (by decide) (q_dm dm_X8_fits 62 rfl)
  · refine qr_aload_n o (q_dm dm_X8_fits 30 rfl) rfl ?_
    refine qr_aload_n o (q_dm dm_X8_fits 31 rfl) rfl ?_
    refine qr_getr (kf := 4) o cf_X8 (sh70 j r) rfl (Nat.le_of_ble_eq_true rfl) fl_X8_18 (q_dm dm_X8_fits 32 rfl) ?_
    refine qr_iload_n o (q_dm dm_X8_fits 33 rfl) rfl ?_
    refine qr_iald o (sh73 j r) (q_dm dm_X8_fits 34 rfl) ?_
    refine qr_callv_i (As := [.inl (M 73 a3.toNatClampNeg)]) (S := []) o (a_X8_old g k.2.1 n j r hj hr (M 73 a3.toNatClampNeg) M) (Nat.le_of_ble_eq_true rfl) zv_X8_old rfl cf_X8 (sh70 j r) ml_X8_83 (Nat.le_of_ble_eq_true rfl) (q_dm dm_X8_fits 35 rfl) (fun r1 m2 => ?_)
    refine qr_iload_n o (q_dm dm_X8_fits 36 rfl) rfl ?_
    refine qr_icmp_lt (tgt := 64) o (q_dm dm_X8_fits 37 rfl) (by decide) ?_ ?_
    · refine qr_iconst o (q_dm dm_X8_fits 40 rfl) ic_0 ?_
      exact qr_loc (q_leS (q_leN (q_leS (q_leS q_le0)))) (w_X8_fits_65 n j r hj hr o K38 hK38 a2 a3 (0 : Int32) m2)
    · refine qr_iconst o (q_dm dm_X8_fits 38 rfl) ic_1 ?_
      refine qr_goto (tgt := 65) o (q_dm dm_X8_fits 39 rfl) (by decide) ?_
      exact qr_loc (q_leS (q_leN (q_leS (q_leS q_le0)))) (w_X8_fits_65 n j r hj hr o K38 hK38 a2 a3 (1 : Int32) m2)

def f_X8_fits_38 (n : Nat) : Nat → Int32 → Int32 → qM → qR
  | 0, _, _, _ => none
  | m + 1, a2, a3, M => b_X8_fits_38 n (f_X8_fits_38 n m) a2 a3 M
theorem w_X8_fits_38 {g : qG} {k : qK} (n : Nat) (j r : Nat) (hj : q_isLaw j) (hr : q_isLaw r) (o : qOk g 1 zX8_fits k) : ∀ (m : Nat) (a2 a3 : Int32) (M : qM), qAE g k zX8_fits (qL j r) 38 [some (.inr (some 70)), none, some (.inl a2), some (.inl a3)] [] (qL j r, M) (f_X8_fits_38 n m a2 a3 M) := by
  intro m
  induction m with
  | zero =>
    intro a2 a3 M
    exact qr_none
  | succ m ih =>
    intro a2 a3 M
    exact wb_X8_fits_38 n j r hj hr o (f_X8_fits_38 n m) ih a2 a3 M
def b_X8_fits_2 (n : Nat) (K2 : Int32 → Int32 → Int32 → qM → qR) (a1 a2 a3 : Int32) (M : qM) : qR :=
  (if (M 70 8) ≤ a3 then f_X8_fits_38 n n a2 (0 : Int32) M else qg a3 4 (qlm (mu M 75 a3.toNatClampNeg ((a1 >>> (((2 : Int32) * (((M 70 8) - (1 : Int32)) - a3)) &&& 31)) &&& (3 : Int32))) (fun m1 => ql (a3 + (1 : Int32)) (fun x2 => K2 a1 a2 x2 m1))))
set_option maxRecDepth 4000 in
theorem wb_X8_fits_2 {g : qG} {k : qK} (n : Nat) (j r : Nat) (hj : q_isLaw j) (hr : q_isLaw r) (o : qOk g 1 zX8_fits k) (K2 : Int32 → Int32 → Int32 → qM → qR) (hK2 : ∀ (a1 a2 a3 : Int32) (M : qM), qAE g k zX8_fits (qL j r) 2 [some (.inr (some 70)), some (.inl a1), some (.inl a2), some (.inl a3)] [] (qL j r, M) (K2 a1 a2 a3 M)) (a1 a2 a3 : Int32) (M : qM) : qAE g k zX8_fits (qL j r) 2 [some (.inr (some 70)), some (.inl a1), some (.inl a2), some (.inl a3)] [] (qL j r, M) (b_X8_fits_2 n K2 a1 a2 a3 M) := by
  unfold b_X8_fits_2
  refine qr_iload_n o (q_dm dm_X8_fits 2 rfl) rfl ?_
  refine qr_aload_n o (q_dm dm_X8_fits 3 rfl) rfl ?_
  refine qr_getf (kf := 8) o cf_X8 (sh70 j r) rfl (Nat.le_of_ble_eq_true rfl) fl_X8_44 (q_dm dm_X8_fits 4 rfl) ?_
  refine qr_icmp_ge (tgt := 36) o (q_dm dm_X8_fits 5 rfl) (by decide) ?_ ?_
  · refine qr_iconst o (q_dm dm_X8_fits 24 rfl) ic_0 ?_
    refine qs_istore_n (L' := [some (.inr (some 70)), some (.inl a1), some (.inl a2), some (.inl (0 : Int32))]) o (q_dm dm_X8_fits 25 rfl) (Nat.le_of_ble_eq_true rfl) rfl ?_
    exact qr_loc (q_leS (q_leN (q_leS (q_leS q_le0)))) (w_X8_fits_38 n j r hj hr o n a2 (0 : Int32) M)
  · refine qr_aload_n o (q_dm dm_X8_fits 6 rfl) rfl ?_
    refine qr_getr (kf := 6) o cf_X8 (sh70 j r) rfl (Nat.le_of_ble_eq_true rfl) fl_X8_24 (q_dm dm_X8_fits 7 rfl) ?_
    refine qr_iload_n o (q_dm dm_X8_fits 8 rfl) rfl ?_
    refine qr_iload_n o (q_dm dm_X8_fits 9 rfl) rfl ?_
    refine qr_iconst o (q_dm dm_X8_fits 10 rfl) ic_2 ?_
    refine qr_aload_n o (q_dm dm_X8_fits 11 rfl) rfl ?_
    refine qr_getf (kf := 8) o cf_X8 (sh70 j r) rfl (Nat.le_of_ble_eq_true rfl) fl_X8_44 (q_dm dm_X8_fits 12 rfl) ?_
    refine qr_iconst o (q_dm dm_X8_fits 13 rfl) ic_1 ?_
    refine qr_isub o (q_dm dm_X8_fits 14 rfl) ?_
    refine qr_iload_n o (q_dm dm_X8_fits 15 rfl) rfl ?_
    refine qr_isub o (q_dm dm_X8_fits 16 rfl) ?_
    refine qr_imul o (q_dm dm_X8_fits 17 rfl) ?_
    refine qr_ishr o (q_dm dm_X8_fits 18 rfl) ?_
    refine qr_iconst o (q_dm dm_X8_fits 19 rfl) ic_3 ?_
    refine qr_iand o (q_dm dm_X8_fits 20 rfl) ?_
    refine qr_iast o (sh75 j r) (q_dm dm_X8_fits 21 rfl) ?_
    refine qr_letm (fun m1 => ?_)
    refine qs_iincl2 (L' := fun x2 => [some (.inr (some 70)), some (.inl a1), some (.inl a2), some (.inl x2)]) o (q_dm dm_X8_fits 22 rfl) rfl ic_1 (Nat.le_of_ble_eq_true rfl) (fun _ => rfl) (fun x2 => ?_)
    refine qr_goto (tgt := 2) o (q_dm dm_X8_fits 23 rfl) (by decide) ?_
    exact qr_loc (q_leS (q_leS (q_leS (q_leS q_le0)))) (hK2 a1 a2 x2 m1)

def f_X8_fits_2 (n : Nat) : Nat → Int32 → Int32 → Int32 → qM → qR
  | 0, _, _, _, _ => none
  | m + 1, a1, a2, a3, M => b_X8_fits_2 n (f_X8_fits_2 n m) a1 a2 a3 M
theorem w_X8_fits_2 {g : qG} {k : qK} (n : Nat) (j r : Nat) (hj : q_isLaw j) (hr : q_isLaw r) (o : qOk g 1 zX8_fits k) : ∀ (m : Nat) (a1 a2 a3 : Int32) (M : qM), qAE g k zX8_fits (qL j r) 2 [some (.inr (some 70)), some (.inl a1), some (.inl a2), some (.inl a3)] [] (qL j r, M) (f_X8_fits_2 n m a1 a2 a3 M) := by
  intro m
  induction m with
  | zero =>
    intro a1 a2 a3 M
    exact qr_none
  | succ m ih =>
    intro a1 a2 a3 M
    exact wb_X8_fits_2 n j r hj hr o (f_X8_fits_2 n m) ih a1 a2 a3 M
def f_X8_fits (n : Nat) (a1 a2 : Int32) (M : qM) : qR :=
  f_X8_fits_2 n n a1 a2 (0 : Int32) M
set_option maxRecDepth 4000 in
theorem w_X8_fits {g : qG} {k : qK} (n : Nat) (j r : Nat) (hj : q_isLaw j) (hr : q_isLaw r) (o : qOk g 1 zX8_fits k) (a1 a2 : Int32) (M : qM) : qAE g k zX8_fits (qL j r) 0 [some (.inr (some 70)), some (.inl a1), some (.inl a2), none] [] (qL j r, M) (f_X8_fits n a1 a2 M) := by
  unfold f_X8_fits
  refine qr_iconst o (q_dm dm_X8_fits 0 rfl) ic_0 ?_
  refine qs_istore_n (L' := [some (.inr (some 70)), some (.inl a1), some (.inl a2), some (.inl (0 : Int32))]) o (q_dm dm_X8_fits 1 rfl) (Nat.le_of_ble_eq_true rfl) rfl ?_
  exact qr_loc (q_leS (q_leS (q_leS (q_leS q_le0)))) (w_X8_fits_2 n j r hj hr o n a1 a2 (0 : Int32) M)

theorem a_X8_fits (g : qG) (l : Launch) (n : Nat) (j r : Nat) (hj : q_isLaw j) (hr : q_isLaw r) (a1 a2 : Int32) (M : qM) : qAM g l 1 zX8_fits (qL j r) [.inr (some 70), .inl a1, .inl a2] (qL j r, M) (f_X8_fits n a1 a2 M) :=
  qAM.of zv_X8_fits.1 (by show 3 ≤ 4; decide) (fun k hk o => w_X8_fits n j r hj hr o a1 a2 M)

def tb_X8_goThrough : List (Nat × Instr × Nat) := [(0, (.aload_n 0, 1)), (1, (.iconst 0, 1)), (2, (.putfield 63, 3)), (5, (.aload_n 0, 1)), (6, (.bipush (-2), 2)), (8, (.putfield 66, 3)), (11, (.aload_n 0, 1)), (12, (.getfield 27, 3)), (15, (.iconst 0, 1)), (16, (.invokestatic 69, 3)), (19, (.iconst 0, 1)), (20, (.istore_n 3, 1)), (21, (.iload_n 3, 1)), (22, (.aload_n 0, 1)), (23, (.getfield 44, 3)), (26, (.if_icmp .ge 29, 3)), (29, (.aload_n 0, 1)), (30, (.getfield 15, 3)), (33, (.iload_n 3, 1)), (34, (.aload_n 0, 1)), (35, (.getfield 34, 3)), (38, (.aload_n 0, 1)), (39, (.getfield 9, 3)), (42, (.iload_n 3, 1)), (43, (.iaload, 1)), (44, (.iload_n 2, 1)), (45, (.invokevirtual 75, 3)), (48, (.iastore, 1)), (49, (.iinc 3 1, 3)), (52, (.goto (-31), 3)), (55, (.iconst 0, 1)), (56, (.istore_n 3, 1)), (57, (.iload_n 3, 1)), (58, (.iconst 1, 1)), (59, (.iconst 2, 1)), (60, (.aload_n 0, 1)), (61, (.getfield 44, 3)), (64, (.imul, 1)), (65, (.ishl, 1)), (66, (.if_icmp .ge 90, 3)), (69, (.aload_n 0, 1)), (70, (.iload_n 3, 1)), (71, (.iload_n 1, 1)), (72, (.invokevirtual 79, 3)), (75, (.ifCond .eq 75, 3)), (78, (.aload_n 0, 1)), (79, (.aload_n 0, 1)), (80, (.getfield 63, 3)), (83, (.ifCond .ne 7, 3)), (86, (.iload_n 3, 1)), (87, (.goto 7, 3)), (90, (.aload_n 0, 1)), (91, (.getfield 66, 3)), (94, (.putfield 66, 3)), (97, (.aload_n 0, 1)), (98, (.dup, 1)), (99, (.getfield 63, 3)), (102, (.iconst 1, 1)), (103, (.iadd, 1)), (104, (.putfield 63, 3)), (107, (.iconst 0, 1)), (108, (.istore 4, 2)), (110, (.iload 4, 2)), (112, (.aload_n 0, 1)), (113, (.getfield 44, 3)), (116, (.if_icmp .ge 34, 3)), (119, (.aload_n 0, 1)), (120, (.getfield 27, 3)), (123, (.iload 4, 2)), (125, (.dup2, 1)), (126, (.iaload, 1)), (127, (.aload_n 0, 1)), (128, (.iload 4, 2)), (130, (.invokevirtual 83, 3)), (133, (.iload_n 1, 1)), (134, (.if_icmp .lt 7, 3)), (137, (.iconst 1, 1)), (138, (.goto 4, 3)), (141, (.iconst 0, 1)), (142, (.iadd, 1)), (143, (.iastore, 1)), (144, (.iinc 4 1, 3)), (147, (.goto (-37), 3)), (150, (.iinc 3 1, 3)), (153, (.goto (-96), 3)), (156, (.return_, 1))]
theorem dm_X8_goThrough : ∀ q ∈ tb_X8_goThrough, decode zX8_goThrough.2.1 q.1 = .ok q.2 := by decide +kernel
def f_X8_goThrough_142 (n : Nat) (j : Nat) (K57 : Int32 → Int32 → qM → qR) (K110 : Int32 → Int32 → Int32 → qM → qR) (a1 a3 a4 s1 s2 s3 : Int32) (M : qM) : qR :=
  qg s1 4 (qlm (mu M 76 s1.toNatClampNeg (s2 + s3)) (fun m1 => ql (a4 + (1 : Int32)) (fun x2 => K110 a1 a3 x2 m1)))
set_option maxRecDepth 4000 in
theorem w_X8_goThrough_142 {g : qG} {k : qK} (n : Nat) (j r : Nat) (hj : q_isLaw j) (hr : q_isLaw r) (o : qOk g 4 zX8_goThrough k) (K57 : Int32 → Int32 → qM → qR) (hK57 : ∀ (a1 a3 : Int32) (M : qM), qAE g k zX8_goThrough (qL j r) 57 [some (.inr (some 70)), some (.inl a1), none, some (.inl a3), none] [] (qL j r, M) (K57 a1 a3 M)) (K110 : Int32 → Int32 → Int32 → qM → qR) (hK110 : ∀ (a1 a3 a4 : Int32) (M : qM), qAE g k zX8_goThrough (qL j r) 110 [some (.inr (some 70)), some (.inl a1), none, some (.inl a3), some (.inl a4)] [] (qL j r, M) (K110 a1 a3 a4 M)) (a1 a3 a4 s1 s2 s3 : Int32) (M : qM) : qAE g k zX8_goThrough (qL j r) 142 [some (.inr (some 70)), some (.inl a1), none, some (.inl a3), some (.inl a4)] [.inl s3, .inl s2, .inl s1, .inr (some 76)] (qL j r, M) (f_X8_goThrough_142 n j K57 K110 a1 a3 a4 s1 s2 s3 M) := by
  unfold f_X8_goThrough_142
  refine qr_iadd o (q_dm dm_X8_goThrough 79 rfl) ?_
  refine qr_iast o (sh76 j r) (q_dm dm_X8_goThrough 80 rfl) ?_
  refine qr_letm (fun m1 => ?_)
  refine qs_iincl2 (L' := fun x2 => [some (.inr (some 70)), some (.inl a1), none, some (.inl a3), some (.inl x2)]) o (q_dm dm_X8_goThrough 81 rfl) rfl ic_1 (Nat.le_of_ble_eq_true rfl) (fun _ => rfl) (fun x2 => ?_)
  refine qr_goto (tgt := 110) o (q_dm dm_X8_goThrough 82 rfl) (by decide) ?_
  exact qr_loc (q_leS (q_leS (q_leN (q_leS (q_leS q_le0))))) (hK110 a1 a3 x2 m1)

def b_X8_goThrough_110 (n : Nat) (j : Nat) (K57 : Int32 → Int32 → qM → qR) (K110 : Int32 → Int32 → Int32 → qM → qR) (a1 a3 a4 : Int32) (M : qM) : qR :=
  (if (M 70 8) ≤ a4 then ql (a3 + (1 : Int32)) (fun x1 => K57 a1 x1 M) else qg a4 4 (qc (f_X8_old n a4 M) (fun r2 m3 => (if r2 < a1 then f_X8_goThrough_142 n j K57 K110 a1 a3 a4 a4 (M 76 a4.toNatClampNeg) (0 : Int32) m3 else f_X8_goThrough_142 n j K57 K110 a1 a3 a4 a4 (M 76 a4.toNatClampNeg) (1 : Int32) m3))))
set_option maxRecDepth 4000 in
theorem wb_X8_goThrough_110 {g : qG} {k : qK} (n : Nat) (j r : Nat) (hj : q_isLaw j) (hr : q_isLaw r) (o : qOk g 4 zX8_goThrough k) (K57 : Int32 → Int32 → qM → qR) (hK57 : ∀ (a1 a3 : Int32) (M : qM), qAE g k zX8_goThrough (qL j r) 57 [some (.inr (some 70)), some (.inl a1), none, some (.inl a3), none] [] (qL j r, M) (K57 a1 a3 M)) (K110 : Int32 → Int32 → Int32 → qM → qR) (hK110 : ∀ (a1 a3 a4 : Int32) (M : qM), qAE g k zX8_goThrough (qL j r) 110 [some (.inr (some 70)), some (.inl a1), none, some (.inl a3), some (.inl a4)] [] (qL j r, M) (K110 a1 a3 a4 M)) (a1 a3 a4 : Int32) (M : qM) : qAE g k zX8_goThrough (qL j r) 110 [some (.inr (some 70)), some (.inl a1), none, some (.inl a3), some (.inl a4)] [] (qL j r, M) (b_X8_goThrough_110 n j K57 K110 a1 a3 a4 M) := by
  unfold b_X8_goThrough_110
  refine qr_iload o (q_dm dm_X8_goThrough 62 rfl) rfl ?_
  refine qr_aload_n o (q_dm dm_X8_goThrough 63 rfl) rfl ?_
  refine qr_getf (kf := 8) o cf_X8 (sh70 j r) rfl (Nat.le_of_ble_eq_true rfl) fl_X8_44 (q_dm dm_X8_goThrough 64 rfl) ?_
  refine qr_icmp_ge (tgt := 150) o (q_dm dm_X8_goThrough 65 rfl) (by decide) ?_ ?_
  · refine qs_iincl2 (L' := fun x1 => [some (.inr (some 70)), some (.inl a1), none, some (.inl x1), some (.inl a4)]) o (q_dm dm_X8_goThrough 83 rfl) rfl ic_1 (Nat.le_of_ble_eq_true rfl) (fun _ => rfl) (fun x1 => ?_)
    refine qr_goto (tgt := 57) o (q_dm dm_X8_goThrough 84 rfl) (by decide) ?_
    exact qr_loc (q_leS (q_leS (q_leN (q_leS (q_leN q_le0))))) (hK57 a1 x1 M)
  · refine qr_aload_n o (q_dm dm_X8_goThrough 66 rfl) rfl ?_
    refine qr_getr (kf := 7) o cf_X8 (sh70 j r) rfl (Nat.le_of_ble_eq_true rfl) fl_X8_27 (q_dm dm_X8_goThrough 67 rfl) ?_
    refine qr_iload o (q_dm dm_X8_goThrough 68 rfl) rfl ?_
    refine qr_dup2 o (q_dm dm_X8_goThrough 69 rfl) ?_
    refine qr_iald o (sh76 j r) (q_dm dm_X8_goThrough 70 rfl) ?_
    refine qr_aload_n o (q_dm dm_X8_goThrough 71 rfl) rfl ?_
    refine qr_iload o (q_dm dm_X8_goThrough 72 rfl) rfl ?_
    refine qr_callv_i (As := [.inl a4]) (S := [.inl (M 76 a4.toNatClampNeg), .inl a4, .inr (some 76)]) o (a_X8_old g k.2.1 n j r hj hr a4 M) (Nat.le_of_ble_eq_true rfl) zv_X8_old rfl cf_X8 (sh70 j r) ml_X8_83 (Nat.le_of_ble_eq_true rfl) (q_dm dm_X8_goThrough 73 rfl) (fun r2 m3 => ?_)
    refine qr_iload_n o (q_dm dm_X8_goThrough 74 rfl) rfl ?_
    refine qr_icmp_lt (tgt := 141) o (q_dm dm_X8_goThrough 75 rfl) (by decide) ?_ ?_
    · refine qr_iconst o (q_dm dm_X8_goThrough 78 rfl) ic_0 ?_
      exact qr_loc (q_leS (q_leS (q_leN (q_leS (q_leS q_le0))))) (w_X8_goThrough_142 n j r hj hr o K57 hK57 K110 hK110 a1 a3 a4 a4 (M 76 a4.toNatClampNeg) (0 : Int32) m3)
    · refine qr_iconst o (q_dm dm_X8_goThrough 76 rfl) ic_1 ?_
      refine qr_goto (tgt := 142) o (q_dm dm_X8_goThrough 77 rfl) (by decide) ?_
      exact qr_loc (q_leS (q_leS (q_leN (q_leS (q_leS q_le0))))) (w_X8_goThrough_142 n j r hj hr o K57 hK57 K110 hK110 a1 a3 a4 a4 (M 76 a4.toNatClampNeg) (1 : Int32) m3)

def f_X8_goThrough_110 (n : Nat) (j : Nat) (K57 : Int32 → Int32 → qM → qR) : Nat → Int32 → Int32 → Int32 → qM → qR
  | 0, _, _, _, _ => none
  | m + 1, a1, a3, a4, M => b_X8_goThrough_110 n j K57 (f_X8_goThrough_110 n j K57 m) a1 a3 a4 M
theorem w_X8_goThrough_110 {g : qG} {k : qK} (n : Nat) (j r : Nat) (hj : q_isLaw j) (hr : q_isLaw r) (o : qOk g 4 zX8_goThrough k) (K57 : Int32 → Int32 → qM → qR) (hK57 : ∀ (a1 a3 : Int32) (M : qM), qAE g k zX8_goThrough (qL j r) 57 [some (.inr (some 70)), some (.inl a1), none, some (.inl a3), none] [] (qL j r, M) (K57 a1 a3 M)) : ∀ (m : Nat) (a1 a3 a4 : Int32) (M : qM), qAE g k zX8_goThrough (qL j r) 110 [some (.inr (some 70)), some (.inl a1), none, some (.inl a3), some (.inl a4)] [] (qL j r, M) (f_X8_goThrough_110 n j K57 m a1 a3 a4 M) := by
  intro m
  induction m with
  | zero =>
    intro a1 a3 a4 M
    exact qr_none
  | succ m ih =>
    intro a1 a3 a4 M
    exact wb_X8_goThrough_110 n j r hj hr o K57 hK57 (f_X8_goThrough_110 n j K57 m) ih a1 a3 a4 M
def f_X8_goThrough_94 (n : Nat) (j : Nat) (K57 : Int32 → Int32 → qM → qR) (a1 a3 s1 : Int32) (M : qM) : qR :=
  qlm (mu M 70 11 s1) (fun m1 => qlm (mu m1 70 10 ((m1 70 10) + (1 : Int32))) (fun m2 => f_X8_goThrough_110 n j K57 n a1 a3 (0 : Int32) m2))
set_option maxRecDepth 4000 in
theorem w_X8_goThrough_94 {g : qG} {k : qK} (n : Nat) (j r : Nat) (hj : q_isLaw j) (hr : q_isLaw r) (o : qOk g 4 zX8_goThrough k) (K57 : Int32 → Int32 → qM → qR) (hK57 : ∀ (a1 a3 : Int32) (M : qM), qAE g k zX8_goThrough (qL j r) 57 [some (.inr (some 70)), some (.inl a1), none, some (.inl a3), none] [] (qL j r, M) (K57 a1 a3 M)) (a1 a3 s1 : Int32) (M : qM) : qAE g k zX8_goThrough (qL j r) 94 [some (.inr (some 70)), some (.inl a1), none, some (.inl a3), none] [.inl s1, .inr (some 70)] (qL j r, M) (f_X8_goThrough_94 n j K57 a1 a3 s1 M) := by
  unfold f_X8_goThrough_94
  refine qr_putf (kf := 11) o cf_X8 (sh70 j r) rfl (Nat.le_of_ble_eq_true rfl) fl_X8_66 rfl (by decide +kernel) (q_dm dm_X8_goThrough 53 rfl) ?_
  refine qr_letm (fun m1 => ?_)
  refine qr_aload_n o (q_dm dm_X8_goThrough 54 rfl) rfl ?_
  refine qr_dup o (q_dm dm_X8_goThrough 55 rfl) ?_
  refine qr_getf (kf := 10) o cf_X8 (sh70 j r) rfl (Nat.le_of_ble_eq_true rfl) fl_X8_63 (q_dm dm_X8_goThrough 56 rfl) ?_
  refine qr_iconst o (q_dm dm_X8_goThrough 57 rfl) ic_1 ?_
  refine qr_iadd o (q_dm dm_X8_goThrough 58 rfl) ?_
  refine qr_putf (kf := 10) o cf_X8 (sh70 j r) rfl (Nat.le_of_ble_eq_true rfl) fl_X8_63 rfl (by decide +kernel) (q_dm dm_X8_goThrough 59 rfl) ?_
  refine qr_letm (fun m2 => ?_)
  refine qr_iconst o (q_dm dm_X8_goThrough 60 rfl) ic_0 ?_
  refine qs_istore (L' := [some (.inr (some 70)), some (.inl a1), none, some (.inl a3), some (.inl (0 : Int32))]) o (q_dm dm_X8_goThrough 61 rfl) (Nat.le_of_ble_eq_true rfl) rfl ?_
  exact qr_loc (q_leS (q_leS (q_leN (q_leS (q_leS q_le0))))) (w_X8_goThrough_110 n j r hj hr o K57 hK57 n a1 a3 (0 : Int32) m2)

def b_X8_goThrough_57 (n : Nat) (j : Nat) (K57 : Int32 → Int32 → qM → qR) (a1 a3 : Int32) (M : qM) : qR :=
  (if ((1 : Int32) <<< (((2 : Int32) * (M 70 8)) &&& 31)) ≤ a3 then some (0, M) else qc (f_X8_fits n a3 a1 M) (fun r1 m2 => (if r1 = (0 : Int32) then ql (a3 + (1 : Int32)) (fun x3 => K57 a1 x3 m2) else (if (m2 70 10) = (0 : Int32) then f_X8_goThrough_94 n j K57 a1 a3 a3 m2 else f_X8_goThrough_94 n j K57 a1 a3 (m2 70 11) m2))))
set_option maxRecDepth 4000 in
theorem wb_X8_goThrough_57 {g : qG} {k : qK} (n : Nat) (j r : Nat) (hj : q_isLaw j) (hr : q_isLaw r) (o : qOk g 4 zX8_goThrough k) (K57 : Int32 → Int32 → qM → qR) (hK57 : ∀ (a1 a3 : Int32) (M : qM), qAE g k zX8_goThrough (qL j r) 57 [some (.inr (some 70)), some (.inl a1), none, some (.inl a3), none] [] (qL j r, M) (K57 a1 a3 M)) (a1 a3 : Int32) (M : qM) : qAE g k zX8_goThrough (qL j r) 57 [some (.inr (some 70)), some (.inl a1), none, some (.inl a3), none] [] (qL j r, M) (b_X8_goThrough_57 n j K57 a1 a3 M) := by
  unfold b_X8_goThrough_57
  refine qr_iload_n o (q_dm dm_X8_goThrough 32 rfl) rfl ?_
  refine qr_iconst o (q_dm dm_X8_goThrough 33 rfl) ic_1 ?_
  refine qr_iconst o (q_dm dm_X8_goThrough 34 rfl) ic_2 ?_
  refine qr_aload_n o (q_dm dm_X8_goThrough 35 rfl) rfl ?_
  refine qr_getf (kf := 8) o cf_X8 (sh70 j r) rfl (Nat.le_of_ble_eq_true rfl) fl_X8_44 (q_dm dm_X8_goThrough 36 rfl) ?_
  refine qr_imul o (q_dm dm_X8_goThrough 37 rfl) ?_
  refine qr_ishl o (q_dm dm_X8_goThrough 38 rfl) ?_
  refine qr_icmp_ge (tgt := 156) o (q_dm dm_X8_goThrough 39 rfl) (by decide) ?_ ?_
  · exact qr_vret o rfl (q_dm dm_X8_goThrough 85 rfl)
  · refine qr_aload_n o (q_dm dm_X8_goThrough 40 rfl) rfl ?_
    refine qr_iload_n o (q_dm dm_X8_goThrough 41 rfl) rfl ?_
    refine qr_iload_n o (q_dm dm_X8_goThrough 42 rfl) rfl ?_
    refine qr_callv_i (As := [.inl a3, .inl a1]) (S := []) o (a_X8_fits g k.2.1 n j r hj hr a3 a1 M) (Nat.le_of_ble_eq_true rfl) zv_X8_fits rfl cf_X8 (sh70 j r) ml_X8_79 (Nat.le_of_ble_eq_true rfl) (q_dm dm_X8_goThrough 43 rfl) (fun r1 m2 => ?_)
    refine qr_if_eq (tgt := 150) o (q_dm dm_X8_goThrough 44 rfl) (by decide) ?_ ?_
    · refine qs_iincl2 (L' := fun x3 => [some (.inr (some 70)), some (.inl a1), none, some (.inl x3), none]) o (q_dm dm_X8_goThrough 83 rfl) rfl ic_1 (Nat.le_of_ble_eq_true rfl) (fun _ => rfl) (fun x3 => ?_)
      refine qr_goto (tgt := 57) o (q_dm dm_X8_goThrough 84 rfl) (by decide) ?_
      exact qr_loc (q_leS (q_leS (q_leN (q_leS (q_leN q_le0))))) (hK57 a1 x3 m2)
    · refine qr_aload_n o (q_dm dm_X8_goThrough 45 rfl) rfl ?_
      refine qr_aload_n o (q_dm dm_X8_goThrough 46 rfl) rfl ?_
      refine qr_getf (kf := 10) o cf_X8 (sh70 j r) rfl (Nat.le_of_ble_eq_true rfl) fl_X8_63 (q_dm dm_X8_goThrough 47 rfl) ?_
      refine qr_if_ne (tgt := 90) o (q_dm dm_X8_goThrough 48 rfl) (by decide) ?_ ?_
      · refine qr_aload_n o (q_dm dm_X8_goThrough 51 rfl) rfl ?_
        refine qr_getf (kf := 11) o cf_X8 (sh70 j r) rfl (Nat.le_of_ble_eq_true rfl) fl_X8_66 (q_dm dm_X8_goThrough 52 rfl) ?_
        exact qr_loc (q_leS (q_leS (q_leN (q_leS (q_leN q_le0))))) (w_X8_goThrough_94 n j r hj hr o K57 hK57 a1 a3 (m2 70 11) m2)
      · refine qr_iload_n o (q_dm dm_X8_goThrough 49 rfl) rfl ?_
        refine qr_goto (tgt := 94) o (q_dm dm_X8_goThrough 50 rfl) (by decide) ?_
        exact qr_loc (q_leS (q_leS (q_leN (q_leS (q_leN q_le0))))) (w_X8_goThrough_94 n j r hj hr o K57 hK57 a1 a3 a3 m2)

def f_X8_goThrough_57 (n : Nat) (j : Nat) : Nat → Int32 → Int32 → qM → qR
  | 0, _, _, _ => none
  | m + 1, a1, a3, M => b_X8_goThrough_57 n j (f_X8_goThrough_57 n j m) a1 a3 M
theorem w_X8_goThrough_57 {g : qG} {k : qK} (n : Nat) (j r : Nat) (hj : q_isLaw j) (hr : q_isLaw r) (o : qOk g 4 zX8_goThrough k) : ∀ (m : Nat) (a1 a3 : Int32) (M : qM), qAE g k zX8_goThrough (qL j r) 57 [some (.inr (some 70)), some (.inl a1), none, some (.inl a3), none] [] (qL j r, M) (f_X8_goThrough_57 n j m a1 a3 M) := by
  intro m
  induction m with
  | zero =>
    intro a1 a3 M
    exact qr_none
  | succ m ih =>
    intro a1 a3 M
    exact wb_X8_goThrough_57 n j r hj hr o (f_X8_goThrough_57 n j m) ih a1 a3 M
def b_X8_goThrough_21 (n : Nat) (j : Nat) (K21 : Int32 → Int32 → Int32 → qM → qR) (a1 a2 a3 : Int32) (M : qM) : qR :=
  (if (M 70 8) ≤ a3 then f_X8_goThrough_57 n j n a1 (0 : Int32) M else qg a3 4 (qc (f_X1_alikes n j (M 71 a3.toNatClampNeg) a2 M) (fun r1 m2 => qg a3 4 (qlm (mu m2 72 a3.toNatClampNeg r1) (fun m3 => ql (a3 + (1 : Int32)) (fun x4 => K21 a1 a2 x4 m3))))))
set_option maxRecDepth 4000 in
theorem wb_X8_goThrough_21 {g : qG} {k : qK} (n : Nat) (j r : Nat) (hj : q_isLaw j) (hr : q_isLaw r) (o : qOk g 4 zX8_goThrough k) (K21 : Int32 → Int32 → Int32 → qM → qR) (hK21 : ∀ (a1 a2 a3 : Int32) (M : qM), qAE g k zX8_goThrough (qL j r) 21 [some (.inr (some 70)), some (.inl a1), some (.inl a2), some (.inl a3), none] [] (qL j r, M) (K21 a1 a2 a3 M)) (a1 a2 a3 : Int32) (M : qM) : qAE g k zX8_goThrough (qL j r) 21 [some (.inr (some 70)), some (.inl a1), some (.inl a2), some (.inl a3), none] [] (qL j r, M) (b_X8_goThrough_21 n j K21 a1 a2 a3 M) := by
  unfold b_X8_goThrough_21
  refine qr_iload_n o (q_dm dm_X8_goThrough 12 rfl) rfl ?_
  refine qr_aload_n o (q_dm dm_X8_goThrough 13 rfl) rfl ?_
  refine qr_getf (kf := 8) o cf_X8 (sh70 j r) rfl (Nat.le_of_ble_eq_true rfl) fl_X8_44 (q_dm dm_X8_goThrough 14 rfl) ?_
  refine qr_icmp_ge (tgt := 55) o (q_dm dm_X8_goThrough 15 rfl) (by decide) ?_ ?_
  · refine qr_iconst o (q_dm dm_X8_goThrough 30 rfl) ic_0 ?_
    refine qs_istore_n (L' := [some (.inr (some 70)), some (.inl a1), some (.inl a2), some (.inl (0 : Int32)), none]) o (q_dm dm_X8_goThrough 31 rfl) (Nat.le_of_ble_eq_true rfl) rfl ?_
    exact qr_loc (q_leS (q_leS (q_leN (q_leS (q_leN q_le0))))) (w_X8_goThrough_57 n j r hj hr o n a1 (0 : Int32) M)
  · refine qr_aload_n o (q_dm dm_X8_goThrough 16 rfl) rfl ?_
    refine qr_getr (kf := 3) o cf_X8 (sh70 j r) rfl (Nat.le_of_ble_eq_true rfl) fl_X8_15 (q_dm dm_X8_goThrough 17 rfl) ?_
    refine qr_iload_n o (q_dm dm_X8_goThrough 18 rfl) rfl ?_
    refine qr_aload_n o (q_dm dm_X8_goThrough 19 rfl) rfl ?_
    refine qr_getr (kf := 1) o cf_X8 (sh70 j r) rfl (Nat.le_of_ble_eq_true rfl) fl_X8_34 (q_dm dm_X8_goThrough 20 rfl) ?_
    refine qr_aload_n o (q_dm dm_X8_goThrough 21 rfl) rfl ?_
    refine qr_getr (kf := 2) o cf_X8 (sh70 j r) rfl (Nat.le_of_ble_eq_true rfl) fl_X8_9 (q_dm dm_X8_goThrough 22 rfl) ?_
    refine qr_iload_n o (q_dm dm_X8_goThrough 23 rfl) rfl ?_
    refine qr_iald o (sh71 j r) (q_dm dm_X8_goThrough 24 rfl) ?_
    refine qr_iload_n o (q_dm dm_X8_goThrough 25 rfl) rfl ?_
    refine qr_callv_i (As := [.inl (M 71 a3.toNatClampNeg), .inl a2]) (S := [.inl a3, .inr (some 72)]) o (a_X1_alikes g k.2.1 n j r hj hr (M 71 a3.toNatClampNeg) a2 M) (Nat.le_of_ble_eq_true rfl) zv_X1_alikes rfl cf_X1 (sh34 j r) ml_X8_75 (Nat.le_of_ble_eq_true rfl) (q_dm dm_X8_goThrough 26 rfl) (fun r1 m2 => ?_)
    refine qr_iast o (sh72 j r) (q_dm dm_X8_goThrough 27 rfl) ?_
    refine qr_letm (fun m3 => ?_)
    refine qs_iincl2 (L' := fun x4 => [some (.inr (some 70)), some (.inl a1), some (.inl a2), some (.inl x4), none]) o (q_dm dm_X8_goThrough 28 rfl) rfl ic_1 (Nat.le_of_ble_eq_true rfl) (fun _ => rfl) (fun x4 => ?_)
    refine qr_goto (tgt := 21) o (q_dm dm_X8_goThrough 29 rfl) (by decide) ?_
    exact qr_loc (q_leS (q_leS (q_leS (q_leS (q_leN q_le0))))) (hK21 a1 a2 x4 m3)

def f_X8_goThrough_21 (n : Nat) (j : Nat) : Nat → Int32 → Int32 → Int32 → qM → qR
  | 0, _, _, _, _ => none
  | m + 1, a1, a2, a3, M => b_X8_goThrough_21 n j (f_X8_goThrough_21 n j m) a1 a2 a3 M
theorem w_X8_goThrough_21 {g : qG} {k : qK} (n : Nat) (j r : Nat) (hj : q_isLaw j) (hr : q_isLaw r) (o : qOk g 4 zX8_goThrough k) : ∀ (m : Nat) (a1 a2 a3 : Int32) (M : qM), qAE g k zX8_goThrough (qL j r) 21 [some (.inr (some 70)), some (.inl a1), some (.inl a2), some (.inl a3), none] [] (qL j r, M) (f_X8_goThrough_21 n j m a1 a2 a3 M) := by
  intro m
  induction m with
  | zero =>
    intro a1 a2 a3 M
    exact qr_none
  | succ m ih =>
    intro a1 a2 a3 M
    exact wb_X8_goThrough_21 n j r hj hr o (f_X8_goThrough_21 n j m) ih a1 a2 a3 M
def f_X8_goThrough (n : Nat) (j : Nat) (a1 a2 : Int32) (M : qM) : qR :=
  qlm (mu M 70 10 (0 : Int32)) (fun m1 => qlm (mu m1 70 11 (-2 : Int32)) (fun m2 => qc (f_J7_fill_53178 n 76 4 (0 : Int32) m2) (fun _ m3 => f_X8_goThrough_21 n j n a1 a2 (0 : Int32) m3)))
set_option maxRecDepth 4000 in
theorem w_X8_goThrough {g : qG} {k : qK} (n : Nat) (j r : Nat) (hj : q_isLaw j) (hr : q_isLaw r) (o : qOk g 4 zX8_goThrough k) (a1 a2 : Int32) (M : qM) : qAE g k zX8_goThrough (qL j r) 0 [some (.inr (some 70)), some (.inl a1), some (.inl a2), none, none] [] (qL j r, M) (f_X8_goThrough n j a1 a2 M) := by
  unfold f_X8_goThrough
  refine qr_aload_n o (q_dm dm_X8_goThrough 0 rfl) rfl ?_
  refine qr_iconst o (q_dm dm_X8_goThrough 1 rfl) ic_0 ?_
  refine qr_putf (kf := 10) o cf_X8 (sh70 j r) rfl (Nat.le_of_ble_eq_true rfl) fl_X8_63 rfl (by decide +kernel) (q_dm dm_X8_goThrough 2 rfl) ?_
  refine qr_letm (fun m1 => ?_)
  refine qr_aload_n o (q_dm dm_X8_goThrough 3 rfl) rfl ?_
  refine qr_bipush o (q_dm dm_X8_goThrough 4 rfl) bi_m2 ?_
  refine qr_putf (kf := 11) o cf_X8 (sh70 j r) rfl (Nat.le_of_ble_eq_true rfl) fl_X8_66 rfl (by decide +kernel) (q_dm dm_X8_goThrough 5 rfl) ?_
  refine qr_letm (fun m2 => ?_)
  refine qr_aload_n o (q_dm dm_X8_goThrough 6 rfl) rfl ?_
  refine qr_getr (kf := 7) o cf_X8 (sh70 j r) rfl (Nat.le_of_ble_eq_true rfl) fl_X8_27 (q_dm dm_X8_goThrough 7 rfl) ?_
  refine qr_iconst o (q_dm dm_X8_goThrough 8 rfl) ic_0 ?_
  refine qr_calls_v (As := [.inr (some 76), .inl (0 : Int32)]) (S := []) o (a_J7_fill_53178 g k.2.1 n j r hj hr (sh76 j r) (0 : Int32) m2) (Nat.le_of_ble_eq_true rfl) zs_J7_fill_53178 rfl ml_X8_69 (Nat.le_of_ble_eq_true rfl) (q_dm dm_X8_goThrough 9 rfl) (fun _ m3 => ?_)
  refine qr_iconst o (q_dm dm_X8_goThrough 10 rfl) ic_0 ?_
  refine qs_istore_n (L' := [some (.inr (some 70)), some (.inl a1), some (.inl a2), some (.inl (0 : Int32)), none]) o (q_dm dm_X8_goThrough 11 rfl) (Nat.le_of_ble_eq_true rfl) rfl ?_
  exact qr_loc (q_leS (q_leS (q_leS (q_leS (q_leN q_le0))))) (w_X8_goThrough_21 n j r hj hr o n a1 a2 (0 : Int32) m3)

theorem a_X8_goThrough (g : qG) (l : Launch) (n : Nat) (j r : Nat) (hj : q_isLaw j) (hr : q_isLaw r) (a1 a2 : Int32) (M : qM) : qAM g l 4 zX8_goThrough (qL j r) [.inr (some 70), .inl a1, .inl a2] (qL j r, M) (f_X8_goThrough n j a1 a2 M) :=
  qAM.of zv_X8_goThrough.1 (by show 3 ≤ 5; decide) (fun k hk o => w_X8_goThrough n j r hj hr o a1 a2 M)
def tb_X8_read : List (Nat × Instr × Nat) := [(0, (.aload_n 0, 1)), (1, (.iload_n 2, 1)), (2, (.iconst 4, 1)), (3, (.invokestatic 38, 3)), (6, (.putfield 44, 3)), (9, (.aload_n 0, 1)), (10, (.iload_n 3, 1)), (11, (.bipush 10, 2)), (13, (.invokestatic 38, 3)), (16, (.putfield 48, 3)), (19, (.iconst 0, 1)), (20, (.istore 4, 2)), (22, (.iconst 0, 1)), (23, (.istore 5, 2)), (25, (.iload 5, 2)), (27, (.aload_n 0, 1)), (28, (.getfield 44, 3)), (31, (.if_icmp .ge 71, 3)), (34, (.aload_n 0, 1)), (35, (.getfield 9, 3)), (38, (.iload 5, 2)), (40, (.aload_n 1, 1)), (41, (.iload 5, 2)), (43, (.invokevirtual 51, 3)), (46, (.iastore, 1)), (47, (.aload_n 0, 1)), (48, (.getfield 30, 3)), (51, (.aload_n 0, 1)), (52, (.getfield 9, 3)), (55, (.iload 5, 2)), (57, (.iaload, 1)), (58, (.invokevirtual 57, 3)), (61, (.ifCond .eq 19, 3)), (64, (.iload 4, 2)), (66, (.aload_n 0, 1)), (67, (.getfield 9, 3)), (70, (.iload 5, 2)), (72, (.iaload, 1)), (73, (.ishr, 1)), (74, (.iconst 1, 1)), (75, (.iand, 1)), (76, (.iconst 1, 1)), (77, (.if_icmp .ne 5, 3)), (80, (.iconst 0, 1)), (81, (.ireturn, 1)), (82, (.iload 4, 2)), (84, (.iconst 1, 1)), (85, (.aload_n 0, 1)), (86, (.getfield 9, 3)), (89, (.iload 5, 2)), (91, (.iaload, 1)), (92, (.ishl, 1)), (93, (.ior, 1)), (94, (.istore 4, 2)), (96, (.iinc 5 1, 3)), (99, (.goto (-74), 3)), (102, (.iconst 0, 1)), (103, (.istore 5, 2)), (105, (.iload 5, 2)), (107, (.aload_n 0, 1)), (108, (.getfield 48, 3)), (111, (.if_icmp .ge 98, 3)), (114, (.aload_n 0, 1)), (115, (.getfield 18, 3)), (118, (.iload 5, 2)), (120, (.aload_n 1, 1)), (121, (.aload_n 0, 1)), (122, (.getfield 44, 3)), (125, (.iconst 2, 1)), (126, (.iload 5, 2)), (128, (.imul, 1)), (129, (.iadd, 1)), (130, (.invokevirtual 51, 3)), (133, (.iastore, 1)), (134, (.aload_n 0, 1)), (135, (.getfield 21, 3)), (138, (.iload 5, 2)), (140, (.aload_n 1, 1)), (141, (.aload_n 0, 1)), (142, (.getfield 44, 3)), (145, (.iconst 2, 1)), (146, (.iload 5, 2)), (148, (.imul, 1)), (149, (.iadd, 1)), (150, (.iconst 1, 1)), (151, (.iadd, 1)), (152, (.invokevirtual 51, 3)), (155, (.iastore, 1)), (156, (.aload_n 0, 1)), (157, (.getfield 18, 3)), (160, (.iload 5, 2)), (162, (.iaload, 1)), (163, (.ifCond .lt 38, 3)), (166, (.aload_n 0, 1)), (167, (.getfield 18, 3)), (170, (.iload 5, 2)), (172, (.iaload, 1)), (173, (.aload_n 0, 1)), (174, (.getfield 44, 3)), (177, (.if_icmp .ge 24, 3)), (180, (.aload_n 0, 1)), (181, (.getfield 21, 3)), (184, (.iload 5, 2)), (186, (.iaload, 1)), (187, (.ifCond .lt 14, 3)), (190, (.aload_n 0, 1)), (191, (.getfield 21, 3)), (194, (.iload 5, 2)), (196, (.iaload, 1)), (197, (.iconst 1, 1)), (198, (.if_icmp .le 5, 3)), (201, (.iconst 0, 1)), (202, (.ireturn, 1)), (203, (.iinc 5 1, 3)), (206, (.goto (-101), 3)), (209, (.iconst 1, 1)), (210, (.ireturn, 1))]
theorem dm_X8_read : ∀ q ∈ tb_X8_read, decode zX8_read.2.1 q.1 = .ok q.2 := by decide +kernel
def b_X8_read_105 (n : Nat) (K105 : Int32 → qM → qR) (a5 : Int32) (M : qM) : qR :=
  (if (M 70 9) ≤ a5 then some ((1 : Int32), M) else qc (f_X9_at n ((M 70 8) + ((2 : Int32) * a5)) M) (fun r1 m2 => qg a5 10 (qlm (mu m2 73 a5.toNatClampNeg r1) (fun m3 => qc (f_X9_at n (((m3 70 8) + ((2 : Int32) * a5)) + (1 : Int32)) m3) (fun r4 m5 => qg a5 10 (qlm (mu m5 74 a5.toNatClampNeg r4) (fun m6 => qg a5 10 ((if (m6 73 a5.toNatClampNeg) < (0 : Int32) then some ((0 : Int32), m6) else qg a5 10 ((if (m6 70 8) ≤ (m6 73 a5.toNatClampNeg) then some ((0 : Int32), m6) else qg a5 10 ((if (m6 74 a5.toNatClampNeg) < (0 : Int32) then some ((0 : Int32), m6) else qg a5 10 ((if (m6 74 a5.toNatClampNeg) ≤ (1 : Int32) then ql (a5 + (1 : Int32)) (fun x7 => K105 x7 m6) else some ((0 : Int32), m6))))))))))))))))
set_option maxRecDepth 4000 in
theorem wb_X8_read_105 {g : qG} {k : qK} (n : Nat) (j r : Nat) (hj : q_isLaw j) (hr : q_isLaw r) (o : qOk g 1 zX8_read k) (K105 : Int32 → qM → qR) (hK105 : ∀ (a5 : Int32) (M : qM), qAE g k zX8_read (qL j r) 105 [some (.inr (some 70)), some (.inr (some 1)), none, none, none, some (.inl a5)] [] (qL j r, M) (K105 a5 M)) (a5 : Int32) (M : qM) : qAE g k zX8_read (qL j r) 105 [some (.inr (some 70)), some (.inr (some 1)), none, none, none, some (.inl a5)] [] (qL j r, M) (b_X8_read_105 n K105 a5 M) := by
  unfold b_X8_read_105
  refine qr_iload o (q_dm dm_X8_read 58 rfl) rfl ?_
  refine qr_aload_n o (q_dm dm_X8_read 59 rfl) rfl ?_
  refine qr_getf (kf := 9) o cf_X8 (sh70 j r) rfl (Nat.le_of_ble_eq_true rfl) fl_X8_48 (q_dm dm_X8_read 60 rfl) ?_
  refine qr_icmp_ge (tgt := 209) o (q_dm dm_X8_read 61 rfl) (by decide) ?_ ?_
  · refine qr_iconst o (q_dm dm_X8_read 115 rfl) ic_1 ?_
    exact qr_iret o rfl (by decide) (q_dm dm_X8_read 116 rfl)
  · refine qr_aload_n o (q_dm dm_X8_read 62 rfl) rfl ?_
    refine qr_getr (kf := 4) o cf_X8 (sh70 j r) rfl (Nat.le_of_ble_eq_true rfl) fl_X8_18 (q_dm dm_X8_read 63 rfl) ?_
    refine qr_iload o (q_dm dm_X8_read 64 rfl) rfl ?_
    refine qr_aload_n o (q_dm dm_X8_read 65 rfl) rfl ?_
    refine qr_aload_n o (q_dm dm_X8_read 66 rfl) rfl ?_
    refine qr_getf (kf := 8) o cf_X8 (sh70 j r) rfl (Nat.le_of_ble_eq_true rfl) fl_X8_44 (q_dm dm_X8_read 67 rfl) ?_
    refine qr_iconst o (q_dm dm_X8_read 68 rfl) ic_2 ?_
    refine qr_iload o (q_dm dm_X8_read 69 rfl) rfl ?_
    refine qr_imul o (q_dm dm_X8_read 70 rfl) ?_
    refine qr_iadd o (q_dm dm_X8_read 71 rfl) ?_
    refine qr_callv_i (As := [.inl ((M 70 8) + ((2 : Int32) * a5))]) (S := [.inl a5, .inr (some 73)]) o (a_X9_at g k.2.1 n j r hj hr ((M 70 8) + ((2 : Int32) * a5)) M) (Nat.le_of_ble_eq_true rfl) zv_X9_at rfl cf_X9 (sh1 j r) ml_X8_51 (Nat.le_of_ble_eq_true rfl) (q_dm dm_X8_read 72 rfl) (fun r1 m2 => ?_)
    refine qr_iast o (sh73 j r) (q_dm dm_X8_read 73 rfl) ?_
    refine qr_letm (fun m3 => ?_)
    refine qr_aload_n o (q_dm dm_X8_read 74 rfl) rfl ?_
    refine qr_getr (kf := 5) o cf_X8 (sh70 j r) rfl (Nat.le_of_ble_eq_true rfl) fl_X8_21 (q_dm dm_X8_read 75 rfl) ?_
    refine qr_iload o (q_dm dm_X8_read 76 rfl) rfl ?_
    refine qr_aload_n o (q_dm dm_X8_read 77 rfl) rfl ?_
    refine qr_aload_n o (q_dm dm_X8_read 78 rfl) rfl ?_
    refine qr_getf (kf := 8) o cf_X8 (sh70 j r) rfl (Nat.le_of_ble_eq_true rfl) fl_X8_44 (q_dm dm_X8_read 79 rfl) ?_
    refine qr_iconst o (q_dm dm_X8_read 80 rfl) ic_2 ?_
    refine qr_iload o (q_dm dm_X8_read 81 rfl) rfl ?_
    refine qr_imul o (q_dm dm_X8_read 82 rfl) ?_
    refine qr_iadd o (q_dm dm_X8_read 83 rfl) ?_
    refine qr_iconst o (q_dm dm_X8_read 84 rfl) ic_1 ?_
    refine qr_iadd o (q_dm dm_X8_read 85 rfl) ?_
    refine qr_callv_i (As := [.inl (((m3 70 8) + ((2 : Int32) * a5)) + (1 : Int32))]) (S := [.inl a5, .inr (some 74)]) o (a_X9_at g k.2.1 n j r hj hr (((m3 70 8) + ((2 : Int32) * a5)) + (1 : Int32)) m3) (Nat.le_of_ble_eq_true rfl) zv_X9_at rfl cf_X9 (sh1 j r) ml_X8_51 (Nat.le_of_ble_eq_true rfl) (q_dm dm_X8_read 86 rfl) (fun r4 m5 => ?_)
    refine qr_iast o (sh74 j r) (q_dm dm_X8_read 87 rfl) ?_
    refine qr_letm (fun m6 => ?_)
    refine qr_aload_n o (q_dm dm_X8_read 88 rfl) rfl ?_
    refine qr_getr (kf := 4) o cf_X8 (sh70 j r) rfl (Nat.le_of_ble_eq_true rfl) fl_X8_18 (q_dm dm_X8_read 89 rfl) ?_
    refine qr_iload o (q_dm dm_X8_read 90 rfl) rfl ?_
    refine qr_iald o (sh73 j r) (q_dm dm_X8_read 91 rfl) ?_
    refine qr_if_lt (tgt := 201) o (q_dm dm_X8_read 92 rfl) (by decide) ?_ ?_
    · refine qr_iconst o (q_dm dm_X8_read 111 rfl) ic_0 ?_
      exact qr_iret o rfl (by decide) (q_dm dm_X8_read 112 rfl)
    · refine qr_aload_n o (q_dm dm_X8_read 93 rfl) rfl ?_
      refine qr_getr (kf := 4) o cf_X8 (sh70 j r) rfl (Nat.le_of_ble_eq_true rfl) fl_X8_18 (q_dm dm_X8_read 94 rfl) ?_
      refine qr_iload o (q_dm dm_X8_read 95 rfl) rfl ?_
      refine qr_iald o (sh73 j r) (q_dm dm_X8_read 96 rfl) ?_
      refine qr_aload_n o (q_dm dm_X8_read 97 rfl) rfl ?_
      refine qr_getf (kf := 8) o cf_X8 (sh70 j r) rfl (Nat.le_of_ble_eq_true rfl) fl_X8_44 (q_dm dm_X8_read 98 rfl) ?_
      refine qr_icmp_ge (tgt := 201) o (q_dm dm_X8_read 99 rfl) (by decide) ?_ ?_
      · refine qr_iconst o (q_dm dm_X8_read 111 rfl) ic_0 ?_
        exact qr_iret o rfl (by decide) (q_dm dm_X8_read 112 rfl)
      · refine qr_aload_n o (q_dm dm_X8_read 100 rfl) rfl ?_
        refine qr_getr (kf := 5) o cf_X8 (sh70 j r) rfl (Nat.le_of_ble_eq_true rfl) fl_X8_21 (q_dm dm_X8_read 101 rfl) ?_
        refine qr_iload o (q_dm dm_X8_read 102 rfl) rfl ?_
        refine qr_iald o (sh74 j r) (q_dm dm_X8_read 103 rfl) ?_
        refine qr_if_lt (tgt := 201) o (q_dm dm_X8_read 104 rfl) (by decide) ?_ ?_
        · refine qr_iconst o (q_dm dm_X8_read 111 rfl) ic_0 ?_
          exact qr_iret o rfl (by decide) (q_dm dm_X8_read 112 rfl)
        · refine qr_aload_n o (q_dm dm_X8_read 105 rfl) rfl ?_
          refine qr_getr (kf := 5) o cf_X8 (sh70 j r) rfl (Nat.le_of_ble_eq_true rfl) fl_X8_21 (q_dm dm_X8_read 106 rfl) ?_
          refine qr_iload o (q_dm dm_X8_read 107 rfl) rfl ?_
          refine qr_iald o (sh74 j r) (q_dm dm_X8_read 108 rfl) ?_
          refine qr_iconst o (q_dm dm_X8_read 109 rfl) ic_1 ?_
          refine qr_icmp_le (tgt := 203) o (q_dm dm_X8_read 110 rfl) (by decide) ?_ ?_
          · refine qs_iincl2 (L' := fun x7 => [some (.inr (some 70)), some (.inr (some 1)), none, none, none, some (.inl x7)]) o (q_dm dm_X8_read 113 rfl) rfl ic_1 (Nat.le_of_ble_eq_true rfl) (fun _ => rfl) (fun x7 => ?_)
            refine qr_goto (tgt := 105) o (q_dm dm_X8_read 114 rfl) (by decide) ?_
            exact qr_loc (q_leS (q_leS (q_leN (q_leN (q_leN (q_leS q_le0)))))) (hK105 x7 m6)
          · refine qr_iconst o (q_dm dm_X8_read 111 rfl) ic_0 ?_
            exact qr_iret o rfl (by decide) (q_dm dm_X8_read 112 rfl)

def f_X8_read_105 (n : Nat) : Nat → Int32 → qM → qR
  | 0, _, _ => none
  | m + 1, a5, M => b_X8_read_105 n (f_X8_read_105 n m) a5 M
theorem w_X8_read_105 {g : qG} {k : qK} (n : Nat) (j r : Nat) (hj : q_isLaw j) (hr : q_isLaw r) (o : qOk g 1 zX8_read k) : ∀ (m : Nat) (a5 : Int32) (M : qM), qAE g k zX8_read (qL j r) 105 [some (.inr (some 70)), some (.inr (some 1)), none, none, none, some (.inl a5)] [] (qL j r, M) (f_X8_read_105 n m a5 M) := by
  intro m
  induction m with
  | zero =>
    intro a5 M
    exact qr_none
  | succ m ih =>
    intro a5 M
    exact wb_X8_read_105 n j r hj hr o (f_X8_read_105 n m) ih a5 M
def b_X8_read_25 (n : Nat) (K25 : Int32 → Int32 → qM → qR) (a4 a5 : Int32) (M : qM) : qR :=
  (if (M 70 8) ≤ a5 then f_X8_read_105 n n (0 : Int32) M else qc (f_X9_at n a5 M) (fun r1 m2 => qg a5 4 (qlm (mu m2 71 a5.toNatClampNeg r1) (fun m3 => qg a5 4 (qc (f_X2_knows n (m3 71 a5.toNatClampNeg) m3) (fun r4 m5 => (if r4 = (0 : Int32) then some ((0 : Int32), m5) else qg a5 4 ((if ((a4 >>> ((m5 71 a5.toNatClampNeg) &&& 31)) &&& (1 : Int32)) = (1 : Int32) then some ((0 : Int32), m5) else qg a5 4 (ql (a4 ||| ((1 : Int32) <<< ((m5 71 a5.toNatClampNeg) &&& 31))) (fun x6 => ql (a5 + (1 : Int32)) (fun x7 => K25 x6 x7 m5))))))))))))
set_option maxRecDepth 4000 in
theorem wb_X8_read_25 {g : qG} {k : qK} (n : Nat) (j r : Nat) (hj : q_isLaw j) (hr : q_isLaw r) (o : qOk g 1 zX8_read k) (K25 : Int32 → Int32 → qM → qR) (hK25 : ∀ (a4 a5 : Int32) (M : qM), qAE g k zX8_read (qL j r) 25 [some (.inr (some 70)), some (.inr (some 1)), none, none, some (.inl a4), some (.inl a5)] [] (qL j r, M) (K25 a4 a5 M)) (a4 a5 : Int32) (M : qM) : qAE g k zX8_read (qL j r) 25 [some (.inr (some 70)), some (.inr (some 1)), none, none, some (.inl a4), some (.inl a5)] [] (qL j r, M) (b_X8_read_25 n K25 a4 a5 M) := by
  unfold b_X8_read_25
  refine qr_iload o (q_dm dm_X8_read 14 rfl) rfl ?_
  refine qr_aload_n o (q_dm dm_X8_read 15 rfl) rfl ?_
  refine qr_getf (kf := 8) o cf_X8 (sh70 j r) rfl (Nat.le_of_ble_eq_true rfl) fl_X8_44 (q_dm dm_X8_read 16 rfl) ?_
  refine qr_icmp_ge (tgt := 102) o (q_dm dm_X8_read 17 rfl) (by decide) ?_ ?_
  · refine qr_iconst o (q_dm dm_X8_read 56 rfl) ic_0 ?_
    refine qs_istore (L' := [some (.inr (some 70)), some (.inr (some 1)), none, none, some (.inl a4), some (.inl (0 : Int32))]) o (q_dm dm_X8_read 57 rfl) (Nat.le_of_ble_eq_true rfl) rfl ?_
    exact qr_loc (q_leS (q_leS (q_leN (q_leN (q_leN (q_leS q_le0)))))) (w_X8_read_105 n j r hj hr o n (0 : Int32) M)
  · refine qr_aload_n o (q_dm dm_X8_read 18 rfl) rfl ?_
    refine qr_getr (kf := 2) o cf_X8 (sh70 j r) rfl (Nat.le_of_ble_eq_true rfl) fl_X8_9 (q_dm dm_X8_read 19 rfl) ?_
    refine qr_iload o (q_dm dm_X8_read 20 rfl) rfl ?_
    refine qr_aload_n o (q_dm dm_X8_read 21 rfl) rfl ?_
    refine qr_iload o (q_dm dm_X8_read 22 rfl) rfl ?_
    refine qr_callv_i (As := [.inl a5]) (S := [.inl a5, .inr (some 71)]) o (a_X9_at g k.2.1 n j r hj hr a5 M) (Nat.le_of_ble_eq_true rfl) zv_X9_at rfl cf_X9 (sh1 j r) ml_X8_51 (Nat.le_of_ble_eq_true rfl) (q_dm dm_X8_read 23 rfl) (fun r1 m2 => ?_)
    refine qr_iast o (sh71 j r) (q_dm dm_X8_read 24 rfl) ?_
    refine qr_letm (fun m3 => ?_)
    refine qr_aload_n o (q_dm dm_X8_read 25 rfl) rfl ?_
    refine qr_getr (kf := 0) o cf_X8 (sh70 j r) rfl (Nat.le_of_ble_eq_true rfl) fl_X8_30 (q_dm dm_X8_read 26 rfl) ?_
    refine qr_aload_n o (q_dm dm_X8_read 27 rfl) rfl ?_
    refine qr_getr (kf := 2) o cf_X8 (sh70 j r) rfl (Nat.le_of_ble_eq_true rfl) fl_X8_9 (q_dm dm_X8_read 28 rfl) ?_
    refine qr_iload o (q_dm dm_X8_read 29 rfl) rfl ?_
    refine qr_iald o (sh71 j r) (q_dm dm_X8_read 30 rfl) ?_
    refine qr_callv_i (As := [.inl (m3 71 a5.toNatClampNeg)]) (S := []) o (a_X2_knows g k.2.1 n j r hj hr (m3 71 a5.toNatClampNeg) m3) (Nat.le_of_ble_eq_true rfl) zv_X2_knows rfl cf_X2 (sh3 j r) ml_X8_57 (Nat.le_of_ble_eq_true rfl) (q_dm dm_X8_read 31 rfl) (fun r4 m5 => ?_)
    refine qr_if_eq (tgt := 80) o (q_dm dm_X8_read 32 rfl) (by decide) ?_ ?_
    · refine qr_iconst o (q_dm dm_X8_read 43 rfl) ic_0 ?_
      exact qr_iret o rfl (by decide) (q_dm dm_X8_read 44 rfl)
    · refine qr_iload o (q_dm dm_X8_read 33 rfl) rfl ?_
      refine qr_aload_n o (q_dm dm_X8_read 34 rfl) rfl ?_
      refine qr_getr (kf := 2) o cf_X8 (sh70 j r) rfl (Nat.le_of_ble_eq_true rfl) fl_X8_9 (q_dm dm_X8_read 35 rfl) ?_
      refine qr_iload o (q_dm dm_X8_read 36 rfl) rfl ?_
      refine qr_iald o (sh71 j r) (q_dm dm_X8_read 37 rfl) ?_
      refine qr_ishr o (q_dm dm_X8_read 38 rfl) ?_
      refine qr_iconst o (q_dm dm_X8_read 39 rfl) ic_1 ?_
      refine qr_iand o (q_dm dm_X8_read 40 rfl) ?_
      refine qr_iconst o (q_dm dm_X8_read 41 rfl) ic_1 ?_
      refine qr_icmp_ne (tgt := 82) o (q_dm dm_X8_read 42 rfl) (by decide) ?_ ?_
      · refine qr_iload o (q_dm dm_X8_read 45 rfl) rfl ?_
        refine qr_iconst o (q_dm dm_X8_read 46 rfl) ic_1 ?_
        refine qr_aload_n o (q_dm dm_X8_read 47 rfl) rfl ?_
        refine qr_getr (kf := 2) o cf_X8 (sh70 j r) rfl (Nat.le_of_ble_eq_true rfl) fl_X8_9 (q_dm dm_X8_read 48 rfl) ?_
        refine qr_iload o (q_dm dm_X8_read 49 rfl) rfl ?_
        refine qr_iald o (sh71 j r) (q_dm dm_X8_read 50 rfl) ?_
        refine qr_ishl o (q_dm dm_X8_read 51 rfl) ?_
        refine qr_ior o (q_dm dm_X8_read 52 rfl) ?_
        refine qr_lt (fun x6 => ?_)
        refine qs_istore (L' := [some (.inr (some 70)), some (.inr (some 1)), none, none, some (.inl x6), some (.inl a5)]) o (q_dm dm_X8_read 53 rfl) (Nat.le_of_ble_eq_true rfl) rfl ?_
        refine qs_iincl2 (L' := fun x7 => [some (.inr (some 70)), some (.inr (some 1)), none, none, some (.inl x6), some (.inl x7)]) o (q_dm dm_X8_read 54 rfl) rfl ic_1 (Nat.le_of_ble_eq_true rfl) (fun _ => rfl) (fun x7 => ?_)
        refine qr_goto (tgt := 25) o (q_dm dm_X8_read 55 rfl) (by decide) ?_
        exact qr_loc (q_leS (q_leS (q_leN (q_leN (q_leS (q_leS q_le0)))))) (hK25 x6 x7 m5)
      · refine qr_iconst o (q_dm dm_X8_read 43 rfl) ic_0 ?_
        exact qr_iret o rfl (by decide) (q_dm dm_X8_read 44 rfl)

def f_X8_read_25 (n : Nat) : Nat → Int32 → Int32 → qM → qR
  | 0, _, _, _ => none
  | m + 1, a4, a5, M => b_X8_read_25 n (f_X8_read_25 n m) a4 a5 M
theorem w_X8_read_25 {g : qG} {k : qK} (n : Nat) (j r : Nat) (hj : q_isLaw j) (hr : q_isLaw r) (o : qOk g 1 zX8_read k) : ∀ (m : Nat) (a4 a5 : Int32) (M : qM), qAE g k zX8_read (qL j r) 25 [some (.inr (some 70)), some (.inr (some 1)), none, none, some (.inl a4), some (.inl a5)] [] (qL j r, M) (f_X8_read_25 n m a4 a5 M) := by
  intro m
  induction m with
  | zero =>
    intro a4 a5 M
    exact qr_none
  | succ m ih =>
    intro a4 a5 M
    exact wb_X8_read_25 n j r hj hr o (f_X8_read_25 n m) ih a4 a5 M
def f_X8_read (n : Nat) (a2 a3 : Int32) (M : qM) : qR :=
  qlm (mu M 70 8 (qmin a2 (4 : Int32))) (fun m1 => qlm (mu m1 70 9 (qmin a3 (10 : Int32))) (fun m2 => f_X8_read_25 n n (0 : Int32) (0 : Int32) m2))
set_option maxRecDepth 4000 in
theorem w_X8_read {g : qG} {k : qK} (n : Nat) (j r : Nat) (hj : q_isLaw j) (hr : q_isLaw r) (o : qOk g 1 zX8_read k) (a2 a3 : Int32) (M : qM) : qAE g k zX8_read (qL j r) 0 [some (.inr (some 70)), some (.inr (some 1)), some (.inl a2), some (.inl a3), none, none] [] (qL j r, M) (f_X8_read n a2 a3 M) := by
  unfold f_X8_read
  refine qr_aload_n o (q_dm dm_X8_read 0 rfl) rfl ?_
  refine qr_iload_n o (q_dm dm_X8_read 1 rfl) rfl ?_
  refine qr_iconst o (q_dm dm_X8_read 2 rfl) ic_4 ?_
  refine qr_min o ml_X8_38 (by omega) (Nat.le_of_ble_eq_true rfl) (q_dm dm_X8_read 3 rfl) ?_
  refine qr_putf (kf := 8) o cf_X8 (sh70 j r) rfl (Nat.le_of_ble_eq_true rfl) fl_X8_44 rfl (by decide +kernel) (q_dm dm_X8_read 4 rfl) ?_
  refine qr_letm (fun m1 => ?_)
  refine qr_aload_n o (q_dm dm_X8_read 5 rfl) rfl ?_
  refine qr_iload_n o (q_dm dm_X8_read 6 rfl) rfl ?_
  refine qr_bipush o (q_dm dm_X8_read 7 rfl) bi_10 ?_
  refine qr_min o ml_X8_38 (by omega) (Nat.le_of_ble_eq_true rfl) (q_dm dm_X8_read 8 rfl) ?_
  refine qr_putf (kf := 9) o cf_X8 (sh70 j r) rfl (Nat.le_of_ble_eq_true rfl) fl_X8_48 rfl (by decide +kernel) (q_dm dm_X8_read 9 rfl) ?_
  refine qr_letm (fun m2 => ?_)
  refine qr_iconst o (q_dm dm_X8_read 10 rfl) ic_0 ?_
  refine qs_istore (L' := [some (.inr (some 70)), some (.inr (some 1)), some (.inl a2), some (.inl a3), some (.inl (0 : Int32)), none]) o (q_dm dm_X8_read 11 rfl) (Nat.le_of_ble_eq_true rfl) rfl ?_
  refine qr_iconst o (q_dm dm_X8_read 12 rfl) ic_0 ?_
  refine qs_istore (L' := [some (.inr (some 70)), some (.inr (some 1)), some (.inl a2), some (.inl a3), some (.inl (0 : Int32)), some (.inl (0 : Int32))]) o (q_dm dm_X8_read 13 rfl) (Nat.le_of_ble_eq_true rfl) rfl ?_
  exact qr_loc (q_leS (q_leS (q_leN (q_leN (q_leS (q_leS q_le0)))))) (w_X8_read_25 n j r hj hr o n (0 : Int32) (0 : Int32) m2)

theorem a_X8_read (g : qG) (l : Launch) (n : Nat) (j r : Nat) (hj : q_isLaw j) (hr : q_isLaw r) (a2 a3 : Int32) (M : qM) : qAM g l 1 zX8_read (qL j r) [.inr (some 70), .inr (some 1), .inl a2, .inl a3] (qL j r, M) (f_X8_read n a2 a3 M) :=
  qAM.of zv_X8_read.1 (by show 4 ≤ 6; decide) (fun k hk o => w_X8_read n j r hj hr o a2 a3 M)
def tb_X8_greaterPart : List (Nat × Instr × Nat) := [(0, (.aload_n 0, 1)), (1, (.getfield 27, 3)), (4, (.iload_n 1, 1)), (5, (.iaload, 1)), (6, (.aload_n 0, 1)), (7, (.getfield 63, 3)), (10, (.aload_n 0, 1)), (11, (.getfield 27, 3)), (14, (.iload_n 1, 1)), (15, (.iaload, 1)), (16, (.isub, 1)), (17, (.invokestatic 89, 3)), (20, (.ireturn, 1))]
theorem dm_X8_greaterPart : ∀ q ∈ tb_X8_greaterPart, decode zX8_greaterPart.2.1 q.1 = .ok q.2 := by decide +kernel
def f_X8_greaterPart (n : Nat) (a1 : Int32) (M : qM) : qR :=
  qg a1 4 (qg a1 4 (some ((qmax (M 76 a1.toNatClampNeg) ((M 70 10) - (M 76 a1.toNatClampNeg))), M)))
set_option maxRecDepth 4000 in
theorem w_X8_greaterPart {g : qG} {k : qK} (n : Nat) (j r : Nat) (hj : q_isLaw j) (hr : q_isLaw r) (o : qOk g 1 zX8_greaterPart k) (a1 : Int32) (M : qM) : qAE g k zX8_greaterPart (qL j r) 0 [some (.inr (some 70)), some (.inl a1)] [] (qL j r, M) (f_X8_greaterPart n a1 M) := by
  unfold f_X8_greaterPart
  refine qr_aload_n o (q_dm dm_X8_greaterPart 0 rfl) rfl ?_
  refine qr_getr (kf := 7) o cf_X8 (sh70 j r) rfl (Nat.le_of_ble_eq_true rfl) fl_X8_27 (q_dm dm_X8_greaterPart 1 rfl) ?_
  refine qr_iload_n o (q_dm dm_X8_greaterPart 2 rfl) rfl ?_
  refine qr_iald o (sh76 j r) (q_dm dm_X8_greaterPart 3 rfl) ?_
  refine qr_aload_n o (q_dm dm_X8_greaterPart 4 rfl) rfl ?_
  refine qr_getf (kf := 10) o cf_X8 (sh70 j r) rfl (Nat.le_of_ble_eq_true rfl) fl_X8_63 (q_dm dm_X8_greaterPart 5 rfl) ?_
  refine qr_aload_n o (q_dm dm_X8_greaterPart 6 rfl) rfl ?_
  refine qr_getr (kf := 7) o cf_X8 (sh70 j r) rfl (Nat.le_of_ble_eq_true rfl) fl_X8_27 (q_dm dm_X8_greaterPart 7 rfl) ?_
  refine qr_iload_n o (q_dm dm_X8_greaterPart 8 rfl) rfl ?_
  refine qr_iald o (sh76 j r) (q_dm dm_X8_greaterPart 9 rfl) ?_
  refine qr_isub o (q_dm dm_X8_greaterPart 10 rfl) ?_
  refine qr_max o ml_X8_89 (by omega) (Nat.le_of_ble_eq_true rfl) (q_dm dm_X8_greaterPart 11 rfl) ?_
  exact qr_iret o rfl rfl (q_dm dm_X8_greaterPart 12 rfl)

theorem a_X8_greaterPart (g : qG) (l : Launch) (n : Nat) (j r : Nat) (hj : q_isLaw j) (hr : q_isLaw r) (a1 : Int32) (M : qM) : qAM g l 1 zX8_greaterPart (qL j r) [.inr (some 70), .inl a1] (qL j r, M) (f_X8_greaterPart n a1 M) :=
  qAM.of zv_X8_greaterPart.1 (by show 2 ≤ 2; decide) (fun k hk o => w_X8_greaterPart n j r hj hr o a1 M)
def tb_X8_tellingPlace : List (Nat × Instr × Nat) := [(0, (.iconst 0, 1)), (1, (.istore_n 1, 1)), (2, (.iconst 1, 1)), (3, (.istore_n 2, 1)), (4, (.iload_n 2, 1)), (5, (.aload_n 0, 1)), (6, (.getfield 44, 3)), (9, (.if_icmp .ge 28, 3)), (12, (.aload_n 0, 1)), (13, (.iload_n 2, 1)), (14, (.invokevirtual 86, 3)), (17, (.aload_n 0, 1)), (18, (.iload_n 1, 1)), (19, (.invokevirtual 86, 3)), (22, (.if_icmp .ge 7, 3)), (25, (.iload_n 2, 1)), (26, (.goto 4, 3)), (29, (.iload_n 1, 1)), (30, (.istore_n 1, 1)), (31, (.iinc 2 1, 3)), (34, (.goto (-30), 3)), (37, (.iload_n 1, 1)), (38, (.ireturn, 1))]
theorem dm_X8_tellingPlace : ∀ q ∈ tb_X8_tellingPlace, decode zX8_tellingPlace.2.1 q.1 = .ok q.2 := by decide +kernel
def b_X8_tellingPlace_4 (n : Nat) (K4 : Int32 → Int32 → qM → qR) (a1 a2 : Int32) (M : qM) : qR :=
  (if (M 70 8) ≤ a2 then some (a1, M) else qc (f_X8_greaterPart n a2 M) (fun r1 m2 => qc (f_X8_greaterPart n a1 m2) (fun r3 m4 => (if r3 ≤ r1 then ql (a2 + (1 : Int32)) (fun x5 => K4 a1 x5 m4) else ql (a2 + (1 : Int32)) (fun x6 => K4 a2 x6 m4)))))
set_option maxRecDepth 4000 in
theorem wb_X8_tellingPlace_4 {g : qG} {k : qK} (n : Nat) (j r : Nat) (hj : q_isLaw j) (hr : q_isLaw r) (o : qOk g 2 zX8_tellingPlace k) (K4 : Int32 → Int32 → qM → qR) (hK4 : ∀ (a1 a2 : Int32) (M : qM), qAE g k zX8_tellingPlace (qL j r) 4 [some (.inr (some 70)), some (.inl a1), some (.inl a2)] [] (qL j r, M) (K4 a1 a2 M)) (a1 a2 : Int32) (M : qM) : qAE g k zX8_tellingPlace (qL j r) 4 [some (.inr (some 70)), some (.inl a1), some (.inl a2)] [] (qL j r, M) (b_X8_tellingPlace_4 n K4 a1 a2 M) := by
  unfold b_X8_tellingPlace_4
  refine qr_iload_n o (q_dm dm_X8_tellingPlace 4 rfl) rfl ?_
  refine qr_aload_n o (q_dm dm_X8_tellingPlace 5 rfl) rfl ?_
  refine qr_getf (kf := 8) o cf_X8 (sh70 j r) rfl (Nat.le_of_ble_eq_true rfl) fl_X8_44 (q_dm dm_X8_tellingPlace 6 rfl) ?_
  refine qr_icmp_ge (tgt := 37) o (q_dm dm_X8_tellingPlace 7 rfl) (by decide) ?_ ?_
  · refine qr_iload_n o (q_dm dm_X8_tellingPlace 21 rfl) rfl ?_
    exact qr_iret o rfl rfl (q_dm dm_X8_tellingPlace 22 rfl)
  · refine qr_aload_n o (q_dm dm_X8_tellingPlace 8 rfl) rfl ?_
    refine qr_iload_n o (q_dm dm_X8_tellingPlace 9 rfl) rfl ?_
    refine qr_callv_i (As := [.inl a2]) (S := []) o (a_X8_greaterPart g k.2.1 n j r hj hr a2 M) (Nat.le_of_ble_eq_true rfl) zv_X8_greaterPart rfl cf_X8 (sh70 j r) ml_X8_86 (Nat.le_of_ble_eq_true rfl) (q_dm dm_X8_tellingPlace 10 rfl) (fun r1 m2 => ?_)
    refine qr_aload_n o (q_dm dm_X8_tellingPlace 11 rfl) rfl ?_
    refine qr_iload_n o (q_dm dm_X8_tellingPlace 12 rfl) rfl ?_
    refine qr_callv_i (As := [.inl a1]) (S := [.inl r1]) o (a_X8_greaterPart g k.2.1 n j r hj hr a1 m2) (Nat.le_of_ble_eq_true rfl) zv_X8_greaterPart rfl cf_X8 (sh70 j r) ml_X8_86 (Nat.le_of_ble_eq_true rfl) (q_dm dm_X8_tellingPlace 13 rfl) (fun r3 m4 => ?_)
    refine qr_icmp_ge (tgt := 29) o (q_dm dm_X8_tellingPlace 14 rfl) (by decide) ?_ ?_
    · refine qr_iload_n o (q_dm dm_X8_tellingPlace 17 rfl) rfl ?_
      refine qs_istore_n (L' := [some (.inr (some 70)), some (.inl a1), some (.inl a2)]) o (q_dm dm_X8_tellingPlace 18 rfl) (Nat.le_of_ble_eq_true rfl) rfl ?_
      refine qs_iincl2 (L' := fun x5 => [some (.inr (some 70)), some (.inl a1), some (.inl x5)]) o (q_dm dm_X8_tellingPlace 19 rfl) rfl ic_1 (Nat.le_of_ble_eq_true rfl) (fun _ => rfl) (fun x5 => ?_)
      refine qr_goto (tgt := 4) o (q_dm dm_X8_tellingPlace 20 rfl) (by decide) ?_
      exact qr_loc (q_leS (q_leS (q_leS q_le0))) (hK4 a1 x5 m4)
    · refine qr_iload_n o (q_dm dm_X8_tellingPlace 15 rfl) rfl ?_
      refine qr_goto (tgt := 30) o (q_dm dm_X8_tellingPlace 16 rfl) (by decide) ?_
      refine qs_istore_n (L' := [some (.inr (some 70)), some (.inl a2), some (.inl a2)]) o (q_dm dm_X8_tellingPlace 18 rfl) (Nat.le_of_ble_eq_true rfl) rfl ?_
      refine qs_iincl2 (L' := fun x6 => [some (.inr (some 70)), some (.inl a2), some (.inl x6)]) o (q_dm dm_X8_tellingPlace 19 rfl) rfl ic_1 (Nat.le_of_ble_eq_true rfl) (fun _ => rfl) (fun x6 => ?_)
      refine qr_goto (tgt := 4) o (q_dm dm_X8_tellingPlace 20 rfl) (by decide) ?_
      exact qr_loc (q_leS (q_leS (q_leS q_le0))) (hK4 a2 x6 m4)

def f_X8_tellingPlace_4 (n : Nat) : Nat → Int32 → Int32 → qM → qR
  | 0, _, _, _ => none
  | m + 1, a1, a2, M => b_X8_tellingPlace_4 n (f_X8_tellingPlace_4 n m) a1 a2 M
theorem w_X8_tellingPlace_4 {g : qG} {k : qK} (n : Nat) (j r : Nat) (hj : q_isLaw j) (hr : q_isLaw r) (o : qOk g 2 zX8_tellingPlace k) : ∀ (m : Nat) (a1 a2 : Int32) (M : qM), qAE g k zX8_tellingPlace (qL j r) 4 [some (.inr (some 70)), some (.inl a1), some (.inl a2)] [] (qL j r, M) (f_X8_tellingPlace_4 n m a1 a2 M) := by
  intro m
  induction m with
  | zero =>
    intro a1 a2 M
    exact qr_none
  | succ m ih =>
    intro a1 a2 M
    exact wb_X8_tellingPlace_4 n j r hj hr o (f_X8_tellingPlace_4 n m) ih a1 a2 M
def f_X8_tellingPlace (n : Nat) (M : qM) : qR :=
  f_X8_tellingPlace_4 n n (0 : Int32) (1 : Int32) M
set_option maxRecDepth 4000 in
theorem w_X8_tellingPlace {g : qG} {k : qK} (n : Nat) (j r : Nat) (hj : q_isLaw j) (hr : q_isLaw r) (o : qOk g 2 zX8_tellingPlace k) (M : qM) : qAE g k zX8_tellingPlace (qL j r) 0 [some (.inr (some 70)), none, none] [] (qL j r, M) (f_X8_tellingPlace n  M) := by
  unfold f_X8_tellingPlace
  refine qr_iconst o (q_dm dm_X8_tellingPlace 0 rfl) ic_0 ?_
  refine qs_istore_n (L' := [some (.inr (some 70)), some (.inl (0 : Int32)), none]) o (q_dm dm_X8_tellingPlace 1 rfl) (Nat.le_of_ble_eq_true rfl) rfl ?_
  refine qr_iconst o (q_dm dm_X8_tellingPlace 2 rfl) ic_1 ?_
  refine qs_istore_n (L' := [some (.inr (some 70)), some (.inl (0 : Int32)), some (.inl (1 : Int32))]) o (q_dm dm_X8_tellingPlace 3 rfl) (Nat.le_of_ble_eq_true rfl) rfl ?_
  exact qr_loc (q_leS (q_leS (q_leS q_le0))) (w_X8_tellingPlace_4 n j r hj hr o n (0 : Int32) (1 : Int32) M)

theorem a_X8_tellingPlace (g : qG) (l : Launch) (n : Nat) (j r : Nat) (hj : q_isLaw j) (hr : q_isLaw r) (M : qM) : qAM g l 2 zX8_tellingPlace (qL j r) [.inr (some 70)] (qL j r, M) (f_X8_tellingPlace n  M) :=
  qAM.of zv_X8_tellingPlace.1 (by show 1 ≤ 3; decide) (fun k hk o => w_X8_tellingPlace n j r hj hr o  M)
def tb_X11_histories : List (Nat × Instr × Nat) := [(0, (.iload_n 1, 1)), (1, (.iconst 1, 1)), (2, (.if_icmp .lt 28, 3)), (5, (.iload_n 1, 1)), (6, (.iconst 4, 1)), (7, (.if_icmp .gt 23, 3)), (10, (.iload_n 2, 1)), (11, (.ifCond .lt 19, 3)), (14, (.iload_n 2, 1)), (15, (.bipush 10, 2)), (17, (.if_icmp .gt 13, 3)), (20, (.iload_n 3, 1)), (21, (.ifCond .lt 9, 3)), (24, (.iload_n 3, 1)), (25, (.bipush 9, 2)), (27, (.if_icmp .le 5, 3)), (30, (.iconst (-1), 1)), (31, (.ireturn, 1)), (32, (.iload 4, 2)), (34, (.ifCond .lt 24, 3)), (37, (.iload 4, 2)), (39, (.iconst 2, 1)), (40, (.if_icmp .gt 18, 3)), (43, (.iload_n 1, 1)), (44, (.iconst 2, 1)), (45, (.iload_n 2, 1)), (46, (.imul, 1)), (47, (.iadd, 1)), (48, (.aload_n 0, 1)), (49, (.getfield 10, 3)), (52, (.getfield 112, 3)), (55, (.if_icmp .le 5, 3)), (58, (.iconst (-1), 1)), (59, (.ireturn, 1)), (60, (.aload_n 0, 1)), (61, (.getfield 91, 3)), (64, (.aload_n 0, 1)), (65, (.getfield 10, 3)), (68, (.iload_n 1, 1)), (69, (.iload_n 2, 1)), (70, (.invokevirtual 242, 3)), (73, (.istore 5, 2)), (75, (.aload_n 0, 1)), (76, (.getfield 10, 3)), (79, (.invokevirtual 123, 3)), (82, (.iload 5, 2)), (84, (.ifCond .ne 6, 3)), (87, (.bipush (-3), 2)), (89, (.ireturn, 1)), (90, (.aload_n 0, 1)), (91, (.getfield 91, 3)), (94, (.iload_n 3, 1)), (95, (.aload_n 0, 1)), (96, (.getfield 26, 3)), (99, (.getfield 184, 3)), (102, (.invokevirtual 245, 3)), (105, (.iload 4, 2)), (107, (.ifCond .ne 11, 3)), (110, (.aload_n 0, 1)), (111, (.getfield 91, 3)), (114, (.getfield 249, 3)), (117, (.ireturn, 1)), (118, (.iload 4, 2)), (120, (.iconst 1, 1)), (121, (.if_icmp .ne 13, 3)), (124, (.aload_n 0, 1)), (125, (.getfield 91, 3)), (128, (.getfield 252, 3)), (131, (.goto 10, 3)), (134, (.aload_n 0, 1)), (135, (.getfield 91, 3)), (138, (.invokevirtual 255, 3)), (141, (.ireturn, 1))]
theorem dm_X11_histories : ∀ q ∈ tb_X11_histories, decode zX11_histories.2.1 q.1 = .ok q.2 := by decide +kernel
def f_X11_histories (n : Nat) (j : Nat) (a1 a2 a3 a4 : Int32) (M : qM) : qR :=
  (if a1 < (1 : Int32) then some ((-1 : Int32), M) else (if (4 : Int32) < a1 then some ((-1 : Int32), M) else (if a2 < (0 : Int32) then some ((-1 : Int32), M) else (if (10 : Int32) < a2 then some ((-1 : Int32), M) else (if a3 < (0 : Int32) then some ((-1 : Int32), M) else (if a3 ≤ (9 : Int32) then (if a4 < (0 : Int32) then some ((-1 : Int32), M) else (if (2 : Int32) < a4 then some ((-1 : Int32), M) else (if (a1 + ((2 : Int32) * a2)) ≤ (M 1 1) then qc (f_X8_read n a1 a2 M) (fun r1 m2 => qc (f_X9_clear n  m2) (fun _ m3 => (if r1 = (0 : Int32) then some ((-3 : Int32), m3) else qc (f_X8_goThrough n j a3 (m3 7 9) m3) (fun _ m4 => (if a4 = (0 : Int32) then some ((m4 70 10), m4) else (if a4 = (1 : Int32) then some ((m4 70 11), m4) else qc (f_X8_tellingPlace n  m4) (fun r5 m6 => some (r5, m6)))))))) else some ((-1 : Int32), M)))) else some ((-1 : Int32), M)))))))
set_option maxRecDepth 4000 in
theorem w_X11_histories {g : qG} {k : qK} (n : Nat) (j r : Nat) (hj : q_isLaw j) (hr : q_isLaw r) (o : qOk g 5 zX11_histories k) (a1 a2 a3 a4 : Int32) (M : qM) : qAE g k zX11_histories (qL j r) 0 [some (.inr (some 0)), some (.inl a1), some (.inl a2), some (.inl a3), some (.inl a4), none] [] (qL j r, M) (f_X11_histories n j a1 a2 a3 a4 M) := by
  unfold f_X11_histories
  refine qr_iload_n o (q_dm dm_X11_histories 0 rfl) rfl ?_
  refine qr_iconst o (q_dm dm_X11_histories 1 rfl) ic_1 ?_
  refine qr_icmp_lt (tgt := 30) o (q_dm dm_X11_histories 2 rfl) (by decide) ?_ ?_
  · refine qr_iconst o (q_dm dm_X11_histories 16 rfl) ic_m1 ?_
    exact qr_iret o rfl rfl (q_dm dm_X11_histories 17 rfl)
  · refine qr_iload_n o (q_dm dm_X11_histories 3 rfl) rfl ?_
    refine qr_iconst o (q_dm dm_X11_histories 4 rfl) ic_4 ?_
    refine qr_icmp_gt (tgt := 30) o (q_dm dm_X11_histories 5 rfl) (by decide) ?_ ?_
    · refine qr_iconst o (q_dm dm_X11_histories 16 rfl) ic_m1 ?_
      exact qr_iret o rfl rfl (q_dm dm_X11_histories 17 rfl)
    · refine qr_iload_n o (q_dm dm_X11_histories 6 rfl) rfl ?_
      refine qr_if_lt (tgt := 30) o (q_dm dm_X11_histories 7 rfl) (by decide) ?_ ?_
      · refine qr_iconst o (q_dm dm_X11_histories 16 rfl) ic_m1 ?_
        exact qr_iret o rfl rfl (q_dm dm_X11_histories 17 rfl)
      · refine qr_iload_n o (q_dm dm_X11_histories 8 rfl) rfl ?_
        refine qr_bipush o (q_dm dm_X11_histories 9 rfl) bi_10 ?_
        refine qr_icmp_gt (tgt := 30) o (q_dm dm_X11_histories 10 rfl) (by decide) ?_ ?_
        · refine qr_iconst o (q_dm dm_X11_histories 16 rfl) ic_m1 ?_
          exact qr_iret o rfl rfl (q_dm dm_X11_histories 17 rfl)
        · refine qr_iload_n o (q_dm dm_X11_histories 11 rfl) rfl ?_
          refine qr_if_lt (tgt := 30) o (q_dm dm_X11_histories 12 rfl) (by decide) ?_ ?_
          · refine qr_iconst o (q_dm dm_X11_histories 16 rfl) ic_m1 ?_
            exact qr_iret o rfl rfl (q_dm dm_X11_histories 17 rfl)
          · refine qr_iload_n o (q_dm dm_X11_histories 13 rfl) rfl ?_
            refine qr_bipush o (q_dm dm_X11_histories 14 rfl) bi_9 ?_
            refine qr_icmp_le (tgt := 32) o (q_dm dm_X11_histories 15 rfl) (by decide) ?_ ?_
            · refine qr_iload o (q_dm dm_X11_histories 18 rfl) rfl ?_
              refine qr_if_lt (tgt := 58) o (q_dm dm_X11_histories 19 rfl) (by decide) ?_ ?_
              · refine qr_iconst o (q_dm dm_X11_histories 32 rfl) ic_m1 ?_
                exact qr_iret o rfl rfl (q_dm dm_X11_histories 33 rfl)
              · refine qr_iload o (q_dm dm_X11_histories 20 rfl) rfl ?_
                refine qr_iconst o (q_dm dm_X11_histories 21 rfl) ic_2 ?_
                refine qr_icmp_gt (tgt := 58) o (q_dm dm_X11_histories 22 rfl) (by decide) ?_ ?_
                · refine qr_iconst o (q_dm dm_X11_histories 32 rfl) ic_m1 ?_
                  exact qr_iret o rfl rfl (q_dm dm_X11_histories 33 rfl)
                · refine qr_iload_n o (q_dm dm_X11_histories 23 rfl) rfl ?_
                  refine qr_iconst o (q_dm dm_X11_histories 24 rfl) ic_2 ?_
                  refine qr_iload_n o (q_dm dm_X11_histories 25 rfl) rfl ?_
                  refine qr_imul o (q_dm dm_X11_histories 26 rfl) ?_
                  refine qr_iadd o (q_dm dm_X11_histories 27 rfl) ?_
                  refine qr_aload_n o (q_dm dm_X11_histories 28 rfl) rfl ?_
                  refine qr_getr (kf := 0) o cf_X11 (sh0 j r) rfl (Nat.le_of_ble_eq_true rfl) fl_X11_10 (q_dm dm_X11_histories 29 rfl) ?_
                  refine qr_getf (kf := 1) o cf_X9 (sh1 j r) rfl (Nat.le_of_ble_eq_true rfl) fl_X11_112 (q_dm dm_X11_histories 30 rfl) ?_
                  refine qr_icmp_le (tgt := 60) o (q_dm dm_X11_histories 31 rfl) (by decide) ?_ ?_
                  · refine qr_aload_n o (q_dm dm_X11_histories 34 rfl) rfl ?_
                    refine qr_getr (kf := 11) o cf_X11 (sh0 j r) rfl (Nat.le_of_ble_eq_true rfl) fl_X11_91 (q_dm dm_X11_histories 35 rfl) ?_
                    refine qr_aload_n o (q_dm dm_X11_histories 36 rfl) rfl ?_
                    refine qr_getr (kf := 0) o cf_X11 (sh0 j r) rfl (Nat.le_of_ble_eq_true rfl) fl_X11_10 (q_dm dm_X11_histories 37 rfl) ?_
                    refine qr_iload_n o (q_dm dm_X11_histories 38 rfl) rfl ?_
                    refine qr_iload_n o (q_dm dm_X11_histories 39 rfl) rfl ?_
                    refine qr_callv_i (As := [.inr (some 1), .inl a1, .inl a2]) (S := []) o (a_X8_read g k.2.1 n j r hj hr a1 a2 M) (Nat.le_of_ble_eq_true rfl) zv_X8_read rfl cf_X8 (sh70 j r) ml_X11_242 (Nat.le_of_ble_eq_true rfl) (q_dm dm_X11_histories 40 rfl) (fun r1 m2 => ?_)
                    refine qs_istore (L' := [some (.inr (some 0)), some (.inl a1), some (.inl a2), some (.inl a3), some (.inl a4), some (.inl r1)]) o (q_dm dm_X11_histories 41 rfl) (Nat.le_of_ble_eq_true rfl) rfl ?_
                    refine qr_aload_n o (q_dm dm_X11_histories 42 rfl) rfl ?_
                    refine qr_getr (kf := 0) o cf_X11 (sh0 j r) rfl (Nat.le_of_ble_eq_true rfl) fl_X11_10 (q_dm dm_X11_histories 43 rfl) ?_
                    refine qr_callv_v (As := []) (S := []) o (a_X9_clear g k.2.1 n j r hj hr  m2) (Nat.le_of_ble_eq_true rfl) zv_X9_clear rfl cf_X9 (sh1 j r) ml_X11_123 (Nat.le_of_ble_eq_true rfl) (q_dm dm_X11_histories 44 rfl) (fun _ m3 => ?_)
                    refine qr_iload o (q_dm dm_X11_histories 45 rfl) rfl ?_
                    refine qr_if_ne (tgt := 90) o (q_dm dm_X11_histories 46 rfl) (by decide) ?_ ?_
                    · refine qr_aload_n o (q_dm dm_X11_histories 49 rfl) rfl ?_
                      refine qr_getr (kf := 11) o cf_X11 (sh0 j r) rfl (Nat.le_of_ble_eq_true rfl) fl_X11_91 (q_dm dm_X11_histories 50 rfl) ?_
                      refine qr_iload_n o (q_dm dm_X11_histories 51 rfl) rfl ?_
                      refine qr_aload_n o (q_dm dm_X11_histories 52 rfl) rfl ?_
                      refine qr_getr (kf := 2) o cf_X11 (sh0 j r) rfl (Nat.le_of_ble_eq_true rfl) fl_X11_26 (q_dm dm_X11_histories 53 rfl) ?_
                      refine qr_getf (kf := 9) o cf_X10 (sh7 j r) rfl (Nat.le_of_ble_eq_true rfl) fl_X11_184 (q_dm dm_X11_histories 54 rfl) ?_
                      refine qr_callv_v (As := [.inl a3, .inl (m3 7 9)]) (S := []) o (a_X8_goThrough g k.2.1 n j r hj hr a3 (m3 7 9) m3) (Nat.le_of_ble_eq_true rfl) zv_X8_goThrough rfl cf_X8 (sh70 j r) ml_X11_245 (Nat.le_of_ble_eq_true rfl) (q_dm dm_X11_histories 55 rfl) (fun _ m4 => ?_)
                      refine qr_iload o (q_dm dm_X11_histories 56 rfl) rfl ?_
                      refine qr_if_ne (tgt := 118) o (q_dm dm_X11_histories 57 rfl) (by decide) ?_ ?_
                      · refine qr_iload o (q_dm dm_X11_histories 62 rfl) rfl ?_
                        refine qr_iconst o (q_dm dm_X11_histories 63 rfl) ic_1 ?_
                        refine qr_icmp_ne (tgt := 134) o (q_dm dm_X11_histories 64 rfl) (by decide) ?_ ?_
                        · refine qr_aload_n o (q_dm dm_X11_histories 69 rfl) rfl ?_
                          refine qr_getr (kf := 11) o cf_X11 (sh0 j r) rfl (Nat.le_of_ble_eq_true rfl) fl_X11_91 (q_dm dm_X11_histories 70 rfl) ?_
                          refine qr_callv_i (As := []) (S := []) o (a_X8_tellingPlace g k.2.1 n j r hj hr  m4) (Nat.le_of_ble_eq_true rfl) zv_X8_tellingPlace rfl cf_X8 (sh70 j r) ml_X11_255 (Nat.le_of_ble_eq_true rfl) (q_dm dm_X11_histories 71 rfl) (fun r5 m6 => ?_)
                          exact qr_iret o rfl rfl (q_dm dm_X11_histories 72 rfl)
                        · refine qr_aload_n o (q_dm dm_X11_histories 65 rfl) rfl ?_
                          refine qr_getr (kf := 11) o cf_X11 (sh0 j r) rfl (Nat.le_of_ble_eq_true rfl) fl_X11_91 (q_dm dm_X11_histories 66 rfl) ?_
                          refine qr_getf (kf := 11) o cf_X8 (sh70 j r) rfl (Nat.le_of_ble_eq_true rfl) fl_X11_252 (q_dm dm_X11_histories 67 rfl) ?_
                          refine qr_goto (tgt := 141) o (q_dm dm_X11_histories 68 rfl) (by decide) ?_
                          exact qr_iret o rfl rfl (q_dm dm_X11_histories 72 rfl)
                      · refine qr_aload_n o (q_dm dm_X11_histories 58 rfl) rfl ?_
                        refine qr_getr (kf := 11) o cf_X11 (sh0 j r) rfl (Nat.le_of_ble_eq_true rfl) fl_X11_91 (q_dm dm_X11_histories 59 rfl) ?_
                        refine qr_getf (kf := 10) o cf_X8 (sh70 j r) rfl (Nat.le_of_ble_eq_true rfl) fl_X11_249 (q_dm dm_X11_histories 60 rfl) ?_
                        exact qr_iret o rfl rfl (q_dm dm_X11_histories 61 rfl)
                    · refine qr_bipush o (q_dm dm_X11_histories 47 rfl) bi_m3 ?_
                      exact qr_iret o rfl rfl (q_dm dm_X11_histories 48 rfl)
                  · refine qr_iconst o (q_dm dm_X11_histories 32 rfl) ic_m1 ?_
                    exact qr_iret o rfl rfl (q_dm dm_X11_histories 33 rfl)
            · refine qr_iconst o (q_dm dm_X11_histories 16 rfl) ic_m1 ?_
              exact qr_iret o rfl rfl (q_dm dm_X11_histories 17 rfl)

theorem a_X11_histories (g : qG) (l : Launch) (n : Nat) (j r : Nat) (hj : q_isLaw j) (hr : q_isLaw r) (a1 a2 a3 a4 : Int32) (M : qM) : qAM g l 5 zX11_histories (qL j r) [.inr (some 0), .inl a1, .inl a2, .inl a3, .inl a4] (qL j r, M) (f_X11_histories n j a1 a2 a3 a4 M) :=
  qAM.of zv_X11_histories.1 (by show 5 ≤ 6; decide) (fun k hk o => w_X11_histories n j r hj hr o a1 a2 a3 a4 M)
def tb_X11_pence : List (Nat × Instr × Nat) := [(0, (.iload_n 0, 1)), (1, (.iconst 1, 1)), (2, (.if_icmp .ne 18, 3)), (5, (.iload_n 1, 1)), (6, (.iconst 1, 1)), (7, (.if_icmp .ne 10, 3)), (10, (.iload_n 2, 1)), (11, (.iconst 2, 1)), (12, (.idiv, 1)), (13, (.ineg, 1)), (14, (.goto 5, 3)), (17, (.iload_n 2, 1)), (18, (.ineg, 1)), (19, (.ireturn, 1)), (20, (.iload_n 1, 1)), (21, (.iconst 1, 1)), (22, (.if_icmp .ne 7, 3)), (25, (.iload_n 3, 1)), (26, (.goto 4, 3)), (29, (.iconst (-1), 1)), (30, (.ireturn, 1))]
theorem dm_X11_pence : ∀ q ∈ tb_X11_pence, decode zX11_pence.2.1 q.1 = .ok q.2 := by decide +kernel
def f_X11_pence (n : Nat) (a0 a1 a2 a3 : Int32) (M : qM) : qR :=
  (if a0 = (1 : Int32) then (if a1 = (1 : Int32) then some ((-(a2 / (2 : Int32))), M) else some ((-a2), M)) else (if a1 = (1 : Int32) then some (a3, M) else some ((-1 : Int32), M)))
set_option maxRecDepth 4000 in
theorem w_X11_pence {g : qG} {k : qK} (n : Nat) (j r : Nat) (hj : q_isLaw j) (hr : q_isLaw r) (o : qOk g 0 zX11_pence k) (a0 a1 a2 a3 : Int32) (M : qM) : qAE g k zX11_pence (qL j r) 0 [some (.inl a0), some (.inl a1), some (.inl a2), some (.inl a3)] [] (qL j r, M) (f_X11_pence n a0 a1 a2 a3 M) := by
  unfold f_X11_pence
  refine qr_iload_n o (q_dm dm_X11_pence 0 rfl) rfl ?_
  refine qr_iconst o (q_dm dm_X11_pence 1 rfl) ic_1 ?_
  refine qr_icmp_ne (tgt := 20) o (q_dm dm_X11_pence 2 rfl) (by decide) ?_ ?_
  · refine qr_iload_n o (q_dm dm_X11_pence 14 rfl) rfl ?_
    refine qr_iconst o (q_dm dm_X11_pence 15 rfl) ic_1 ?_
    refine qr_icmp_ne (tgt := 29) o (q_dm dm_X11_pence 16 rfl) (by decide) ?_ ?_
    · refine qr_iconst o (q_dm dm_X11_pence 19 rfl) ic_m1 ?_
      exact qr_iret o rfl rfl (q_dm dm_X11_pence 20 rfl)
    · refine qr_iload_n o (q_dm dm_X11_pence 17 rfl) rfl ?_
      refine qr_goto (tgt := 30) o (q_dm dm_X11_pence 18 rfl) (by decide) ?_
      exact qr_iret o rfl rfl (q_dm dm_X11_pence 20 rfl)
  · refine qr_iload_n o (q_dm dm_X11_pence 3 rfl) rfl ?_
    refine qr_iconst o (q_dm dm_X11_pence 4 rfl) ic_1 ?_
    refine qr_icmp_ne (tgt := 17) o (q_dm dm_X11_pence 5 rfl) (by decide) ?_ ?_
    · refine qr_iload_n o (q_dm dm_X11_pence 11 rfl) rfl ?_
      refine qr_ineg o (q_dm dm_X11_pence 12 rfl) ?_
      exact qr_iret o rfl rfl (q_dm dm_X11_pence 13 rfl)
    · refine qr_iload_n o (q_dm dm_X11_pence 6 rfl) rfl ?_
      refine qr_iconst o (q_dm dm_X11_pence 7 rfl) ic_2 ?_
      refine qr_idivc o (q_dm dm_X11_pence 8 rfl) (by decide) ?_
      refine qr_ineg o (q_dm dm_X11_pence 9 rfl) ?_
      refine qr_goto (tgt := 19) o (q_dm dm_X11_pence 10 rfl) (by decide) ?_
      exact qr_iret o rfl rfl (q_dm dm_X11_pence 13 rfl)

theorem a_X11_pence (g : qG) (l : Launch) (n : Nat) (j r : Nat) (hj : q_isLaw j) (hr : q_isLaw r) (a0 a1 a2 a3 : Int32) (M : qM) : qAM g l 0 zX11_pence (qL j r) [.inl a0, .inl a1, .inl a2, .inl a3] (qL j r, M) (f_X11_pence n a0 a1 a2 a3 M) :=
  qAM.of zs_X11_pence.1 (by show 4 ≤ 4; decide) (fun k hk o => w_X11_pence n j r hj hr o a0 a1 a2 a3 M)
def tb_X11_isSettled : List (Nat × Instr × Nat) := [(0, (.iload_n 0, 1)), (1, (.iconst 1, 1)), (2, (.iand, 1)), (3, (.istore_n 3, 1)), (4, (.iload_n 0, 1)), (5, (.iconst 1, 1)), (6, (.ishr, 1)), (7, (.istore 4, 2)), (9, (.iload_n 3, 1)), (10, (.iload 4, 2)), (12, (.iload_n 1, 1)), (13, (.iload_n 2, 1)), (14, (.invokestatic 296, 3)), (17, (.iconst 1, 1)), (18, (.iload_n 3, 1)), (19, (.isub, 1)), (20, (.iload 4, 2)), (22, (.iload_n 1, 1)), (23, (.iload_n 2, 1)), (24, (.invokestatic 296, 3)), (27, (.if_icmp .lt 28, 3)), (30, (.iload 4, 2)), (32, (.iload_n 3, 1)), (33, (.iload_n 1, 1)), (34, (.iload_n 2, 1)), (35, (.invokestatic 296, 3)), (38, (.iconst 1, 1)), (39, (.iload 4, 2)), (41, (.isub, 1)), (42, (.iload_n 3, 1)), (43, (.iload_n 1, 1)), (44, (.iload_n 2, 1)), (45, (.invokestatic 296, 3)), (48, (.if_icmp .lt 7, 3)), (51, (.iconst 1, 1)), (52, (.goto 4, 3)), (55, (.iconst 0, 1)), (56, (.ireturn, 1))]
theorem dm_X11_isSettled : ∀ q ∈ tb_X11_isSettled, decode zX11_isSettled.2.1 q.1 = .ok q.2 := by decide +kernel
def f_X11_isSettled (n : Nat) (a0 a1 a2 : Int32) (M : qM) : qR :=
  ql (a0 &&& (1 : Int32)) (fun x1 => ql (a0 >>> ((1 : Int32) &&& 31)) (fun x2 => qc (f_X11_pence n x1 x2 a1 a2 M) (fun r3 m4 => qc (f_X11_pence n ((1 : Int32) - x1) x2 a1 a2 m4) (fun r5 m6 => (if r3 < r5 then some ((0 : Int32), m6) else qc (f_X11_pence n x2 x1 a1 a2 m6) (fun r7 m8 => qc (f_X11_pence n ((1 : Int32) - x2) x1 a1 a2 m8) (fun r9 m10 => (if r7 < r9 then some ((0 : Int32), m10) else some ((1 : Int32), m10)))))))))
set_option maxRecDepth 4000 in
theorem w_X11_isSettled {g : qG} {k : qK} (n : Nat) (j r : Nat) (hj : q_isLaw j) (hr : q_isLaw r) (o : qOk g 1 zX11_isSettled k) (a0 a1 a2 : Int32) (M : qM) : qAE g k zX11_isSettled (qL j r) 0 [some (.inl a0), some (.inl a1), some (.inl a2), none, none] [] (qL j r, M) (f_X11_isSettled n a0 a1 a2 M) := by
  unfold f_X11_isSettled
  refine qr_iload_n o (q_dm dm_X11_isSettled 0 rfl) rfl ?_
  refine qr_iconst o (q_dm dm_X11_isSettled 1 rfl) ic_1 ?_
  refine qr_iand o (q_dm dm_X11_isSettled 2 rfl) ?_
  refine qr_lt (fun x1 => ?_)
  refine qs_istore_n (L' := [some (.inl a0), some (.inl a1), some (.inl a2), some (.inl x1), none]) o (q_dm dm_X11_isSettled 3 rfl) (Nat.le_of_ble_eq_true rfl) rfl ?_
  refine qr_iload_n o (q_dm dm_X11_isSettled 4 rfl) rfl ?_
  refine qr_iconst o (q_dm dm_X11_isSettled 5 rfl) ic_1 ?_
  refine qr_ishr o (q_dm dm_X11_isSettled 6 rfl) ?_
  refine qr_lt (fun x2 => ?_)
  refine qs_istore (L' := [some (.inl a0), some (.inl a1), some (.inl a2), some (.inl x1), some (.inl x2)]) o (q_dm dm_X11_isSettled 7 rfl) (Nat.le_of_ble_eq_true rfl) rfl ?_
  refine qr_iload_n o (q_dm dm_X11_isSettled 8 rfl) rfl ?_
  refine qr_iload o (q_dm dm_X11_isSettled 9 rfl) rfl ?_
  refine qr_iload_n o (q_dm dm_X11_isSettled 10 rfl) rfl ?_
  refine qr_iload_n o (q_dm dm_X11_isSettled 11 rfl) rfl ?_
  refine qr_calls_i (As := [.inl x1, .inl x2, .inl a1, .inl a2]) (S := []) o (a_X11_pence g k.2.1 n j r hj hr x1 x2 a1 a2 M) (Nat.le_of_ble_eq_true rfl) zs_X11_pence rfl ml_X11_296 (Nat.le_of_ble_eq_true rfl) (q_dm dm_X11_isSettled 12 rfl) (fun r3 m4 => ?_)
  refine qr_iconst o (q_dm dm_X11_isSettled 13 rfl) ic_1 ?_
  refine qr_iload_n o (q_dm dm_X11_isSettled 14 rfl) rfl ?_
  refine qr_isub o (q_dm dm_X11_isSettled 15 rfl) ?_
  refine qr_iload o (q_dm dm_X11_isSettled 16 rfl) rfl ?_
  refine qr_iload_n o (q_dm dm_X11_isSettled 17 rfl) rfl ?_
  refine qr_iload_n o (q_dm dm_X11_isSettled 18 rfl) rfl ?_
  refine qr_calls_i (As := [.inl ((1 : Int32) - x1), .inl x2, .inl a1, .inl a2]) (S := [.inl r3]) o (a_X11_pence g k.2.1 n j r hj hr ((1 : Int32) - x1) x2 a1 a2 m4) (Nat.le_of_ble_eq_true rfl) zs_X11_pence rfl ml_X11_296 (Nat.le_of_ble_eq_true rfl) (q_dm dm_X11_isSettled 19 rfl) (fun r5 m6 => ?_)
  refine qr_icmp_lt (tgt := 55) o (q_dm dm_X11_isSettled 20 rfl) (by decide) ?_ ?_
  · refine qr_iconst o (q_dm dm_X11_isSettled 36 rfl) ic_0 ?_
    exact qr_iret o rfl (by decide) (q_dm dm_X11_isSettled 37 rfl)
  · refine qr_iload o (q_dm dm_X11_isSettled 21 rfl) rfl ?_
    refine qr_iload_n o (q_dm dm_X11_isSettled 22 rfl) rfl ?_
    refine qr_iload_n o (q_dm dm_X11_isSettled 23 rfl) rfl ?_
    refine qr_iload_n o (q_dm dm_X11_isSettled 24 rfl) rfl ?_
    refine qr_calls_i (As := [.inl x2, .inl x1, .inl a1, .inl a2]) (S := []) o (a_X11_pence g k.2.1 n j r hj hr x2 x1 a1 a2 m6) (Nat.le_of_ble_eq_true rfl) zs_X11_pence rfl ml_X11_296 (Nat.le_of_ble_eq_true rfl) (q_dm dm_X11_isSettled 25 rfl) (fun r7 m8 => ?_)
    refine qr_iconst o (q_dm dm_X11_isSettled 26 rfl) ic_1 ?_
    refine qr_iload o (q_dm dm_X11_isSettled 27 rfl) rfl ?_
    refine qr_isub o (q_dm dm_X11_isSettled 28 rfl) ?_
    refine qr_iload_n o (q_dm dm_X11_isSettled 29 rfl) rfl ?_
    refine qr_iload_n o (q_dm dm_X11_isSettled 30 rfl) rfl ?_
    refine qr_iload_n o (q_dm dm_X11_isSettled 31 rfl) rfl ?_
    refine qr_calls_i (As := [.inl ((1 : Int32) - x2), .inl x1, .inl a1, .inl a2]) (S := [.inl r7]) o (a_X11_pence g k.2.1 n j r hj hr ((1 : Int32) - x2) x1 a1 a2 m8) (Nat.le_of_ble_eq_true rfl) zs_X11_pence rfl ml_X11_296 (Nat.le_of_ble_eq_true rfl) (q_dm dm_X11_isSettled 32 rfl) (fun r9 m10 => ?_)
    refine qr_icmp_lt (tgt := 55) o (q_dm dm_X11_isSettled 33 rfl) (by decide) ?_ ?_
    · refine qr_iconst o (q_dm dm_X11_isSettled 36 rfl) ic_0 ?_
      exact qr_iret o rfl (by decide) (q_dm dm_X11_isSettled 37 rfl)
    · refine qr_iconst o (q_dm dm_X11_isSettled 34 rfl) ic_1 ?_
      refine qr_goto (tgt := 56) o (q_dm dm_X11_isSettled 35 rfl) (by decide) ?_
      exact qr_iret o rfl (by decide) (q_dm dm_X11_isSettled 37 rfl)

theorem a_X11_isSettled (g : qG) (l : Launch) (n : Nat) (j r : Nat) (hj : q_isLaw j) (hr : q_isLaw r) (a0 a1 a2 : Int32) (M : qM) : qAM g l 1 zX11_isSettled (qL j r) [.inl a0, .inl a1, .inl a2] (qL j r, M) (f_X11_isSettled n a0 a1 a2 M) :=
  qAM.of zs_X11_isSettled.1 (by show 3 ≤ 5; decide) (fun k hk o => w_X11_isSettled n j r hj hr o a0 a1 a2 M)
def tb_X5_read : List (Nat × Instr × Nat) := [(0, (.aload_n 0, 1)), (1, (.iload_n 2, 1)), (2, (.bipush 8, 2)), (4, (.invokestatic 43, 3)), (7, (.putfield 49, 3)), (10, (.iconst 1, 1)), (11, (.istore_n 3, 1)), (12, (.iconst 0, 1)), (13, (.istore 4, 2)), (15, (.iload 4, 2)), (17, (.aload_n 0, 1)), (18, (.getfield 49, 3)), (21, (.if_icmp .ge 49, 3)), (24, (.aload_n 0, 1)), (25, (.getfield 9, 3)), (28, (.iload 4, 2)), (30, (.aload_n 1, 1)), (31, (.iload 4, 2)), (33, (.invokevirtual 53, 3)), (36, (.iastore, 1)), (37, (.iload_n 3, 1)), (38, (.ifCond .eq 24, 3)), (41, (.aload_n 0, 1)), (42, (.getfield 27, 3)), (45, (.aload_n 0, 1)), (46, (.getfield 9, 3)), (49, (.iload 4, 2)), (51, (.iaload, 1)), (52, (.invokevirtual 59, 3)), (55, (.ifCond .eq 7, 3)), (58, (.iconst 1, 1)), (59, (.goto 4, 3)), (62, (.iconst 0, 1)), (63, (.istore_n 3, 1)), (64, (.iinc 4 1, 3)), (67, (.goto (-52), 3)), (70, (.iload_n 3, 1)), (71, (.ireturn, 1))]
theorem dm_X5_read : ∀ q ∈ tb_X5_read, decode zX5_read.2.1 q.1 = .ok q.2 := by decide +kernel
def f_X5_read_62 (n : Nat) (K15 : Int32 → Int32 → qM → qR) (a4 : Int32) (M : qM) : qR :=
  ql (a4 + (1 : Int32)) (fun x1 => K15 (0 : Int32) x1 M)
set_option maxRecDepth 4000 in
theorem w_X5_read_62 {g : qG} {k : qK} (n : Nat) (j r : Nat) (hj : q_isLaw j) (hr : q_isLaw r) (o : qOk g 1 zX5_read k) (K15 : Int32 → Int32 → qM → qR) (hK15 : ∀ (a3 a4 : Int32) (M : qM), qAE g k zX5_read (qL j r) 15 [some (.inr (some 64)), some (.inr (some 1)), none, some (.inl a3), some (.inl a4)] [] (qL j r, M) (K15 a3 a4 M)) (a4 : Int32) (M : qM) : qAE g k zX5_read (qL j r) 62 [some (.inr (some 64)), some (.inr (some 1)), none, none, some (.inl a4)] [] (qL j r, M) (f_X5_read_62 n K15 a4 M) := by
  unfold f_X5_read_62
  refine qr_iconst o (q_dm dm_X5_read 32 rfl) ic_0 ?_
  refine qs_istore_n (L' := [some (.inr (some 64)), some (.inr (some 1)), none, some (.inl (0 : Int32)), some (.inl a4)]) o (q_dm dm_X5_read 33 rfl) (Nat.le_of_ble_eq_true rfl) rfl ?_
  refine qs_iincl2 (L' := fun x1 => [some (.inr (some 64)), some (.inr (some 1)), none, some (.inl (0 : Int32)), some (.inl x1)]) o (q_dm dm_X5_read 34 rfl) rfl ic_1 (Nat.le_of_ble_eq_true rfl) (fun _ => rfl) (fun x1 => ?_)
  refine qr_goto (tgt := 15) o (q_dm dm_X5_read 35 rfl) (by decide) ?_
  exact qr_loc (q_leS (q_leS (q_leN (q_leS (q_leS q_le0))))) (hK15 (0 : Int32) x1 M)

def b_X5_read_15 (n : Nat) (K15 : Int32 → Int32 → qM → qR) (a3 a4 : Int32) (M : qM) : qR :=
  (if (M 64 9) ≤ a4 then qb a3 (some (a3, M)) else qc (f_X9_at n a4 M) (fun r1 m2 => qg a4 8 (qlm (mu m2 65 a4.toNatClampNeg r1) (fun m3 => (if a3 = (0 : Int32) then f_X5_read_62 n K15 a4 m3 else qg a4 8 (qc (f_X2_knows n (m3 65 a4.toNatClampNeg) m3) (fun r4 m5 => (if r4 = (0 : Int32) then f_X5_read_62 n K15 a4 m5 else ql (a4 + (1 : Int32)) (fun x6 => K15 (1 : Int32) x6 m5)))))))))
set_option maxRecDepth 4000 in
theorem wb_X5_read_15 {g : qG} {k : qK} (n : Nat) (j r : Nat) (hj : q_isLaw j) (hr : q_isLaw r) (o : qOk g 1 zX5_read k) (K15 : Int32 → Int32 → qM → qR) (hK15 : ∀ (a3 a4 : Int32) (M : qM), qAE g k zX5_read (qL j r) 15 [some (.inr (some 64)), some (.inr (some 1)), none, some (.inl a3), some (.inl a4)] [] (qL j r, M) (K15 a3 a4 M)) (a3 a4 : Int32) (M : qM) : qAE g k zX5_read (qL j r) 15 [some (.inr (some 64)), some (.inr (some 1)), none, some (.inl a3), some (.inl a4)] [] (qL j r, M) (b_X5_read_15 n K15 a3 a4 M) := by
  unfold b_X5_read_15
  refine qr_iload o (q_dm dm_X5_read 9 rfl) rfl ?_
  refine qr_aload_n o (q_dm dm_X5_read 10 rfl) rfl ?_
  refine qr_getf (kf := 9) o cf_X5 (sh64 j r) rfl (Nat.le_of_ble_eq_true rfl) fl_X5_49 (q_dm dm_X5_read 11 rfl) ?_
  refine qr_icmp_ge (tgt := 70) o (q_dm dm_X5_read 12 rfl) (by decide) ?_ ?_
  · refine qr_iload_n o (q_dm dm_X5_read 36 rfl) rfl ?_
    exact qr_zret o rfl (q_dm dm_X5_read 37 rfl)
  · refine qr_aload_n o (q_dm dm_X5_read 13 rfl) rfl ?_
    refine qr_getr (kf := 3) o cf_X5 (sh64 j r) rfl (Nat.le_of_ble_eq_true rfl) fl_X5_9 (q_dm dm_X5_read 14 rfl) ?_
    refine qr_iload o (q_dm dm_X5_read 15 rfl) rfl ?_
    refine qr_aload_n o (q_dm dm_X5_read 16 rfl) rfl ?_
    refine qr_iload o (q_dm dm_X5_read 17 rfl) rfl ?_
    refine qr_callv_i (As := [.inl a4]) (S := [.inl a4, .inr (some 65)]) o (a_X9_at g k.2.1 n j r hj hr a4 M) (Nat.le_of_ble_eq_true rfl) zv_X9_at rfl cf_X9 (sh1 j r) ml_X5_53 (Nat.le_of_ble_eq_true rfl) (q_dm dm_X5_read 18 rfl) (fun r1 m2 => ?_)
    refine qr_iast o (sh65 j r) (q_dm dm_X5_read 19 rfl) ?_
    refine qr_letm (fun m3 => ?_)
    refine qr_iload_n o (q_dm dm_X5_read 20 rfl) rfl ?_
    refine qr_if_eq (tgt := 62) o (q_dm dm_X5_read 21 rfl) (by decide) ?_ ?_
    · exact qr_loc (q_leS (q_leS (q_leN (q_leN (q_leS q_le0))))) (w_X5_read_62 n j r hj hr o K15 hK15 a4 m3)
    · refine qr_aload_n o (q_dm dm_X5_read 22 rfl) rfl ?_
      refine qr_getr (kf := 0) o cf_X5 (sh64 j r) rfl (Nat.le_of_ble_eq_true rfl) fl_X5_27 (q_dm dm_X5_read 23 rfl) ?_
      refine qr_aload_n o (q_dm dm_X5_read 24 rfl) rfl ?_
      refine qr_getr (kf := 3) o cf_X5 (sh64 j r) rfl (Nat.le_of_ble_eq_true rfl) fl_X5_9 (q_dm dm_X5_read 25 rfl) ?_
      refine qr_iload o (q_dm dm_X5_read 26 rfl) rfl ?_
      refine qr_iald o (sh65 j r) (q_dm dm_X5_read 27 rfl) ?_
      refine qr_callv_i (As := [.inl (m3 65 a4.toNatClampNeg)]) (S := []) o (a_X2_knows g k.2.1 n j r hj hr (m3 65 a4.toNatClampNeg) m3) (Nat.le_of_ble_eq_true rfl) zv_X2_knows rfl cf_X2 (sh3 j r) ml_X5_59 (Nat.le_of_ble_eq_true rfl) (q_dm dm_X5_read 28 rfl) (fun r4 m5 => ?_)
      refine qr_if_eq (tgt := 62) o (q_dm dm_X5_read 29 rfl) (by decide) ?_ ?_
      · exact qr_loc (q_leS (q_leS (q_leN (q_leN (q_leS q_le0))))) (w_X5_read_62 n j r hj hr o K15 hK15 a4 m5)
      · refine qr_iconst o (q_dm dm_X5_read 30 rfl) ic_1 ?_
        refine qr_goto (tgt := 63) o (q_dm dm_X5_read 31 rfl) (by decide) ?_
        refine qs_istore_n (L' := [some (.inr (some 64)), some (.inr (some 1)), none, some (.inl (1 : Int32)), some (.inl a4)]) o (q_dm dm_X5_read 33 rfl) (Nat.le_of_ble_eq_true rfl) rfl ?_
        refine qs_iincl2 (L' := fun x6 => [some (.inr (some 64)), some (.inr (some 1)), none, some (.inl (1 : Int32)), some (.inl x6)]) o (q_dm dm_X5_read 34 rfl) rfl ic_1 (Nat.le_of_ble_eq_true rfl) (fun _ => rfl) (fun x6 => ?_)
        refine qr_goto (tgt := 15) o (q_dm dm_X5_read 35 rfl) (by decide) ?_
        exact qr_loc (q_leS (q_leS (q_leN (q_leS (q_leS q_le0))))) (hK15 (1 : Int32) x6 m5)

def f_X5_read_15 (n : Nat) : Nat → Int32 → Int32 → qM → qR
  | 0, _, _, _ => none
  | m + 1, a3, a4, M => b_X5_read_15 n (f_X5_read_15 n m) a3 a4 M
theorem w_X5_read_15 {g : qG} {k : qK} (n : Nat) (j r : Nat) (hj : q_isLaw j) (hr : q_isLaw r) (o : qOk g 1 zX5_read k) : ∀ (m : Nat) (a3 a4 : Int32) (M : qM), qAE g k zX5_read (qL j r) 15 [some (.inr (some 64)), some (.inr (some 1)), none, some (.inl a3), some (.inl a4)] [] (qL j r, M) (f_X5_read_15 n m a3 a4 M) := by
  intro m
  induction m with
  | zero =>
    intro a3 a4 M
    exact qr_none
  | succ m ih =>
    intro a3 a4 M
    exact wb_X5_read_15 n j r hj hr o (f_X5_read_15 n m) ih a3 a4 M
def f_X5_read (n : Nat) (a2 : Int32) (M : qM) : qR :=
  qlm (mu M 64 9 (qmin a2 (8 : Int32))) (fun m1 => f_X5_read_15 n n (1 : Int32) (0 : Int32) m1)
set_option maxRecDepth 4000 in
theorem w_X5_read {g : qG} {k : qK} (n : Nat) (j r : Nat) (hj : q_isLaw j) (hr : q_isLaw r) (o : qOk g 1 zX5_read k) (a2 : Int32) (M : qM) : qAE g k zX5_read (qL j r) 0 [some (.inr (some 64)), some (.inr (some 1)), some (.inl a2), none, none] [] (qL j r, M) (f_X5_read n a2 M) := by
  unfold f_X5_read
  refine qr_aload_n o (q_dm dm_X5_read 0 rfl) rfl ?_
  refine qr_iload_n o (q_dm dm_X5_read 1 rfl) rfl ?_
  refine qr_bipush o (q_dm dm_X5_read 2 rfl) bi_8 ?_
  refine qr_min o ml_X5_43 (by omega) (Nat.le_of_ble_eq_true rfl) (q_dm dm_X5_read 3 rfl) ?_
  refine qr_putf (kf := 9) o cf_X5 (sh64 j r) rfl (Nat.le_of_ble_eq_true rfl) fl_X5_49 rfl (by decide +kernel) (q_dm dm_X5_read 4 rfl) ?_
  refine qr_letm (fun m1 => ?_)
  refine qr_iconst o (q_dm dm_X5_read 5 rfl) ic_1 ?_
  refine qs_istore_n (L' := [some (.inr (some 64)), some (.inr (some 1)), some (.inl a2), some (.inl (1 : Int32)), none]) o (q_dm dm_X5_read 6 rfl) (Nat.le_of_ble_eq_true rfl) rfl ?_
  refine qr_iconst o (q_dm dm_X5_read 7 rfl) ic_0 ?_
  refine qs_istore (L' := [some (.inr (some 64)), some (.inr (some 1)), some (.inl a2), some (.inl (1 : Int32)), some (.inl (0 : Int32))]) o (q_dm dm_X5_read 8 rfl) (Nat.le_of_ble_eq_true rfl) rfl ?_
  exact qr_loc (q_leS (q_leS (q_leN (q_leS (q_leS q_le0))))) (w_X5_read_15 n j r hj hr o n (1 : Int32) (0 : Int32) m1)

theorem a_X5_read (g : qG) (l : Launch) (n : Nat) (j r : Nat) (hj : q_isLaw j) (hr : q_isLaw r) (a2 : Int32) (M : qM) : qAM g l 1 zX5_read (qL j r) [.inr (some 64), .inr (some 1), .inl a2] (qL j r, M) (f_X5_read n a2 M) :=
  qAM.of zv_X5_read.1 (by show 3 ≤ 5; decide) (fun k hk o => w_X5_read n j r hj hr o a2 M)
def tb_X5_longestOf : List (Nat × Instr × Nat) := [(0, (.aload_n 0, 1)), (1, (.getfield 24, 3)), (4, (.iconst 0, 1)), (5, (.invokestatic 142, 3)), (8, (.iload_n 1, 1)), (9, (.istore_n 2, 1)), (10, (.aload_n 0, 1)), (11, (.getfield 49, 3)), (14, (.iconst 1, 1)), (15, (.isub, 1)), (16, (.istore_n 3, 1)), (17, (.iload_n 3, 1)), (18, (.ifCond .lt 40, 3)), (21, (.aload_n 0, 1)), (22, (.getfield 65, 3)), (25, (.ifCond .le 33, 3)), (28, (.aload_n 0, 1)), (29, (.getfield 24, 3)), (32, (.iload_n 2, 1)), (33, (.aload_n 0, 1)), (34, (.getfield 65, 3)), (37, (.irem, 1)), (38, (.dup2, 1)), (39, (.iaload, 1)), (40, (.iconst 1, 1)), (41, (.iload_n 3, 1)), (42, (.ishl, 1)), (43, (.ior, 1)), (44, (.iastore, 1)), (45, (.iload_n 2, 1)), (46, (.aload_n 0, 1)), (47, (.getfield 65, 3)), (50, (.idiv, 1)), (51, (.istore_n 2, 1)), (52, (.iinc 3 (-1), 3)), (55, (.goto (-38), 3)), (58, (.iconst 0, 1)), (59, (.istore_n 3, 1)), (60, (.iconst 0, 1)), (61, (.istore 4, 2)), (63, (.iload 4, 2)), (65, (.aload_n 0, 1)), (66, (.getfield 65, 3)), (69, (.if_icmp .ge 33, 3)), (72, (.iload_n 3, 1)), (73, (.aload_n 0, 1)), (74, (.getfield 18, 3)), (77, (.iload 4, 2)), (79, (.sipush 256, 3)), (82, (.imul, 1)), (83, (.aload_n 0, 1)), (84, (.getfield 24, 3)), (87, (.iload 4, 2)), (89, (.iaload, 1)), (90, (.iadd, 1)), (91, (.iaload, 1)), (92, (.invokestatic 148, 3)), (95, (.istore_n 3, 1)), (96, (.iinc 4 1, 3)), (99, (.goto (-36), 3)), (102, (.iload_n 3, 1)), (103, (.ireturn, 1))]
theorem dm_X5_longestOf : ∀ q ∈ tb_X5_longestOf, decode zX5_longestOf.2.1 q.1 = .ok q.2 := by decide +kernel
def b_X5_longestOf_63 (n : Nat) (K63 : Int32 → Int32 → qM → qR) (a3 a4 : Int32) (M : qM) : qR :=
  (if (M 64 10) ≤ a4 then some (a3, M) else qg a4 3 (qg ((a4 * (256 : Int32)) + (M 69 a4.toNatClampNeg)) 768 (ql (qmax a3 (M 67 ((a4 * (256 : Int32)) + (M 69 a4.toNatClampNeg)).toNatClampNeg)) (fun x1 => ql (a4 + (1 : Int32)) (fun x2 => K63 x1 x2 M)))))
set_option maxRecDepth 4000 in
theorem wb_X5_longestOf_63 {g : qG} {k : qK} (n : Nat) (j r : Nat) (hj : q_isLaw j) (hr : q_isLaw r) (o : qOk g 1 zX5_longestOf k) (K63 : Int32 → Int32 → qM → qR) (hK63 : ∀ (a3 a4 : Int32) (M : qM), qAE g k zX5_longestOf (qL j r) 63 [some (.inr (some 64)), none, none, some (.inl a3), some (.inl a4)] [] (qL j r, M) (K63 a3 a4 M)) (a3 a4 : Int32) (M : qM) : qAE g k zX5_longestOf (qL j r) 63 [some (.inr (some 64)), none, none, some (.inl a3), some (.inl a4)] [] (qL j r, M) (b_X5_longestOf_63 n K63 a3 a4 M) := by
  unfold b_X5_longestOf_63
  refine qr_iload o (q_dm dm_X5_longestOf 40 rfl) rfl ?_
  refine qr_aload_n o (q_dm dm_X5_longestOf 41 rfl) rfl ?_
  refine qr_getf (kf := 10) o cf_X5 (sh64 j r) rfl (Nat.le_of_ble_eq_true rfl) fl_X5_65 (q_dm dm_X5_longestOf 42 rfl) ?_
  refine qr_icmp_ge (tgt := 102) o (q_dm dm_X5_longestOf 43 rfl) (by decide) ?_ ?_
  · refine qr_iload_n o (q_dm dm_X5_longestOf 60 rfl) rfl ?_
    exact qr_iret o rfl rfl (q_dm dm_X5_longestOf 61 rfl)
  · refine qr_iload_n o (q_dm dm_X5_longestOf 44 rfl) rfl ?_
    refine qr_aload_n o (q_dm dm_X5_longestOf 45 rfl) rfl ?_
    refine qr_getr (kf := 5) o cf_X5 (sh64 j r) rfl (Nat.le_of_ble_eq_true rfl) fl_X5_18 (q_dm dm_X5_longestOf 46 rfl) ?_
    refine qr_iload o (q_dm dm_X5_longestOf 47 rfl) rfl ?_
    refine qr_sipush o (q_dm dm_X5_longestOf 48 rfl) si_256 ?_
    refine qr_imul o (q_dm dm_X5_longestOf 49 rfl) ?_
    refine qr_aload_n o (q_dm dm_X5_longestOf 50 rfl) rfl ?_
    refine qr_getr (kf := 7) o cf_X5 (sh64 j r) rfl (Nat.le_of_ble_eq_true rfl) fl_X5_24 (q_dm dm_X5_longestOf 51 rfl) ?_
    refine qr_iload o (q_dm dm_X5_longestOf 52 rfl) rfl ?_
    refine qr_iald o (sh69 j r) (q_dm dm_X5_longestOf 53 rfl) ?_
    refine qr_iadd o (q_dm dm_X5_longestOf 54 rfl) ?_
    refine qr_iald o (sh67 j r) (q_dm dm_X5_longestOf 55 rfl) ?_
    refine qr_max o ml_X5_148 (by omega) (Nat.le_of_ble_eq_true rfl) (q_dm dm_X5_longestOf 56 rfl) ?_
    refine qr_lt (fun x1 => ?_)
    refine qs_istore_n (L' := [some (.inr (some 64)), none, none, some (.inl x1), some (.inl a4)]) o (q_dm dm_X5_longestOf 57 rfl) (Nat.le_of_ble_eq_true rfl) rfl ?_
    refine qs_iincl2 (L' := fun x2 => [some (.inr (some 64)), none, none, some (.inl x1), some (.inl x2)]) o (q_dm dm_X5_longestOf 58 rfl) rfl ic_1 (Nat.le_of_ble_eq_true rfl) (fun _ => rfl) (fun x2 => ?_)
    refine qr_goto (tgt := 63) o (q_dm dm_X5_longestOf 59 rfl) (by decide) ?_
    exact qr_loc (q_leS (q_leN (q_leN (q_leS (q_leS q_le0))))) (hK63 x1 x2 M)

def f_X5_longestOf_63 (n : Nat) : Nat → Int32 → Int32 → qM → qR
  | 0, _, _, _ => none
  | m + 1, a3, a4, M => b_X5_longestOf_63 n (f_X5_longestOf_63 n m) a3 a4 M
theorem w_X5_longestOf_63 {g : qG} {k : qK} (n : Nat) (j r : Nat) (hj : q_isLaw j) (hr : q_isLaw r) (o : qOk g 1 zX5_longestOf k) : ∀ (m : Nat) (a3 a4 : Int32) (M : qM), qAE g k zX5_longestOf (qL j r) 63 [some (.inr (some 64)), none, none, some (.inl a3), some (.inl a4)] [] (qL j r, M) (f_X5_longestOf_63 n m a3 a4 M) := by
  intro m
  induction m with
  | zero =>
    intro a3 a4 M
    exact qr_none
  | succ m ih =>
    intro a3 a4 M
    exact wb_X5_longestOf_63 n j r hj hr o (f_X5_longestOf_63 n m) ih a3 a4 M
def f_X5_longestOf_58 (n : Nat) (M : qM) : qR :=
  f_X5_longestOf_63 n n (0 : Int32) (0 : Int32) M
set_option maxRecDepth 4000 in
theorem w_X5_longestOf_58 {g : qG} {k : qK} (n : Nat) (j r : Nat) (hj : q_isLaw j) (hr : q_isLaw r) (o : qOk g 1 zX5_longestOf k) (M : qM) : qAE g k zX5_longestOf (qL j r) 58 [some (.inr (some 64)), none, none, none, none] [] (qL j r, M) (f_X5_longestOf_58 n  M) := by
  unfold f_X5_longestOf_58
  refine qr_iconst o (q_dm dm_X5_longestOf 36 rfl) ic_0 ?_
  refine qs_istore_n (L' := [some (.inr (some 64)), none, none, some (.inl (0 : Int32)), none]) o (q_dm dm_X5_longestOf 37 rfl) (Nat.le_of_ble_eq_true rfl) rfl ?_
  refine qr_iconst o (q_dm dm_X5_longestOf 38 rfl) ic_0 ?_
  refine qs_istore (L' := [some (.inr (some 64)), none, none, some (.inl (0 : Int32)), some (.inl (0 : Int32))]) o (q_dm dm_X5_longestOf 39 rfl) (Nat.le_of_ble_eq_true rfl) rfl ?_
  exact qr_loc (q_leS (q_leN (q_leN (q_leS (q_leS q_le0))))) (w_X5_longestOf_63 n j r hj hr o n (0 : Int32) (0 : Int32) M)

def b_X5_longestOf_17 (n : Nat) (K17 : Int32 → Int32 → qM → qR) (a2 a3 : Int32) (M : qM) : qR :=
  (if a3 < (0 : Int32) then f_X5_longestOf_58 n  M else (if (M 64 10) ≤ (0 : Int32) then f_X5_longestOf_58 n  M else qd (M 64 10) (ql (a2 - a2 / (M 64 10) * (M 64 10)) (fun x1 => qg x1 3 (qg x1 3 (qlm (mu M 69 x1.toNatClampNeg ((M 69 x1.toNatClampNeg) ||| ((1 : Int32) <<< (a3 &&& 31)))) (fun m2 => qd (m2 64 10) (ql (a2 / (m2 64 10)) (fun x3 => ql (a3 + (-1 : Int32)) (fun x4 => K17 x3 x4 m2))))))))))
set_option maxRecDepth 4000 in
theorem wb_X5_longestOf_17 {g : qG} {k : qK} (n : Nat) (j r : Nat) (hj : q_isLaw j) (hr : q_isLaw r) (o : qOk g 1 zX5_longestOf k) (K17 : Int32 → Int32 → qM → qR) (hK17 : ∀ (a2 a3 : Int32) (M : qM), qAE g k zX5_longestOf (qL j r) 17 [some (.inr (some 64)), none, some (.inl a2), some (.inl a3), none] [] (qL j r, M) (K17 a2 a3 M)) (a2 a3 : Int32) (M : qM) : qAE g k zX5_longestOf (qL j r) 17 [some (.inr (some 64)), none, some (.inl a2), some (.inl a3), none] [] (qL j r, M) (b_X5_longestOf_17 n K17 a2 a3 M) := by
  unfold b_X5_longestOf_17
  refine qr_iload_n o (q_dm dm_X5_longestOf 11 rfl) rfl ?_
  refine qr_if_lt (tgt := 58) o (q_dm dm_X5_longestOf 12 rfl) (by decide) ?_ ?_
  · exact qr_loc (q_leS (q_leN (q_leN (q_leN (q_leN q_le0))))) (w_X5_longestOf_58 n j r hj hr o  M)
  · refine qr_aload_n o (q_dm dm_X5_longestOf 13 rfl) rfl ?_
    refine qr_getf (kf := 10) o cf_X5 (sh64 j r) rfl (Nat.le_of_ble_eq_true rfl) fl_X5_65 (q_dm dm_X5_longestOf 14 rfl) ?_
    refine qr_if_le (tgt := 58) o (q_dm dm_X5_longestOf 15 rfl) (by decide) ?_ ?_
    · exact qr_loc (q_leS (q_leN (q_leN (q_leN (q_leN q_le0))))) (w_X5_longestOf_58 n j r hj hr o  M)
    · refine qr_aload_n o (q_dm dm_X5_longestOf 16 rfl) rfl ?_
      refine qr_getr (kf := 7) o cf_X5 (sh64 j r) rfl (Nat.le_of_ble_eq_true rfl) fl_X5_24 (q_dm dm_X5_longestOf 17 rfl) ?_
      refine qr_iload_n o (q_dm dm_X5_longestOf 18 rfl) rfl ?_
      refine qr_aload_n o (q_dm dm_X5_longestOf 19 rfl) rfl ?_
      refine qr_getf (kf := 10) o cf_X5 (sh64 j r) rfl (Nat.le_of_ble_eq_true rfl) fl_X5_65 (q_dm dm_X5_longestOf 20 rfl) ?_
      refine qr_irem o (q_dm dm_X5_longestOf 21 rfl) ?_
      refine qr_lt (fun x1 => ?_)
      refine qr_dup2 o (q_dm dm_X5_longestOf 22 rfl) ?_
      refine qr_iald o (sh69 j r) (q_dm dm_X5_longestOf 23 rfl) ?_
      refine qr_iconst o (q_dm dm_X5_longestOf 24 rfl) ic_1 ?_
      refine qr_iload_n o (q_dm dm_X5_longestOf 25 rfl) rfl ?_
      refine qr_ishl o (q_dm dm_X5_longestOf 26 rfl) ?_
      refine qr_ior o (q_dm dm_X5_longestOf 27 rfl) ?_
      refine qr_iast o (sh69 j r) (q_dm dm_X5_longestOf 28 rfl) ?_
      refine qr_letm (fun m2 => ?_)
      refine qr_iload_n o (q_dm dm_X5_longestOf 29 rfl) rfl ?_
      refine qr_aload_n o (q_dm dm_X5_longestOf 30 rfl) rfl ?_
      refine qr_getf (kf := 10) o cf_X5 (sh64 j r) rfl (Nat.le_of_ble_eq_true rfl) fl_X5_65 (q_dm dm_X5_longestOf 31 rfl) ?_
      refine qr_idiv o (q_dm dm_X5_longestOf 32 rfl) ?_
      refine qr_lt (fun x3 => ?_)
      refine qs_istore_n (L' := [some (.inr (some 64)), none, some (.inl x3), some (.inl a3), none]) o (q_dm dm_X5_longestOf 33 rfl) (Nat.le_of_ble_eq_true rfl) rfl ?_
      refine qs_iincl2 (L' := fun x4 => [some (.inr (some 64)), none, some (.inl x3), some (.inl x4), none]) o (q_dm dm_X5_longestOf 34 rfl) rfl ic_m1 (Nat.le_of_ble_eq_true rfl) (fun _ => rfl) (fun x4 => ?_)
      refine qr_goto (tgt := 17) o (q_dm dm_X5_longestOf 35 rfl) (by decide) ?_
      exact qr_loc (q_leS (q_leN (q_leS (q_leS (q_leN q_le0))))) (hK17 x3 x4 m2)

def f_X5_longestOf_17 (n : Nat) : Nat → Int32 → Int32 → qM → qR
  | 0, _, _, _ => none
  | m + 1, a2, a3, M => b_X5_longestOf_17 n (f_X5_longestOf_17 n m) a2 a3 M
theorem w_X5_longestOf_17 {g : qG} {k : qK} (n : Nat) (j r : Nat) (hj : q_isLaw j) (hr : q_isLaw r) (o : qOk g 1 zX5_longestOf k) : ∀ (m : Nat) (a2 a3 : Int32) (M : qM), qAE g k zX5_longestOf (qL j r) 17 [some (.inr (some 64)), none, some (.inl a2), some (.inl a3), none] [] (qL j r, M) (f_X5_longestOf_17 n m a2 a3 M) := by
  intro m
  induction m with
  | zero =>
    intro a2 a3 M
    exact qr_none
  | succ m ih =>
    intro a2 a3 M
    exact wb_X5_longestOf_17 n j r hj hr o (f_X5_longestOf_17 n m) ih a2 a3 M
def f_X5_longestOf (n : Nat) (a1 : Int32) (M : qM) : qR :=
  qc (f_J7_fill_53178 n 69 3 (0 : Int32) M) (fun _ m1 => ql ((m1 64 9) - (1 : Int32)) (fun x2 => f_X5_longestOf_17 n n a1 x2 m1))
set_option maxRecDepth 4000 in
theorem w_X5_longestOf {g : qG} {k : qK} (n : Nat) (j r : Nat) (hj : q_isLaw j) (hr : q_isLaw r) (o : qOk g 1 zX5_longestOf k) (a1 : Int32) (M : qM) : qAE g k zX5_longestOf (qL j r) 0 [some (.inr (some 64)), some (.inl a1), none, none, none] [] (qL j r, M) (f_X5_longestOf n a1 M) := by
  unfold f_X5_longestOf
  refine qr_aload_n o (q_dm dm_X5_longestOf 0 rfl) rfl ?_
  refine qr_getr (kf := 7) o cf_X5 (sh64 j r) rfl (Nat.le_of_ble_eq_true rfl) fl_X5_24 (q_dm dm_X5_longestOf 1 rfl) ?_
  refine qr_iconst o (q_dm dm_X5_longestOf 2 rfl) ic_0 ?_
  refine qr_calls_v (As := [.inr (some 69), .inl (0 : Int32)]) (S := []) o (a_J7_fill_53178 g k.2.1 n j r hj hr (sh69 j r) (0 : Int32) M) (Nat.le_of_ble_eq_true rfl) zs_J7_fill_53178 rfl ml_X5_142 (Nat.le_of_ble_eq_true rfl) (q_dm dm_X5_longestOf 3 rfl) (fun _ m1 => ?_)
  refine qr_iload_n o (q_dm dm_X5_longestOf 4 rfl) rfl ?_
  refine qs_istore_n (L' := [some (.inr (some 64)), some (.inl a1), some (.inl a1), none, none]) o (q_dm dm_X5_longestOf 5 rfl) (Nat.le_of_ble_eq_true rfl) rfl ?_
  refine qr_aload_n o (q_dm dm_X5_longestOf 6 rfl) rfl ?_
  refine qr_getf (kf := 9) o cf_X5 (sh64 j r) rfl (Nat.le_of_ble_eq_true rfl) fl_X5_49 (q_dm dm_X5_longestOf 7 rfl) ?_
  refine qr_iconst o (q_dm dm_X5_longestOf 8 rfl) ic_1 ?_
  refine qr_isub o (q_dm dm_X5_longestOf 9 rfl) ?_
  refine qr_lt (fun x2 => ?_)
  refine qs_istore_n (L' := [some (.inr (some 64)), some (.inl a1), some (.inl a1), some (.inl x2), none]) o (q_dm dm_X5_longestOf 10 rfl) (Nat.le_of_ble_eq_true rfl) rfl ?_
  exact qr_loc (q_leS (q_leN (q_leS (q_leS (q_leN q_le0))))) (w_X5_longestOf_17 n j r hj hr o n a1 x2 m1)

theorem a_X5_longestOf (g : qG) (l : Launch) (n : Nat) (j r : Nat) (hj : q_isLaw j) (hr : q_isLaw r) (a1 : Int32) (M : qM) : qAM g l 1 zX5_longestOf (qL j r) [.inr (some 64), .inl a1] (qL j r, M) (f_X5_longestOf n a1 M) :=
  qAM.of zv_X5_longestOf.1 (by show 2 ≤ 5; decide) (fun k hk o => w_X5_longestOf n j r hj hr o a1 M)

def tb_X5_findBestRow : List (Nat × Instr × Nat) := [(0, (.iconst 1, 1)), (1, (.istore_n 1, 1)), (2, (.iconst 0, 1)), (3, (.istore_n 2, 1)), (4, (.iload_n 2, 1)), (5, (.aload_n 0, 1)), (6, (.getfield 49, 3)), (9, (.if_icmp .ge 16, 3)), (12, (.iload_n 1, 1)), (13, (.aload_n 0, 1)), (14, (.getfield 65, 3)), (17, (.imul, 1)), (18, (.istore_n 1, 1)), (19, (.iinc 2 1, 3)), (22, (.goto (-18), 3)), (25, (.aload_n 0, 1)), (26, (.ldc 102, 2)), (28, (.putfield 136, 3)), (31, (.aload_n 0, 1)), (32, (.iconst 0, 1)), (33, (.putfield 93, 3)), (36, (.iconst 0, 1)), (37, (.istore_n 2, 1)), (38, (.iload_n 2, 1)), (39, (.iload_n 1, 1)), (40, (.if_icmp .ge 33, 3)), (43, (.aload_n 0, 1)), (44, (.iload_n 2, 1)), (45, (.invokevirtual 139, 3)), (48, (.istore_n 3, 1)), (49, (.iload_n 3, 1)), (50, (.aload_n 0, 1)), (51, (.getfield 136, 3)), (54, (.if_icmp .ge 13, 3)), (57, (.aload_n 0, 1)), (58, (.iload_n 3, 1)), (59, (.putfield 136, 3)), (62, (.aload_n 0, 1)), (63, (.iload_n 2, 1)), (64, (.putfield 93, 3)), (67, (.iinc 2 1, 3)), (70, (.goto (-32), 3)), (73, (.return_, 1))]
theorem dm_X5_findBestRow : ∀ q ∈ tb_X5_findBestRow, decode zX5_findBestRow.2.1 q.1 = .ok q.2 := by decide +kernel
def b_X5_findBestRow_38 (n : Nat) (K38 : Int32 → Int32 → qM → qR) (a1 a2 : Int32) (M : qM) : qR :=
  (if a1 ≤ a2 then some (0, M) else qc (f_X5_longestOf n a2 M) (fun r1 m2 => (if (m2 64 11) ≤ r1 then ql (a2 + (1 : Int32)) (fun x3 => K38 a1 x3 m2) else qlm (mu m2 64 11 r1) (fun m4 => qlm (mu m4 64 12 a2) (fun m5 => ql (a2 + (1 : Int32)) (fun x6 => K38 a1 x6 m5))))))
set_option maxRecDepth 4000 in
theorem wb_X5_findBestRow_38 {g : qG} {k : qK} (n : Nat) (j r : Nat) (hj : q_isLaw j) (hr : q_isLaw r) (o : qOk g 2 zX5_findBestRow k) (K38 : Int32 → Int32 → qM → qR) (hK38 : ∀ (a1 a2 : Int32) (M : qM), qAE g k zX5_findBestRow (qL j r) 38 [some (.inr (some 64)), some (.inl a1), some (.inl a2), none] [] (qL j r, M) (K38 a1 a2 M)) (a1 a2 : Int32) (M : qM) : qAE g k zX5_findBestRow (qL j r) 38 [some (.inr (some 64)), some (.inl a1), some (.inl a2), none] [] (qL j r, M) (b_X5_findBestRow_38 n K38 a1 a2 M) := by
  unfold b_X5_findBestRow_38
  refine qr_iload_n o (q_dm dm_X5_findBestRow 23 rfl) rfl ?_
  refine qr_iload_n o (q_dm dm_X5_findBestRow 24 rfl) rfl ?_
  refine qr_icmp_ge (tgt := 73) o (q_dm dm_X5_findBestRow 25 rfl) (by decide) ?_ ?_
  · exact qr_vret o rfl (q_dm dm_X5_findBestRow 42 rfl)
  · refine qr_aload_n o (q_dm dm_X5_findBestRow 26 rfl) rfl ?_
    refine qr_iload_n o (q_dm dm_X5_findBestRow 27 rfl) rfl ?_
    refine qr_callv_i (As := [.inl a2]) (S := []) o (a_X5_longestOf g k.2.1 n j r hj hr a2 M) (Nat.le_of_ble_eq_true rfl) zv_X5_longestOf rfl cf_X5 (sh64 j r) ml_X5_139 (Nat.le_of_ble_eq_true rfl) (q_dm dm_X5_findBestRow 28 rfl) (fun r1 m2 => ?_)
    refine qs_istore_n (L' := [some (.inr (some 64)), some (.inl a1), some (.inl a2), some (.inl r1)]) o (q_dm dm_X5_findBestRow 29 rfl) (Nat.le_of_ble_eq_true rfl) rfl ?_
    refine qr_iload_n o (q_dm dm_X5_findBestRow 30 rfl) rfl ?_
    refine qr_aload_n o (q_dm dm_X5_findBestRow 31 rfl) rfl ?_
    refine qr_getf (kf := 11) o cf_X5 (sh64 j r) rfl (Nat.le_of_ble_eq_true rfl) fl_X5_136 (q_dm dm_X5_findBestRow 32 rfl) ?_
    refine qr_icmp_ge (tgt := 67) o (q_dm dm_X5_findBestRow 33 rfl) (by decide) ?_ ?_
    · refine qs_iincl2 (L' := fun x3 => [some (.inr (some 64)), some (.inl a1), some (.inl x3), some (.inl r1)]) o (q_dm dm_X5_findBestRow 40 rfl) rfl ic_1 (Nat.le_of_ble_eq_true rfl) (fun _ => rfl) (fun x3 => ?_)
      refine qr_goto (tgt := 38) o (q_dm dm_X5_findBestRow 41 rfl) (by decide) ?_
      exact qr_loc (q_leS (q_leS (q_leS (q_leN q_le0)))) (hK38 a1 x3 m2)
    · refine qr_aload_n o (q_dm dm_X5_findBestRow 34 rfl) rfl ?_
      refine qr_iload_n o (q_dm dm_X5_findBestRow 35 rfl) rfl ?_
      refine qr_putf (kf := 11) o cf_X5 (sh64 j r) rfl (Nat.le_of_ble_eq_true rfl) fl_X5_136 rfl (by decide +kernel) (q_dm dm_X5_findBestRow 36 rfl) ?_
      refine qr_letm (fun m4 => ?_)
      refine qr_aload_n o (q_dm dm_X5_findBestRow 37 rfl) rfl ?_
      refine qr_iload_n o (q_dm dm_X5_findBestRow 38 rfl) rfl ?_
      refine qr_putf (kf := 12) o cf_X5 (sh64 j r) rfl (Nat.le_of_ble_eq_true rfl) fl_X5_93 rfl (by decide +kernel) (q_dm dm_X5_findBestRow 39 rfl) ?_
      refine qr_letm (fun m5 => ?_)
      refine qs_iincl2 (L' := fun x6 => [some (.inr (some 64)), some (.inl a1), some (.inl x6), some (.inl r1)]) o (q_dm dm_X5_findBestRow 40 rfl) rfl ic_1 (Nat.le_of_ble_eq_true rfl) (fun _ => rfl) (fun x6 => ?_)
      refine qr_goto (tgt := 38) o (q_dm dm_X5_findBestRow 41 rfl) (by decide) ?_
      exact qr_loc (q_leS (q_leS (q_leS (q_leN q_le0)))) (hK38 a1 x6 m5)

def f_X5_findBestRow_38 (n : Nat) : Nat → Int32 → Int32 → qM → qR
  | 0, _, _, _ => none
  | m + 1, a1, a2, M => b_X5_findBestRow_38 n (f_X5_findBestRow_38 n m) a1 a2 M
theorem w_X5_findBestRow_38 {g : qG} {k : qK} (n : Nat) (j r : Nat) (hj : q_isLaw j) (hr : q_isLaw r) (o : qOk g 2 zX5_findBestRow k) : ∀ (m : Nat) (a1 a2 : Int32) (M : qM), qAE g k zX5_findBestRow (qL j r) 38 [some (.inr (some 64)), some (.inl a1), some (.inl a2), none] [] (qL j r, M) (f_X5_findBestRow_38 n m a1 a2 M) := by
  intro m
  induction m with
  | zero =>
    intro a1 a2 M
    exact qr_none
  | succ m ih =>
    intro a1 a2 M
    exact wb_X5_findBestRow_38 n j r hj hr o (f_X5_findBestRow_38 n m) ih a1 a2 M
def b_X5_findBestRow_4 (n : Nat) (K4 : Int32 → Int32 → qM → qR) (a1 a2 : Int32) (M : qM) : qR :=
  (if (M 64 9) ≤ a2 then qlm (mu M 64 11 (1048576 : Int32)) (fun m1 => qlm (mu m1 64 12 (0 : Int32)) (fun m2 => f_X5_findBestRow_38 n n a1 (0 : Int32) m2)) else ql (a1 * (M 64 10)) (fun x3 => ql (a2 + (1 : Int32)) (fun x4 => K4 x3 x4 M)))
set_option maxRecDepth 4000 in
theorem wb_X5_findBestRow_4 {g : qG} {k : qK} (n : Nat) (j r : Nat) (hj : q_isLaw j) (hr : q_isLaw r) (o : qOk g 2 zX5_findBestRow k) (K4 : Int32 → Int32 → qM → qR) (hK4 : ∀ (a1 a2 : Int32) (M : qM), qAE g k zX5_findBestRow (qL j r) 4 [some (.inr (some 64)), some (.inl a1), some (.inl a2), none] [] (qL j r, M) (K4 a1 a2 M)) (a1 a2 : Int32) (M : qM) : qAE g k zX5_findBestRow (qL j r) 4 [some (.inr (some 64)), some (.inl a1), some (.inl a2), none] [] (qL j r, M) (b_X5_findBestRow_4 n K4 a1 a2 M) := by
  unfold b_X5_findBestRow_4
  refine qr_iload_n o (q_dm dm_X5_findBestRow 4 rfl) rfl ?_
  refine qr_aload_n o (q_dm dm_X5_findBestRow 5 rfl) rfl ?_
  refine qr_getf (kf := 9) o cf_X5 (sh64 j r) rfl (Nat.le_of_ble_eq_true rfl) fl_X5_49 (q_dm dm_X5_findBestRow 6 rfl) ?_
  refine qr_icmp_ge (tgt := 25) o (q_dm dm_X5_findBestRow 7 rfl) (by decide) ?_ ?_
  · refine qr_aload_n o (q_dm dm_X5_findBestRow 15 rfl) rfl ?_
    refine qr_ldc o (q_dm dm_X5_findBestRow 16 rfl) kc_X5_102 ?_
    refine qr_putf (kf := 11) o cf_X5 (sh64 j r) rfl (Nat.le_of_ble_eq_true rfl) fl_X5_136 rfl (by decide +kernel) (q_dm dm_X5_findBestRow 17 rfl) ?_
    refine qr_letm (fun m1 => ?_)
    refine qr_aload_n o (q_dm dm_X5_findBestRow 18 rfl) rfl ?_
    refine qr_iconst o (q_dm dm_X5_findBestRow 19 rfl) ic_0 ?_
    refine qr_putf (kf := 12) o cf_X5 (sh64 j r) rfl (Nat.le_of_ble_eq_true rfl) fl_X5_93 rfl (by decide +kernel) (q_dm dm_X5_findBestRow 20 rfl) ?_
    refine qr_letm (fun m2 => ?_)
    refine qr_iconst o (q_dm dm_X5_findBestRow 21 rfl) ic_0 ?_
    refine qs_istore_n (L' := [some (.inr (some 64)), some (.inl a1), some (.inl (0 : Int32)), none]) o (q_dm dm_X5_findBestRow 22 rfl) (Nat.le_of_ble_eq_true rfl) rfl ?_
    exact qr_loc (q_leS (q_leS (q_leS (q_leN q_le0)))) (w_X5_findBestRow_38 n j r hj hr o n a1 (0 : Int32) m2)
  · refine qr_iload_n o (q_dm dm_X5_findBestRow 8 rfl) rfl ?_
    refine qr_aload_n o (q_dm dm_X5_findBestRow 9 rfl) rfl ?_
    refine qr_getf (kf := 10) o cf_X5 (sh64 j r) rfl (Nat.le_of_ble_eq_true rfl) fl_X5_65 (q_dm dm_X5_findBestRow 10 rfl) ?_
    refine qr_imul o (q_dm dm_X5_findBestRow 11 rfl) ?_
    refine qr_lt (fun x3 => ?_)
    refine qs_istore_n (L' := [some (.inr (some 64)), some (.inl x3), some (.inl a2), none]) o (q_dm dm_X5_findBestRow 12 rfl) (Nat.le_of_ble_eq_true rfl) rfl ?_
    refine qs_iincl2 (L' := fun x4 => [some (.inr (some 64)), some (.inl x3), some (.inl x4), none]) o (q_dm dm_X5_findBestRow 13 rfl) rfl ic_1 (Nat.le_of_ble_eq_true rfl) (fun _ => rfl) (fun x4 => ?_)
    refine qr_goto (tgt := 4) o (q_dm dm_X5_findBestRow 14 rfl) (by decide) ?_
    exact qr_loc (q_leS (q_leS (q_leS (q_leN q_le0)))) (hK4 x3 x4 M)

def f_X5_findBestRow_4 (n : Nat) : Nat → Int32 → Int32 → qM → qR
  | 0, _, _, _ => none
  | m + 1, a1, a2, M => b_X5_findBestRow_4 n (f_X5_findBestRow_4 n m) a1 a2 M
theorem w_X5_findBestRow_4 {g : qG} {k : qK} (n : Nat) (j r : Nat) (hj : q_isLaw j) (hr : q_isLaw r) (o : qOk g 2 zX5_findBestRow k) : ∀ (m : Nat) (a1 a2 : Int32) (M : qM), qAE g k zX5_findBestRow (qL j r) 4 [some (.inr (some 64)), some (.inl a1), some (.inl a2), none] [] (qL j r, M) (f_X5_findBestRow_4 n m a1 a2 M) := by
  intro m
  induction m with
  | zero =>
    intro a1 a2 M
    exact qr_none
  | succ m ih =>
    intro a1 a2 M
    exact wb_X5_findBestRow_4 n j r hj hr o (f_X5_findBestRow_4 n m) ih a1 a2 M
def f_X5_findBestRow (n : Nat) (M : qM) : qR :=
  f_X5_findBestRow_4 n n (1 : Int32) (0 : Int32) M
set_option maxRecDepth 4000 in
theorem w_X5_findBestRow {g : qG} {k : qK} (n : Nat) (j r : Nat) (hj : q_isLaw j) (hr : q_isLaw r) (o : qOk g 2 zX5_findBestRow k) (M : qM) : qAE g k zX5_findBestRow (qL j r) 0 [some (.inr (some 64)), none, none, none] [] (qL j r, M) (f_X5_findBestRow n  M) := by
  unfold f_X5_findBestRow
  refine qr_iconst o (q_dm dm_X5_findBestRow 0 rfl) ic_1 ?_
  refine qs_istore_n (L' := [some (.inr (some 64)), some (.inl (1 : Int32)), none, none]) o (q_dm dm_X5_findBestRow 1 rfl) (Nat.le_of_ble_eq_true rfl) rfl ?_
  refine qr_iconst o (q_dm dm_X5_findBestRow 2 rfl) ic_0 ?_
  refine qs_istore_n (L' := [some (.inr (some 64)), some (.inl (1 : Int32)), some (.inl (0 : Int32)), none]) o (q_dm dm_X5_findBestRow 3 rfl) (Nat.le_of_ble_eq_true rfl) rfl ?_
  exact qr_loc (q_leS (q_leS (q_leS (q_leN q_le0)))) (w_X5_findBestRow_4 n j r hj hr o n (1 : Int32) (0 : Int32) M)

theorem a_X5_findBestRow (g : qG) (l : Launch) (n : Nat) (j r : Nat) (hj : q_isLaw j) (hr : q_isLaw r) (M : qM) : qAM g l 2 zX5_findBestRow (qL j r) [.inr (some 64)] (qL j r, M) (f_X5_findBestRow n  M) :=
  qAM.of zv_X5_findBestRow.1 (by show 1 ≤ 4; decide) (fun k hk o => w_X5_findBestRow n j r hj hr o  M)
def tb_X5_hoursFor : List (Nat × Instr × Nat) := [(0, (.aload_n 0, 1)), (1, (.getfield 39, 3)), (4, (.iload_n 1, 1)), (5, (.aload_n 0, 1)), (6, (.getfield 27, 3)), (9, (.getfield 106, 3)), (12, (.iload_n 2, 1)), (13, (.iaload, 1)), (14, (.invokevirtual 109, 3)), (17, (.ifCond .ne 6, 3)), (20, (.ldc 102, 2)), (22, (.ireturn, 1)), (23, (.iconst 1, 1)), (24, (.istore_n 3, 1)), (25, (.iload_n 3, 1)), (26, (.bipush 20, 2)), (28, (.if_icmp .gt 94, 3)), (31, (.aload_n 0, 1)), (32, (.getfield 39, 3)), (35, (.iload_n 1, 1)), (36, (.aload_n 0, 1)), (37, (.getfield 21, 3)), (40, (.iload_n 2, 1)), (41, (.iaload, 1)), (42, (.invokevirtual 113, 3)), (45, (.istore 4, 2)), (47, (.aload_n 0, 1)), (48, (.getfield 35, 3)), (51, (.aload_n 0, 1)), (52, (.getfield 39, 3)), (55, (.iload_n 1, 1)), (56, (.iload_n 2, 1)), (57, (.bipush 8, 2)), (59, (.invokevirtual 116, 3)), (62, (.iload 4, 2)), (64, (.aload_n 0, 1)), (65, (.getfield 31, 3)), (68, (.invokevirtual 122, 3)), (71, (.if_icmp .lt 7, 3)), (74, (.iconst 1, 1)), (75, (.goto 4, 3)), (78, (.iconst 0, 1)), (79, (.istore 5, 2)), (81, (.aload_n 0, 1)), (82, (.getfield 39, 3)), (85, (.iload_n 1, 1)), (86, (.iload_n 2, 1)), (87, (.invokevirtual 126, 3)), (90, (.iload 5, 2)), (92, (.ifCond .eq 24, 3)), (95, (.aload_n 0, 1)), (96, (.getfield 39, 3)), (99, (.iload_n 1, 1)), (100, (.iload_n 2, 1)), (101, (.invokevirtual 130, 3)), (104, (.iload_n 3, 1)), (105, (.aload_n 0, 1)), (106, (.getfield 27, 3)), (109, (.getfield 133, 3)), (112, (.iload_n 2, 1)), (113, (.iaload, 1)), (114, (.imul, 1)), (115, (.ireturn, 1)), (116, (.iinc 3 1, 3)), (119, (.goto (-94), 3)), (122, (.ldc 102, 2)), (124, (.ireturn, 1))]
theorem dm_X5_hoursFor : ∀ q ∈ tb_X5_hoursFor, decode zX5_hoursFor.2.1 q.1 = .ok q.2 := by decide +kernel
def f_X5_hoursFor_79 (n : Nat) (j : Nat) (K25 : Int32 → Int32 → Int32 → qM → qR) (a1 a2 a3 s0 : Int32) (M : qM) : qR :=
  qc (f_X10_addTry n 25 a1 a2 M) (fun _ m1 => (if s0 = (0 : Int32) then ql (a3 + (1 : Int32)) (fun x2 => K25 a1 a2 x2 m1) else qc (f_X10_addCounted n 25 a1 a2 m1) (fun _ m3 => qg a2 12 (some ((a3 * (m3 4 a2.toNatClampNeg)), m3)))))
set_option maxRecDepth 4000 in
theorem w_X5_hoursFor_79 {g : qG} {k : qK} (n : Nat) (j r : Nat) (hj : q_isLaw j) (hr : q_isLaw r) (o : qOk g 4 zX5_hoursFor k) (K25 : Int32 → Int32 → Int32 → qM → qR) (hK25 : ∀ (a1 a2 a3 : Int32) (M : qM), qAE g k zX5_hoursFor (qL j r) 25 [some (.inr (some 64)), some (.inl a1), some (.inl a2), some (.inl a3), none, none] [] (qL j r, M) (K25 a1 a2 a3 M)) (a1 a2 a3 s0 : Int32) (M : qM) : qAE g k zX5_hoursFor (qL j r) 79 [some (.inr (some 64)), some (.inl a1), some (.inl a2), some (.inl a3), none, none] [.inl s0] (qL j r, M) (f_X5_hoursFor_79 n j K25 a1 a2 a3 s0 M) := by
  unfold f_X5_hoursFor_79
  refine qs_istore (L' := [some (.inr (some 64)), some (.inl a1), some (.inl a2), some (.inl a3), none, some (.inl s0)]) o (q_dm dm_X5_hoursFor 42 rfl) (Nat.le_of_ble_eq_true rfl) rfl ?_
  refine qr_aload_n o (q_dm dm_X5_hoursFor 43 rfl) rfl ?_
  refine qr_getr (kf := 8) o cf_X5 (sh64 j r) rfl (Nat.le_of_ble_eq_true rfl) fl_X5_39 (q_dm dm_X5_hoursFor 44 rfl) ?_
  refine qr_iload_n o (q_dm dm_X5_hoursFor 45 rfl) rfl ?_
  refine qr_iload_n o (q_dm dm_X5_hoursFor 46 rfl) rfl ?_
  refine qr_callv_v (As := [.inl a1, .inl a2]) (S := []) o (a_X10_addTry g k.2.1 n j r hj hr (Or.inr (Or.inr rfl)) a1 a2 M) (Nat.le_of_ble_eq_true rfl) zv_X10_addTry rfl cf_X10 (sh25 j r) ml_X5_126 (Nat.le_of_ble_eq_true rfl) (q_dm dm_X5_hoursFor 47 rfl) (fun _ m1 => ?_)
  refine qr_iload o (q_dm dm_X5_hoursFor 48 rfl) rfl ?_
  refine qr_if_eq (tgt := 116) o (q_dm dm_X5_hoursFor 49 rfl) (by decide) ?_ ?_
  · refine qs_iincl2 (L' := fun x2 => [some (.inr (some 64)), some (.inl a1), some (.inl a2), some (.inl x2), none, some (.inl s0)]) o (q_dm dm_X5_hoursFor 63 rfl) rfl ic_1 (Nat.le_of_ble_eq_true rfl) (fun _ => rfl) (fun x2 => ?_)
    refine qr_goto (tgt := 25) o (q_dm dm_X5_hoursFor 64 rfl) (by decide) ?_
    exact qr_loc (q_leS (q_leS (q_leS (q_leS (q_leN (q_leN q_le0)))))) (hK25 a1 a2 x2 m1)
  · refine qr_aload_n o (q_dm dm_X5_hoursFor 50 rfl) rfl ?_
    refine qr_getr (kf := 8) o cf_X5 (sh64 j r) rfl (Nat.le_of_ble_eq_true rfl) fl_X5_39 (q_dm dm_X5_hoursFor 51 rfl) ?_
    refine qr_iload_n o (q_dm dm_X5_hoursFor 52 rfl) rfl ?_
    refine qr_iload_n o (q_dm dm_X5_hoursFor 53 rfl) rfl ?_
    refine qr_callv_v (As := [.inl a1, .inl a2]) (S := []) o (a_X10_addCounted g k.2.1 n j r hj hr (Or.inr (Or.inr rfl)) a1 a2 m1) (Nat.le_of_ble_eq_true rfl) zv_X10_addCounted rfl cf_X10 (sh25 j r) ml_X5_130 (Nat.le_of_ble_eq_true rfl) (q_dm dm_X5_hoursFor 54 rfl) (fun _ m3 => ?_)
    refine qr_iload_n o (q_dm dm_X5_hoursFor 55 rfl) rfl ?_
    refine qr_aload_n o (q_dm dm_X5_hoursFor 56 rfl) rfl ?_
    refine qr_getr (kf := 0) o cf_X5 (sh64 j r) rfl (Nat.le_of_ble_eq_true rfl) fl_X5_27 (q_dm dm_X5_hoursFor 57 rfl) ?_
    refine qr_getr (kf := 0) o cf_X2 (sh3 j r) rfl (Nat.le_of_ble_eq_true rfl) fl_X5_133 (q_dm dm_X5_hoursFor 58 rfl) ?_
    refine qr_iload_n o (q_dm dm_X5_hoursFor 59 rfl) rfl ?_
    refine qr_iald o (sh4 j r) (q_dm dm_X5_hoursFor 60 rfl) ?_
    refine qr_imul o (q_dm dm_X5_hoursFor 61 rfl) ?_
    exact qr_iret o rfl rfl (q_dm dm_X5_hoursFor 62 rfl)

def b_X5_hoursFor_25 (n : Nat) (j : Nat) (K25 : Int32 → Int32 → Int32 → qM → qR) (a1 a2 a3 : Int32) (M : qM) : qR :=
  (if (20 : Int32) < a3 then some ((1048576 : Int32), M) else qg a2 12 (qc (f_X10_triesAmong n 25 a1 (M 68 a2.toNatClampNeg) M) (fun r1 m2 => qc (f_X0_tellAll n 25 a1 a2 (8 : Int32) m2) (fun _ m3 => qc (f_X1_voidTries n j m3) (fun r4 m5 => (if r1 < r4 then f_X5_hoursFor_79 n j K25 a1 a2 a3 (0 : Int32) m5 else f_X5_hoursFor_79 n j K25 a1 a2 a3 (1 : Int32) m5))))))
set_option maxRecDepth 4000 in
theorem wb_X5_hoursFor_25 {g : qG} {k : qK} (n : Nat) (j r : Nat) (hj : q_isLaw j) (hr : q_isLaw r) (o : qOk g 4 zX5_hoursFor k) (K25 : Int32 → Int32 → Int32 → qM → qR) (hK25 : ∀ (a1 a2 a3 : Int32) (M : qM), qAE g k zX5_hoursFor (qL j r) 25 [some (.inr (some 64)), some (.inl a1), some (.inl a2), some (.inl a3), none, none] [] (qL j r, M) (K25 a1 a2 a3 M)) (a1 a2 a3 : Int32) (M : qM) : qAE g k zX5_hoursFor (qL j r) 25 [some (.inr (some 64)), some (.inl a1), some (.inl a2), some (.inl a3), none, none] [] (qL j r, M) (b_X5_hoursFor_25 n j K25 a1 a2 a3 M) := by
  unfold b_X5_hoursFor_25
  refine qr_iload_n o (q_dm dm_X5_hoursFor 14 rfl) rfl ?_
  refine qr_bipush o (q_dm dm_X5_hoursFor 15 rfl) bi_20 ?_
  refine qr_icmp_gt (tgt := 122) o (q_dm dm_X5_hoursFor 16 rfl) (by decide) ?_ ?_
  · refine qr_ldc o (q_dm dm_X5_hoursFor 65 rfl) kc_X5_102 ?_
    exact qr_iret o rfl rfl (q_dm dm_X5_hoursFor 66 rfl)
  · refine qr_aload_n o (q_dm dm_X5_hoursFor 17 rfl) rfl ?_
    refine qr_getr (kf := 8) o cf_X5 (sh64 j r) rfl (Nat.le_of_ble_eq_true rfl) fl_X5_39 (q_dm dm_X5_hoursFor 18 rfl) ?_
    refine qr_iload_n o (q_dm dm_X5_hoursFor 19 rfl) rfl ?_
    refine qr_aload_n o (q_dm dm_X5_hoursFor 20 rfl) rfl ?_
    refine qr_getr (kf := 6) o cf_X5 (sh64 j r) rfl (Nat.le_of_ble_eq_true rfl) fl_X5_21 (q_dm dm_X5_hoursFor 21 rfl) ?_
    refine qr_iload_n o (q_dm dm_X5_hoursFor 22 rfl) rfl ?_
    refine qr_iald o (sh68 j r) (q_dm dm_X5_hoursFor 23 rfl) ?_
    refine qr_callv_i (As := [.inl a1, .inl (M 68 a2.toNatClampNeg)]) (S := []) o (a_X10_triesAmong g k.2.1 n j r hj hr (Or.inr (Or.inr rfl)) a1 (M 68 a2.toNatClampNeg) M) (Nat.le_of_ble_eq_true rfl) zv_X10_triesAmong rfl cf_X10 (sh25 j r) ml_X5_113 (Nat.le_of_ble_eq_true rfl) (q_dm dm_X5_hoursFor 24 rfl) (fun r1 m2 => ?_)
    refine qs_istore (L' := [some (.inr (some 64)), some (.inl a1), some (.inl a2), some (.inl a3), some (.inl r1), none]) o (q_dm dm_X5_hoursFor 25 rfl) (Nat.le_of_ble_eq_true rfl) rfl ?_
    refine qr_aload_n o (q_dm dm_X5_hoursFor 26 rfl) rfl ?_
    refine qr_getr (kf := 2) o cf_X5 (sh64 j r) rfl (Nat.le_of_ble_eq_true rfl) fl_X5_35 (q_dm dm_X5_hoursFor 27 rfl) ?_
    refine qr_aload_n o (q_dm dm_X5_hoursFor 28 rfl) rfl ?_
    refine qr_getr (kf := 8) o cf_X5 (sh64 j r) rfl (Nat.le_of_ble_eq_true rfl) fl_X5_39 (q_dm dm_X5_hoursFor 29 rfl) ?_
    refine qr_iload_n o (q_dm dm_X5_hoursFor 30 rfl) rfl ?_
    refine qr_iload_n o (q_dm dm_X5_hoursFor 31 rfl) rfl ?_
    refine qr_bipush o (q_dm dm_X5_hoursFor 32 rfl) bi_8 ?_
    refine qr_callv_v (As := [.inr (some 25), .inl a1, .inl a2, .inl (8 : Int32)]) (S := []) o (a_X0_tellAll g k.2.1 n j r hj hr (Or.inr (Or.inr rfl)) a1 a2 (8 : Int32) m2) (Nat.le_of_ble_eq_true rfl) zv_X0_tellAll rfl cf_X0 (sh44 j r) ml_X5_116 (Nat.le_of_ble_eq_true rfl) (q_dm dm_X5_hoursFor 33 rfl) (fun _ m3 => ?_)
    refine qr_iload o (q_dm dm_X5_hoursFor 34 rfl) rfl ?_
    refine qr_aload_n o (q_dm dm_X5_hoursFor 35 rfl) rfl ?_
    refine qr_getr (kf := 1) o cf_X5 (sh64 j r) rfl (Nat.le_of_ble_eq_true rfl) fl_X5_31 (q_dm dm_X5_hoursFor 36 rfl) ?_
    refine qr_callv_i (As := []) (S := [.inl r1]) o (a_X1_voidTries g k.2.1 n j r hj hr  m3) (Nat.le_of_ble_eq_true rfl) zv_X1_voidTries rfl cf_X1 (sh34 j r) ml_X5_122 (Nat.le_of_ble_eq_true rfl) (q_dm dm_X5_hoursFor 37 rfl) (fun r4 m5 => ?_)
    refine qr_icmp_lt (tgt := 78) o (q_dm dm_X5_hoursFor 38 rfl) (by decide) ?_ ?_
    · refine qr_iconst o (q_dm dm_X5_hoursFor 41 rfl) ic_0 ?_
      exact qr_loc (q_leS (q_leS (q_leS (q_leS (q_leN (q_leN q_le0)))))) (w_X5_hoursFor_79 n j r hj hr o K25 hK25 a1 a2 a3 (0 : Int32) m5)
    · refine qr_iconst o (q_dm dm_X5_hoursFor 39 rfl) ic_1 ?_
      refine qr_goto (tgt := 79) o (q_dm dm_X5_hoursFor 40 rfl) (by decide) ?_
      exact qr_loc (q_leS (q_leS (q_leS (q_leS (q_leN (q_leN q_le0)))))) (w_X5_hoursFor_79 n j r hj hr o K25 hK25 a1 a2 a3 (1 : Int32) m5)

def f_X5_hoursFor_25 (n : Nat) (j : Nat) : Nat → Int32 → Int32 → Int32 → qM → qR
  | 0, _, _, _, _ => none
  | m + 1, a1, a2, a3, M => b_X5_hoursFor_25 n j (f_X5_hoursFor_25 n j m) a1 a2 a3 M
theorem w_X5_hoursFor_25 {g : qG} {k : qK} (n : Nat) (j r : Nat) (hj : q_isLaw j) (hr : q_isLaw r) (o : qOk g 4 zX5_hoursFor k) : ∀ (m : Nat) (a1 a2 a3 : Int32) (M : qM), qAE g k zX5_hoursFor (qL j r) 25 [some (.inr (some 64)), some (.inl a1), some (.inl a2), some (.inl a3), none, none] [] (qL j r, M) (f_X5_hoursFor_25 n j m a1 a2 a3 M) := by
  intro m
  induction m with
  | zero =>
    intro a1 a2 a3 M
    exact qr_none
  | succ m ih =>
    intro a1 a2 a3 M
    exact wb_X5_hoursFor_25 n j r hj hr o (f_X5_hoursFor_25 n j m) ih a1 a2 a3 M
def f_X5_hoursFor (n : Nat) (j : Nat) (a1 a2 : Int32) (M : qM) : qR :=
  qg a2 12 (qc (f_X10_hasCounted n 25 a1 (M 6 a2.toNatClampNeg) M) (fun r1 m2 => (if r1 = (0 : Int32) then some ((1048576 : Int32), m2) else f_X5_hoursFor_25 n j n a1 a2 (1 : Int32) m2)))
set_option maxRecDepth 4000 in
theorem w_X5_hoursFor {g : qG} {k : qK} (n : Nat) (j r : Nat) (hj : q_isLaw j) (hr : q_isLaw r) (o : qOk g 4 zX5_hoursFor k) (a1 a2 : Int32) (M : qM) : qAE g k zX5_hoursFor (qL j r) 0 [some (.inr (some 64)), some (.inl a1), some (.inl a2), none, none, none] [] (qL j r, M) (f_X5_hoursFor n j a1 a2 M) := by
  unfold f_X5_hoursFor
  refine qr_aload_n o (q_dm dm_X5_hoursFor 0 rfl) rfl ?_
  refine qr_getr (kf := 8) o cf_X5 (sh64 j r) rfl (Nat.le_of_ble_eq_true rfl) fl_X5_39 (q_dm dm_X5_hoursFor 1 rfl) ?_
  refine qr_iload_n o (q_dm dm_X5_hoursFor 2 rfl) rfl ?_
  refine qr_aload_n o (q_dm dm_X5_hoursFor 3 rfl) rfl ?_
  refine qr_getr (kf := 0) o cf_X5 (sh64 j r) rfl (Nat.le_of_ble_eq_true rfl) fl_X5_27 (q_dm dm_X5_hoursFor 4 rfl) ?_
  refine qr_getr (kf := 2) o cf_X2 (sh3 j r) rfl (Nat.le_of_ble_eq_true rfl) fl_X5_106 (q_dm dm_X5_hoursFor 5 rfl) ?_
  refine qr_iload_n o (q_dm dm_X5_hoursFor 6 rfl) rfl ?_
  refine qr_iald o (sh6 j r) (q_dm dm_X5_hoursFor 7 rfl) ?_
  refine qr_callv_i (As := [.inl a1, .inl (M 6 a2.toNatClampNeg)]) (S := []) o (a_X10_hasCounted g k.2.1 n j r hj hr (Or.inr (Or.inr rfl)) a1 (M 6 a2.toNatClampNeg) M) (Nat.le_of_ble_eq_true rfl) zv_X10_hasCounted rfl cf_X10 (sh25 j r) ml_X5_109 (Nat.le_of_ble_eq_true rfl) (q_dm dm_X5_hoursFor 8 rfl) (fun r1 m2 => ?_)
  refine qr_if_ne (tgt := 23) o (q_dm dm_X5_hoursFor 9 rfl) (by decide) ?_ ?_
  · refine qr_iconst o (q_dm dm_X5_hoursFor 12 rfl) ic_1 ?_
    refine qs_istore_n (L' := [some (.inr (some 64)), some (.inl a1), some (.inl a2), some (.inl (1 : Int32)), none, none]) o (q_dm dm_X5_hoursFor 13 rfl) (Nat.le_of_ble_eq_true rfl) rfl ?_
    exact qr_loc (q_leS (q_leS (q_leS (q_leS (q_leN (q_leN q_le0)))))) (w_X5_hoursFor_25 n j r hj hr o n a1 a2 (1 : Int32) m2)
  · refine qr_ldc o (q_dm dm_X5_hoursFor 10 rfl) kc_X5_102 ?_
    exact qr_iret o rfl rfl (q_dm dm_X5_hoursFor 11 rfl)

theorem a_X5_hoursFor (g : qG) (l : Launch) (n : Nat) (j r : Nat) (hj : q_isLaw j) (hr : q_isLaw r) (a1 a2 : Int32) (M : qM) : qAM g l 4 zX5_hoursFor (qL j r) [.inr (some 64), .inl a1, .inl a2] (qL j r, M) (f_X5_hoursFor n j a1 a2 M) :=
  qAM.of zv_X5_hoursFor.1 (by show 3 ≤ 6; decide) (fun k hk o => w_X5_hoursFor n j r hj hr o a1 a2 M)
def tb_X5_goThroughSets : List (Nat × Instr × Nat) := [(0, (.iload_n 2, 1)), (1, (.aload_n 0, 1)), (2, (.getfield 49, 3)), (5, (.if_icmp .lt 18, 3)), (8, (.aload_n 0, 1)), (9, (.getfield 18, 3)), (12, (.iload_n 1, 1)), (13, (.sipush 256, 3)), (16, (.imul, 1)), (17, (.iload_n 3, 1)), (18, (.iadd, 1)), (19, (.iload 4, 2)), (21, (.iastore, 1)), (22, (.return_, 1)), (23, (.aload_n 0, 1)), (24, (.iload_n 1, 1)), (25, (.iload_n 2, 1)), (26, (.iconst 1, 1)), (27, (.iadd, 1)), (28, (.iload_n 3, 1)), (29, (.iload 4, 2)), (31, (.invokevirtual 86, 3)), (34, (.aload_n 0, 1)), (35, (.getfield 15, 3)), (38, (.iload_n 1, 1)), (39, (.iaload, 1)), (40, (.bipush 12, 2)), (42, (.imul, 1)), (43, (.aload_n 0, 1)), (44, (.getfield 9, 3)), (47, (.iload_n 2, 1)), (48, (.iaload, 1)), (49, (.iadd, 1)), (50, (.istore 5, 2)), (52, (.aload_n 0, 1)), (53, (.getfield 39, 3)), (56, (.getfield 96, 3)), (59, (.iload 5, 2)), (61, (.iaload, 1)), (62, (.istore 6, 2)), (64, (.aload_n 0, 1)), (65, (.getfield 39, 3)), (68, (.getfield 99, 3)), (71, (.iload 5, 2)), (73, (.iaload, 1)), (74, (.istore 7, 2)), (76, (.iload 4, 2)), (78, (.ldc 102, 2)), (80, (.if_icmp .ge 22, 3)), (83, (.aload_n 0, 1)), (84, (.aload_n 0, 1)), (85, (.getfield 15, 3)), (88, (.iload_n 1, 1)), (89, (.iaload, 1)), (90, (.aload_n 0, 1)), (91, (.getfield 9, 3)), (94, (.iload_n 2, 1)), (95, (.iaload, 1)), (96, (.invokevirtual 103, 3)), (99, (.goto 5, 3)), (102, (.ldc 102, 2)), (104, (.istore 8, 2)), (106, (.aload_n 0, 1)), (107, (.iload_n 1, 1)), (108, (.iload_n 2, 1)), (109, (.iconst 1, 1)), (110, (.iadd, 1)), (111, (.iload_n 3, 1)), (112, (.iconst 1, 1)), (113, (.iload_n 2, 1)), (114, (.ishl, 1)), (115, (.ior, 1)), (116, (.ldc 102, 2)), (118, (.iload 4, 2)), (120, (.iload 8, 2)), (122, (.iadd, 1)), (123, (.invokestatic 43, 3)), (126, (.invokevirtual 86, 3)), (129, (.aload_n 0, 1)), (130, (.getfield 39, 3)), (133, (.getfield 96, 3)), (136, (.iload 5, 2)), (138, (.iload 6, 2)), (140, (.iastore, 1)), (141, (.aload_n 0, 1)), (142, (.getfield 39, 3)), (145, (.getfield 99, 3)), (148, (.iload 5, 2)), (150, (.iload 7, 2)), (152, (.iastore, 1)), (153, (.return_, 1))]
theorem dm_X5_goThroughSets : ∀ q ∈ tb_X5_goThroughSets, decode zX5_goThroughSets.2.1 q.1 = .ok q.2 := by decide +kernel
def f_X5_goThroughSets_104 (n : Nat) (j : Nat) (F_X5_goThroughSets : Int32 → Int32 → Int32 → Int32 → qM → qR) (a1 a2 a3 a4 a5 a6 a7 s0 : Int32) (M : qM) : qR :=
  qc (F_X5_goThroughSets a1 (a2 + (1 : Int32)) (a3 ||| ((1 : Int32) <<< (a2 &&& 31))) (qmin (1048576 : Int32) (a4 + s0)) M) (fun _ m1 => qg a5 96 (qlm (mu m1 27 a5.toNatClampNeg a6) (fun m2 => qg a5 96 (qlm (mu m2 29 a5.toNatClampNeg a7) (fun m3 => some (0, m3))))))
set_option maxRecDepth 4000 in
theorem w_X5_goThroughSets_104 {g : qG} {k : qK} (n : Nat) (j r : Nat) (hj : q_isLaw j) (hr : q_isLaw r) {d1 d : Nat} (hd1 : d1 + 1 ≤ d) (hdn : 5 ≤ d) (F_X5_goThroughSets : Int32 → Int32 → Int32 → Int32 → qM → qR) (hF_X5_goThroughSets : ∀ (b1 b2 b3 b4 : Int32) (M : qM), qAM g k.2.1 d1 zX5_goThroughSets (qL j r) [.inr (some 64), .inl b1, .inl b2, .inl b3, .inl b4] (qL j r, M) (F_X5_goThroughSets b1 b2 b3 b4 M)) (o : qOk g d zX5_goThroughSets k) (a1 a2 a3 a4 a5 a6 a7 s0 : Int32) (M : qM) : qAE g k zX5_goThroughSets (qL j r) 104 [some (.inr (some 64)), some (.inl a1), some (.inl a2), some (.inl a3), some (.inl a4), some (.inl a5), some (.inl a6), some (.inl a7), none] [.inl s0] (qL j r, M) (f_X5_goThroughSets_104 n j F_X5_goThroughSets a1 a2 a3 a4 a5 a6 a7 s0 M) := by
  unfold f_X5_goThroughSets_104
  refine qs_istore (L' := [some (.inr (some 64)), some (.inl a1), some (.inl a2), some (.inl a3), some (.inl a4), some (.inl a5), some (.inl a6), some (.inl a7), some (.inl s0)]) o (q_dm dm_X5_goThroughSets 61 rfl) (Nat.le_of_ble_eq_true rfl) rfl ?_
  refine qr_aload_n o (q_dm dm_X5_goThroughSets 62 rfl) rfl ?_
  refine qr_iload_n o (q_dm dm_X5_goThroughSets 63 rfl) rfl ?_
  refine qr_iload_n o (q_dm dm_X5_goThroughSets 64 rfl) rfl ?_
  refine qr_iconst o (q_dm dm_X5_goThroughSets 65 rfl) ic_1 ?_
  refine qr_iadd o (q_dm dm_X5_goThroughSets 66 rfl) ?_
  refine qr_iload_n o (q_dm dm_X5_goThroughSets 67 rfl) rfl ?_
  refine qr_iconst o (q_dm dm_X5_goThroughSets 68 rfl) ic_1 ?_
  refine qr_iload_n o (q_dm dm_X5_goThroughSets 69 rfl) rfl ?_
  refine qr_ishl o (q_dm dm_X5_goThroughSets 70 rfl) ?_
  refine qr_ior o (q_dm dm_X5_goThroughSets 71 rfl) ?_
  refine qr_ldc o (q_dm dm_X5_goThroughSets 72 rfl) kc_X5_102 ?_
  refine qr_iload o (q_dm dm_X5_goThroughSets 73 rfl) rfl ?_
  refine qr_iload o (q_dm dm_X5_goThroughSets 74 rfl) rfl ?_
  refine qr_iadd o (q_dm dm_X5_goThroughSets 75 rfl) ?_
  refine qr_min o ml_X5_43 (by omega) (Nat.le_of_ble_eq_true rfl) (q_dm dm_X5_goThroughSets 76 rfl) ?_
  refine qr_callv_v (As := [.inl a1, .inl (a2 + (1 : Int32)), .inl (a3 ||| ((1 : Int32) <<< (a2 &&& 31))), .inl (qmin (1048576 : Int32) (a4 + s0))]) (S := []) o (hF_X5_goThroughSets a1 (a2 + (1 : Int32)) (a3 ||| ((1 : Int32) <<< (a2 &&& 31))) (qmin (1048576 : Int32) (a4 + s0)) M) (by omega) zv_X5_goThroughSets rfl cf_X5 (sh64 j r) ml_X5_86 (Nat.le_of_ble_eq_true rfl) (q_dm dm_X5_goThroughSets 77 rfl) (fun _ m1 => ?_)
  refine qr_aload_n o (q_dm dm_X5_goThroughSets 78 rfl) rfl ?_
  refine qr_getr (kf := 8) o cf_X5 (sh64 j r) rfl (Nat.le_of_ble_eq_true rfl) fl_X5_39 (q_dm dm_X5_goThroughSets 79 rfl) ?_
  refine qr_getr (kf := 1) o cf_X10 (sh25 j r) rfl (Nat.le_of_ble_eq_true rfl) fl_X5_96 (q_dm dm_X5_goThroughSets 80 rfl) ?_
  refine qr_iload o (q_dm dm_X5_goThroughSets 81 rfl) rfl ?_
  refine qr_iload o (q_dm dm_X5_goThroughSets 82 rfl) rfl ?_
  refine qr_iast o (sh27 j r) (q_dm dm_X5_goThroughSets 83 rfl) ?_
  refine qr_letm (fun m2 => ?_)
  refine qr_aload_n o (q_dm dm_X5_goThroughSets 84 rfl) rfl ?_
  refine qr_getr (kf := 8) o cf_X5 (sh64 j r) rfl (Nat.le_of_ble_eq_true rfl) fl_X5_39 (q_dm dm_X5_goThroughSets 85 rfl) ?_
  refine qr_getr (kf := 3) o cf_X10 (sh25 j r) rfl (Nat.le_of_ble_eq_true rfl) fl_X5_99 (q_dm dm_X5_goThroughSets 86 rfl) ?_
  refine qr_iload o (q_dm dm_X5_goThroughSets 87 rfl) rfl ?_
  refine qr_iload o (q_dm dm_X5_goThroughSets 88 rfl) rfl ?_
  refine qr_iast o (sh29 j r) (q_dm dm_X5_goThroughSets 89 rfl) ?_
  refine qr_letm (fun m3 => ?_)
  exact qr_vret o rfl (q_dm dm_X5_goThroughSets 90 rfl)

def fo_X5_goThroughSets (n : Nat) (j : Nat) (F_X5_goThroughSets : Int32 → Int32 → Int32 → Int32 → qM → qR) (a1 a2 a3 a4 : Int32) (M : qM) : qR :=
  (if a2 < (M 64 9) then qc (F_X5_goThroughSets a1 (a2 + (1 : Int32)) a3 a4 M) (fun _ m1 => qg a1 3 (qg a2 8 (ql (((m1 66 a1.toNatClampNeg) * (12 : Int32)) + (m1 65 a2.toNatClampNeg)) (fun x2 => qg x2 96 (ql (m1 27 x2.toNatClampNeg) (fun x3 => qg x2 96 (ql (m1 29 x2.toNatClampNeg) (fun x4 => (if (1048576 : Int32) ≤ a4 then f_X5_goThroughSets_104 n j F_X5_goThroughSets a1 a2 a3 a4 x2 x3 x4 (1048576 : Int32) m1 else qg a1 3 (qg a2 8 (qc (f_X5_hoursFor n j (m1 66 a1.toNatClampNeg) (m1 65 a2.toNatClampNeg) m1) (fun r5 m6 => f_X5_goThroughSets_104 n j F_X5_goThroughSets a1 a2 a3 a4 x2 x3 x4 r5 m6)))))))))))) else qg ((a1 * (256 : Int32)) + a3) 768 (qlm (mu M 67 ((a1 * (256 : Int32)) + a3).toNatClampNeg a4) (fun m7 => some (0, m7))))
set_option maxRecDepth 4000 in
theorem w_X5_goThroughSets {g : qG} {k : qK} (n : Nat) (j r : Nat) (hj : q_isLaw j) (hr : q_isLaw r) {d1 d : Nat} (hd1 : d1 + 1 ≤ d) (hdn : 5 ≤ d) (F_X5_goThroughSets : Int32 → Int32 → Int32 → Int32 → qM → qR) (hF_X5_goThroughSets : ∀ (b1 b2 b3 b4 : Int32) (M : qM), qAM g k.2.1 d1 zX5_goThroughSets (qL j r) [.inr (some 64), .inl b1, .inl b2, .inl b3, .inl b4] (qL j r, M) (F_X5_goThroughSets b1 b2 b3 b4 M)) (o : qOk g d zX5_goThroughSets k) (a1 a2 a3 a4 : Int32) (M : qM) : qAE g k zX5_goThroughSets (qL j r) 0 [some (.inr (some 64)), some (.inl a1), some (.inl a2), some (.inl a3), some (.inl a4), none, none, none, none] [] (qL j r, M) (fo_X5_goThroughSets n j F_X5_goThroughSets a1 a2 a3 a4 M) := by
  unfold fo_X5_goThroughSets
  refine qr_iload_n o (q_dm dm_X5_goThroughSets 0 rfl) rfl ?_
  refine qr_aload_n o (q_dm dm_X5_goThroughSets 1 rfl) rfl ?_
  refine qr_getf (kf := 9) o cf_X5 (sh64 j r) rfl (Nat.le_of_ble_eq_true rfl) fl_X5_49 (q_dm dm_X5_goThroughSets 2 rfl) ?_
  refine qr_icmp_lt (tgt := 23) o (q_dm dm_X5_goThroughSets 3 rfl) (by decide) ?_ ?_
  · refine qr_aload_n o (q_dm dm_X5_goThroughSets 14 rfl) rfl ?_
    refine qr_iload_n o (q_dm dm_X5_goThroughSets 15 rfl) rfl ?_
    refine qr_iload_n o (q_dm dm_X5_goThroughSets 16 rfl) rfl ?_
    refine qr_iconst o (q_dm dm_X5_goThroughSets 17 rfl) ic_1 ?_
    refine qr_iadd o (q_dm dm_X5_goThroughSets 18 rfl) ?_
    refine qr_iload_n o (q_dm dm_X5_goThroughSets 19 rfl) rfl ?_
    refine qr_iload o (q_dm dm_X5_goThroughSets 20 rfl) rfl ?_
    refine qr_callv_v (As := [.inl a1, .inl (a2 + (1 : Int32)), .inl a3, .inl a4]) (S := []) o (hF_X5_goThroughSets a1 (a2 + (1 : Int32)) a3 a4 M) (by omega) zv_X5_goThroughSets rfl cf_X5 (sh64 j r) ml_X5_86 (Nat.le_of_ble_eq_true rfl) (q_dm dm_X5_goThroughSets 21 rfl) (fun _ m1 => ?_)
    refine qr_aload_n o (q_dm dm_X5_goThroughSets 22 rfl) rfl ?_
    refine qr_getr (kf := 4) o cf_X5 (sh64 j r) rfl (Nat.le_of_ble_eq_true rfl) fl_X5_15 (q_dm dm_X5_goThroughSets 23 rfl) ?_
    refine qr_iload_n o (q_dm dm_X5_goThroughSets 24 rfl) rfl ?_
    refine qr_iald o (sh66 j r) (q_dm dm_X5_goThroughSets 25 rfl) ?_
    refine qr_bipush o (q_dm dm_X5_goThroughSets 26 rfl) bi_12 ?_
    refine qr_imul o (q_dm dm_X5_goThroughSets 27 rfl) ?_
    refine qr_aload_n o (q_dm dm_X5_goThroughSets 28 rfl) rfl ?_
    refine qr_getr (kf := 3) o cf_X5 (sh64 j r) rfl (Nat.le_of_ble_eq_true rfl) fl_X5_9 (q_dm dm_X5_goThroughSets 29 rfl) ?_
    refine qr_iload_n o (q_dm dm_X5_goThroughSets 30 rfl) rfl ?_
    refine qr_iald o (sh65 j r) (q_dm dm_X5_goThroughSets 31 rfl) ?_
    refine qr_iadd o (q_dm dm_X5_goThroughSets 32 rfl) ?_
    refine qr_lt (fun x2 => ?_)
    refine qs_istore (L' := [some (.inr (some 64)), some (.inl a1), some (.inl a2), some (.inl a3), some (.inl a4), some (.inl x2), none, none, none]) o (q_dm dm_X5_goThroughSets 33 rfl) (Nat.le_of_ble_eq_true rfl) rfl ?_
    refine qr_aload_n o (q_dm dm_X5_goThroughSets 34 rfl) rfl ?_
    refine qr_getr (kf := 8) o cf_X5 (sh64 j r) rfl (Nat.le_of_ble_eq_true rfl) fl_X5_39 (q_dm dm_X5_goThroughSets 35 rfl) ?_
    refine qr_getr (kf := 1) o cf_X10 (sh25 j r) rfl (Nat.le_of_ble_eq_true rfl) fl_X5_96 (q_dm dm_X5_goThroughSets 36 rfl) ?_
    refine qr_iload o (q_dm dm_X5_goThroughSets 37 rfl) rfl ?_
    refine qr_iald o (sh27 j r) (q_dm dm_X5_goThroughSets 38 rfl) ?_
    refine qr_lt (fun x3 => ?_)
    refine qs_istore (L' := [some (.inr (some 64)), some (.inl a1), some (.inl a2), some (.inl a3), some (.inl a4), some (.inl x2), some (.inl x3), none, none]) o (q_dm dm_X5_goThroughSets 39 rfl) (Nat.le_of_ble_eq_true rfl) rfl ?_
    refine qr_aload_n o (q_dm dm_X5_goThroughSets 40 rfl) rfl ?_
    refine qr_getr (kf := 8) o cf_X5 (sh64 j r) rfl (Nat.le_of_ble_eq_true rfl) fl_X5_39 (q_dm dm_X5_goThroughSets 41 rfl) ?_
    refine qr_getr (kf := 3) o cf_X10 (sh25 j r) rfl (Nat.le_of_ble_eq_true rfl) fl_X5_99 (q_dm dm_X5_goThroughSets 42 rfl) ?_
    refine qr_iload o (q_dm dm_X5_goThroughSets 43 rfl) rfl ?_
    refine qr_iald o (sh29 j r) (q_dm dm_X5_goThroughSets 44 rfl) ?_
    refine qr_lt (fun x4 => ?_)
    refine qs_istore (L' := [some (.inr (some 64)), some (.inl a1), some (.inl a2), some (.inl a3), some (.inl a4), some (.inl x2), some (.inl x3), some (.inl x4), none]) o (q_dm dm_X5_goThroughSets 45 rfl) (Nat.le_of_ble_eq_true rfl) rfl ?_
    refine qr_iload o (q_dm dm_X5_goThroughSets 46 rfl) rfl ?_
    refine qr_ldc o (q_dm dm_X5_goThroughSets 47 rfl) kc_X5_102 ?_
    refine qr_icmp_ge (tgt := 102) o (q_dm dm_X5_goThroughSets 48 rfl) (by decide) ?_ ?_
    · refine qr_ldc o (q_dm dm_X5_goThroughSets 60 rfl) kc_X5_102 ?_
      exact qr_loc (q_leS (q_leS (q_leS (q_leS (q_leS (q_leS (q_leS (q_leS (q_leN q_le0))))))))) (w_X5_goThroughSets_104 n j r hj hr hd1 hdn F_X5_goThroughSets hF_X5_goThroughSets o a1 a2 a3 a4 x2 x3 x4 (1048576 : Int32) m1)
    · refine qr_aload_n o (q_dm dm_X5_goThroughSets 49 rfl) rfl ?_
      refine qr_aload_n o (q_dm dm_X5_goThroughSets 50 rfl) rfl ?_
      refine qr_getr (kf := 4) o cf_X5 (sh64 j r) rfl (Nat.le_of_ble_eq_true rfl) fl_X5_15 (q_dm dm_X5_goThroughSets 51 rfl) ?_
      refine qr_iload_n o (q_dm dm_X5_goThroughSets 52 rfl) rfl ?_
      refine qr_iald o (sh66 j r) (q_dm dm_X5_goThroughSets 53 rfl) ?_
      refine qr_aload_n o (q_dm dm_X5_goThroughSets 54 rfl) rfl ?_
      refine qr_getr (kf := 3) o cf_X5 (sh64 j r) rfl (Nat.le_of_ble_eq_true rfl) fl_X5_9 (q_dm dm_X5_goThroughSets 55 rfl) ?_
      refine qr_iload_n o (q_dm dm_X5_goThroughSets 56 rfl) rfl ?_
      refine qr_iald o (sh65 j r) (q_dm dm_X5_goThroughSets 57 rfl) ?_
      refine qr_callv_i (As := [.inl (m1 66 a1.toNatClampNeg), .inl (m1 65 a2.toNatClampNeg)]) (S := []) o (a_X5_hoursFor g k.2.1 n j r hj hr (m1 66 a1.toNatClampNeg) (m1 65 a2.toNatClampNeg) m1) (by omega) zv_X5_hoursFor rfl cf_X5 (sh64 j r) ml_X5_103 (Nat.le_of_ble_eq_true rfl) (q_dm dm_X5_goThroughSets 58 rfl) (fun r5 m6 => ?_)
      refine qr_goto (tgt := 104) o (q_dm dm_X5_goThroughSets 59 rfl) (by decide) ?_
      exact qr_loc (q_leS (q_leS (q_leS (q_leS (q_leS (q_leS (q_leS (q_leS (q_leN q_le0))))))))) (w_X5_goThroughSets_104 n j r hj hr hd1 hdn F_X5_goThroughSets hF_X5_goThroughSets o a1 a2 a3 a4 x2 x3 x4 r5 m6)
  · refine qr_aload_n o (q_dm dm_X5_goThroughSets 4 rfl) rfl ?_
    refine qr_getr (kf := 5) o cf_X5 (sh64 j r) rfl (Nat.le_of_ble_eq_true rfl) fl_X5_18 (q_dm dm_X5_goThroughSets 5 rfl) ?_
    refine qr_iload_n o (q_dm dm_X5_goThroughSets 6 rfl) rfl ?_
    refine qr_sipush o (q_dm dm_X5_goThroughSets 7 rfl) si_256 ?_
    refine qr_imul o (q_dm dm_X5_goThroughSets 8 rfl) ?_
    refine qr_iload_n o (q_dm dm_X5_goThroughSets 9 rfl) rfl ?_
    refine qr_iadd o (q_dm dm_X5_goThroughSets 10 rfl) ?_
    refine qr_iload o (q_dm dm_X5_goThroughSets 11 rfl) rfl ?_
    refine qr_iast o (sh67 j r) (q_dm dm_X5_goThroughSets 12 rfl) ?_
    refine qr_letm (fun m7 => ?_)
    exact qr_vret o rfl (q_dm dm_X5_goThroughSets 13 rfl)

theorem ao_X5_goThroughSets (g : qG) (l : Launch) (n : Nat) (j r : Nat) (hj : q_isLaw j) (hr : q_isLaw r) {d1 d : Nat} (hd1 : d1 + 1 ≤ d) (hdn : 5 ≤ d) (F_X5_goThroughSets : Int32 → Int32 → Int32 → Int32 → qM → qR) (hF_X5_goThroughSets : ∀ (b1 b2 b3 b4 : Int32) (M : qM), qAM g l d1 zX5_goThroughSets (qL j r) [.inr (some 64), .inl b1, .inl b2, .inl b3, .inl b4] (qL j r, M) (F_X5_goThroughSets b1 b2 b3 b4 M)) (a1 a2 a3 a4 : Int32) (M : qM) : qAM g l d zX5_goThroughSets (qL j r) [.inr (some 64), .inl a1, .inl a2, .inl a3, .inl a4] (qL j r, M) (fo_X5_goThroughSets n j F_X5_goThroughSets a1 a2 a3 a4 M) :=
  qAM.of zv_X5_goThroughSets.1 (by show 5 ≤ 9; decide) (fun k hk o => by subst hk; exact w_X5_goThroughSets n j r hj hr hd1 hdn F_X5_goThroughSets hF_X5_goThroughSets o a1 a2 a3 a4 M)
def rc_X5_goThroughSets (n : Nat) (j : Nat) : Nat → Int32 → Int32 → Int32 → Int32 → qM → qR
  | 0, _, _, _, _, _ => none
  | m + 1, a1, a2, a3, a4, M => fo_X5_goThroughSets n j (rc_X5_goThroughSets n j m) a1 a2 a3 a4 M

theorem rc_X5_goThroughSets_ok (g : qG) (l : Launch) (n : Nat) (j r : Nat) (hj : q_isLaw j) (hr : q_isLaw r) : ∀ m : Nat, (∀ (a1 a2 a3 a4 : Int32) (M : qM), qAM g l (5 + m) zX5_goThroughSets (qL j r) [.inr (some 64), .inl a1, .inl a2, .inl a3, .inl a4] (qL j r, M) (rc_X5_goThroughSets n j m a1 a2 a3 a4 M)) := by
  intro m
  induction m with
  | zero => exact fun _ _ _ _ _ _ _ h => by cases h
  | succ m ih =>
    exact (fun a1 a2 a3 a4 M => ao_X5_goThroughSets g l n j r hj hr (d1 := 5 + m) (d := 5 + (m + 1)) (Nat.le_refl _) (Nat.le_add_right _ _) (rc_X5_goThroughSets n j m) ih a1 a2 a3 a4 M)

def f_X5_goThroughSets (n : Nat) (j : Nat) (a1 a2 a3 a4 : Int32) (M : qM) : qR := rc_X5_goThroughSets n j 12 a1 a2 a3 a4 M
theorem a_X5_goThroughSets (g : qG) (l : Launch) (n : Nat) (j r : Nat) (hj : q_isLaw j) (hr : q_isLaw r) (a1 a2 a3 a4 : Int32) (M : qM) : qAM g l 17 zX5_goThroughSets (qL j r) [.inr (some 64), .inl a1, .inl a2, .inl a3, .inl a4] (qL j r, M) (f_X5_goThroughSets n j a1 a2 a3 a4 M) := (rc_X5_goThroughSets_ok g l n j r hj hr 12) a1 a2 a3 a4 M
def tb_X5_solve : List (Nat × Instr × Nat) := [(0, (.aload_n 0, 1)), (1, (.getfield 39, 3)), (4, (.aload_n 1, 1)), (5, (.invokevirtual 73, 3)), (8, (.iconst 0, 1)), (9, (.istore_n 2, 1)), (10, (.iload_n 2, 1)), (11, (.aload_n 0, 1)), (12, (.getfield 49, 3)), (15, (.if_icmp .ge 37, 3)), (18, (.aload_n 0, 1)), (19, (.getfield 21, 3)), (22, (.aload_n 0, 1)), (23, (.getfield 9, 3)), (26, (.iload_n 2, 1)), (27, (.iaload, 1)), (28, (.aload_n 0, 1)), (29, (.getfield 31, 3)), (32, (.aload_n 0, 1)), (33, (.getfield 9, 3)), (36, (.iload_n 2, 1)), (37, (.iaload, 1)), (38, (.aload_n 1, 1)), (39, (.getfield 79, 3)), (42, (.invokevirtual 82, 3)), (45, (.iastore, 1)), (46, (.iinc 2 1, 3)), (49, (.goto (-39), 3)), (52, (.iconst 0, 1)), (53, (.istore_n 2, 1)), (54, (.iload_n 2, 1)), (55, (.aload_n 0, 1)), (56, (.getfield 65, 3)), (59, (.if_icmp .ge 17, 3)), (62, (.aload_n 0, 1)), (63, (.iload_n 2, 1)), (64, (.iconst 0, 1)), (65, (.iconst 0, 1)), (66, (.iconst 0, 1)), (67, (.invokevirtual 86, 3)), (70, (.iinc 2 1, 3)), (73, (.goto (-19), 3)), (76, (.aload_n 0, 1)), (77, (.invokevirtual 90, 3)), (80, (.return_, 1))]
theorem dm_X5_solve : ∀ q ∈ tb_X5_solve, decode zX5_solve.2.1 q.1 = .ok q.2 := by decide +kernel
def b_X5_solve_54 (n : Nat) (t j : Nat) (K54 : Int32 → qM → qR) (a2 : Int32) (M : qM) : qR :=
  (if (M 64 10) ≤ a2 then qc (f_X5_findBestRow n  M) (fun _ m1 => some (0, m1)) else qc (f_X5_goThroughSets n j a2 (0 : Int32) (0 : Int32) (0 : Int32) M) (fun _ m2 => ql (a2 + (1 : Int32)) (fun x3 => K54 x3 m2)))
set_option maxRecDepth 4000 in
theorem wb_X5_solve_54 {g : qG} {k : qK} (n : Nat) (j r : Nat) (hj : q_isLaw j) (hr : q_isLaw r) {t : Nat} (ht : q_isTown t) (o : qOk g 18 zX5_solve k) (K54 : Int32 → qM → qR) (hK54 : ∀ (a2 : Int32) (M : qM), qAE g k zX5_solve (qL j r) 54 [some (.inr (some 64)), none, some (.inl a2)] [] (qL j r, M) (K54 a2 M)) (a2 : Int32) (M : qM) : qAE g k zX5_solve (qL j r) 54 [some (.inr (some 64)), none, some (.inl a2)] [] (qL j r, M) (b_X5_solve_54 n t j K54 a2 M) := by
  unfold b_X5_solve_54
  refine qr_iload_n o (q_dm dm_X5_solve 30 rfl) rfl ?_
  refine qr_aload_n o (q_dm dm_X5_solve 31 rfl) rfl ?_
  refine qr_getf (kf := 10) o cf_X5 (sh64 j r) rfl (Nat.le_of_ble_eq_true rfl) fl_X5_65 (q_dm dm_X5_solve 32 rfl) ?_
  refine qr_icmp_ge (tgt := 76) o (q_dm dm_X5_solve 33 rfl) (by decide) ?_ ?_
  · refine qr_aload_n o (q_dm dm_X5_solve 42 rfl) rfl ?_
    refine qr_callv_v (As := []) (S := []) o (a_X5_findBestRow g k.2.1 n j r hj hr  M) (Nat.le_of_ble_eq_true rfl) zv_X5_findBestRow rfl cf_X5 (sh64 j r) ml_X5_90 (Nat.le_of_ble_eq_true rfl) (q_dm dm_X5_solve 43 rfl) (fun _ m1 => ?_)
    exact qr_vret o rfl (q_dm dm_X5_solve 44 rfl)
  · refine qr_aload_n o (q_dm dm_X5_solve 34 rfl) rfl ?_
    refine qr_iload_n o (q_dm dm_X5_solve 35 rfl) rfl ?_
    refine qr_iconst o (q_dm dm_X5_solve 36 rfl) ic_0 ?_
    refine qr_iconst o (q_dm dm_X5_solve 37 rfl) ic_0 ?_
    refine qr_iconst o (q_dm dm_X5_solve 38 rfl) ic_0 ?_
    refine qr_callv_v (As := [.inl a2, .inl (0 : Int32), .inl (0 : Int32), .inl (0 : Int32)]) (S := []) o (a_X5_goThroughSets g k.2.1 n j r hj hr a2 (0 : Int32) (0 : Int32) (0 : Int32) M) (Nat.le_of_ble_eq_true rfl) zv_X5_goThroughSets rfl cf_X5 (sh64 j r) ml_X5_86 (Nat.le_of_ble_eq_true rfl) (q_dm dm_X5_solve 39 rfl) (fun _ m2 => ?_)
    refine qs_iincl2 (L' := fun x3 => [some (.inr (some 64)), none, some (.inl x3)]) o (q_dm dm_X5_solve 40 rfl) rfl ic_1 (Nat.le_of_ble_eq_true rfl) (fun _ => rfl) (fun x3 => ?_)
    refine qr_goto (tgt := 54) o (q_dm dm_X5_solve 41 rfl) (by decide) ?_
    exact qr_loc (q_leS (q_leN (q_leS q_le0))) (hK54 x3 m2)

def f_X5_solve_54 (n : Nat) (t j : Nat) : Nat → Int32 → qM → qR
  | 0, _, _ => none
  | m + 1, a2, M => b_X5_solve_54 n t j (f_X5_solve_54 n t j m) a2 M
theorem w_X5_solve_54 {g : qG} {k : qK} (n : Nat) (j r : Nat) (hj : q_isLaw j) (hr : q_isLaw r) {t : Nat} (ht : q_isTown t) (o : qOk g 18 zX5_solve k) : ∀ (m : Nat) (a2 : Int32) (M : qM), qAE g k zX5_solve (qL j r) 54 [some (.inr (some 64)), none, some (.inl a2)] [] (qL j r, M) (f_X5_solve_54 n t j m a2 M) := by
  intro m
  induction m with
  | zero =>
    intro a2 M
    exact qr_none
  | succ m ih =>
    intro a2 M
    exact wb_X5_solve_54 n j r hj hr ht o (f_X5_solve_54 n t j m) ih a2 M
def b_X5_solve_10 (n : Nat) (t j : Nat) (K10 : Int32 → qM → qR) (a2 : Int32) (M : qM) : qR :=
  (if (M 64 9) ≤ a2 then f_X5_solve_54 n t j n (0 : Int32) M else qg a2 8 (qg a2 8 (qc (f_X1_alikes n j (M 65 a2.toNatClampNeg) (M t 9) M) (fun r1 m2 => qg (M 65 a2.toNatClampNeg) 12 (qlm (mu m2 68 (M 65 a2.toNatClampNeg).toNatClampNeg r1) (fun m3 => ql (a2 + (1 : Int32)) (fun x4 => K10 x4 m3)))))))
set_option maxRecDepth 4000 in
theorem wb_X5_solve_10 {g : qG} {k : qK} (n : Nat) (j r : Nat) (hj : q_isLaw j) (hr : q_isLaw r) {t : Nat} (ht : q_isTown t) (o : qOk g 18 zX5_solve k) (K10 : Int32 → qM → qR) (hK10 : ∀ (a2 : Int32) (M : qM), qAE g k zX5_solve (qL j r) 10 [some (.inr (some 64)), some (.inr (some t)), some (.inl a2)] [] (qL j r, M) (K10 a2 M)) (a2 : Int32) (M : qM) : qAE g k zX5_solve (qL j r) 10 [some (.inr (some 64)), some (.inr (some t)), some (.inl a2)] [] (qL j r, M) (b_X5_solve_10 n t j K10 a2 M) := by
  unfold b_X5_solve_10
  refine qr_iload_n o (q_dm dm_X5_solve 6 rfl) rfl ?_
  refine qr_aload_n o (q_dm dm_X5_solve 7 rfl) rfl ?_
  refine qr_getf (kf := 9) o cf_X5 (sh64 j r) rfl (Nat.le_of_ble_eq_true rfl) fl_X5_49 (q_dm dm_X5_solve 8 rfl) ?_
  refine qr_icmp_ge (tgt := 52) o (q_dm dm_X5_solve 9 rfl) (by decide) ?_ ?_
  · refine qr_iconst o (q_dm dm_X5_solve 28 rfl) ic_0 ?_
    refine qs_istore_n (L' := [some (.inr (some 64)), some (.inr (some t)), some (.inl (0 : Int32))]) o (q_dm dm_X5_solve 29 rfl) (Nat.le_of_ble_eq_true rfl) rfl ?_
    exact qr_loc (q_leS (q_leN (q_leS q_le0))) (w_X5_solve_54 n j r hj hr ht o n (0 : Int32) M)
  · refine qr_aload_n o (q_dm dm_X5_solve 10 rfl) rfl ?_
    refine qr_getr (kf := 6) o cf_X5 (sh64 j r) rfl (Nat.le_of_ble_eq_true rfl) fl_X5_21 (q_dm dm_X5_solve 11 rfl) ?_
    refine qr_aload_n o (q_dm dm_X5_solve 12 rfl) rfl ?_
    refine qr_getr (kf := 3) o cf_X5 (sh64 j r) rfl (Nat.le_of_ble_eq_true rfl) fl_X5_9 (q_dm dm_X5_solve 13 rfl) ?_
    refine qr_iload_n o (q_dm dm_X5_solve 14 rfl) rfl ?_
    refine qr_iald o (sh65 j r) (q_dm dm_X5_solve 15 rfl) ?_
    refine qr_aload_n o (q_dm dm_X5_solve 16 rfl) rfl ?_
    refine qr_getr (kf := 1) o cf_X5 (sh64 j r) rfl (Nat.le_of_ble_eq_true rfl) fl_X5_31 (q_dm dm_X5_solve 17 rfl) ?_
    refine qr_aload_n o (q_dm dm_X5_solve 18 rfl) rfl ?_
    refine qr_getr (kf := 3) o cf_X5 (sh64 j r) rfl (Nat.le_of_ble_eq_true rfl) fl_X5_9 (q_dm dm_X5_solve 19 rfl) ?_
    refine qr_iload_n o (q_dm dm_X5_solve 20 rfl) rfl ?_
    refine qr_iald o (sh65 j r) (q_dm dm_X5_solve 21 rfl) ?_
    refine qr_aload_n o (q_dm dm_X5_solve 22 rfl) rfl ?_
    refine qr_getf (kf := 9) o cf_X10 (shT0 j r ht) rfl (Nat.le_of_ble_eq_true rfl) fl_X5_79 (q_dm dm_X5_solve 23 rfl) ?_
    refine qr_callv_i (As := [.inl (M 65 a2.toNatClampNeg), .inl (M t 9)]) (S := [.inl (M 65 a2.toNatClampNeg), .inr (some 68)]) o (a_X1_alikes g k.2.1 n j r hj hr (M 65 a2.toNatClampNeg) (M t 9) M) (Nat.le_of_ble_eq_true rfl) zv_X1_alikes rfl cf_X1 (sh34 j r) ml_X5_82 (Nat.le_of_ble_eq_true rfl) (q_dm dm_X5_solve 24 rfl) (fun r1 m2 => ?_)
    refine qr_iast o (sh68 j r) (q_dm dm_X5_solve 25 rfl) ?_
    refine qr_letm (fun m3 => ?_)
    refine qs_iincl2 (L' := fun x4 => [some (.inr (some 64)), some (.inr (some t)), some (.inl x4)]) o (q_dm dm_X5_solve 26 rfl) rfl ic_1 (Nat.le_of_ble_eq_true rfl) (fun _ => rfl) (fun x4 => ?_)
    refine qr_goto (tgt := 10) o (q_dm dm_X5_solve 27 rfl) (by decide) ?_
    exact qr_loc (q_leS (q_leS (q_leS q_le0))) (hK10 x4 m3)

def f_X5_solve_10 (n : Nat) (t j : Nat) : Nat → Int32 → qM → qR
  | 0, _, _ => none
  | m + 1, a2, M => b_X5_solve_10 n t j (f_X5_solve_10 n t j m) a2 M
theorem w_X5_solve_10 {g : qG} {k : qK} (n : Nat) (j r : Nat) (hj : q_isLaw j) (hr : q_isLaw r) {t : Nat} (ht : q_isTown t) (o : qOk g 18 zX5_solve k) : ∀ (m : Nat) (a2 : Int32) (M : qM), qAE g k zX5_solve (qL j r) 10 [some (.inr (some 64)), some (.inr (some t)), some (.inl a2)] [] (qL j r, M) (f_X5_solve_10 n t j m a2 M) := by
  intro m
  induction m with
  | zero =>
    intro a2 M
    exact qr_none
  | succ m ih =>
    intro a2 M
    exact wb_X5_solve_10 n j r hj hr ht o (f_X5_solve_10 n t j m) ih a2 M
def f_X5_solve (n : Nat) (t j : Nat) (M : qM) : qR :=
  qc (f_X10_copy n 25 t M) (fun _ m1 => f_X5_solve_10 n t j n (0 : Int32) m1)
set_option maxRecDepth 4000 in
theorem w_X5_solve {g : qG} {k : qK} (n : Nat) (j r : Nat) (hj : q_isLaw j) (hr : q_isLaw r) {t : Nat} (ht : q_isTown t) (o : qOk g 18 zX5_solve k) (M : qM) : qAE g k zX5_solve (qL j r) 0 [some (.inr (some 64)), some (.inr (some t)), none] [] (qL j r, M) (f_X5_solve n t j  M) := by
  unfold f_X5_solve
  refine qr_aload_n o (q_dm dm_X5_solve 0 rfl) rfl ?_
  refine qr_getr (kf := 8) o cf_X5 (sh64 j r) rfl (Nat.le_of_ble_eq_true rfl) fl_X5_39 (q_dm dm_X5_solve 1 rfl) ?_
  refine qr_aload_n o (q_dm dm_X5_solve 2 rfl) rfl ?_
  refine qr_callv_v (As := [.inr (some t)]) (S := []) o (a_X10_copy g k.2.1 n j r hj hr (Or.inr (Or.inr rfl)) ht M) (Nat.le_of_ble_eq_true rfl) zv_X10_copy rfl cf_X10 (sh25 j r) ml_X5_73 (Nat.le_of_ble_eq_true rfl) (q_dm dm_X5_solve 3 rfl) (fun _ m1 => ?_)
  refine qr_iconst o (q_dm dm_X5_solve 4 rfl) ic_0 ?_
  refine qs_istore_n (L' := [some (.inr (some 64)), some (.inr (some t)), some (.inl (0 : Int32))]) o (q_dm dm_X5_solve 5 rfl) (Nat.le_of_ble_eq_true rfl) rfl ?_
  exact qr_loc (q_leS (q_leS (q_leS q_le0))) (w_X5_solve_10 n j r hj hr ht o n (0 : Int32) m1)

theorem a_X5_solve (g : qG) (l : Launch) (n : Nat) (j r : Nat) (hj : q_isLaw j) (hr : q_isLaw r) {t : Nat} (ht : q_isTown t) (M : qM) : qAM g l 18 zX5_solve (qL j r) [.inr (some 64), .inr (some t)] (qL j r, M) (f_X5_solve n t j  M) :=
  qAM.of zv_X5_solve.1 (by show 2 ≤ 3; decide) (fun k hk o => w_X5_solve n j r hj hr ht o  M)
def tb_X5_takeWorkers : List (Nat × Instr × Nat) := [(0, (.aload_n 0, 1)), (1, (.iconst 0, 1)), (2, (.putfield 65, 3)), (5, (.iload_n 1, 1)), (6, (.ifCond .eq 11, 3)), (9, (.iload_n 1, 1)), (10, (.invokestatic 68, 3)), (13, (.iconst 3, 1)), (14, (.if_icmp .le 5, 3)), (17, (.iconst 0, 1)), (18, (.ireturn, 1)), (19, (.iconst 0, 1)), (20, (.istore_n 2, 1)), (21, (.iload_n 2, 1)), (22, (.bipush 8, 2)), (24, (.if_icmp .ge 46, 3)), (27, (.aload_n 0, 1)), (28, (.getfield 65, 3)), (31, (.iconst 3, 1)), (32, (.if_icmp .ge 38, 3)), (35, (.iload_n 1, 1)), (36, (.iload_n 2, 1)), (37, (.ishr, 1)), (38, (.iconst 1, 1)), (39, (.iand, 1)), (40, (.iconst 1, 1)), (41, (.if_icmp .ne 23, 3)), (44, (.aload_n 0, 1)), (45, (.getfield 15, 3)), (48, (.aload_n 0, 1)), (49, (.getfield 65, 3)), (52, (.iload_n 2, 1)), (53, (.iastore, 1)), (54, (.aload_n 0, 1)), (55, (.dup, 1)), (56, (.getfield 65, 3)), (59, (.iconst 1, 1)), (60, (.iadd, 1)), (61, (.putfield 65, 3)), (64, (.iinc 2 1, 3)), (67, (.goto (-46), 3)), (70, (.aload_n 0, 1)), (71, (.getfield 65, 3)), (74, (.ifCond .le 7, 3)), (77, (.iconst 1, 1)), (78, (.goto 4, 3)), (81, (.iconst 0, 1)), (82, (.ireturn, 1))]
theorem dm_X5_takeWorkers : ∀ q ∈ tb_X5_takeWorkers, decode zX5_takeWorkers.2.1 q.1 = .ok q.2 := by decide +kernel
def f_X5_takeWorkers_70 (n : Nat) (M : qM) : qR :=
  (if (M 64 10) ≤ (0 : Int32) then some ((0 : Int32), M) else some ((1 : Int32), M))
set_option maxRecDepth 4000 in
theorem w_X5_takeWorkers_70 {g : qG} {k : qK} (n : Nat) (j r : Nat) (hj : q_isLaw j) (hr : q_isLaw r) (o : qOk g 1 zX5_takeWorkers k) (M : qM) : qAE g k zX5_takeWorkers (qL j r) 70 [some (.inr (some 64)), none, none] [] (qL j r, M) (f_X5_takeWorkers_70 n  M) := by
  unfold f_X5_takeWorkers_70
  refine qr_aload_n o (q_dm dm_X5_takeWorkers 41 rfl) rfl ?_
  refine qr_getf (kf := 10) o cf_X5 (sh64 j r) rfl (Nat.le_of_ble_eq_true rfl) fl_X5_65 (q_dm dm_X5_takeWorkers 42 rfl) ?_
  refine qr_if_le (tgt := 81) o (q_dm dm_X5_takeWorkers 43 rfl) (by decide) ?_ ?_
  · refine qr_iconst o (q_dm dm_X5_takeWorkers 46 rfl) ic_0 ?_
    exact qr_iret o rfl (by decide) (q_dm dm_X5_takeWorkers 47 rfl)
  · refine qr_iconst o (q_dm dm_X5_takeWorkers 44 rfl) ic_1 ?_
    refine qr_goto (tgt := 82) o (q_dm dm_X5_takeWorkers 45 rfl) (by decide) ?_
    exact qr_iret o rfl (by decide) (q_dm dm_X5_takeWorkers 47 rfl)

def b_X5_takeWorkers_21 (n : Nat) (K21 : Int32 → Int32 → qM → qR) (a1 a2 : Int32) (M : qM) : qR :=
  (if (8 : Int32) ≤ a2 then f_X5_takeWorkers_70 n  M else (if (3 : Int32) ≤ (M 64 10) then f_X5_takeWorkers_70 n  M else (if ((a1 >>> (a2 &&& 31)) &&& (1 : Int32)) = (1 : Int32) then qg (M 64 10) 3 (qlm (mu M 66 (M 64 10).toNatClampNeg a2) (fun m2 => qlm (mu m2 64 10 ((m2 64 10) + (1 : Int32))) (fun m3 => ql (a2 + (1 : Int32)) (fun x4 => K21 a1 x4 m3)))) else ql (a2 + (1 : Int32)) (fun x1 => K21 a1 x1 M))))
set_option maxRecDepth 4000 in
theorem wb_X5_takeWorkers_21 {g : qG} {k : qK} (n : Nat) (j r : Nat) (hj : q_isLaw j) (hr : q_isLaw r) (o : qOk g 1 zX5_takeWorkers k) (K21 : Int32 → Int32 → qM → qR) (hK21 : ∀ (a1 a2 : Int32) (M : qM), qAE g k zX5_takeWorkers (qL j r) 21 [some (.inr (some 64)), some (.inl a1), some (.inl a2)] [] (qL j r, M) (K21 a1 a2 M)) (a1 a2 : Int32) (M : qM) : qAE g k zX5_takeWorkers (qL j r) 21 [some (.inr (some 64)), some (.inl a1), some (.inl a2)] [] (qL j r, M) (b_X5_takeWorkers_21 n K21 a1 a2 M) := by
  unfold b_X5_takeWorkers_21
  refine qr_iload_n o (q_dm dm_X5_takeWorkers 13 rfl) rfl ?_
  refine qr_bipush o (q_dm dm_X5_takeWorkers 14 rfl) bi_8 ?_
  refine qr_icmp_ge (tgt := 70) o (q_dm dm_X5_takeWorkers 15 rfl) (by decide) ?_ ?_
  · exact qr_loc (q_leS (q_leN (q_leN q_le0))) (w_X5_takeWorkers_70 n j r hj hr o  M)
  · refine qr_aload_n o (q_dm dm_X5_takeWorkers 16 rfl) rfl ?_
    refine qr_getf (kf := 10) o cf_X5 (sh64 j r) rfl (Nat.le_of_ble_eq_true rfl) fl_X5_65 (q_dm dm_X5_takeWorkers 17 rfl) ?_
    refine qr_iconst o (q_dm dm_X5_takeWorkers 18 rfl) ic_3 ?_
    refine qr_icmp_ge (tgt := 70) o (q_dm dm_X5_takeWorkers 19 rfl) (by decide) ?_ ?_
    · exact qr_loc (q_leS (q_leN (q_leN q_le0))) (w_X5_takeWorkers_70 n j r hj hr o  M)
    · refine qr_iload_n o (q_dm dm_X5_takeWorkers 20 rfl) rfl ?_
      refine qr_iload_n o (q_dm dm_X5_takeWorkers 21 rfl) rfl ?_
      refine qr_ishr o (q_dm dm_X5_takeWorkers 22 rfl) ?_
      refine qr_iconst o (q_dm dm_X5_takeWorkers 23 rfl) ic_1 ?_
      refine qr_iand o (q_dm dm_X5_takeWorkers 24 rfl) ?_
      refine qr_iconst o (q_dm dm_X5_takeWorkers 25 rfl) ic_1 ?_
      refine qr_icmp_ne (tgt := 64) o (q_dm dm_X5_takeWorkers 26 rfl) (by decide) ?_ ?_
      · refine qs_iincl2 (L' := fun x1 => [some (.inr (some 64)), some (.inl a1), some (.inl x1)]) o (q_dm dm_X5_takeWorkers 39 rfl) rfl ic_1 (Nat.le_of_ble_eq_true rfl) (fun _ => rfl) (fun x1 => ?_)
        refine qr_goto (tgt := 21) o (q_dm dm_X5_takeWorkers 40 rfl) (by decide) ?_
        exact qr_loc (q_leS (q_leS (q_leS q_le0))) (hK21 a1 x1 M)
      · refine qr_aload_n o (q_dm dm_X5_takeWorkers 27 rfl) rfl ?_
        refine qr_getr (kf := 4) o cf_X5 (sh64 j r) rfl (Nat.le_of_ble_eq_true rfl) fl_X5_15 (q_dm dm_X5_takeWorkers 28 rfl) ?_
        refine qr_aload_n o (q_dm dm_X5_takeWorkers 29 rfl) rfl ?_
        refine qr_getf (kf := 10) o cf_X5 (sh64 j r) rfl (Nat.le_of_ble_eq_true rfl) fl_X5_65 (q_dm dm_X5_takeWorkers 30 rfl) ?_
        refine qr_iload_n o (q_dm dm_X5_takeWorkers 31 rfl) rfl ?_
        refine qr_iast o (sh66 j r) (q_dm dm_X5_takeWorkers 32 rfl) ?_
        refine qr_letm (fun m2 => ?_)
        refine qr_aload_n o (q_dm dm_X5_takeWorkers 33 rfl) rfl ?_
        refine qr_dup o (q_dm dm_X5_takeWorkers 34 rfl) ?_
        refine qr_getf (kf := 10) o cf_X5 (sh64 j r) rfl (Nat.le_of_ble_eq_true rfl) fl_X5_65 (q_dm dm_X5_takeWorkers 35 rfl) ?_
        refine qr_iconst o (q_dm dm_X5_takeWorkers 36 rfl) ic_1 ?_
        refine qr_iadd o (q_dm dm_X5_takeWorkers 37 rfl) ?_
        refine qr_putf (kf := 10) o cf_X5 (sh64 j r) rfl (Nat.le_of_ble_eq_true rfl) fl_X5_65 rfl (by decide +kernel) (q_dm dm_X5_takeWorkers 38 rfl) ?_
        refine qr_letm (fun m3 => ?_)
        refine qs_iincl2 (L' := fun x4 => [some (.inr (some 64)), some (.inl a1), some (.inl x4)]) o (q_dm dm_X5_takeWorkers 39 rfl) rfl ic_1 (Nat.le_of_ble_eq_true rfl) (fun _ => rfl) (fun x4 => ?_)
        refine qr_goto (tgt := 21) o (q_dm dm_X5_takeWorkers 40 rfl) (by decide) ?_
        exact qr_loc (q_leS (q_leS (q_leS q_le0))) (hK21 a1 x4 m3)

def f_X5_takeWorkers_21 (n : Nat) : Nat → Int32 → Int32 → qM → qR
  | 0, _, _, _ => none
  | m + 1, a1, a2, M => b_X5_takeWorkers_21 n (f_X5_takeWorkers_21 n m) a1 a2 M
theorem w_X5_takeWorkers_21 {g : qG} {k : qK} (n : Nat) (j r : Nat) (hj : q_isLaw j) (hr : q_isLaw r) (o : qOk g 1 zX5_takeWorkers k) : ∀ (m : Nat) (a1 a2 : Int32) (M : qM), qAE g k zX5_takeWorkers (qL j r) 21 [some (.inr (some 64)), some (.inl a1), some (.inl a2)] [] (qL j r, M) (f_X5_takeWorkers_21 n m a1 a2 M) := by
  intro m
  induction m with
  | zero =>
    intro a1 a2 M
    exact qr_none
  | succ m ih =>
    intro a1 a2 M
    exact wb_X5_takeWorkers_21 n j r hj hr o (f_X5_takeWorkers_21 n m) ih a1 a2 M
def f_X5_takeWorkers (n : Nat) (a1 : Int32) (M : qM) : qR :=
  qlm (mu M 64 10 (0 : Int32)) (fun m1 => (if a1 = (0 : Int32) then some ((0 : Int32), m1) else qc (f_J6_bitCount_0f7a4 n a1 m1) (fun r2 m3 => (if r2 ≤ (3 : Int32) then f_X5_takeWorkers_21 n n a1 (0 : Int32) m3 else some ((0 : Int32), m3)))))
set_option maxRecDepth 4000 in
theorem w_X5_takeWorkers {g : qG} {k : qK} (n : Nat) (j r : Nat) (hj : q_isLaw j) (hr : q_isLaw r) (o : qOk g 1 zX5_takeWorkers k) (a1 : Int32) (M : qM) : qAE g k zX5_takeWorkers (qL j r) 0 [some (.inr (some 64)), some (.inl a1), none] [] (qL j r, M) (f_X5_takeWorkers n a1 M) := by
  unfold f_X5_takeWorkers
  refine qr_aload_n o (q_dm dm_X5_takeWorkers 0 rfl) rfl ?_
  refine qr_iconst o (q_dm dm_X5_takeWorkers 1 rfl) ic_0 ?_
  refine qr_putf (kf := 10) o cf_X5 (sh64 j r) rfl (Nat.le_of_ble_eq_true rfl) fl_X5_65 rfl (by decide +kernel) (q_dm dm_X5_takeWorkers 2 rfl) ?_
  refine qr_letm (fun m1 => ?_)
  refine qr_iload_n o (q_dm dm_X5_takeWorkers 3 rfl) rfl ?_
  refine qr_if_eq (tgt := 17) o (q_dm dm_X5_takeWorkers 4 rfl) (by decide) ?_ ?_
  · refine qr_iconst o (q_dm dm_X5_takeWorkers 9 rfl) ic_0 ?_
    exact qr_iret o rfl (by decide) (q_dm dm_X5_takeWorkers 10 rfl)
  · refine qr_iload_n o (q_dm dm_X5_takeWorkers 5 rfl) rfl ?_
    refine qr_calls_i (As := [.inl a1]) (S := []) o (a_J6_bitCount_0f7a4 g k.2.1 n j r hj hr a1 m1) (Nat.le_of_ble_eq_true rfl) zs_J6_bitCount_0f7a4 rfl ml_X5_68 (Nat.le_of_ble_eq_true rfl) (q_dm dm_X5_takeWorkers 6 rfl) (fun r2 m3 => ?_)
    refine qr_iconst o (q_dm dm_X5_takeWorkers 7 rfl) ic_3 ?_
    refine qr_icmp_le (tgt := 19) o (q_dm dm_X5_takeWorkers 8 rfl) (by decide) ?_ ?_
    · refine qr_iconst o (q_dm dm_X5_takeWorkers 11 rfl) ic_0 ?_
      refine qs_istore_n (L' := [some (.inr (some 64)), some (.inl a1), some (.inl (0 : Int32))]) o (q_dm dm_X5_takeWorkers 12 rfl) (Nat.le_of_ble_eq_true rfl) rfl ?_
      exact qr_loc (q_leS (q_leS (q_leS q_le0))) (w_X5_takeWorkers_21 n j r hj hr o n a1 (0 : Int32) m3)
    · refine qr_iconst o (q_dm dm_X5_takeWorkers 9 rfl) ic_0 ?_
      exact qr_iret o rfl (by decide) (q_dm dm_X5_takeWorkers 10 rfl)

theorem a_X5_takeWorkers (g : qG) (l : Launch) (n : Nat) (j r : Nat) (hj : q_isLaw j) (hr : q_isLaw r) (a1 : Int32) (M : qM) : qAM g l 1 zX5_takeWorkers (qL j r) [.inr (some 64), .inl a1] (qL j r, M) (f_X5_takeWorkers n a1 M) :=
  qAM.of zv_X5_takeWorkers.1 (by show 2 ≤ 3; decide) (fun k hk o => w_X5_takeWorkers n j r hj hr o a1 M)
def tb_X5_workerOf : List (Nat × Instr × Nat) := [(0, (.aload_n 0, 1)), (1, (.getfield 93, 3)), (4, (.istore_n 2, 1)), (5, (.aload_n 0, 1)), (6, (.getfield 49, 3)), (9, (.iconst 1, 1)), (10, (.isub, 1)), (11, (.istore_n 3, 1)), (12, (.iload_n 3, 1)), (13, (.iload_n 1, 1)), (14, (.if_icmp .le 23, 3)), (17, (.aload_n 0, 1)), (18, (.getfield 65, 3)), (21, (.ifCond .le 16, 3)), (24, (.iload_n 2, 1)), (25, (.aload_n 0, 1)), (26, (.getfield 65, 3)), (29, (.idiv, 1)), (30, (.istore_n 2, 1)), (31, (.iinc 3 (-1), 3)), (34, (.goto (-22), 3)), (37, (.aload_n 0, 1)), (38, (.getfield 65, 3)), (41, (.ifCond .le 17, 3)), (44, (.aload_n 0, 1)), (45, (.getfield 15, 3)), (48, (.iload_n 2, 1)), (49, (.aload_n 0, 1)), (50, (.getfield 65, 3)), (53, (.irem, 1)), (54, (.iaload, 1)), (55, (.goto 4, 3)), (58, (.iconst (-1), 1)), (59, (.ireturn, 1))]
theorem dm_X5_workerOf : ∀ q ∈ tb_X5_workerOf, decode zX5_workerOf.2.1 q.1 = .ok q.2 := by decide +kernel
def f_X5_workerOf_37 (n : Nat) (a2 : Int32) (M : qM) : qR :=
  (if (M 64 10) ≤ (0 : Int32) then some ((-1 : Int32), M) else qd (M 64 10) (qg (a2 - a2 / (M 64 10) * (M 64 10)) 3 (some ((M 66 (a2 - a2 / (M 64 10) * (M 64 10)).toNatClampNeg), M))))
set_option maxRecDepth 4000 in
theorem w_X5_workerOf_37 {g : qG} {k : qK} (n : Nat) (j r : Nat) (hj : q_isLaw j) (hr : q_isLaw r) (o : qOk g 0 zX5_workerOf k) (a2 : Int32) (M : qM) : qAE g k zX5_workerOf (qL j r) 37 [some (.inr (some 64)), none, some (.inl a2), none] [] (qL j r, M) (f_X5_workerOf_37 n a2 M) := by
  unfold f_X5_workerOf_37
  refine qr_aload_n o (q_dm dm_X5_workerOf 21 rfl) rfl ?_
  refine qr_getf (kf := 10) o cf_X5 (sh64 j r) rfl (Nat.le_of_ble_eq_true rfl) fl_X5_65 (q_dm dm_X5_workerOf 22 rfl) ?_
  refine qr_if_le (tgt := 58) o (q_dm dm_X5_workerOf 23 rfl) (by decide) ?_ ?_
  · refine qr_iconst o (q_dm dm_X5_workerOf 32 rfl) ic_m1 ?_
    exact qr_iret o rfl rfl (q_dm dm_X5_workerOf 33 rfl)
  · refine qr_aload_n o (q_dm dm_X5_workerOf 24 rfl) rfl ?_
    refine qr_getr (kf := 4) o cf_X5 (sh64 j r) rfl (Nat.le_of_ble_eq_true rfl) fl_X5_15 (q_dm dm_X5_workerOf 25 rfl) ?_
    refine qr_iload_n o (q_dm dm_X5_workerOf 26 rfl) rfl ?_
    refine qr_aload_n o (q_dm dm_X5_workerOf 27 rfl) rfl ?_
    refine qr_getf (kf := 10) o cf_X5 (sh64 j r) rfl (Nat.le_of_ble_eq_true rfl) fl_X5_65 (q_dm dm_X5_workerOf 28 rfl) ?_
    refine qr_irem o (q_dm dm_X5_workerOf 29 rfl) ?_
    refine qr_iald o (sh66 j r) (q_dm dm_X5_workerOf 30 rfl) ?_
    refine qr_goto (tgt := 59) o (q_dm dm_X5_workerOf 31 rfl) (by decide) ?_
    exact qr_iret o rfl rfl (q_dm dm_X5_workerOf 33 rfl)

def b_X5_workerOf_12 (n : Nat) (K12 : Int32 → Int32 → Int32 → qM → qR) (a1 a2 a3 : Int32) (M : qM) : qR :=
  (if a3 ≤ a1 then f_X5_workerOf_37 n a2 M else (if (M 64 10) ≤ (0 : Int32) then f_X5_workerOf_37 n a2 M else qd (M 64 10) (ql (a2 / (M 64 10)) (fun x1 => ql (a3 + (-1 : Int32)) (fun x2 => K12 a1 x1 x2 M)))))
set_option maxRecDepth 4000 in
theorem wb_X5_workerOf_12 {g : qG} {k : qK} (n : Nat) (j r : Nat) (hj : q_isLaw j) (hr : q_isLaw r) (o : qOk g 0 zX5_workerOf k) (K12 : Int32 → Int32 → Int32 → qM → qR) (hK12 : ∀ (a1 a2 a3 : Int32) (M : qM), qAE g k zX5_workerOf (qL j r) 12 [some (.inr (some 64)), some (.inl a1), some (.inl a2), some (.inl a3)] [] (qL j r, M) (K12 a1 a2 a3 M)) (a1 a2 a3 : Int32) (M : qM) : qAE g k zX5_workerOf (qL j r) 12 [some (.inr (some 64)), some (.inl a1), some (.inl a2), some (.inl a3)] [] (qL j r, M) (b_X5_workerOf_12 n K12 a1 a2 a3 M) := by
  unfold b_X5_workerOf_12
  refine qr_iload_n o (q_dm dm_X5_workerOf 8 rfl) rfl ?_
  refine qr_iload_n o (q_dm dm_X5_workerOf 9 rfl) rfl ?_
  refine qr_icmp_le (tgt := 37) o (q_dm dm_X5_workerOf 10 rfl) (by decide) ?_ ?_
  · exact qr_loc (q_leS (q_leN (q_leS (q_leN q_le0)))) (w_X5_workerOf_37 n j r hj hr o a2 M)
  · refine qr_aload_n o (q_dm dm_X5_workerOf 11 rfl) rfl ?_
    refine qr_getf (kf := 10) o cf_X5 (sh64 j r) rfl (Nat.le_of_ble_eq_true rfl) fl_X5_65 (q_dm dm_X5_workerOf 12 rfl) ?_
    refine qr_if_le (tgt := 37) o (q_dm dm_X5_workerOf 13 rfl) (by decide) ?_ ?_
    · exact qr_loc (q_leS (q_leN (q_leS (q_leN q_le0)))) (w_X5_workerOf_37 n j r hj hr o a2 M)
    · refine qr_iload_n o (q_dm dm_X5_workerOf 14 rfl) rfl ?_
      refine qr_aload_n o (q_dm dm_X5_workerOf 15 rfl) rfl ?_
      refine qr_getf (kf := 10) o cf_X5 (sh64 j r) rfl (Nat.le_of_ble_eq_true rfl) fl_X5_65 (q_dm dm_X5_workerOf 16 rfl) ?_
      refine qr_idiv o (q_dm dm_X5_workerOf 17 rfl) ?_
      refine qr_lt (fun x1 => ?_)
      refine qs_istore_n (L' := [some (.inr (some 64)), some (.inl a1), some (.inl x1), some (.inl a3)]) o (q_dm dm_X5_workerOf 18 rfl) (Nat.le_of_ble_eq_true rfl) rfl ?_
      refine qs_iincl2 (L' := fun x2 => [some (.inr (some 64)), some (.inl a1), some (.inl x1), some (.inl x2)]) o (q_dm dm_X5_workerOf 19 rfl) rfl ic_m1 (Nat.le_of_ble_eq_true rfl) (fun _ => rfl) (fun x2 => ?_)
      refine qr_goto (tgt := 12) o (q_dm dm_X5_workerOf 20 rfl) (by decide) ?_
      exact qr_loc (q_leS (q_leS (q_leS (q_leS q_le0)))) (hK12 a1 x1 x2 M)

def f_X5_workerOf_12 (n : Nat) : Nat → Int32 → Int32 → Int32 → qM → qR
  | 0, _, _, _, _ => none
  | m + 1, a1, a2, a3, M => b_X5_workerOf_12 n (f_X5_workerOf_12 n m) a1 a2 a3 M
theorem w_X5_workerOf_12 {g : qG} {k : qK} (n : Nat) (j r : Nat) (hj : q_isLaw j) (hr : q_isLaw r) (o : qOk g 0 zX5_workerOf k) : ∀ (m : Nat) (a1 a2 a3 : Int32) (M : qM), qAE g k zX5_workerOf (qL j r) 12 [some (.inr (some 64)), some (.inl a1), some (.inl a2), some (.inl a3)] [] (qL j r, M) (f_X5_workerOf_12 n m a1 a2 a3 M) := by
  intro m
  induction m with
  | zero =>
    intro a1 a2 a3 M
    exact qr_none
  | succ m ih =>
    intro a1 a2 a3 M
    exact wb_X5_workerOf_12 n j r hj hr o (f_X5_workerOf_12 n m) ih a1 a2 a3 M
def f_X5_workerOf (n : Nat) (a1 : Int32) (M : qM) : qR :=
  ql (M 64 12) (fun x1 => ql ((M 64 9) - (1 : Int32)) (fun x2 => f_X5_workerOf_12 n n a1 x1 x2 M))
set_option maxRecDepth 4000 in
theorem w_X5_workerOf {g : qG} {k : qK} (n : Nat) (j r : Nat) (hj : q_isLaw j) (hr : q_isLaw r) (o : qOk g 0 zX5_workerOf k) (a1 : Int32) (M : qM) : qAE g k zX5_workerOf (qL j r) 0 [some (.inr (some 64)), some (.inl a1), none, none] [] (qL j r, M) (f_X5_workerOf n a1 M) := by
  unfold f_X5_workerOf
  refine qr_aload_n o (q_dm dm_X5_workerOf 0 rfl) rfl ?_
  refine qr_getf (kf := 12) o cf_X5 (sh64 j r) rfl (Nat.le_of_ble_eq_true rfl) fl_X5_93 (q_dm dm_X5_workerOf 1 rfl) ?_
  refine qr_lt (fun x1 => ?_)
  refine qs_istore_n (L' := [some (.inr (some 64)), some (.inl a1), some (.inl x1), none]) o (q_dm dm_X5_workerOf 2 rfl) (Nat.le_of_ble_eq_true rfl) rfl ?_
  refine qr_aload_n o (q_dm dm_X5_workerOf 3 rfl) rfl ?_
  refine qr_getf (kf := 9) o cf_X5 (sh64 j r) rfl (Nat.le_of_ble_eq_true rfl) fl_X5_49 (q_dm dm_X5_workerOf 4 rfl) ?_
  refine qr_iconst o (q_dm dm_X5_workerOf 5 rfl) ic_1 ?_
  refine qr_isub o (q_dm dm_X5_workerOf 6 rfl) ?_
  refine qr_lt (fun x2 => ?_)
  refine qs_istore_n (L' := [some (.inr (some 64)), some (.inl a1), some (.inl x1), some (.inl x2)]) o (q_dm dm_X5_workerOf 7 rfl) (Nat.le_of_ble_eq_true rfl) rfl ?_
  exact qr_loc (q_leS (q_leS (q_leS (q_leS q_le0)))) (w_X5_workerOf_12 n j r hj hr o n a1 x1 x2 M)

theorem a_X5_workerOf (g : qG) (l : Launch) (n : Nat) (j r : Nat) (hj : q_isLaw j) (hr : q_isLaw r) (a1 : Int32) (M : qM) : qAM g l 0 zX5_workerOf (qL j r) [.inr (some 64), .inl a1] (qL j r, M) (f_X5_workerOf n a1 M) :=
  qAM.of zv_X5_workerOf.1 (by show 2 ≤ 4; decide) (fun k hk o => w_X5_workerOf n j r hj hr o a1 M)
def tb_X11_jobs : List (Nat × Instr × Nat) := [(0, (.iload_n 1, 1)), (1, (.iconst 1, 1)), (2, (.if_icmp .lt 20, 3)), (5, (.iload_n 1, 1)), (6, (.bipush 8, 2)), (8, (.if_icmp .gt 14, 3)), (11, (.iload_n 1, 1)), (12, (.aload_n 0, 1)), (13, (.getfield 10, 3)), (16, (.getfield 112, 3)), (19, (.if_icmp .le 5, 3)), (22, (.iconst (-1), 1)), (23, (.ireturn, 1)), (24, (.aload_n 0, 1)), (25, (.getfield 84, 3)), (28, (.aload_n 0, 1)), (29, (.getfield 10, 3)), (32, (.iload_n 1, 1)), (33, (.invokevirtual 225, 3)), (36, (.istore 4, 2)), (38, (.aload_n 0, 1)), (39, (.getfield 10, 3)), (42, (.invokevirtual 123, 3)), (45, (.iload 4, 2)), (47, (.ifCond .ne 6, 3)), (50, (.bipush (-2), 2)), (52, (.ireturn, 1)), (53, (.iload_n 3, 1)), (54, (.bipush 10, 2)), (56, (.if_icmp .eq 12, 3)), (59, (.iload_n 3, 1)), (60, (.ifCond .lt 12, 3)), (63, (.iload_n 3, 1)), (64, (.iload_n 1, 1)), (65, (.if_icmp .ge 7, 3)), (68, (.iconst 1, 1)), (69, (.goto 4, 3)), (72, (.iconst 0, 1)), (73, (.istore 5, 2)), (75, (.iload 5, 2)), (77, (.ifCond .eq 25, 3)), (80, (.aload_n 0, 1)), (81, (.getfield 26, 3)), (84, (.iload_n 2, 1)), (85, (.invokevirtual 228, 3)), (88, (.ifCond .eq 14, 3)), (91, (.aload_n 0, 1)), (92, (.getfield 84, 3)), (95, (.iload_n 2, 1)), (96, (.invokevirtual 229, 3)), (99, (.ifCond .ne 6, 3)), (102, (.bipush (-4), 2)), (104, (.ireturn, 1)), (105, (.aload_n 0, 1)), (106, (.getfield 84, 3)), (109, (.aload_n 0, 1)), (110, (.getfield 26, 3)), (113, (.invokevirtual 232, 3)), (116, (.aload_n 0, 1)), (117, (.getfield 84, 3)), (120, (.getfield 235, 3)), (123, (.ldc 203, 2)), (125, (.if_icmp .lt 6, 3)), (128, (.bipush (-3), 2)), (130, (.ireturn, 1)), (131, (.iload_n 3, 1)), (132, (.bipush 10, 2)), (134, (.if_icmp .ne 13, 3)), (137, (.aload_n 0, 1)), (138, (.getfield 84, 3)), (141, (.getfield 235, 3)), (144, (.goto 11, 3)), (147, (.aload_n 0, 1)), (148, (.getfield 84, 3)), (151, (.iload_n 3, 1)), (152, (.invokevirtual 236, 3)), (155, (.ireturn, 1))]
theorem dm_X11_jobs : ∀ q ∈ tb_X11_jobs, decode zX11_jobs.2.1 q.1 = .ok q.2 := by decide +kernel
def f_X11_jobs_73 (n : Nat) (j : Nat) (a2 a3 s0 : Int32) (M : qM) : qR :=
  (if s0 = (0 : Int32) then some ((-4 : Int32), M) else qc (f_X10_knowsAll n 7 a2 M) (fun r1 m2 => (if r1 = (0 : Int32) then some ((-4 : Int32), m2) else qc (f_X5_takeWorkers n a2 m2) (fun r3 m4 => (if r3 = (0 : Int32) then some ((-4 : Int32), m4) else qc (f_X5_solve n 7 j m4) (fun _ m5 => (if (m5 64 11) < (1048576 : Int32) then (if a3 = (10 : Int32) then some ((m5 64 11), m5) else qc (f_X5_workerOf n a3 m5) (fun r6 m7 => some (r6, m7))) else some ((-3 : Int32), m5))))))))
set_option maxRecDepth 4000 in
theorem w_X11_jobs_73 {g : qG} {k : qK} (n : Nat) (j r : Nat) (hj : q_isLaw j) (hr : q_isLaw r) (o : qOk g 19 zX11_jobs k) (a2 a3 s0 : Int32) (M : qM) : qAE g k zX11_jobs (qL j r) 73 [some (.inr (some 0)), none, some (.inl a2), some (.inl a3), none, none] [.inl s0] (qL j r, M) (f_X11_jobs_73 n j a2 a3 s0 M) := by
  unfold f_X11_jobs_73
  refine qs_istore (L' := [some (.inr (some 0)), none, some (.inl a2), some (.inl a3), none, some (.inl s0)]) o (q_dm dm_X11_jobs 38 rfl) (Nat.le_of_ble_eq_true rfl) rfl ?_
  refine qr_iload o (q_dm dm_X11_jobs 39 rfl) rfl ?_
  refine qr_if_eq (tgt := 102) o (q_dm dm_X11_jobs 40 rfl) (by decide) ?_ ?_
  · refine qr_bipush o (q_dm dm_X11_jobs 51 rfl) bi_m4 ?_
    exact qr_iret o rfl rfl (q_dm dm_X11_jobs 52 rfl)
  · refine qr_aload_n o (q_dm dm_X11_jobs 41 rfl) rfl ?_
    refine qr_getr (kf := 2) o cf_X11 (sh0 j r) rfl (Nat.le_of_ble_eq_true rfl) fl_X11_26 (q_dm dm_X11_jobs 42 rfl) ?_
    refine qr_iload_n o (q_dm dm_X11_jobs 43 rfl) rfl ?_
    refine qr_callv_i (As := [.inl a2]) (S := []) o (a_X10_knowsAll g k.2.1 n j r hj hr (Or.inl rfl) a2 M) (Nat.le_of_ble_eq_true rfl) zv_X10_knowsAll rfl cf_X10 (sh7 j r) ml_X11_228 (Nat.le_of_ble_eq_true rfl) (q_dm dm_X11_jobs 44 rfl) (fun r1 m2 => ?_)
    refine qr_if_eq (tgt := 102) o (q_dm dm_X11_jobs 45 rfl) (by decide) ?_ ?_
    · refine qr_bipush o (q_dm dm_X11_jobs 51 rfl) bi_m4 ?_
      exact qr_iret o rfl rfl (q_dm dm_X11_jobs 52 rfl)
    · refine qr_aload_n o (q_dm dm_X11_jobs 46 rfl) rfl ?_
      refine qr_getr (kf := 10) o cf_X11 (sh0 j r) rfl (Nat.le_of_ble_eq_true rfl) fl_X11_84 (q_dm dm_X11_jobs 47 rfl) ?_
      refine qr_iload_n o (q_dm dm_X11_jobs 48 rfl) rfl ?_
      refine qr_callv_i (As := [.inl a2]) (S := []) o (a_X5_takeWorkers g k.2.1 n j r hj hr a2 m2) (Nat.le_of_ble_eq_true rfl) zv_X5_takeWorkers rfl cf_X5 (sh64 j r) ml_X11_229 (Nat.le_of_ble_eq_true rfl) (q_dm dm_X11_jobs 49 rfl) (fun r3 m4 => ?_)
      refine qr_if_ne (tgt := 105) o (q_dm dm_X11_jobs 50 rfl) (by decide) ?_ ?_
      · refine qr_aload_n o (q_dm dm_X11_jobs 53 rfl) rfl ?_
        refine qr_getr (kf := 10) o cf_X11 (sh0 j r) rfl (Nat.le_of_ble_eq_true rfl) fl_X11_84 (q_dm dm_X11_jobs 54 rfl) ?_
        refine qr_aload_n o (q_dm dm_X11_jobs 55 rfl) rfl ?_
        refine qr_getr (kf := 2) o cf_X11 (sh0 j r) rfl (Nat.le_of_ble_eq_true rfl) fl_X11_26 (q_dm dm_X11_jobs 56 rfl) ?_
        refine qr_callv_v (As := [.inr (some 7)]) (S := []) o (a_X5_solve g k.2.1 n j r hj hr (Or.inl rfl) m4) (Nat.le_of_ble_eq_true rfl) zv_X5_solve rfl cf_X5 (sh64 j r) ml_X11_232 (Nat.le_of_ble_eq_true rfl) (q_dm dm_X11_jobs 57 rfl) (fun _ m5 => ?_)
        refine qr_aload_n o (q_dm dm_X11_jobs 58 rfl) rfl ?_
        refine qr_getr (kf := 10) o cf_X11 (sh0 j r) rfl (Nat.le_of_ble_eq_true rfl) fl_X11_84 (q_dm dm_X11_jobs 59 rfl) ?_
        refine qr_getf (kf := 11) o cf_X5 (sh64 j r) rfl (Nat.le_of_ble_eq_true rfl) fl_X11_235 (q_dm dm_X11_jobs 60 rfl) ?_
        refine qr_ldc o (q_dm dm_X11_jobs 61 rfl) kc_X11_203 ?_
        refine qr_icmp_lt (tgt := 131) o (q_dm dm_X11_jobs 62 rfl) (by decide) ?_ ?_
        · refine qr_iload_n o (q_dm dm_X11_jobs 65 rfl) rfl ?_
          refine qr_bipush o (q_dm dm_X11_jobs 66 rfl) bi_10 ?_
          refine qr_icmp_ne (tgt := 147) o (q_dm dm_X11_jobs 67 rfl) (by decide) ?_ ?_
          · refine qr_aload_n o (q_dm dm_X11_jobs 72 rfl) rfl ?_
            refine qr_getr (kf := 10) o cf_X11 (sh0 j r) rfl (Nat.le_of_ble_eq_true rfl) fl_X11_84 (q_dm dm_X11_jobs 73 rfl) ?_
            refine qr_iload_n o (q_dm dm_X11_jobs 74 rfl) rfl ?_
            refine qr_callv_i (As := [.inl a3]) (S := []) o (a_X5_workerOf g k.2.1 n j r hj hr a3 m5) (Nat.le_of_ble_eq_true rfl) zv_X5_workerOf rfl cf_X5 (sh64 j r) ml_X11_236 (Nat.le_of_ble_eq_true rfl) (q_dm dm_X11_jobs 75 rfl) (fun r6 m7 => ?_)
            exact qr_iret o rfl rfl (q_dm dm_X11_jobs 76 rfl)
          · refine qr_aload_n o (q_dm dm_X11_jobs 68 rfl) rfl ?_
            refine qr_getr (kf := 10) o cf_X11 (sh0 j r) rfl (Nat.le_of_ble_eq_true rfl) fl_X11_84 (q_dm dm_X11_jobs 69 rfl) ?_
            refine qr_getf (kf := 11) o cf_X5 (sh64 j r) rfl (Nat.le_of_ble_eq_true rfl) fl_X11_235 (q_dm dm_X11_jobs 70 rfl) ?_
            refine qr_goto (tgt := 155) o (q_dm dm_X11_jobs 71 rfl) (by decide) ?_
            exact qr_iret o rfl rfl (q_dm dm_X11_jobs 76 rfl)
        · refine qr_bipush o (q_dm dm_X11_jobs 63 rfl) bi_m3 ?_
          exact qr_iret o rfl rfl (q_dm dm_X11_jobs 64 rfl)
      · refine qr_bipush o (q_dm dm_X11_jobs 51 rfl) bi_m4 ?_
        exact qr_iret o rfl rfl (q_dm dm_X11_jobs 52 rfl)

def f_X11_jobs_72 (n : Nat) (j : Nat) (a2 a3 : Int32) (M : qM) : qR :=
  f_X11_jobs_73 n j a2 a3 (0 : Int32) M
set_option maxRecDepth 4000 in
theorem w_X11_jobs_72 {g : qG} {k : qK} (n : Nat) (j r : Nat) (hj : q_isLaw j) (hr : q_isLaw r) (o : qOk g 19 zX11_jobs k) (a2 a3 : Int32) (M : qM) : qAE g k zX11_jobs (qL j r) 72 [some (.inr (some 0)), none, some (.inl a2), some (.inl a3), none, none] [] (qL j r, M) (f_X11_jobs_72 n j a2 a3 M) := by
  unfold f_X11_jobs_72
  refine qr_iconst o (q_dm dm_X11_jobs 37 rfl) ic_0 ?_
  exact qr_loc (q_leS (q_leN (q_leS (q_leS (q_leN (q_leN q_le0)))))) (w_X11_jobs_73 n j r hj hr o a2 a3 (0 : Int32) M)

def f_X11_jobs (n : Nat) (j : Nat) (a1 a2 a3 : Int32) (M : qM) : qR :=
  (if a1 < (1 : Int32) then some ((-1 : Int32), M) else (if (8 : Int32) < a1 then some ((-1 : Int32), M) else (if a1 ≤ (M 1 1) then qc (f_X5_read n a1 M) (fun r1 m2 => qc (f_X9_clear n  m2) (fun _ m3 => (if r1 = (0 : Int32) then some ((-2 : Int32), m3) else (if a3 = (10 : Int32) then f_X11_jobs_73 n j a2 a3 (1 : Int32) m3 else (if a3 < (0 : Int32) then f_X11_jobs_72 n j a2 a3 m3 else (if a1 ≤ a3 then f_X11_jobs_72 n j a2 a3 m3 else f_X11_jobs_73 n j a2 a3 (1 : Int32) m3)))))) else some ((-1 : Int32), M))))
set_option maxRecDepth 4000 in
theorem w_X11_jobs {g : qG} {k : qK} (n : Nat) (j r : Nat) (hj : q_isLaw j) (hr : q_isLaw r) (o : qOk g 19 zX11_jobs k) (a1 a2 a3 : Int32) (M : qM) : qAE g k zX11_jobs (qL j r) 0 [some (.inr (some 0)), some (.inl a1), some (.inl a2), some (.inl a3), none, none] [] (qL j r, M) (f_X11_jobs n j a1 a2 a3 M) := by
  unfold f_X11_jobs
  refine qr_iload_n o (q_dm dm_X11_jobs 0 rfl) rfl ?_
  refine qr_iconst o (q_dm dm_X11_jobs 1 rfl) ic_1 ?_
  refine qr_icmp_lt (tgt := 22) o (q_dm dm_X11_jobs 2 rfl) (by decide) ?_ ?_
  · refine qr_iconst o (q_dm dm_X11_jobs 11 rfl) ic_m1 ?_
    exact qr_iret o rfl rfl (q_dm dm_X11_jobs 12 rfl)
  · refine qr_iload_n o (q_dm dm_X11_jobs 3 rfl) rfl ?_
    refine qr_bipush o (q_dm dm_X11_jobs 4 rfl) bi_8 ?_
    refine qr_icmp_gt (tgt := 22) o (q_dm dm_X11_jobs 5 rfl) (by decide) ?_ ?_
    · refine qr_iconst o (q_dm dm_X11_jobs 11 rfl) ic_m1 ?_
      exact qr_iret o rfl rfl (q_dm dm_X11_jobs 12 rfl)
    · refine qr_iload_n o (q_dm dm_X11_jobs 6 rfl) rfl ?_
      refine qr_aload_n o (q_dm dm_X11_jobs 7 rfl) rfl ?_
      refine qr_getr (kf := 0) o cf_X11 (sh0 j r) rfl (Nat.le_of_ble_eq_true rfl) fl_X11_10 (q_dm dm_X11_jobs 8 rfl) ?_
      refine qr_getf (kf := 1) o cf_X9 (sh1 j r) rfl (Nat.le_of_ble_eq_true rfl) fl_X11_112 (q_dm dm_X11_jobs 9 rfl) ?_
      refine qr_icmp_le (tgt := 24) o (q_dm dm_X11_jobs 10 rfl) (by decide) ?_ ?_
      · refine qr_aload_n o (q_dm dm_X11_jobs 13 rfl) rfl ?_
        refine qr_getr (kf := 10) o cf_X11 (sh0 j r) rfl (Nat.le_of_ble_eq_true rfl) fl_X11_84 (q_dm dm_X11_jobs 14 rfl) ?_
        refine qr_aload_n o (q_dm dm_X11_jobs 15 rfl) rfl ?_
        refine qr_getr (kf := 0) o cf_X11 (sh0 j r) rfl (Nat.le_of_ble_eq_true rfl) fl_X11_10 (q_dm dm_X11_jobs 16 rfl) ?_
        refine qr_iload_n o (q_dm dm_X11_jobs 17 rfl) rfl ?_
        refine qr_callv_i (As := [.inr (some 1), .inl a1]) (S := []) o (a_X5_read g k.2.1 n j r hj hr a1 M) (Nat.le_of_ble_eq_true rfl) zv_X5_read rfl cf_X5 (sh64 j r) ml_X11_225 (Nat.le_of_ble_eq_true rfl) (q_dm dm_X11_jobs 18 rfl) (fun r1 m2 => ?_)
        refine qs_istore (L' := [some (.inr (some 0)), some (.inl a1), some (.inl a2), some (.inl a3), some (.inl r1), none]) o (q_dm dm_X11_jobs 19 rfl) (Nat.le_of_ble_eq_true rfl) rfl ?_
        refine qr_aload_n o (q_dm dm_X11_jobs 20 rfl) rfl ?_
        refine qr_getr (kf := 0) o cf_X11 (sh0 j r) rfl (Nat.le_of_ble_eq_true rfl) fl_X11_10 (q_dm dm_X11_jobs 21 rfl) ?_
        refine qr_callv_v (As := []) (S := []) o (a_X9_clear g k.2.1 n j r hj hr  m2) (Nat.le_of_ble_eq_true rfl) zv_X9_clear rfl cf_X9 (sh1 j r) ml_X11_123 (Nat.le_of_ble_eq_true rfl) (q_dm dm_X11_jobs 22 rfl) (fun _ m3 => ?_)
        refine qr_iload o (q_dm dm_X11_jobs 23 rfl) rfl ?_
        refine qr_if_ne (tgt := 53) o (q_dm dm_X11_jobs 24 rfl) (by decide) ?_ ?_
        · refine qr_iload_n o (q_dm dm_X11_jobs 27 rfl) rfl ?_
          refine qr_bipush o (q_dm dm_X11_jobs 28 rfl) bi_10 ?_
          refine qr_icmp_eq (tgt := 68) o (q_dm dm_X11_jobs 29 rfl) (by decide) ?_ ?_
          · refine qr_iconst o (q_dm dm_X11_jobs 35 rfl) ic_1 ?_
            refine qr_goto (tgt := 73) o (q_dm dm_X11_jobs 36 rfl) (by decide) ?_
            exact qr_loc (q_leS (q_leN (q_leS (q_leS (q_leN (q_leN q_le0)))))) (w_X11_jobs_73 n j r hj hr o a2 a3 (1 : Int32) m3)
          · refine qr_iload_n o (q_dm dm_X11_jobs 30 rfl) rfl ?_
            refine qr_if_lt (tgt := 72) o (q_dm dm_X11_jobs 31 rfl) (by decide) ?_ ?_
            · exact qr_loc (q_leS (q_leN (q_leS (q_leS (q_leN (q_leN q_le0)))))) (w_X11_jobs_72 n j r hj hr o a2 a3 m3)
            · refine qr_iload_n o (q_dm dm_X11_jobs 32 rfl) rfl ?_
              refine qr_iload_n o (q_dm dm_X11_jobs 33 rfl) rfl ?_
              refine qr_icmp_ge (tgt := 72) o (q_dm dm_X11_jobs 34 rfl) (by decide) ?_ ?_
              · exact qr_loc (q_leS (q_leN (q_leS (q_leS (q_leN (q_leN q_le0)))))) (w_X11_jobs_72 n j r hj hr o a2 a3 m3)
              · refine qr_iconst o (q_dm dm_X11_jobs 35 rfl) ic_1 ?_
                refine qr_goto (tgt := 73) o (q_dm dm_X11_jobs 36 rfl) (by decide) ?_
                exact qr_loc (q_leS (q_leN (q_leS (q_leS (q_leN (q_leN q_le0)))))) (w_X11_jobs_73 n j r hj hr o a2 a3 (1 : Int32) m3)
        · refine qr_bipush o (q_dm dm_X11_jobs 25 rfl) bi_m2 ?_
          exact qr_iret o rfl rfl (q_dm dm_X11_jobs 26 rfl)
      · refine qr_iconst o (q_dm dm_X11_jobs 11 rfl) ic_m1 ?_
        exact qr_iret o rfl rfl (q_dm dm_X11_jobs 12 rfl)

theorem a_X11_jobs (g : qG) (l : Launch) (n : Nat) (j r : Nat) (hj : q_isLaw j) (hr : q_isLaw r) (a1 a2 a3 : Int32) (M : qM) : qAM g l 19 zX11_jobs (qL j r) [.inr (some 0), .inl a1, .inl a2, .inl a3] (qL j r, M) (f_X11_jobs n j a1 a2 a3 M) :=
  qAM.of zv_X11_jobs.1 (by show 4 ≤ 6; decide) (fun k hk o => w_X11_jobs n j r hj hr o a1 a2 a3 M)
def tb_X11_keep : List (Nat × Instr × Nat) := [(0, (.aload_n 0, 1)), (1, (.getfield 30, 3)), (4, (.aload_n 0, 1)), (5, (.getfield 26, 3)), (8, (.invokevirtual 159, 3)), (11, (.aload_n 0, 1)), (12, (.iconst 1, 1)), (13, (.putfield 95, 3)), (16, (.aload_n 0, 1)), (17, (.getfield 26, 3)), (20, (.getfield 184, 3)), (23, (.ireturn, 1))]
theorem dm_X11_keep : ∀ q ∈ tb_X11_keep, decode zX11_keep.2.1 q.1 = .ok q.2 := by decide +kernel
def f_X11_keep (n : Nat) (M : qM) : qR :=
  qc (f_X10_copy n 16 7 M) (fun _ m1 => qlm (mu m1 0 12 (1 : Int32)) (fun m2 => some ((m2 7 9), m2)))
set_option maxRecDepth 4000 in
theorem w_X11_keep {g : qG} {k : qK} (n : Nat) (j r : Nat) (hj : q_isLaw j) (hr : q_isLaw r) (o : qOk g 2 zX11_keep k) (M : qM) : qAE g k zX11_keep (qL j r) 0 [some (.inr (some 0))] [] (qL j r, M) (f_X11_keep n  M) := by
  unfold f_X11_keep
  refine qr_aload_n o (q_dm dm_X11_keep 0 rfl) rfl ?_
  refine qr_getr (kf := 3) o cf_X11 (sh0 j r) rfl (Nat.le_of_ble_eq_true rfl) fl_X11_30 (q_dm dm_X11_keep 1 rfl) ?_
  refine qr_aload_n o (q_dm dm_X11_keep 2 rfl) rfl ?_
  refine qr_getr (kf := 2) o cf_X11 (sh0 j r) rfl (Nat.le_of_ble_eq_true rfl) fl_X11_26 (q_dm dm_X11_keep 3 rfl) ?_
  refine qr_callv_v (As := [.inr (some 7)]) (S := []) o (a_X10_copy g k.2.1 n j r hj hr (Or.inr (Or.inl rfl)) (Or.inl rfl) M) (Nat.le_of_ble_eq_true rfl) zv_X10_copy rfl cf_X10 (sh16 j r) ml_X11_159 (Nat.le_of_ble_eq_true rfl) (q_dm dm_X11_keep 4 rfl) (fun _ m1 => ?_)
  refine qr_aload_n o (q_dm dm_X11_keep 5 rfl) rfl ?_
  refine qr_iconst o (q_dm dm_X11_keep 6 rfl) ic_1 ?_
  refine qr_putz (kf := 12) o cf_X11 (sh0 j r) rfl (Nat.le_of_ble_eq_true rfl) fl_X11_95 rfl (by decide +kernel) (by decide) (q_dm dm_X11_keep 7 rfl) ?_
  refine qr_letm (fun m2 => ?_)
  refine qr_aload_n o (q_dm dm_X11_keep 8 rfl) rfl ?_
  refine qr_getr (kf := 2) o cf_X11 (sh0 j r) rfl (Nat.le_of_ble_eq_true rfl) fl_X11_26 (q_dm dm_X11_keep 9 rfl) ?_
  refine qr_getf (kf := 9) o cf_X10 (sh7 j r) rfl (Nat.le_of_ble_eq_true rfl) fl_X11_184 (q_dm dm_X11_keep 10 rfl) ?_
  exact qr_iret o rfl rfl (q_dm dm_X11_keep 11 rfl)

theorem a_X11_keep (g : qG) (l : Launch) (n : Nat) (j r : Nat) (hj : q_isLaw j) (hr : q_isLaw r) (M : qM) : qAM g l 2 zX11_keep (qL j r) [.inr (some 0)] (qL j r, M) (f_X11_keep n  M) :=
  qAM.of zv_X11_keep.1 (by show 1 ≤ 1; decide) (fun k hk o => w_X11_keep n j r hj hr o  M)
def tb_X2_tell : List (Nat × Instr × Nat) := [(0, (.iload_n 1, 1)), (1, (.ifCond .lt 28, 3)), (4, (.iload_n 1, 1)), (5, (.bipush 12, 2)), (7, (.if_icmp .ge 22, 3)), (10, (.aload_n 0, 1)), (11, (.iload_n 1, 1)), (12, (.invokevirtual 25, 3)), (15, (.ifCond .ne 14, 3)), (18, (.iload_n 2, 1)), (19, (.iconst 1, 1)), (20, (.if_icmp .lt 9, 3)), (23, (.iload_n 2, 1)), (24, (.bipush 12, 2)), (26, (.if_icmp .le 5, 3)), (29, (.iconst 0, 1)), (30, (.ireturn, 1)), (31, (.iload_n 3, 1)), (32, (.ifCond .lt 26, 3)), (35, (.iload_n 3, 1)), (36, (.sipush 255, 3)), (39, (.if_icmp .gt 19, 3)), (42, (.iload 4, 2)), (44, (.iload_n 1, 1)), (45, (.ishr, 1)), (46, (.ifCond .ne 12, 3)), (49, (.aload_n 0, 1)), (50, (.iload 4, 2)), (52, (.invokevirtual 29, 3)), (55, (.ifCond .ne 5, 3)), (58, (.iconst 0, 1)), (59, (.ireturn, 1)), (60, (.aload_n 0, 1)), (61, (.getfield 9, 3)), (64, (.iload_n 1, 1)), (65, (.iload_n 2, 1)), (66, (.iastore, 1)), (67, (.aload_n 0, 1)), (68, (.getfield 15, 3)), (71, (.iload_n 1, 1)), (72, (.iload_n 3, 1)), (73, (.iastore, 1)), (74, (.aload_n 0, 1)), (75, (.getfield 18, 3)), (78, (.iload_n 1, 1)), (79, (.iload 4, 2)), (81, (.iastore, 1)), (82, (.aload_n 0, 1)), (83, (.dup, 1)), (84, (.getfield 21, 3)), (87, (.iconst 1, 1)), (88, (.iload_n 1, 1)), (89, (.ishl, 1)), (90, (.ior, 1)), (91, (.putfield 21, 3)), (94, (.iconst 1, 1)), (95, (.ireturn, 1))]
theorem dm_X2_tell : ∀ q ∈ tb_X2_tell, decode zX2_tell.2.1 q.1 = .ok q.2 := by decide +kernel
def f_X2_tell (n : Nat) (a1 a2 a3 a4 : Int32) (M : qM) : qR :=
  (if a1 < (0 : Int32) then some ((0 : Int32), M) else (if (12 : Int32) ≤ a1 then some ((0 : Int32), M) else qc (f_X2_knows n a1 M) (fun r1 m2 => (if r1 = (0 : Int32) then (if a2 < (1 : Int32) then some ((0 : Int32), m2) else (if a2 ≤ (12 : Int32) then (if a3 < (0 : Int32) then some ((0 : Int32), m2) else (if (255 : Int32) < a3 then some ((0 : Int32), m2) else (if (a4 >>> (a1 &&& 31)) = (0 : Int32) then qc (f_X2_knowsAll n a4 m2) (fun r3 m4 => (if r3 = (0 : Int32) then some ((0 : Int32), m4) else qg a1 12 (qlm (mu m4 4 a1.toNatClampNeg a2) (fun m5 => qg a1 12 (qlm (mu m5 5 a1.toNatClampNeg a3) (fun m6 => qg a1 12 (qlm (mu m6 6 a1.toNatClampNeg a4) (fun m7 => qlm (mu m7 3 3 ((m7 3 3) ||| ((1 : Int32) <<< (a1 &&& 31)))) (fun m8 => some ((1 : Int32), m8)))))))))) else some ((0 : Int32), m2)))) else some ((0 : Int32), m2))) else some ((0 : Int32), m2)))))
set_option maxRecDepth 4000 in
theorem w_X2_tell {g : qG} {k : qK} (n : Nat) (j r : Nat) (hj : q_isLaw j) (hr : q_isLaw r) (o : qOk g 1 zX2_tell k) (a1 a2 a3 a4 : Int32) (M : qM) : qAE g k zX2_tell (qL j r) 0 [some (.inr (some 3)), some (.inl a1), some (.inl a2), some (.inl a3), some (.inl a4)] [] (qL j r, M) (f_X2_tell n a1 a2 a3 a4 M) := by
  unfold f_X2_tell
  refine qr_iload_n o (q_dm dm_X2_tell 0 rfl) rfl ?_
  refine qr_if_lt (tgt := 29) o (q_dm dm_X2_tell 1 rfl) (by decide) ?_ ?_
  · refine qr_iconst o (q_dm dm_X2_tell 15 rfl) ic_0 ?_
    exact qr_iret o rfl (by decide) (q_dm dm_X2_tell 16 rfl)
  · refine qr_iload_n o (q_dm dm_X2_tell 2 rfl) rfl ?_
    refine qr_bipush o (q_dm dm_X2_tell 3 rfl) bi_12 ?_
    refine qr_icmp_ge (tgt := 29) o (q_dm dm_X2_tell 4 rfl) (by decide) ?_ ?_
    · refine qr_iconst o (q_dm dm_X2_tell 15 rfl) ic_0 ?_
      exact qr_iret o rfl (by decide) (q_dm dm_X2_tell 16 rfl)
    · refine qr_aload_n o (q_dm dm_X2_tell 5 rfl) rfl ?_
      refine qr_iload_n o (q_dm dm_X2_tell 6 rfl) rfl ?_
      refine qr_callv_i (As := [.inl a1]) (S := []) o (a_X2_knows g k.2.1 n j r hj hr a1 M) (Nat.le_of_ble_eq_true rfl) zv_X2_knows rfl cf_X2 (sh3 j r) ml_X2_25 (Nat.le_of_ble_eq_true rfl) (q_dm dm_X2_tell 7 rfl) (fun r1 m2 => ?_)
      refine qr_if_ne (tgt := 29) o (q_dm dm_X2_tell 8 rfl) (by decide) ?_ ?_
      · refine qr_iconst o (q_dm dm_X2_tell 15 rfl) ic_0 ?_
        exact qr_iret o rfl (by decide) (q_dm dm_X2_tell 16 rfl)
      · refine qr_iload_n o (q_dm dm_X2_tell 9 rfl) rfl ?_
        refine qr_iconst o (q_dm dm_X2_tell 10 rfl) ic_1 ?_
        refine qr_icmp_lt (tgt := 29) o (q_dm dm_X2_tell 11 rfl) (by decide) ?_ ?_
        · refine qr_iconst o (q_dm dm_X2_tell 15 rfl) ic_0 ?_
          exact qr_iret o rfl (by decide) (q_dm dm_X2_tell 16 rfl)
        · refine qr_iload_n o (q_dm dm_X2_tell 12 rfl) rfl ?_
          refine qr_bipush o (q_dm dm_X2_tell 13 rfl) bi_12 ?_
          refine qr_icmp_le (tgt := 31) o (q_dm dm_X2_tell 14 rfl) (by decide) ?_ ?_
          · refine qr_iload_n o (q_dm dm_X2_tell 17 rfl) rfl ?_
            refine qr_if_lt (tgt := 58) o (q_dm dm_X2_tell 18 rfl) (by decide) ?_ ?_
            · refine qr_iconst o (q_dm dm_X2_tell 30 rfl) ic_0 ?_
              exact qr_iret o rfl (by decide) (q_dm dm_X2_tell 31 rfl)
            · refine qr_iload_n o (q_dm dm_X2_tell 19 rfl) rfl ?_
              refine qr_sipush o (q_dm dm_X2_tell 20 rfl) si_255 ?_
              refine qr_icmp_gt (tgt := 58) o (q_dm dm_X2_tell 21 rfl) (by decide) ?_ ?_
              · refine qr_iconst o (q_dm dm_X2_tell 30 rfl) ic_0 ?_
                exact qr_iret o rfl (by decide) (q_dm dm_X2_tell 31 rfl)
              · refine qr_iload o (q_dm dm_X2_tell 22 rfl) rfl ?_
                refine qr_iload_n o (q_dm dm_X2_tell 23 rfl) rfl ?_
                refine qr_ishr o (q_dm dm_X2_tell 24 rfl) ?_
                refine qr_if_ne (tgt := 58) o (q_dm dm_X2_tell 25 rfl) (by decide) ?_ ?_
                · refine qr_iconst o (q_dm dm_X2_tell 30 rfl) ic_0 ?_
                  exact qr_iret o rfl (by decide) (q_dm dm_X2_tell 31 rfl)
                · refine qr_aload_n o (q_dm dm_X2_tell 26 rfl) rfl ?_
                  refine qr_iload o (q_dm dm_X2_tell 27 rfl) rfl ?_
                  refine qr_callv_i (As := [.inl a4]) (S := []) o (a_X2_knowsAll g k.2.1 n j r hj hr a4 m2) (Nat.le_of_ble_eq_true rfl) zv_X2_knowsAll rfl cf_X2 (sh3 j r) ml_X2_29 (Nat.le_of_ble_eq_true rfl) (q_dm dm_X2_tell 28 rfl) (fun r3 m4 => ?_)
                  refine qr_if_ne (tgt := 60) o (q_dm dm_X2_tell 29 rfl) (by decide) ?_ ?_
                  · refine qr_aload_n o (q_dm dm_X2_tell 32 rfl) rfl ?_
                    refine qr_getr (kf := 0) o cf_X2 (sh3 j r) rfl (Nat.le_of_ble_eq_true rfl) fl_X2_9 (q_dm dm_X2_tell 33 rfl) ?_
                    refine qr_iload_n o (q_dm dm_X2_tell 34 rfl) rfl ?_
                    refine qr_iload_n o (q_dm dm_X2_tell 35 rfl) rfl ?_
                    refine qr_iast o (sh4 j r) (q_dm dm_X2_tell 36 rfl) ?_
                    refine qr_letm (fun m5 => ?_)
                    refine qr_aload_n o (q_dm dm_X2_tell 37 rfl) rfl ?_
                    refine qr_getr (kf := 1) o cf_X2 (sh3 j r) rfl (Nat.le_of_ble_eq_true rfl) fl_X2_15 (q_dm dm_X2_tell 38 rfl) ?_
                    refine qr_iload_n o (q_dm dm_X2_tell 39 rfl) rfl ?_
                    refine qr_iload_n o (q_dm dm_X2_tell 40 rfl) rfl ?_
                    refine qr_iast o (sh5 j r) (q_dm dm_X2_tell 41 rfl) ?_
                    refine qr_letm (fun m6 => ?_)
                    refine qr_aload_n o (q_dm dm_X2_tell 42 rfl) rfl ?_
                    refine qr_getr (kf := 2) o cf_X2 (sh3 j r) rfl (Nat.le_of_ble_eq_true rfl) fl_X2_18 (q_dm dm_X2_tell 43 rfl) ?_
                    refine qr_iload_n o (q_dm dm_X2_tell 44 rfl) rfl ?_
                    refine qr_iload o (q_dm dm_X2_tell 45 rfl) rfl ?_
                    refine qr_iast o (sh6 j r) (q_dm dm_X2_tell 46 rfl) ?_
                    refine qr_letm (fun m7 => ?_)
                    refine qr_aload_n o (q_dm dm_X2_tell 47 rfl) rfl ?_
                    refine qr_dup o (q_dm dm_X2_tell 48 rfl) ?_
                    refine qr_getf (kf := 3) o cf_X2 (sh3 j r) rfl (Nat.le_of_ble_eq_true rfl) fl_X2_21 (q_dm dm_X2_tell 49 rfl) ?_
                    refine qr_iconst o (q_dm dm_X2_tell 50 rfl) ic_1 ?_
                    refine qr_iload_n o (q_dm dm_X2_tell 51 rfl) rfl ?_
                    refine qr_ishl o (q_dm dm_X2_tell 52 rfl) ?_
                    refine qr_ior o (q_dm dm_X2_tell 53 rfl) ?_
                    refine qr_putf (kf := 3) o cf_X2 (sh3 j r) rfl (Nat.le_of_ble_eq_true rfl) fl_X2_21 rfl (by decide +kernel) (q_dm dm_X2_tell 54 rfl) ?_
                    refine qr_letm (fun m8 => ?_)
                    refine qr_iconst o (q_dm dm_X2_tell 55 rfl) ic_1 ?_
                    exact qr_iret o rfl (by decide) (q_dm dm_X2_tell 56 rfl)
                  · refine qr_iconst o (q_dm dm_X2_tell 30 rfl) ic_0 ?_
                    exact qr_iret o rfl (by decide) (q_dm dm_X2_tell 31 rfl)
          · refine qr_iconst o (q_dm dm_X2_tell 15 rfl) ic_0 ?_
            exact qr_iret o rfl (by decide) (q_dm dm_X2_tell 16 rfl)

theorem a_X2_tell (g : qG) (l : Launch) (n : Nat) (j r : Nat) (hj : q_isLaw j) (hr : q_isLaw r) (a1 a2 a3 a4 : Int32) (M : qM) : qAM g l 1 zX2_tell (qL j r) [.inr (some 3), .inl a1, .inl a2, .inl a3, .inl a4] (qL j r, M) (f_X2_tell n a1 a2 a3 a4 M) :=
  qAM.of zv_X2_tell.1 (by show 5 ≤ 5; decide) (fun k hk o => w_X2_tell n j r hj hr o a1 a2 a3 a4 M)
def tb_X11_kind : List (Nat × Instr × Nat) := [(0, (.aload_n 0, 1)), (1, (.getfield 19, 3)), (4, (.iload_n 1, 1)), (5, (.iload_n 2, 1)), (6, (.iload_n 3, 1)), (7, (.iload 4, 2)), (9, (.invokevirtual 99, 3)), (12, (.ireturn, 1))]
theorem dm_X11_kind : ∀ q ∈ tb_X11_kind, decode zX11_kind.2.1 q.1 = .ok q.2 := by decide +kernel
def f_X11_kind (n : Nat) (a1 a2 a3 a4 : Int32) (M : qM) : qR :=
  qc (f_X2_tell n a1 a2 a3 a4 M) (fun r1 m2 => qb r1 (some (r1, m2)))
set_option maxRecDepth 4000 in
theorem w_X11_kind {g : qG} {k : qK} (n : Nat) (j r : Nat) (hj : q_isLaw j) (hr : q_isLaw r) (o : qOk g 2 zX11_kind k) (a1 a2 a3 a4 : Int32) (M : qM) : qAE g k zX11_kind (qL j r) 0 [some (.inr (some 0)), some (.inl a1), some (.inl a2), some (.inl a3), some (.inl a4)] [] (qL j r, M) (f_X11_kind n a1 a2 a3 a4 M) := by
  unfold f_X11_kind
  refine qr_aload_n o (q_dm dm_X11_kind 0 rfl) rfl ?_
  refine qr_getr (kf := 1) o cf_X11 (sh0 j r) rfl (Nat.le_of_ble_eq_true rfl) fl_X11_19 (q_dm dm_X11_kind 1 rfl) ?_
  refine qr_iload_n o (q_dm dm_X11_kind 2 rfl) rfl ?_
  refine qr_iload_n o (q_dm dm_X11_kind 3 rfl) rfl ?_
  refine qr_iload_n o (q_dm dm_X11_kind 4 rfl) rfl ?_
  refine qr_iload o (q_dm dm_X11_kind 5 rfl) rfl ?_
  refine qr_callv_i (As := [.inl a1, .inl a2, .inl a3, .inl a4]) (S := []) o (a_X2_tell g k.2.1 n j r hj hr a1 a2 a3 a4 M) (Nat.le_of_ble_eq_true rfl) zv_X2_tell rfl cf_X2 (sh3 j r) ml_X11_99 (Nat.le_of_ble_eq_true rfl) (q_dm dm_X11_kind 6 rfl) (fun r1 m2 => ?_)
  exact qr_zret o rfl (q_dm dm_X11_kind 7 rfl)

theorem a_X11_kind (g : qG) (l : Launch) (n : Nat) (j r : Nat) (hj : q_isLaw j) (hr : q_isLaw r) (a1 a2 a3 a4 : Int32) (M : qM) : qAM g l 2 zX11_kind (qL j r) [.inr (some 0), .inl a1, .inl a2, .inl a3, .inl a4] (qL j r, M) (f_X11_kind n a1 a2 a3 a4 M) :=
  qAM.of zv_X11_kind.1 (by show 5 ≤ 5; decide) (fun k hk o => w_X11_kind n j r hj hr o a1 a2 a3 a4 M)
def tb_X3_clear : List (Nat × Instr × Nat) := [(0, (.aload_n 0, 1)), (1, (.iconst 0, 1)), (2, (.putfield 30, 3)), (5, (.aload_n 0, 1)), (6, (.iconst 0, 1)), (7, (.putfield 34, 3)), (10, (.return_, 1))]
theorem dm_X3_clear : ∀ q ∈ tb_X3_clear, decode zX3_clear.2.1 q.1 = .ok q.2 := by decide +kernel
def f_X3_clear (n : Nat) (w : Nat) (M : qM) : qR :=
  qlm (mu M w 6 (0 : Int32)) (fun m1 => qlm (mu m1 w 7 (0 : Int32)) (fun m2 => some (0, m2)))
set_option maxRecDepth 4000 in
theorem w_X3_clear {g : qG} {k : qK} (n : Nat) (j r : Nat) (hj : q_isLaw j) (hr : q_isLaw r) {w : Nat} (hw : q_isLaw w) (o : qOk g 0 zX3_clear k) (M : qM) : qAE g k zX3_clear (qL j r) 0 [some (.inr (some w))] [] (qL j r, M) (f_X3_clear n w  M) := by
  unfold f_X3_clear
  refine qr_aload_n o (q_dm dm_X3_clear 0 rfl) rfl ?_
  refine qr_iconst o (q_dm dm_X3_clear 1 rfl) ic_0 ?_
  refine qr_putf (kf := 6) o cf_X3 (shW0 j r hw) rfl (Nat.le_of_ble_eq_true rfl) fl_X3_30 rfl (by decide +kernel) (q_dm dm_X3_clear 2 rfl) ?_
  refine qr_letm (fun m1 => ?_)
  refine qr_aload_n o (q_dm dm_X3_clear 3 rfl) rfl ?_
  refine qr_iconst o (q_dm dm_X3_clear 4 rfl) ic_0 ?_
  refine qr_putf (kf := 7) o cf_X3 (shW0 j r hw) rfl (Nat.le_of_ble_eq_true rfl) fl_X3_34 rfl (by decide +kernel) (q_dm dm_X3_clear 5 rfl) ?_
  refine qr_letm (fun m2 => ?_)
  exact qr_vret o rfl (q_dm dm_X3_clear 6 rfl)

theorem a_X3_clear (g : qG) (l : Launch) (n : Nat) (j r : Nat) (hj : q_isLaw j) (hr : q_isLaw r) {w : Nat} (hw : q_isLaw w) (M : qM) : qAM g l 0 zX3_clear (qL j r) [.inr (some w)] (qL j r, M) (f_X3_clear n w  M) :=
  qAM.of zv_X3_clear.1 (by show 1 ≤ 1; decide) (fun k hk o => w_X3_clear n j r hj hr hw o  M)

