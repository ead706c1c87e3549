def tb_X7_lackedPlaces : List (Nat × Instr × Nat) := [(0, (.iconst 0, 1)), (1, (.istore 4, 2)), (3, (.iconst 0, 1)), (4, (.istore 5, 2)), (6, (.iload 5, 2)), (8, (.bipush 12, 2)), (10, (.if_icmp .ge 47, 3)), (13, (.aload_n 1, 1)), (14, (.iload_n 2, 1)), (15, (.iload_n 3, 1)), (16, (.iconst 1, 1)), (17, (.iload 5, 2)), (19, (.ishl, 1)), (20, (.iand, 1)), (21, (.invokevirtual 132, 3)), (24, (.ifCond .ne 27, 3)), (27, (.aload_n 0, 1)), (28, (.iconst 1, 1)), (29, (.iload 5, 2)), (31, (.ishl, 1)), (32, (.invokevirtual 65, 3)), (35, (.istore 6, 2)), (37, (.iload 6, 2)), (39, (.ifCond .ne 5, 3)), (42, (.iconst (-1), 1)), (43, (.ireturn, 1)), (44, (.iload 4, 2)), (46, (.iload 6, 2)), (48, (.ior, 1)), (49, (.istore 4, 2)), (51, (.iinc 5 1, 3)), (54, (.goto (-48), 3)), (57, (.iload 4, 2)), (59, (.ireturn, 1))]
theorem dm_X7_lackedPlaces : ∀ q ∈ tb_X7_lackedPlaces, decode zX7_lackedPlaces.2.1 q.1 = .ok q.2 := by decide +kernel
def b_X7_lackedPlaces_6 (n : Nat) (t : Nat) (K6 : Int32 → Int32 → Int32 → Int32 → qM → qR) (a2 a3 a4 a5 : Int32) (M : qM) : qR :=
  (if (12 : Int32) ≤ a5 then some (a4, M) else qc (f_X10_hasCounted n t a2 (a3 &&& ((1 : Int32) <<< (a5 &&& 31))) M) (fun r1 m2 => (if r1 = (0 : Int32) then qc (f_X7_toPlaces n ((1 : Int32) <<< (a5 &&& 31)) m2) (fun r4 m5 => (if r4 = (0 : Int32) then some ((-1 : Int32), m5) else ql (a4 ||| r4) (fun x6 => ql (a5 + (1 : Int32)) (fun x7 => K6 a2 a3 x6 x7 m5)))) else ql (a5 + (1 : Int32)) (fun x3 => K6 a2 a3 a4 x3 m2))))
set_option maxRecDepth 4000 in
theorem wb_X7_lackedPlaces_6 {g : qG} {k : qK} (n : Nat) (j r : Nat) (hj : q_isLaw j) (hr : q_isLaw r) {t : Nat} (ht : q_isTown t) (o : qOk g 1 zX7_lackedPlaces k) (K6 : Int32 → Int32 → Int32 → Int32 → qM → qR) (hK6 : ∀ (a2 a3 a4 a5 : Int32) (M : qM), qAE g k zX7_lackedPlaces (qL j r) 6 [some (.inr (some 56)), some (.inr (some t)), some (.inl a2), some (.inl a3), some (.inl a4), some (.inl a5), none] [] (qL j r, M) (K6 a2 a3 a4 a5 M)) (a2 a3 a4 a5 : Int32) (M : qM) : qAE g k zX7_lackedPlaces (qL j r) 6 [some (.inr (some 56)), some (.inr (some t)), some (.inl a2), some (.inl a3), some (.inl a4), some (.inl a5), none] [] (qL j r, M) (b_X7_lackedPlaces_6 n t K6 a2 a3 a4 a5 M) := by
  unfold b_X7_lackedPlaces_6
  refine qr_iload o (q_dm dm_X7_lackedPlaces 4 rfl) rfl ?_
  refine qr_bipush o (q_dm dm_X7_lackedPlaces 5 rfl) bi_12 ?_
  refine qr_icmp_ge (tgt := 57) o (q_dm dm_X7_lackedPlaces 6 rfl) (by decide) ?_ ?_
  · refine qr_iload o (q_dm dm_X7_lackedPlaces 32 rfl) rfl ?_
    exact qr_iret o rfl rfl (q_dm dm_X7_lackedPlaces 33 rfl)
  · refine qr_aload_n o (q_dm dm_X7_lackedPlaces 7 rfl) rfl ?_
    refine qr_iload_n o (q_dm dm_X7_lackedPlaces 8 rfl) rfl ?_
    refine qr_iload_n o (q_dm dm_X7_lackedPlaces 9 rfl) rfl ?_
    refine qr_iconst o (q_dm dm_X7_lackedPlaces 10 rfl) ic_1 ?_
    refine qr_iload o (q_dm dm_X7_lackedPlaces 11 rfl) rfl ?_
    refine qr_ishl o (q_dm dm_X7_lackedPlaces 12 rfl) ?_
    refine qr_iand o (q_dm dm_X7_lackedPlaces 13 rfl) ?_
    refine qr_callv_i (As := [.inl a2, .inl (a3 &&& ((1 : Int32) <<< (a5 &&& 31)))]) (S := []) o (a_X10_hasCounted g k.2.1 n j r hj hr ht a2 (a3 &&& ((1 : Int32) <<< (a5 &&& 31))) M) (Nat.le_of_ble_eq_true rfl) zv_X10_hasCounted rfl cf_X10 (shT0 j r ht) ml_X7_132 (Nat.le_of_ble_eq_true rfl) (q_dm dm_X7_lackedPlaces 14 rfl) (fun r1 m2 => ?_)
    refine qr_if_ne (tgt := 51) o (q_dm dm_X7_lackedPlaces 15 rfl) (by decide) ?_ ?_
    · refine qs_iincl2 (L' := fun x3 => [some (.inr (some 56)), some (.inr (some t)), some (.inl a2), some (.inl a3), some (.inl a4), some (.inl x3), none]) o (q_dm dm_X7_lackedPlaces 30 rfl) rfl ic_1 (Nat.le_of_ble_eq_true rfl) (fun _ => rfl) (fun x3 => ?_)
      refine qr_goto (tgt := 6) o (q_dm dm_X7_lackedPlaces 31 rfl) (by decide) ?_
      exact qr_loc (q_leS (q_leS (q_leS (q_leS (q_leS (q_leS (q_leN q_le0))))))) (hK6 a2 a3 a4 x3 m2)
    · refine qr_aload_n o (q_dm dm_X7_lackedPlaces 16 rfl) rfl ?_
      refine qr_iconst o (q_dm dm_X7_lackedPlaces 17 rfl) ic_1 ?_
      refine qr_iload o (q_dm dm_X7_lackedPlaces 18 rfl) rfl ?_
      refine qr_ishl o (q_dm dm_X7_lackedPlaces 19 rfl) ?_
      refine qr_callv_i (As := [.inl ((1 : Int32) <<< (a5 &&& 31))]) (S := []) o (a_X7_toPlaces g k.2.1 n j r hj hr ((1 : Int32) <<< (a5 &&& 31)) m2) (Nat.le_of_ble_eq_true rfl) zv_X7_toPlaces rfl cf_X7 (sh56 j r) ml_X7_65 (Nat.le_of_ble_eq_true rfl) (q_dm dm_X7_lackedPlaces 20 rfl) (fun r4 m5 => ?_)
      refine qs_istore (L' := [some (.inr (some 56)), some (.inr (some t)), some (.inl a2), some (.inl a3), some (.inl a4), some (.inl a5), some (.inl r4)]) o (q_dm dm_X7_lackedPlaces 21 rfl) (Nat.le_of_ble_eq_true rfl) rfl ?_
      refine qr_iload o (q_dm dm_X7_lackedPlaces 22 rfl) rfl ?_
      refine qr_if_ne (tgt := 44) o (q_dm dm_X7_lackedPlaces 23 rfl) (by decide) ?_ ?_
      · refine qr_iload o (q_dm dm_X7_lackedPlaces 26 rfl) rfl ?_
        refine qr_iload o (q_dm dm_X7_lackedPlaces 27 rfl) rfl ?_
        refine qr_ior o (q_dm dm_X7_lackedPlaces 28 rfl) ?_
        refine qr_lt (fun x6 => ?_)
        refine qs_istore (L' := [some (.inr (some 56)), some (.inr (some t)), some (.inl a2), some (.inl a3), some (.inl x6), some (.inl a5), some (.inl r4)]) o (q_dm dm_X7_lackedPlaces 29 rfl) (Nat.le_of_ble_eq_true rfl) rfl ?_
        refine qs_iincl2 (L' := fun x7 => [some (.inr (some 56)), some (.inr (some t)), some (.inl a2), some (.inl a3), some (.inl x6), some (.inl x7), some (.inl r4)]) o (q_dm dm_X7_lackedPlaces 30 rfl) rfl ic_1 (Nat.le_of_ble_eq_true rfl) (fun _ => rfl) (fun x7 => ?_)
        refine qr_goto (tgt := 6) o (q_dm dm_X7_lackedPlaces 31 rfl) (by decide) ?_
        exact qr_loc (q_leS (q_leS (q_leS (q_leS (q_leS (q_leS (q_leN q_le0))))))) (hK6 a2 a3 x6 x7 m5)
      · refine qr_iconst o (q_dm dm_X7_lackedPlaces 24 rfl) ic_m1 ?_
        exact qr_iret o rfl rfl (q_dm dm_X7_lackedPlaces 25 rfl)

def f_X7_lackedPlaces_6 (n : Nat) (t : Nat) : Nat → Int32 → Int32 → Int32 → Int32 → qM → qR
  | 0, _, _, _, _, _ => none
  | m + 1, a2, a3, a4, a5, M => b_X7_lackedPlaces_6 n t (f_X7_lackedPlaces_6 n t m) a2 a3 a4 a5 M
theorem w_X7_lackedPlaces_6 {g : qG} {k : qK} (n : Nat) (j r : Nat) (hj : q_isLaw j) (hr : q_isLaw r) {t : Nat} (ht : q_isTown t) (o : qOk g 1 zX7_lackedPlaces k) : ∀ (m : Nat) (a2 a3 a4 a5 : Int32) (M : qM), qAE g k zX7_lackedPlaces (qL j r) 6 [some (.inr (some 56)), some (.inr (some t)), some (.inl a2), some (.inl a3), some (.inl a4), some (.inl a5), none] [] (qL j r, M) (f_X7_lackedPlaces_6 n t m a2 a3 a4 a5 M) := by
  intro m
  induction m with
  | zero =>
    intro a2 a3 a4 a5 M
    exact qr_none
  | succ m ih =>
    intro a2 a3 a4 a5 M
    exact wb_X7_lackedPlaces_6 n j r hj hr ht o (f_X7_lackedPlaces_6 n t m) ih a2 a3 a4 a5 M
def f_X7_lackedPlaces (n : Nat) (t : Nat) (a2 a3 : Int32) (M : qM) : qR :=
  f_X7_lackedPlaces_6 n t n a2 a3 (0 : Int32) (0 : Int32) M
set_option maxRecDepth 4000 in
theorem w_X7_lackedPlaces {g : qG} {k : qK} (n : Nat) (j r : Nat) (hj : q_isLaw j) (hr : q_isLaw r) {t : Nat} (ht : q_isTown t) (o : qOk g 1 zX7_lackedPlaces k) (a2 a3 : Int32) (M : qM) : qAE g k zX7_lackedPlaces (qL j r) 0 [some (.inr (some 56)), some (.inr (some t)), some (.inl a2), some (.inl a3), none, none, none] [] (qL j r, M) (f_X7_lackedPlaces n t a2 a3 M) := by
  unfold f_X7_lackedPlaces
  refine qr_iconst o (q_dm dm_X7_lackedPlaces 0 rfl) ic_0 ?_
  refine qs_istore (L' := [some (.inr (some 56)), some (.inr (some t)), some (.inl a2), some (.inl a3), some (.inl (0 : Int32)), none, none]) o (q_dm dm_X7_lackedPlaces 1 rfl) (Nat.le_of_ble_eq_true rfl) rfl ?_
  refine qr_iconst o (q_dm dm_X7_lackedPlaces 2 rfl) ic_0 ?_
  refine qs_istore (L' := [some (.inr (some 56)), some (.inr (some t)), some (.inl a2), some (.inl a3), some (.inl (0 : Int32)), some (.inl (0 : Int32)), none]) o (q_dm dm_X7_lackedPlaces 3 rfl) (Nat.le_of_ble_eq_true rfl) rfl ?_
  exact qr_loc (q_leS (q_leS (q_leS (q_leS (q_leS (q_leS (q_leN q_le0))))))) (w_X7_lackedPlaces_6 n j r hj hr ht o n a2 a3 (0 : Int32) (0 : Int32) M)

theorem a_X7_lackedPlaces (g : qG) (l : Launch) (n : Nat) (j r : Nat) (hj : q_isLaw j) (hr : q_isLaw r) {t : Nat} (ht : q_isTown t) (a2 a3 : Int32) (M : qM) : qAM g l 1 zX7_lackedPlaces (qL j r) [.inr (some 56), .inr (some t), .inl a2, .inl a3] (qL j r, M) (f_X7_lackedPlaces n t a2 a3 M) :=
  qAM.of zv_X7_lackedPlaces.1 (by show 4 ≤ 7; decide) (fun k hk o => w_X7_lackedPlaces n j r hj hr ht o a2 a3 M)
def tb_X7_prepare : List (Nat × Instr × Nat) := [(0, (.aload_n 0, 1)), (1, (.iconst 0, 1)), (2, (.putfield 45, 3)), (5, (.iconst 0, 1)), (6, (.istore 5, 2)), (8, (.iload 5, 2)), (10, (.bipush 12, 2)), (12, (.if_icmp .ge 70, 3)), (15, (.aload_n 0, 1)), (16, (.getfield 45, 3)), (19, (.iconst 4, 1)), (20, (.if_icmp .ge 62, 3)), (23, (.iload_n 3, 1)), (24, (.iload 5, 2)), (26, (.ishr, 1)), (27, (.iconst 1, 1)), (28, (.iand, 1)), (29, (.iconst 1, 1)), (30, (.if_icmp .ne 46, 3)), (33, (.aload_n 0, 1)), (34, (.iload 5, 2)), (36, (.iload 4, 2)), (38, (.if_icmp .ne 10, 3)), (41, (.aload_n 0, 1)), (42, (.getfield 45, 3)), (45, (.goto 7, 3)), (48, (.aload_n 0, 1)), (49, (.getfield 49, 3)), (52, (.putfield 49, 3)), (55, (.aload_n 0, 1)), (56, (.getfield 9, 3)), (59, (.aload_n 0, 1)), (60, (.getfield 45, 3)), (63, (.iload 5, 2)), (65, (.iastore, 1)), (66, (.aload_n 0, 1)), (67, (.dup, 1)), (68, (.getfield 45, 3)), (71, (.iconst 1, 1)), (72, (.iadd, 1)), (73, (.putfield 45, 3)), (76, (.iinc 5 1, 3)), (79, (.goto (-71), 3)), (82, (.iconst 0, 1)), (83, (.istore 5, 2)), (85, (.iload 5, 2)), (87, (.aload_n 0, 1)), (88, (.getfield 45, 3)), (91, (.if_icmp .ge 92, 3)), (94, (.aload_n 0, 1)), (95, (.getfield 37, 3)), (98, (.aload_n 0, 1)), (99, (.getfield 9, 3)), (102, (.iload 5, 2)), (104, (.iaload, 1)), (105, (.aload_n 1, 1)), (106, (.getfield 52, 3)), (109, (.invokevirtual 57, 3)), (112, (.istore 6, 2)), (114, (.aload_n 0, 1)), (115, (.getfield 15, 3)), (118, (.iload 5, 2)), (120, (.aload_n 1, 1)), (121, (.iload_n 2, 1)), (122, (.iload 6, 2)), (124, (.invokevirtual 62, 3)), (127, (.iastore, 1)), (128, (.aload_n 0, 1)), (129, (.getfield 18, 3)), (132, (.iload 5, 2)), (134, (.aload_n 0, 1)), (135, (.iload 6, 2)), (137, (.invokevirtual 65, 3)), (140, (.iastore, 1)), (141, (.aload_n 0, 1)), (142, (.getfield 21, 3)), (145, (.iload 5, 2)), (147, (.aload_n 0, 1)), (148, (.aload_n 1, 1)), (149, (.iload_n 2, 1)), (150, (.aload_n 0, 1)), (151, (.getfield 33, 3)), (154, (.getfield 69, 3)), (157, (.aload_n 0, 1)), (158, (.getfield 9, 3)), (161, (.iload 5, 2)), (163, (.iaload, 1)), (164, (.iaload, 1)), (165, (.invokevirtual 74, 3)), (168, (.iastore, 1)), (169, (.aload_n 0, 1)), (170, (.aload_n 1, 1)), (171, (.iload_n 2, 1)), (172, (.iload 5, 2)), (174, (.invokevirtual 78, 3)), (177, (.iinc 5 1, 3)), (180, (.goto (-95), 3)), (183, (.aload_n 0, 1)), (184, (.getfield 30, 3)), (187, (.iconst (-1), 1)), (188, (.invokestatic 82, 3)), (191, (.return_, 1))]
theorem dm_X7_prepare : ∀ q ∈ tb_X7_prepare, decode zX7_prepare.2.1 q.1 = .ok q.2 := by decide +kernel
def b_X7_prepare_85 (n : Nat) (t j : Nat) (K85 : Int32 → Int32 → qM → qR) (a2 a5 : Int32) (M : qM) : qR :=
  (if (M 56 10) ≤ a5 then qc (f_J7_fill_53178 n 63 8192 (-1 : Int32) M) (fun _ m1 => some (0, m1)) else qg a5 4 (qc (f_X1_alikes n j (M 57 a5.toNatClampNeg) (M t 9) M) (fun r2 m3 => qc (f_X10_triesAmong n t a2 r2 m3) (fun r4 m5 => qg a5 4 (qlm (mu m5 58 a5.toNatClampNeg r4) (fun m6 => qc (f_X7_toPlaces n r2 m6) (fun r7 m8 => qg a5 4 (qlm (mu m8 59 a5.toNatClampNeg r7) (fun m9 => qg a5 4 (qg (m9 57 a5.toNatClampNeg) 12 (qc (f_X7_lackedPlaces n t a2 (m9 6 (m9 57 a5.toNatClampNeg).toNatClampNeg) m9) (fun r10 m11 => qg a5 4 (qlm (mu m11 60 a5.toNatClampNeg r10) (fun m12 => qc (f_X7_askVoids n t j a2 a5 m12) (fun _ m13 => ql (a5 + (1 : Int32)) (fun x14 => K85 a2 x14 m13))))))))))))))))
set_option maxRecDepth 4000 in
theorem wb_X7_prepare_85 {g : qG} {k : qK} (n : Nat) (j r : Nat) (hj : q_isLaw j) (hr : q_isLaw r) {t : Nat} (ht : q_isTown t) (o : qOk g 5 zX7_prepare k) (K85 : Int32 → Int32 → qM → qR) (hK85 : ∀ (a2 a5 : Int32) (M : qM), qAE g k zX7_prepare (qL j r) 85 [some (.inr (some 56)), some (.inr (some t)), some (.inl a2), none, none, some (.inl a5), none] [] (qL j r, M) (K85 a2 a5 M)) (a2 a5 : Int32) (M : qM) : qAE g k zX7_prepare (qL j r) 85 [some (.inr (some 56)), some (.inr (some t)), some (.inl a2), none, none, some (.inl a5), none] [] (qL j r, M) (b_X7_prepare_85 n t j K85 a2 a5 M) := by
  unfold b_X7_prepare_85
  refine qr_iload o (q_dm dm_X7_prepare 45 rfl) rfl ?_
  refine qr_aload_n o (q_dm dm_X7_prepare 46 rfl) rfl ?_
  refine qr_getf (kf := 10) o cf_X7 (sh56 j r) rfl (Nat.le_of_ble_eq_true rfl) fl_X7_45 (q_dm dm_X7_prepare 47 rfl) ?_
  refine qr_icmp_ge (tgt := 183) o (q_dm dm_X7_prepare 48 rfl) (by decide) ?_ ?_
  · refine qr_aload_n o (q_dm dm_X7_prepare 97 rfl) rfl ?_
    refine qr_getr (kf := 9) o cf_X7 (sh56 j r) rfl (Nat.le_of_ble_eq_true rfl) fl_X7_30 (q_dm dm_X7_prepare 98 rfl) ?_
    refine qr_iconst o (q_dm dm_X7_prepare 99 rfl) ic_m1 ?_
    refine qr_calls_v (As := [.inr (some 63), .inl (-1 : Int32)]) (S := []) o (a_J7_fill_53178 g k.2.1 n j r hj hr (sh63 j r) (-1 : Int32) M) (Nat.le_of_ble_eq_true rfl) zs_J7_fill_53178 rfl ml_X7_82 (Nat.le_of_ble_eq_true rfl) (q_dm dm_X7_prepare 100 rfl) (fun _ m1 => ?_)
    exact qr_vret o rfl (q_dm dm_X7_prepare 101 rfl)
  · refine qr_aload_n o (q_dm dm_X7_prepare 49 rfl) rfl ?_
    refine qr_getr (kf := 1) o cf_X7 (sh56 j r) rfl (Nat.le_of_ble_eq_true rfl) fl_X7_37 (q_dm dm_X7_prepare 50 rfl) ?_
    refine qr_aload_n o (q_dm dm_X7_prepare 51 rfl) rfl ?_
    refine qr_getr (kf := 3) o cf_X7 (sh56 j r) rfl (Nat.le_of_ble_eq_true rfl) fl_X7_9 (q_dm dm_X7_prepare 52 rfl) ?_
    refine qr_iload o (q_dm dm_X7_prepare 53 rfl) rfl ?_
    refine qr_iald o (sh57 j r) (q_dm dm_X7_prepare 54 rfl) ?_
    refine qr_aload_n o (q_dm dm_X7_prepare 55 rfl) rfl ?_
    refine qr_getf (kf := 9) o cf_X10 (shT0 j r ht) rfl (Nat.le_of_ble_eq_true rfl) fl_X7_52 (q_dm dm_X7_prepare 56 rfl) ?_
    refine qr_callv_i (As := [.inl (M 57 a5.toNatClampNeg), .inl (M t 9)]) (S := []) o (a_X1_alikes g k.2.1 n j r hj hr (M 57 a5.toNatClampNeg) (M t 9) M) (Nat.le_of_ble_eq_true rfl) zv_X1_alikes rfl cf_X1 (sh34 j r) ml_X7_57 (Nat.le_of_ble_eq_true rfl) (q_dm dm_X7_prepare 57 rfl) (fun r2 m3 => ?_)
    refine qs_istore (L' := [some (.inr (some 56)), some (.inr (some t)), some (.inl a2), none, none, some (.inl a5), some (.inl r2)]) o (q_dm dm_X7_prepare 58 rfl) (Nat.le_of_ble_eq_true rfl) rfl ?_
    refine qr_aload_n o (q_dm dm_X7_prepare 59 rfl) rfl ?_
    refine qr_getr (kf := 4) o cf_X7 (sh56 j r) rfl (Nat.le_of_ble_eq_true rfl) fl_X7_15 (q_dm dm_X7_prepare 60 rfl) ?_
    refine qr_iload o (q_dm dm_X7_prepare 61 rfl) rfl ?_
    refine qr_aload_n o (q_dm dm_X7_prepare 62 rfl) rfl ?_
    refine qr_iload_n o (q_dm dm_X7_prepare 63 rfl) rfl ?_
    refine qr_iload o (q_dm dm_X7_prepare 64 rfl) rfl ?_
    refine qr_callv_i (As := [.inl a2, .inl r2]) (S := [.inl a5, .inr (some 58)]) o (a_X10_triesAmong g k.2.1 n j r hj hr ht a2 r2 m3) (Nat.le_of_ble_eq_true rfl) zv_X10_triesAmong rfl cf_X10 (shT0 j r ht) ml_X7_62 (Nat.le_of_ble_eq_true rfl) (q_dm dm_X7_prepare 65 rfl) (fun r4 m5 => ?_)
    refine qr_iast o (sh58 j r) (q_dm dm_X7_prepare 66 rfl) ?_
    refine qr_letm (fun m6 => ?_)
    refine qr_aload_n o (q_dm dm_X7_prepare 67 rfl) rfl ?_
    refine qr_getr (kf := 5) o cf_X7 (sh56 j r) rfl (Nat.le_of_ble_eq_true rfl) fl_X7_18 (q_dm dm_X7_prepare 68 rfl) ?_
    refine qr_iload o (q_dm dm_X7_prepare 69 rfl) rfl ?_
    refine qr_aload_n o (q_dm dm_X7_prepare 70 rfl) rfl ?_
    refine qr_iload o (q_dm dm_X7_prepare 71 rfl) rfl ?_
    refine qr_callv_i (As := [.inl r2]) (S := [.inl a5, .inr (some 59)]) o (a_X7_toPlaces g k.2.1 n j r hj hr r2 m6) (Nat.le_of_ble_eq_true rfl) zv_X7_toPlaces rfl cf_X7 (sh56 j r) ml_X7_65 (Nat.le_of_ble_eq_true rfl) (q_dm dm_X7_prepare 72 rfl) (fun r7 m8 => ?_)
    refine qr_iast o (sh59 j r) (q_dm dm_X7_prepare 73 rfl) ?_
    refine qr_letm (fun m9 => ?_)
    refine qr_aload_n o (q_dm dm_X7_prepare 74 rfl) rfl ?_
    refine qr_getr (kf := 6) o cf_X7 (sh56 j r) rfl (Nat.le_of_ble_eq_true rfl) fl_X7_21 (q_dm dm_X7_prepare 75 rfl) ?_
    refine qr_iload o (q_dm dm_X7_prepare 76 rfl) rfl ?_
    refine qr_aload_n o (q_dm dm_X7_prepare 77 rfl) rfl ?_
    refine qr_aload_n o (q_dm dm_X7_prepare 78 rfl) rfl ?_
    refine qr_iload_n o (q_dm dm_X7_prepare 79 rfl) rfl ?_
    refine qr_aload_n o (q_dm dm_X7_prepare 80 rfl) rfl ?_
    refine qr_getr (kf := 0) o cf_X7 (sh56 j r) rfl (Nat.le_of_ble_eq_true rfl) fl_X7_33 (q_dm dm_X7_prepare 81 rfl) ?_
    refine qr_getr (kf := 2) o cf_X2 (sh3 j r) rfl (Nat.le_of_ble_eq_true rfl) fl_X7_69 (q_dm dm_X7_prepare 82 rfl) ?_
    refine qr_aload_n o (q_dm dm_X7_prepare 83 rfl) rfl ?_
    refine qr_getr (kf := 3) o cf_X7 (sh56 j r) rfl (Nat.le_of_ble_eq_true rfl) fl_X7_9 (q_dm dm_X7_prepare 84 rfl) ?_
    refine qr_iload o (q_dm dm_X7_prepare 85 rfl) rfl ?_
    refine qr_iald o (sh57 j r) (q_dm dm_X7_prepare 86 rfl) ?_
    refine qr_iald o (sh6 j r) (q_dm dm_X7_prepare 87 rfl) ?_
    refine qr_callv_i (As := [.inr (some t), .inl a2, .inl (m9 6 (m9 57 a5.toNatClampNeg).toNatClampNeg)]) (S := [.inl a5, .inr (some 60)]) o (a_X7_lackedPlaces g k.2.1 n j r hj hr ht a2 (m9 6 (m9 57 a5.toNatClampNeg).toNatClampNeg) m9) (Nat.le_of_ble_eq_true rfl) zv_X7_lackedPlaces rfl cf_X7 (sh56 j r) ml_X7_74 (Nat.le_of_ble_eq_true rfl) (q_dm dm_X7_prepare 88 rfl) (fun r10 m11 => ?_)
    refine qr_iast o (sh60 j r) (q_dm dm_X7_prepare 89 rfl) ?_
    refine qr_letm (fun m12 => ?_)
    refine qr_aload_n o (q_dm dm_X7_prepare 90 rfl) rfl ?_
    refine qr_aload_n o (q_dm dm_X7_prepare 91 rfl) rfl ?_
    refine qr_iload_n o (q_dm dm_X7_prepare 92 rfl) rfl ?_
    refine qr_iload o (q_dm dm_X7_prepare 93 rfl) rfl ?_
    refine qr_callv_v (As := [.inr (some t), .inl a2, .inl a5]) (S := []) o (a_X7_askVoids g k.2.1 n j r hj hr ht a2 a5 m12) (Nat.le_of_ble_eq_true rfl) zv_X7_askVoids rfl cf_X7 (sh56 j r) ml_X7_78 (Nat.le_of_ble_eq_true rfl) (q_dm dm_X7_prepare 94 rfl) (fun _ m13 => ?_)
    refine qs_iincl2 (L' := fun x14 => [some (.inr (some 56)), some (.inr (some t)), some (.inl a2), none, none, some (.inl x14), some (.inl r2)]) o (q_dm dm_X7_prepare 95 rfl) rfl ic_1 (Nat.le_of_ble_eq_true rfl) (fun _ => rfl) (fun x14 => ?_)
    refine qr_goto (tgt := 85) o (q_dm dm_X7_prepare 96 rfl) (by decide) ?_
    exact qr_loc (q_leS (q_leS (q_leS (q_leN (q_leN (q_leS (q_leN q_le0))))))) (hK85 a2 x14 m13)

def f_X7_prepare_85 (n : Nat) (t j : Nat) : Nat → Int32 → Int32 → qM → qR
  | 0, _, _, _ => none
  | m + 1, a2, a5, M => b_X7_prepare_85 n t j (f_X7_prepare_85 n t j m) a2 a5 M
theorem w_X7_prepare_85 {g : qG} {k : qK} (n : Nat) (j r : Nat) (hj : q_isLaw j) (hr : q_isLaw r) {t : Nat} (ht : q_isTown t) (o : qOk g 5 zX7_prepare k) : ∀ (m : Nat) (a2 a5 : Int32) (M : qM), qAE g k zX7_prepare (qL j r) 85 [some (.inr (some 56)), some (.inr (some t)), some (.inl a2), none, none, some (.inl a5), none] [] (qL j r, M) (f_X7_prepare_85 n t j m a2 a5 M) := by
  intro m
  induction m with
  | zero =>
    intro a2 a5 M
    exact qr_none
  | succ m ih =>
    intro a2 a5 M
    exact wb_X7_prepare_85 n j r hj hr ht o (f_X7_prepare_85 n t j m) ih a2 a5 M
def f_X7_prepare_52 (n : Nat) (t j : Nat) (K8 : Int32 → Int32 → Int32 → Int32 → qM → qR) (a2 a3 a4 a5 s1 : Int32) (M : qM) : qR :=
  qlm (mu M 56 11 s1) (fun m1 => qg (m1 56 10) 4 (qlm (mu m1 57 (m1 56 10).toNatClampNeg a5) (fun m2 => qlm (mu m2 56 10 ((m2 56 10) + (1 : Int32))) (fun m3 => ql (a5 + (1 : Int32)) (fun x4 => K8 a2 a3 a4 x4 m3)))))
set_option maxRecDepth 4000 in
theorem w_X7_prepare_52 {g : qG} {k : qK} (n : Nat) (j r : Nat) (hj : q_isLaw j) (hr : q_isLaw r) {t : Nat} (ht : q_isTown t) (o : qOk g 5 zX7_prepare k) (K8 : Int32 → Int32 → Int32 → Int32 → qM → qR) (hK8 : ∀ (a2 a3 a4 a5 : Int32) (M : qM), qAE g k zX7_prepare (qL j r) 8 [some (.inr (some 56)), some (.inr (some t)), some (.inl a2), some (.inl a3), some (.inl a4), some (.inl a5), none] [] (qL j r, M) (K8 a2 a3 a4 a5 M)) (a2 a3 a4 a5 s1 : Int32) (M : qM) : qAE g k zX7_prepare (qL j r) 52 [some (.inr (some 56)), some (.inr (some t)), some (.inl a2), some (.inl a3), some (.inl a4), some (.inl a5), none] [.inl s1, .inr (some 56)] (qL j r, M) (f_X7_prepare_52 n t j K8 a2 a3 a4 a5 s1 M) := by
  unfold f_X7_prepare_52
  refine qr_putf (kf := 11) o cf_X7 (sh56 j r) rfl (Nat.le_of_ble_eq_true rfl) fl_X7_49 rfl (by decide +kernel) (q_dm dm_X7_prepare 28 rfl) ?_
  refine qr_letm (fun m1 => ?_)
  refine qr_aload_n o (q_dm dm_X7_prepare 29 rfl) rfl ?_
  refine qr_getr (kf := 3) o cf_X7 (sh56 j r) rfl (Nat.le_of_ble_eq_true rfl) fl_X7_9 (q_dm dm_X7_prepare 30 rfl) ?_
  refine qr_aload_n o (q_dm dm_X7_prepare 31 rfl) rfl ?_
  refine qr_getf (kf := 10) o cf_X7 (sh56 j r) rfl (Nat.le_of_ble_eq_true rfl) fl_X7_45 (q_dm dm_X7_prepare 32 rfl) ?_
  refine qr_iload o (q_dm dm_X7_prepare 33 rfl) rfl ?_
  refine qr_iast o (sh57 j r) (q_dm dm_X7_prepare 34 rfl) ?_
  refine qr_letm (fun m2 => ?_)
  refine qr_aload_n o (q_dm dm_X7_prepare 35 rfl) rfl ?_
  refine qr_dup o (q_dm dm_X7_prepare 36 rfl) ?_
  refine qr_getf (kf := 10) o cf_X7 (sh56 j r) rfl (Nat.le_of_ble_eq_true rfl) fl_X7_45 (q_dm dm_X7_prepare 37 rfl) ?_
  refine qr_iconst o (q_dm dm_X7_prepare 38 rfl) ic_1 ?_
  refine qr_iadd o (q_dm dm_X7_prepare 39 rfl) ?_
  refine qr_putf (kf := 10) o cf_X7 (sh56 j r) rfl (Nat.le_of_ble_eq_true rfl) fl_X7_45 rfl (by decide +kernel) (q_dm dm_X7_prepare 40 rfl) ?_
  refine qr_letm (fun m3 => ?_)
  refine qs_iincl2 (L' := fun x4 => [some (.inr (some 56)), some (.inr (some t)), some (.inl a2), some (.inl a3), some (.inl a4), some (.inl x4), none]) o (q_dm dm_X7_prepare 41 rfl) rfl ic_1 (Nat.le_of_ble_eq_true rfl) (fun _ => rfl) (fun x4 => ?_)
  refine qr_goto (tgt := 8) o (q_dm dm_X7_prepare 42 rfl) (by decide) ?_
  exact qr_loc (q_leS (q_leS (q_leS (q_leS (q_leS (q_leS (q_leN q_le0))))))) (hK8 a2 a3 a4 x4 m3)

def b_X7_prepare_8 (n : Nat) (t j : Nat) (K8 : Int32 → Int32 → Int32 → Int32 → qM → qR) (a2 a3 a4 a5 : Int32) (M : qM) : qR :=
  (if (12 : Int32) ≤ a5 then f_X7_prepare_85 n t j n a2 (0 : Int32) M else (if (4 : Int32) ≤ (M 56 10) then f_X7_prepare_85 n t j n a2 (0 : Int32) M else (if ((a3 >>> (a5 &&& 31)) &&& (1 : Int32)) = (1 : Int32) then (if a5 = a4 then f_X7_prepare_52 n t j K8 a2 a3 a4 a5 (M 56 10) M else f_X7_prepare_52 n t j K8 a2 a3 a4 a5 (M 56 11) M) else ql (a5 + (1 : Int32)) (fun x1 => K8 a2 a3 a4 x1 M))))
set_option maxRecDepth 4000 in
theorem wb_X7_prepare_8 {g : qG} {k : qK} (n : Nat) (j r : Nat) (hj : q_isLaw j) (hr : q_isLaw r) {t : Nat} (ht : q_isTown t) (o : qOk g 5 zX7_prepare k) (K8 : Int32 → Int32 → Int32 → Int32 → qM → qR) (hK8 : ∀ (a2 a3 a4 a5 : Int32) (M : qM), qAE g k zX7_prepare (qL j r) 8 [some (.inr (some 56)), some (.inr (some t)), some (.inl a2), some (.inl a3), some (.inl a4), some (.inl a5), none] [] (qL j r, M) (K8 a2 a3 a4 a5 M)) (a2 a3 a4 a5 : Int32) (M : qM) : qAE g k zX7_prepare (qL j r) 8 [some (.inr (some 56)), some (.inr (some t)), some (.inl a2), some (.inl a3), some (.inl a4), some (.inl a5), none] [] (qL j r, M) (b_X7_prepare_8 n t j K8 a2 a3 a4 a5 M) := by
  unfold b_X7_prepare_8
  refine qr_iload o (q_dm dm_X7_prepare 5 rfl) rfl ?_
  refine qr_bipush o (q_dm dm_X7_prepare 6 rfl) bi_12 ?_
  refine qr_icmp_ge (tgt := 82) o (q_dm dm_X7_prepare 7 rfl) (by decide) ?_ ?_
  · refine qr_iconst o (q_dm dm_X7_prepare 43 rfl) ic_0 ?_
    refine qs_istore (L' := [some (.inr (some 56)), some (.inr (some t)), some (.inl a2), some (.inl a3), some (.inl a4), some (.inl (0 : Int32)), none]) o (q_dm dm_X7_prepare 44 rfl) (Nat.le_of_ble_eq_true rfl) rfl ?_
    exact qr_loc (q_leS (q_leS (q_leS (q_leN (q_leN (q_leS (q_leN q_le0))))))) (w_X7_prepare_85 n j r hj hr ht o n a2 (0 : Int32) M)
  · refine qr_aload_n o (q_dm dm_X7_prepare 8 rfl) rfl ?_
    refine qr_getf (kf := 10) o cf_X7 (sh56 j r) rfl (Nat.le_of_ble_eq_true rfl) fl_X7_45 (q_dm dm_X7_prepare 9 rfl) ?_
    refine qr_iconst o (q_dm dm_X7_prepare 10 rfl) ic_4 ?_
    refine qr_icmp_ge (tgt := 82) o (q_dm dm_X7_prepare 11 rfl) (by decide) ?_ ?_
    · refine qr_iconst o (q_dm dm_X7_prepare 43 rfl) ic_0 ?_
      refine qs_istore (L' := [some (.inr (some 56)), some (.inr (some t)), some (.inl a2), some (.inl a3), some (.inl a4), some (.inl (0 : Int32)), none]) o (q_dm dm_X7_prepare 44 rfl) (Nat.le_of_ble_eq_true rfl) rfl ?_
      exact qr_loc (q_leS (q_leS (q_leS (q_leN (q_leN (q_leS (q_leN q_le0))))))) (w_X7_prepare_85 n j r hj hr ht o n a2 (0 : Int32) M)
    · refine qr_iload_n o (q_dm dm_X7_prepare 12 rfl) rfl ?_
      refine qr_iload o (q_dm dm_X7_prepare 13 rfl) rfl ?_
      refine qr_ishr o (q_dm dm_X7_prepare 14 rfl) ?_
      refine qr_iconst o (q_dm dm_X7_prepare 15 rfl) ic_1 ?_
      refine qr_iand o (q_dm dm_X7_prepare 16 rfl) ?_
      refine qr_iconst o (q_dm dm_X7_prepare 17 rfl) ic_1 ?_
      refine qr_icmp_ne (tgt := 76) o (q_dm dm_X7_prepare 18 rfl) (by decide) ?_ ?_
      · refine qs_iincl2 (L' := fun x1 => [some (.inr (some 56)), some (.inr (some t)), some (.inl a2), some (.inl a3), some (.inl a4), some (.inl x1), none]) o (q_dm dm_X7_prepare 41 rfl) rfl ic_1 (Nat.le_of_ble_eq_true rfl) (fun _ => rfl) (fun x1 => ?_)
        refine qr_goto (tgt := 8) o (q_dm dm_X7_prepare 42 rfl) (by decide) ?_
        exact qr_loc (q_leS (q_leS (q_leS (q_leS (q_leS (q_leS (q_leN q_le0))))))) (hK8 a2 a3 a4 x1 M)
      · refine qr_aload_n o (q_dm dm_X7_prepare 19 rfl) rfl ?_
        refine qr_iload o (q_dm dm_X7_prepare 20 rfl) rfl ?_
        refine qr_iload o (q_dm dm_X7_prepare 21 rfl) rfl ?_
        refine qr_icmp_ne (tgt := 48) o (q_dm dm_X7_prepare 22 rfl) (by decide) ?_ ?_
        · refine qr_aload_n o (q_dm dm_X7_prepare 26 rfl) rfl ?_
          refine qr_getf (kf := 11) o cf_X7 (sh56 j r) rfl (Nat.le_of_ble_eq_true rfl) fl_X7_49 (q_dm dm_X7_prepare 27 rfl) ?_
          exact qr_loc (q_leS (q_leS (q_leS (q_leS (q_leS (q_leS (q_leN q_le0))))))) (w_X7_prepare_52 n j r hj hr ht o K8 hK8 a2 a3 a4 a5 (M 56 11) M)
        · refine qr_aload_n o (q_dm dm_X7_prepare 23 rfl) rfl ?_
          refine qr_getf (kf := 10) o cf_X7 (sh56 j r) rfl (Nat.le_of_ble_eq_true rfl) fl_X7_45 (q_dm dm_X7_prepare 24 rfl) ?_
          refine qr_goto (tgt := 52) o (q_dm dm_X7_prepare 25 rfl) (by decide) ?_
          exact qr_loc (q_leS (q_leS (q_leS (q_leS (q_leS (q_leS (q_leN q_le0))))))) (w_X7_prepare_52 n j r hj hr ht o K8 hK8 a2 a3 a4 a5 (M 56 10) M)

def f_X7_prepare_8 (n : Nat) (t j : Nat) : Nat → Int32 → Int32 → Int32 → Int32 → qM → qR
  | 0, _, _, _, _, _ => none
  | m + 1, a2, a3, a4, a5, M => b_X7_prepare_8 n t j (f_X7_prepare_8 n t j m) a2 a3 a4 a5 M
theorem w_X7_prepare_8 {g : qG} {k : qK} (n : Nat) (j r : Nat) (hj : q_isLaw j) (hr : q_isLaw r) {t : Nat} (ht : q_isTown t) (o : qOk g 5 zX7_prepare k) : ∀ (m : Nat) (a2 a3 a4 a5 : Int32) (M : qM), qAE g k zX7_prepare (qL j r) 8 [some (.inr (some 56)), some (.inr (some t)), some (.inl a2), some (.inl a3), some (.inl a4), some (.inl a5), none] [] (qL j r, M) (f_X7_prepare_8 n t j m a2 a3 a4 a5 M) := by
  intro m
  induction m with
  | zero =>
    intro a2 a3 a4 a5 M
    exact qr_none
  | succ m ih =>
    intro a2 a3 a4 a5 M
    exact wb_X7_prepare_8 n j r hj hr ht o (f_X7_prepare_8 n t j m) ih a2 a3 a4 a5 M
def f_X7_prepare (n : Nat) (t j : Nat) (a2 a3 a4 : Int32) (M : qM) : qR :=
  qlm (mu M 56 10 (0 : Int32)) (fun m1 => f_X7_prepare_8 n t j n a2 a3 a4 (0 : Int32) m1)
set_option maxRecDepth 4000 in
theorem w_X7_prepare {g : qG} {k : qK} (n : Nat) (j r : Nat) (hj : q_isLaw j) (hr : q_isLaw r) {t : Nat} (ht : q_isTown t) (o : qOk g 5 zX7_prepare k) (a2 a3 a4 : Int32) (M : qM) : qAE g k zX7_prepare (qL j r) 0 [some (.inr (some 56)), some (.inr (some t)), some (.inl a2), some (.inl a3), some (.inl a4), none, none] [] (qL j r, M) (f_X7_prepare n t j a2 a3 a4 M) := by
  unfold f_X7_prepare
  refine qr_aload_n o (q_dm dm_X7_prepare 0 rfl) rfl ?_
  refine qr_iconst o (q_dm dm_X7_prepare 1 rfl) ic_0 ?_
  refine qr_putf (kf := 10) o cf_X7 (sh56 j r) rfl (Nat.le_of_ble_eq_true rfl) fl_X7_45 rfl (by decide +kernel) (q_dm dm_X7_prepare 2 rfl) ?_
  refine qr_letm (fun m1 => ?_)
  refine qr_iconst o (q_dm dm_X7_prepare 3 rfl) ic_0 ?_
  refine qs_istore (L' := [some (.inr (some 56)), some (.inr (some t)), some (.inl a2), some (.inl a3), some (.inl a4), some (.inl (0 : Int32)), none]) o (q_dm dm_X7_prepare 4 rfl) (Nat.le_of_ble_eq_true rfl) rfl ?_
  exact qr_loc (q_leS (q_leS (q_leS (q_leS (q_leS (q_leS (q_leN q_le0))))))) (w_X7_prepare_8 n j r hj hr ht o n a2 a3 a4 (0 : Int32) m1)

theorem a_X7_prepare (g : qG) (l : Launch) (n : Nat) (j r : Nat) (hj : q_isLaw j) (hr : q_isLaw r) {t : Nat} (ht : q_isTown t) (a2 a3 a4 : Int32) (M : qM) : qAM g l 5 zX7_prepare (qL j r) [.inr (some 56), .inr (some t), .inl a2, .inl a3, .inl a4] (qL j r, M) (f_X7_prepare n t j a2 a3 a4 M) :=
  qAM.of zv_X7_prepare.1 (by show 5 ≤ 7; decide) (fun k hk o => w_X7_prepare n j r hj hr ht o a2 a3 a4 M)
def tb_X11_cheapest : List (Nat × Instr × Nat) := [(0, (.aload_n 0, 1)), (1, (.iload_n 1, 1)), (2, (.iload_n 2, 1)), (3, (.iload_n 3, 1)), (4, (.invokevirtual 193, 3)), (7, (.ifCond .eq 27, 3)), (10, (.iload 4, 2)), (12, (.ifCond .lt 22, 3)), (15, (.iload 4, 2)), (17, (.sipush 200, 3)), (20, (.if_icmp .gt 14, 3)), (23, (.iload 5, 2)), (25, (.ifCond .lt 9, 3)), (28, (.iload 5, 2)), (30, (.iconst 1, 1)), (31, (.if_icmp .le 5, 3)), (34, (.iconst (-1), 1)), (35, (.ireturn, 1)), (36, (.aload_n 0, 1)), (37, (.getfield 75, 3)), (40, (.aload_n 0, 1)), (41, (.getfield 26, 3)), (44, (.iload_n 1, 1)), (45, (.iload_n 2, 1)), (46, (.iload_n 3, 1)), (47, (.invokevirtual 196, 3)), (50, (.aload_n 0, 1)), (51, (.getfield 75, 3)), (54, (.aload_n 0, 1)), (55, (.getfield 26, 3)), (58, (.iload_n 1, 1)), (59, (.iload 4, 2)), (61, (.invokevirtual 204, 3)), (64, (.aload_n 0, 1)), (65, (.getfield 75, 3)), (68, (.getfield 208, 3)), (71, (.ldc 203, 2)), (73, (.if_icmp .lt 6, 3)), (76, (.bipush (-2), 2)), (78, (.ireturn, 1)), (79, (.iload 5, 2)), (81, (.ifCond .ne 13, 3)), (84, (.aload_n 0, 1)), (85, (.getfield 75, 3)), (88, (.getfield 208, 3)), (91, (.goto 10, 3)), (94, (.aload_n 0, 1)), (95, (.getfield 75, 3)), (98, (.getfield 211, 3)), (101, (.ireturn, 1))]
theorem dm_X11_cheapest : ∀ q ∈ tb_X11_cheapest, decode zX11_cheapest.2.1 q.1 = .ok q.2 := by decide +kernel
def f_X11_cheapest (n : Nat) (j : Nat) (a1 a2 a3 a4 a5 : Int32) (M : qM) : qR :=
  qc (f_X11_canChoose n a1 a2 a3 M) (fun r1 m2 => (if r1 = (0 : Int32) then some ((-1 : Int32), m2) else (if a4 < (0 : Int32) then some ((-1 : Int32), m2) else (if (200 : Int32) < a4 then some ((-1 : Int32), m2) else (if a5 < (0 : Int32) then some ((-1 : Int32), m2) else (if a5 ≤ (1 : Int32) then qc (f_X7_prepare n 7 j a1 a2 a3 m2) (fun _ m3 => qc (f_X7_findCheapest n 7 j a1 a4 m3) (fun _ m4 => (if (m4 56 12) < (1048576 : Int32) then (if a5 = (0 : Int32) then some ((m4 56 12), m4) else some ((m4 56 13), m4)) else some ((-2 : Int32), m4)))) else some ((-1 : Int32), m2)))))))
set_option maxRecDepth 4000 in
theorem w_X11_cheapest {g : qG} {k : qK} (n : Nat) (j r : Nat) (hj : q_isLaw j) (hr : q_isLaw r) (o : qOk g 29 zX11_cheapest k) (a1 a2 a3 a4 a5 : Int32) (M : qM) : qAE g k zX11_cheapest (qL j r) 0 [some (.inr (some 0)), some (.inl a1), some (.inl a2), some (.inl a3), some (.inl a4), some (.inl a5)] [] (qL j r, M) (f_X11_cheapest n j a1 a2 a3 a4 a5 M) := by
  unfold f_X11_cheapest
  refine qr_aload_n o (q_dm dm_X11_cheapest 0 rfl) rfl ?_
  refine qr_iload_n o (q_dm dm_X11_cheapest 1 rfl) rfl ?_
  refine qr_iload_n o (q_dm dm_X11_cheapest 2 rfl) rfl ?_
  refine qr_iload_n o (q_dm dm_X11_cheapest 3 rfl) rfl ?_
  refine qr_callv_i (As := [.inl a1, .inl a2, .inl a3]) (S := []) o (a_X11_canChoose g k.2.1 n j r hj hr a1 a2 a3 M) (Nat.le_of_ble_eq_true rfl) zv_X11_canChoose rfl cf_X11 (sh0 j r) ml_X11_193 (Nat.le_of_ble_eq_true rfl) (q_dm dm_X11_cheapest 4 rfl) (fun r1 m2 => ?_)
  refine qr_if_eq (tgt := 34) o (q_dm dm_X11_cheapest 5 rfl) (by decide) ?_ ?_
  · refine qr_iconst o (q_dm dm_X11_cheapest 16 rfl) ic_m1 ?_
    exact qr_iret o rfl rfl (q_dm dm_X11_cheapest 17 rfl)
  · refine qr_iload o (q_dm dm_X11_cheapest 6 rfl) rfl ?_
    refine qr_if_lt (tgt := 34) o (q_dm dm_X11_cheapest 7 rfl) (by decide) ?_ ?_
    · refine qr_iconst o (q_dm dm_X11_cheapest 16 rfl) ic_m1 ?_
      exact qr_iret o rfl rfl (q_dm dm_X11_cheapest 17 rfl)
    · refine qr_iload o (q_dm dm_X11_cheapest 8 rfl) rfl ?_
      refine qr_sipush o (q_dm dm_X11_cheapest 9 rfl) si_200 ?_
      refine qr_icmp_gt (tgt := 34) o (q_dm dm_X11_cheapest 10 rfl) (by decide) ?_ ?_
      · refine qr_iconst o (q_dm dm_X11_cheapest 16 rfl) ic_m1 ?_
        exact qr_iret o rfl rfl (q_dm dm_X11_cheapest 17 rfl)
      · refine qr_iload o (q_dm dm_X11_cheapest 11 rfl) rfl ?_
        refine qr_if_lt (tgt := 34) o (q_dm dm_X11_cheapest 12 rfl) (by decide) ?_ ?_
        · refine qr_iconst o (q_dm dm_X11_cheapest 16 rfl) ic_m1 ?_
          exact qr_iret o rfl rfl (q_dm dm_X11_cheapest 17 rfl)
        · refine qr_iload o (q_dm dm_X11_cheapest 13 rfl) rfl ?_
          refine qr_iconst o (q_dm dm_X11_cheapest 14 rfl) ic_1 ?_
          refine qr_icmp_le (tgt := 36) o (q_dm dm_X11_cheapest 15 rfl) (by decide) ?_ ?_
          · refine qr_aload_n o (q_dm dm_X11_cheapest 18 rfl) rfl ?_
            refine qr_getr (kf := 9) o cf_X11 (sh0 j r) rfl (Nat.le_of_ble_eq_true rfl) fl_X11_75 (q_dm dm_X11_cheapest 19 rfl) ?_
            refine qr_aload_n o (q_dm dm_X11_cheapest 20 rfl) rfl ?_
            refine qr_getr (kf := 2) o cf_X11 (sh0 j r) rfl (Nat.le_of_ble_eq_true rfl) fl_X11_26 (q_dm dm_X11_cheapest 21 rfl) ?_
            refine qr_iload_n o (q_dm dm_X11_cheapest 22 rfl) rfl ?_
            refine qr_iload_n o (q_dm dm_X11_cheapest 23 rfl) rfl ?_
            refine qr_iload_n o (q_dm dm_X11_cheapest 24 rfl) rfl ?_
            refine qr_callv_v (As := [.inr (some 7), .inl a1, .inl a2, .inl a3]) (S := []) o (a_X7_prepare g k.2.1 n j r hj hr (Or.inl rfl) a1 a2 a3 m2) (Nat.le_of_ble_eq_true rfl) zv_X7_prepare rfl cf_X7 (sh56 j r) ml_X11_196 (Nat.le_of_ble_eq_true rfl) (q_dm dm_X11_cheapest 25 rfl) (fun _ m3 => ?_)
            refine qr_aload_n o (q_dm dm_X11_cheapest 26 rfl) rfl ?_
            refine qr_getr (kf := 9) o cf_X11 (sh0 j r) rfl (Nat.le_of_ble_eq_true rfl) fl_X11_75 (q_dm dm_X11_cheapest 27 rfl) ?_
            refine qr_aload_n o (q_dm dm_X11_cheapest 28 rfl) rfl ?_
            refine qr_getr (kf := 2) o cf_X11 (sh0 j r) rfl (Nat.le_of_ble_eq_true rfl) fl_X11_26 (q_dm dm_X11_cheapest 29 rfl) ?_
            refine qr_iload_n o (q_dm dm_X11_cheapest 30 rfl) rfl ?_
            refine qr_iload o (q_dm dm_X11_cheapest 31 rfl) rfl ?_
            refine qr_callv_v (As := [.inr (some 7), .inl a1, .inl a4]) (S := []) o (a_X7_findCheapest g k.2.1 n j r hj hr (Or.inl rfl) a1 a4 m3) (Nat.le_of_ble_eq_true rfl) zv_X7_findCheapest rfl cf_X7 (sh56 j r) ml_X11_204 (Nat.le_of_ble_eq_true rfl) (q_dm dm_X11_cheapest 32 rfl) (fun _ m4 => ?_)
            refine qr_aload_n o (q_dm dm_X11_cheapest 33 rfl) rfl ?_
            refine qr_getr (kf := 9) o cf_X11 (sh0 j r) rfl (Nat.le_of_ble_eq_true rfl) fl_X11_75 (q_dm dm_X11_cheapest 34 rfl) ?_
            refine qr_getf (kf := 12) o cf_X7 (sh56 j r) rfl (Nat.le_of_ble_eq_true rfl) fl_X11_208 (q_dm dm_X11_cheapest 35 rfl) ?_
            refine qr_ldc o (q_dm dm_X11_cheapest 36 rfl) kc_X11_203 ?_
            refine qr_icmp_lt (tgt := 79) o (q_dm dm_X11_cheapest 37 rfl) (by decide) ?_ ?_
            · refine qr_iload o (q_dm dm_X11_cheapest 40 rfl) rfl ?_
              refine qr_if_ne (tgt := 94) o (q_dm dm_X11_cheapest 41 rfl) (by decide) ?_ ?_
              · refine qr_aload_n o (q_dm dm_X11_cheapest 46 rfl) rfl ?_
                refine qr_getr (kf := 9) o cf_X11 (sh0 j r) rfl (Nat.le_of_ble_eq_true rfl) fl_X11_75 (q_dm dm_X11_cheapest 47 rfl) ?_
                refine qr_getf (kf := 13) o cf_X7 (sh56 j r) rfl (Nat.le_of_ble_eq_true rfl) fl_X11_211 (q_dm dm_X11_cheapest 48 rfl) ?_
                exact qr_iret o rfl rfl (q_dm dm_X11_cheapest 49 rfl)
              · refine qr_aload_n o (q_dm dm_X11_cheapest 42 rfl) rfl ?_
                refine qr_getr (kf := 9) o cf_X11 (sh0 j r) rfl (Nat.le_of_ble_eq_true rfl) fl_X11_75 (q_dm dm_X11_cheapest 43 rfl) ?_
                refine qr_getf (kf := 12) o cf_X7 (sh56 j r) rfl (Nat.le_of_ble_eq_true rfl) fl_X11_208 (q_dm dm_X11_cheapest 44 rfl) ?_
                refine qr_goto (tgt := 101) o (q_dm dm_X11_cheapest 45 rfl) (by decide) ?_
                exact qr_iret o rfl rfl (q_dm dm_X11_cheapest 49 rfl)
            · refine qr_bipush o (q_dm dm_X11_cheapest 38 rfl) bi_m2 ?_
              exact qr_iret o rfl rfl (q_dm dm_X11_cheapest 39 rfl)
          · refine qr_iconst o (q_dm dm_X11_cheapest 16 rfl) ic_m1 ?_
            exact qr_iret o rfl rfl (q_dm dm_X11_cheapest 17 rfl)

theorem a_X11_cheapest (g : qG) (l : Launch) (n : Nat) (j r : Nat) (hj : q_isLaw j) (hr : q_isLaw r) (a1 a2 a3 a4 a5 : Int32) (M : qM) : qAM g l 29 zX11_cheapest (qL j r) [.inr (some 0), .inl a1, .inl a2, .inl a3, .inl a4, .inl a5] (qL j r, M) (f_X11_cheapest n j a1 a2 a3 a4 a5 M) :=
  qAM.of zv_X11_cheapest.1 (by show 6 ≤ 6; decide) (fun k hk o => w_X11_cheapest n j r hj hr o a1 a2 a3 a4 a5 M)
def tb_X9_clear : List (Nat × Instr × Nat) := [(0, (.aload_n 0, 1)), (1, (.iconst 0, 1)), (2, (.putfield 15, 3)), (5, (.return_, 1))]
theorem dm_X9_clear : ∀ q ∈ tb_X9_clear, decode zX9_clear.2.1 q.1 = .ok q.2 := by decide +kernel
def f_X9_clear (n : Nat) (M : qM) : qR :=
  qlm (mu M 1 1 (0 : Int32)) (fun m1 => some (0, m1))
set_option maxRecDepth 4000 in
theorem w_X9_clear {g : qG} {k : qK} (n : Nat) (j r : Nat) (hj : q_isLaw j) (hr : q_isLaw r) (o : qOk g 0 zX9_clear k) (M : qM) : qAE g k zX9_clear (qL j r) 0 [some (.inr (some 1))] [] (qL j r, M) (f_X9_clear n  M) := by
  unfold f_X9_clear
  refine qr_aload_n o (q_dm dm_X9_clear 0 rfl) rfl ?_
  refine qr_iconst o (q_dm dm_X9_clear 1 rfl) ic_0 ?_
  refine qr_putf (kf := 1) o cf_X9 (sh1 j r) rfl (Nat.le_of_ble_eq_true rfl) fl_X9_15 rfl (by decide +kernel) (q_dm dm_X9_clear 2 rfl) ?_
  refine qr_letm (fun m1 => ?_)
  exact qr_vret o rfl (q_dm dm_X9_clear 3 rfl)

theorem a_X9_clear (g : qG) (l : Launch) (n : Nat) (j r : Nat) (hj : q_isLaw j) (hr : q_isLaw r) (M : qM) : qAM g l 0 zX9_clear (qL j r) [.inr (some 1)] (qL j r, M) (f_X9_clear n  M) :=
  qAM.of zv_X9_clear.1 (by show 1 ≤ 1; decide) (fun k hk o => w_X9_clear n j r hj hr o  M)
def tb_X9_at : List (Nat × Instr × Nat) := [(0, (.iload_n 1, 1)), (1, (.ifCond .lt 20, 3)), (4, (.iload_n 1, 1)), (5, (.aload_n 0, 1)), (6, (.getfield 15, 3)), (9, (.if_icmp .ge 12, 3)), (12, (.aload_n 0, 1)), (13, (.getfield 9, 3)), (16, (.iload_n 1, 1)), (17, (.iaload, 1)), (18, (.goto 4, 3)), (21, (.iconst (-1), 1)), (22, (.ireturn, 1))]
theorem dm_X9_at : ∀ q ∈ tb_X9_at, decode zX9_at.2.1 q.1 = .ok q.2 := by decide +kernel
def f_X9_at (n : Nat) (a1 : Int32) (M : qM) : qR :=
  (if a1 < (0 : Int32) then some ((-1 : Int32), M) else (if (M 1 1) ≤ a1 then some ((-1 : Int32), M) else qg a1 260 (some ((M 2 a1.toNatClampNeg), M))))
set_option maxRecDepth 4000 in
theorem w_X9_at {g : qG} {k : qK} (n : Nat) (j r : Nat) (hj : q_isLaw j) (hr : q_isLaw r) (o : qOk g 0 zX9_at k) (a1 : Int32) (M : qM) : qAE g k zX9_at (qL j r) 0 [some (.inr (some 1)), some (.inl a1)] [] (qL j r, M) (f_X9_at n a1 M) := by
  unfold f_X9_at
  refine qr_iload_n o (q_dm dm_X9_at 0 rfl) rfl ?_
  refine qr_if_lt (tgt := 21) o (q_dm dm_X9_at 1 rfl) (by decide) ?_ ?_
  · refine qr_iconst o (q_dm dm_X9_at 11 rfl) ic_m1 ?_
    exact qr_iret o rfl rfl (q_dm dm_X9_at 12 rfl)
  · refine qr_iload_n o (q_dm dm_X9_at 2 rfl) rfl ?_
    refine qr_aload_n o (q_dm dm_X9_at 3 rfl) rfl ?_
    refine qr_getf (kf := 1) o cf_X9 (sh1 j r) rfl (Nat.le_of_ble_eq_true rfl) fl_X9_15 (q_dm dm_X9_at 4 rfl) ?_
    refine qr_icmp_ge (tgt := 21) o (q_dm dm_X9_at 5 rfl) (by decide) ?_ ?_
    · refine qr_iconst o (q_dm dm_X9_at 11 rfl) ic_m1 ?_
      exact qr_iret o rfl rfl (q_dm dm_X9_at 12 rfl)
    · refine qr_aload_n o (q_dm dm_X9_at 6 rfl) rfl ?_
      refine qr_getr (kf := 0) o cf_X9 (sh1 j r) rfl (Nat.le_of_ble_eq_true rfl) fl_X9_9 (q_dm dm_X9_at 7 rfl) ?_
      refine qr_iload_n o (q_dm dm_X9_at 8 rfl) rfl ?_
      refine qr_iald o (sh2 j r) (q_dm dm_X9_at 9 rfl) ?_
      refine qr_goto (tgt := 22) o (q_dm dm_X9_at 10 rfl) (by decide) ?_
      exact qr_iret o rfl rfl (q_dm dm_X9_at 12 rfl)

theorem a_X9_at (g : qG) (l : Launch) (n : Nat) (j r : Nat) (hj : q_isLaw j) (hr : q_isLaw r) (a1 : Int32) (M : qM) : qAM g l 0 zX9_at (qL j r) [.inr (some 1), .inl a1] (qL j r, M) (f_X9_at n a1 M) :=
  qAM.of zv_X9_at.1 (by show 2 ≤ 2; decide) (fun k hk o => w_X9_at n j r hj hr o a1 M)
def tb_X9_word : List (Nat × Instr × Nat) := [(0, (.aload_n 0, 1)), (1, (.iload_n 1, 1)), (2, (.invokevirtual 19, 3)), (5, (.bipush 24, 2)), (7, (.ishl, 1)), (8, (.aload_n 0, 1)), (9, (.iload_n 1, 1)), (10, (.iconst 1, 1)), (11, (.iadd, 1)), (12, (.invokevirtual 19, 3)), (15, (.bipush 16, 2)), (17, (.ishl, 1)), (18, (.ior, 1)), (19, (.aload_n 0, 1)), (20, (.iload_n 1, 1)), (21, (.iconst 2, 1)), (22, (.iadd, 1)), (23, (.invokevirtual 19, 3)), (26, (.bipush 8, 2)), (28, (.ishl, 1)), (29, (.ior, 1)), (30, (.aload_n 0, 1)), (31, (.iload_n 1, 1)), (32, (.iconst 3, 1)), (33, (.iadd, 1)), (34, (.invokevirtual 19, 3)), (37, (.ior, 1)), (38, (.ireturn, 1))]
theorem dm_X9_word : ∀ q ∈ tb_X9_word, decode zX9_word.2.1 q.1 = .ok q.2 := by decide +kernel
def f_X9_word (n : Nat) (a1 : Int32) (M : qM) : qR :=
  qc (f_X9_at n a1 M) (fun r1 m2 => qc (f_X9_at n (a1 + (1 : Int32)) m2) (fun r3 m4 => qc (f_X9_at n (a1 + (2 : Int32)) m4) (fun r5 m6 => qc (f_X9_at n (a1 + (3 : Int32)) m6) (fun r7 m8 => some (((((r1 <<< ((24 : Int32) &&& 31)) ||| (r3 <<< ((16 : Int32) &&& 31))) ||| (r5 <<< ((8 : Int32) &&& 31))) ||| r7), m8)))))
set_option maxRecDepth 4000 in
theorem w_X9_word {g : qG} {k : qK} (n : Nat) (j r : Nat) (hj : q_isLaw j) (hr : q_isLaw r) (o : qOk g 1 zX9_word k) (a1 : Int32) (M : qM) : qAE g k zX9_word (qL j r) 0 [some (.inr (some 1)), some (.inl a1)] [] (qL j r, M) (f_X9_word n a1 M) := by
  unfold f_X9_word
  refine qr_aload_n o (q_dm dm_X9_word 0 rfl) rfl ?_
  refine qr_iload_n o (q_dm dm_X9_word 1 rfl) rfl ?_
  refine qr_callv_i (As := [.inl a1]) (S := []) o (a_X9_at g k.2.1 n j r hj hr a1 M) (Nat.le_of_ble_eq_true rfl) zv_X9_at rfl cf_X9 (sh1 j r) ml_X9_19 (Nat.le_of_ble_eq_true rfl) (q_dm dm_X9_word 2 rfl) (fun r1 m2 => ?_)
  refine qr_bipush o (q_dm dm_X9_word 3 rfl) bi_24 ?_
  refine qr_ishl o (q_dm dm_X9_word 4 rfl) ?_
  refine qr_aload_n o (q_dm dm_X9_word 5 rfl) rfl ?_
  refine qr_iload_n o (q_dm dm_X9_word 6 rfl) rfl ?_
  refine qr_iconst o (q_dm dm_X9_word 7 rfl) ic_1 ?_
  refine qr_iadd o (q_dm dm_X9_word 8 rfl) ?_
  refine qr_callv_i (As := [.inl (a1 + (1 : Int32))]) (S := [.inl (r1 <<< ((24 : Int32) &&& 31))]) o (a_X9_at g k.2.1 n j r hj hr (a1 + (1 : Int32)) m2) (Nat.le_of_ble_eq_true rfl) zv_X9_at rfl cf_X9 (sh1 j r) ml_X9_19 (Nat.le_of_ble_eq_true rfl) (q_dm dm_X9_word 9 rfl) (fun r3 m4 => ?_)
  refine qr_bipush o (q_dm dm_X9_word 10 rfl) bi_16 ?_
  refine qr_ishl o (q_dm dm_X9_word 11 rfl) ?_
  refine qr_ior o (q_dm dm_X9_word 12 rfl) ?_
  refine qr_aload_n o (q_dm dm_X9_word 13 rfl) rfl ?_
  refine qr_iload_n o (q_dm dm_X9_word 14 rfl) rfl ?_
  refine qr_iconst o (q_dm dm_X9_word 15 rfl) ic_2 ?_
  refine qr_iadd o (q_dm dm_X9_word 16 rfl) ?_
  refine qr_callv_i (As := [.inl (a1 + (2 : Int32))]) (S := [.inl ((r1 <<< ((24 : Int32) &&& 31)) ||| (r3 <<< ((16 : Int32) &&& 31)))]) o (a_X9_at g k.2.1 n j r hj hr (a1 + (2 : Int32)) m4) (Nat.le_of_ble_eq_true rfl) zv_X9_at rfl cf_X9 (sh1 j r) ml_X9_19 (Nat.le_of_ble_eq_true rfl) (q_dm dm_X9_word 17 rfl) (fun r5 m6 => ?_)
  refine qr_bipush o (q_dm dm_X9_word 18 rfl) bi_8 ?_
  refine qr_ishl o (q_dm dm_X9_word 19 rfl) ?_
  refine qr_ior o (q_dm dm_X9_word 20 rfl) ?_
  refine qr_aload_n o (q_dm dm_X9_word 21 rfl) rfl ?_
  refine qr_iload_n o (q_dm dm_X9_word 22 rfl) rfl ?_
  refine qr_iconst o (q_dm dm_X9_word 23 rfl) ic_3 ?_
  refine qr_iadd o (q_dm dm_X9_word 24 rfl) ?_
  refine qr_callv_i (As := [.inl (a1 + (3 : Int32))]) (S := [.inl (((r1 <<< ((24 : Int32) &&& 31)) ||| (r3 <<< ((16 : Int32) &&& 31))) ||| (r5 <<< ((8 : Int32) &&& 31)))]) o (a_X9_at g k.2.1 n j r hj hr (a1 + (3 : Int32)) m6) (Nat.le_of_ble_eq_true rfl) zv_X9_at rfl cf_X9 (sh1 j r) ml_X9_19 (Nat.le_of_ble_eq_true rfl) (q_dm dm_X9_word 25 rfl) (fun r7 m8 => ?_)
  refine qr_ior o (q_dm dm_X9_word 26 rfl) ?_
  exact qr_iret o rfl rfl (q_dm dm_X9_word 27 rfl)

theorem a_X9_word (g : qG) (l : Launch) (n : Nat) (j r : Nat) (hj : q_isLaw j) (hr : q_isLaw r) (a1 : Int32) (M : qM) : qAM g l 1 zX9_word (qL j r) [.inr (some 1), .inl a1] (qL j r, M) (f_X9_word n a1 M) :=
  qAM.of zv_X9_word.1 (by show 2 ≤ 2; decide) (fun k hk o => w_X9_word n j r hj hr o a1 M)
def tb_X11_check : List (Nat × Instr × Nat) := [(0, (.aload_n 0, 1)), (1, (.getfield 26, 3)), (4, (.iload_n 1, 1)), (5, (.invokevirtual 131, 3)), (8, (.ifCond .eq 26, 3)), (11, (.iload_n 2, 1)), (12, (.ifCond .lt 22, 3)), (15, (.iload_n 2, 1)), (16, (.bipush 12, 2)), (18, (.if_icmp .gt 16, 3)), (21, (.iconst 4, 1)), (22, (.iload_n 2, 1)), (23, (.imul, 1)), (24, (.aload_n 0, 1)), (25, (.getfield 10, 3)), (28, (.getfield 112, 3)), (31, (.if_icmp .le 6, 3)), (34, (.bipush (-2), 2)), (36, (.ireturn, 1)), (37, (.iconst (-1), 1)), (38, (.istore_n 3, 1)), (39, (.iload_n 2, 1)), (40, (.iconst 1, 1)), (41, (.isub, 1)), (42, (.istore 4, 2)), (44, (.iload 4, 2)), (46, (.ifCond .lt 41, 3)), (49, (.aload_n 0, 1)), (50, (.getfield 10, 3)), (53, (.iconst 4, 1)), (54, (.iload 4, 2)), (56, (.imul, 1)), (57, (.invokevirtual 266, 3)), (60, (.aload_n 0, 1)), (61, (.getfield 26, 3)), (64, (.getfield 169, 3)), (67, (.iload_n 1, 1)), (68, (.bipush 12, 2)), (70, (.imul, 1)), (71, (.iload 4, 2)), (73, (.iadd, 1)), (74, (.iaload, 1)), (75, (.if_icmp .eq 6, 3)), (78, (.iload 4, 2)), (80, (.istore_n 3, 1)), (81, (.iinc 4 (-1), 3)), (84, (.goto (-40), 3)), (87, (.aload_n 0, 1)), (88, (.getfield 10, 3)), (91, (.invokevirtual 123, 3)), (94, (.iload_n 3, 1)), (95, (.ireturn, 1))]
theorem dm_X11_check : ∀ q ∈ tb_X11_check, decode zX11_check.2.1 q.1 = .ok q.2 := by decide +kernel
def b_X11_check_44 (n : Nat) (K44 : Int32 → Int32 → Int32 → qM → qR) (a1 a3 a4 : Int32) (M : qM) : qR :=
  (if a4 < (0 : Int32) then qc (f_X9_clear n  M) (fun _ m1 => some (a3, m1)) else qc (f_X9_word n ((4 : Int32) * a4) M) (fun r2 m3 => qg ((a1 * (12 : Int32)) + a4) 96 ((if r2 = (m3 9 ((a1 * (12 : Int32)) + a4).toNatClampNeg) then ql (a4 + (-1 : Int32)) (fun x4 => K44 a1 a3 x4 m3) else ql (a4 + (-1 : Int32)) (fun x5 => K44 a1 a4 x5 m3)))))
set_option maxRecDepth 4000 in
theorem wb_X11_check_44 {g : qG} {k : qK} (n : Nat) (j r : Nat) (hj : q_isLaw j) (hr : q_isLaw r) (o : qOk g 2 zX11_check k) (K44 : Int32 → Int32 → Int32 → qM → qR) (hK44 : ∀ (a1 a3 a4 : Int32) (M : qM), qAE g k zX11_check (qL j r) 44 [some (.inr (some 0)), some (.inl a1), none, some (.inl a3), some (.inl a4)] [] (qL j r, M) (K44 a1 a3 a4 M)) (a1 a3 a4 : Int32) (M : qM) : qAE g k zX11_check (qL j r) 44 [some (.inr (some 0)), some (.inl a1), none, some (.inl a3), some (.inl a4)] [] (qL j r, M) (b_X11_check_44 n K44 a1 a3 a4 M) := by
  unfold b_X11_check_44
  refine qr_iload o (q_dm dm_X11_check 25 rfl) rfl ?_
  refine qr_if_lt (tgt := 87) o (q_dm dm_X11_check 26 rfl) (by decide) ?_ ?_
  · refine qr_aload_n o (q_dm dm_X11_check 47 rfl) rfl ?_
    refine qr_getr (kf := 0) o cf_X11 (sh0 j r) rfl (Nat.le_of_ble_eq_true rfl) fl_X11_10 (q_dm dm_X11_check 48 rfl) ?_
    refine qr_callv_v (As := []) (S := []) o (a_X9_clear g k.2.1 n j r hj hr  M) (Nat.le_of_ble_eq_true rfl) zv_X9_clear rfl cf_X9 (sh1 j r) ml_X11_123 (Nat.le_of_ble_eq_true rfl) (q_dm dm_X11_check 49 rfl) (fun _ m1 => ?_)
    refine qr_iload_n o (q_dm dm_X11_check 50 rfl) rfl ?_
    exact qr_iret o rfl rfl (q_dm dm_X11_check 51 rfl)
  · refine qr_aload_n o (q_dm dm_X11_check 27 rfl) rfl ?_
    refine qr_getr (kf := 0) o cf_X11 (sh0 j r) rfl (Nat.le_of_ble_eq_true rfl) fl_X11_10 (q_dm dm_X11_check 28 rfl) ?_
    refine qr_iconst o (q_dm dm_X11_check 29 rfl) ic_4 ?_
    refine qr_iload o (q_dm dm_X11_check 30 rfl) rfl ?_
    refine qr_imul o (q_dm dm_X11_check 31 rfl) ?_
    refine qr_callv_i (As := [.inl ((4 : Int32) * a4)]) (S := []) o (a_X9_word g k.2.1 n j r hj hr ((4 : Int32) * a4) M) (Nat.le_of_ble_eq_true rfl) zv_X9_word rfl cf_X9 (sh1 j r) ml_X11_266 (Nat.le_of_ble_eq_true rfl) (q_dm dm_X11_check 32 rfl) (fun r2 m3 => ?_)
    refine qr_aload_n o (q_dm dm_X11_check 33 rfl) rfl ?_
    refine qr_getr (kf := 2) o cf_X11 (sh0 j r) rfl (Nat.le_of_ble_eq_true rfl) fl_X11_26 (q_dm dm_X11_check 34 rfl) ?_
    refine qr_getr (kf := 1) o cf_X10 (sh7 j r) rfl (Nat.le_of_ble_eq_true rfl) fl_X11_169 (q_dm dm_X11_check 35 rfl) ?_
    refine qr_iload_n o (q_dm dm_X11_check 36 rfl) rfl ?_
    refine qr_bipush o (q_dm dm_X11_check 37 rfl) bi_12 ?_
    refine qr_imul o (q_dm dm_X11_check 38 rfl) ?_
    refine qr_iload o (q_dm dm_X11_check 39 rfl) rfl ?_
    refine qr_iadd o (q_dm dm_X11_check 40 rfl) ?_
    refine qr_iald o (sh9 j r) (q_dm dm_X11_check 41 rfl) ?_
    refine qr_icmp_eq (tgt := 81) o (q_dm dm_X11_check 42 rfl) (by decide) ?_ ?_
    · refine qs_iincl2 (L' := fun x4 => [some (.inr (some 0)), some (.inl a1), none, some (.inl a3), some (.inl x4)]) o (q_dm dm_X11_check 45 rfl) rfl ic_m1 (Nat.le_of_ble_eq_true rfl) (fun _ => rfl) (fun x4 => ?_)
      refine qr_goto (tgt := 44) o (q_dm dm_X11_check 46 rfl) (by decide) ?_
      exact qr_loc (q_leS (q_leS (q_leN (q_leS (q_leS q_le0))))) (hK44 a1 a3 x4 m3)
    · refine qr_iload o (q_dm dm_X11_check 43 rfl) rfl ?_
      refine qs_istore_n (L' := [some (.inr (some 0)), some (.inl a1), none, some (.inl a4), some (.inl a4)]) o (q_dm dm_X11_check 44 rfl) (Nat.le_of_ble_eq_true rfl) rfl ?_
      refine qs_iincl2 (L' := fun x5 => [some (.inr (some 0)), some (.inl a1), none, some (.inl a4), some (.inl x5)]) o (q_dm dm_X11_check 45 rfl) rfl ic_m1 (Nat.le_of_ble_eq_true rfl) (fun _ => rfl) (fun x5 => ?_)
      refine qr_goto (tgt := 44) o (q_dm dm_X11_check 46 rfl) (by decide) ?_
      exact qr_loc (q_leS (q_leS (q_leN (q_leS (q_leS q_le0))))) (hK44 a1 a4 x5 m3)

def f_X11_check_44 (n : Nat) : Nat → Int32 → Int32 → Int32 → qM → qR
  | 0, _, _, _, _ => none
  | m + 1, a1, a3, a4, M => b_X11_check_44 n (f_X11_check_44 n m) a1 a3 a4 M
theorem w_X11_check_44 {g : qG} {k : qK} (n : Nat) (j r : Nat) (hj : q_isLaw j) (hr : q_isLaw r) (o : qOk g 2 zX11_check k) : ∀ (m : Nat) (a1 a3 a4 : Int32) (M : qM), qAE g k zX11_check (qL j r) 44 [some (.inr (some 0)), some (.inl a1), none, some (.inl a3), some (.inl a4)] [] (qL j r, M) (f_X11_check_44 n m a1 a3 a4 M) := by
  intro m
  induction m with
  | zero =>
    intro a1 a3 a4 M
    exact qr_none
  | succ m ih =>
    intro a1 a3 a4 M
    exact wb_X11_check_44 n j r hj hr o (f_X11_check_44 n m) ih a1 a3 a4 M
def f_X11_check (n : Nat) (a1 a2 : Int32) (M : qM) : qR :=
  qc (f_X10_knows n 7 a1 M) (fun r1 m2 => (if r1 = (0 : Int32) then some ((-2 : Int32), m2) else (if a2 < (0 : Int32) then some ((-2 : Int32), m2) else (if (12 : Int32) < a2 then some ((-2 : Int32), m2) else (if ((4 : Int32) * a2) ≤ (m2 1 1) then ql (a2 - (1 : Int32)) (fun x3 => f_X11_check_44 n n a1 (-1 : Int32) x3 m2) else some ((-2 : Int32), m2))))))
set_option maxRecDepth 4000 in
theorem w_X11_check {g : qG} {k : qK} (n : Nat) (j r : Nat) (hj : q_isLaw j) (hr : q_isLaw r) (o : qOk g 2 zX11_check k) (a1 a2 : Int32) (M : qM) : qAE g k zX11_check (qL j r) 0 [some (.inr (some 0)), some (.inl a1), some (.inl a2), none, none] [] (qL j r, M) (f_X11_check n a1 a2 M) := by
  unfold f_X11_check
  refine qr_aload_n o (q_dm dm_X11_check 0 rfl) rfl ?_
  refine qr_getr (kf := 2) o cf_X11 (sh0 j r) rfl (Nat.le_of_ble_eq_true rfl) fl_X11_26 (q_dm dm_X11_check 1 rfl) ?_
  refine qr_iload_n o (q_dm dm_X11_check 2 rfl) rfl ?_
  refine qr_callv_i (As := [.inl a1]) (S := []) o (a_X10_knows g k.2.1 n j r hj hr (Or.inl rfl) a1 M) (Nat.le_of_ble_eq_true rfl) zv_X10_knows rfl cf_X10 (sh7 j r) ml_X11_131 (Nat.le_of_ble_eq_true rfl) (q_dm dm_X11_check 3 rfl) (fun r1 m2 => ?_)
  refine qr_if_eq (tgt := 34) o (q_dm dm_X11_check 4 rfl) (by decide) ?_ ?_
  · refine qr_bipush o (q_dm dm_X11_check 17 rfl) bi_m2 ?_
    exact qr_iret o rfl rfl (q_dm dm_X11_check 18 rfl)
  · refine qr_iload_n o (q_dm dm_X11_check 5 rfl) rfl ?_
    refine qr_if_lt (tgt := 34) o (q_dm dm_X11_check 6 rfl) (by decide) ?_ ?_
    · refine qr_bipush o (q_dm dm_X11_check 17 rfl) bi_m2 ?_
      exact qr_iret o rfl rfl (q_dm dm_X11_check 18 rfl)
    · refine qr_iload_n o (q_dm dm_X11_check 7 rfl) rfl ?_
      refine qr_bipush o (q_dm dm_X11_check 8 rfl) bi_12 ?_
      refine qr_icmp_gt (tgt := 34) o (q_dm dm_X11_check 9 rfl) (by decide) ?_ ?_
      · refine qr_bipush o (q_dm dm_X11_check 17 rfl) bi_m2 ?_
        exact qr_iret o rfl rfl (q_dm dm_X11_check 18 rfl)
      · refine qr_iconst o (q_dm dm_X11_check 10 rfl) ic_4 ?_
        refine qr_iload_n o (q_dm dm_X11_check 11 rfl) rfl ?_
        refine qr_imul o (q_dm dm_X11_check 12 rfl) ?_
        refine qr_aload_n o (q_dm dm_X11_check 13 rfl) rfl ?_
        refine qr_getr (kf := 0) o cf_X11 (sh0 j r) rfl (Nat.le_of_ble_eq_true rfl) fl_X11_10 (q_dm dm_X11_check 14 rfl) ?_
        refine qr_getf (kf := 1) o cf_X9 (sh1 j r) rfl (Nat.le_of_ble_eq_true rfl) fl_X11_112 (q_dm dm_X11_check 15 rfl) ?_
        refine qr_icmp_le (tgt := 37) o (q_dm dm_X11_check 16 rfl) (by decide) ?_ ?_
        · refine qr_iconst o (q_dm dm_X11_check 19 rfl) ic_m1 ?_
          refine qs_istore_n (L' := [some (.inr (some 0)), some (.inl a1), some (.inl a2), some (.inl (-1 : Int32)), none]) o (q_dm dm_X11_check 20 rfl) (Nat.le_of_ble_eq_true rfl) rfl ?_
          refine qr_iload_n o (q_dm dm_X11_check 21 rfl) rfl ?_
          refine qr_iconst o (q_dm dm_X11_check 22 rfl) ic_1 ?_
          refine qr_isub o (q_dm dm_X11_check 23 rfl) ?_
          refine qr_lt (fun x3 => ?_)
          refine qs_istore (L' := [some (.inr (some 0)), some (.inl a1), some (.inl a2), some (.inl (-1 : Int32)), some (.inl x3)]) o (q_dm dm_X11_check 24 rfl) (Nat.le_of_ble_eq_true rfl) rfl ?_
          exact qr_loc (q_leS (q_leS (q_leN (q_leS (q_leS q_le0))))) (w_X11_check_44 n j r hj hr o n a1 (-1 : Int32) x3 m2)
        · refine qr_bipush o (q_dm dm_X11_check 17 rfl) bi_m2 ?_
          exact qr_iret o rfl rfl (q_dm dm_X11_check 18 rfl)

theorem a_X11_check (g : qG) (l : Launch) (n : Nat) (j r : Nat) (hj : q_isLaw j) (hr : q_isLaw r) (a1 a2 : Int32) (M : qM) : qAM g l 2 zX11_check (qL j r) [.inr (some 0), .inl a1, .inl a2] (qL j r, M) (f_X11_check n a1 a2 M) :=
  qAM.of zv_X11_check.1 (by show 3 ≤ 5; decide) (fun k hk o => w_X11_check n j r hj hr o a1 a2 M)
def tb_X11_cost : List (Nat × Instr × Nat) := [(0, (.aload_n 0, 1)), (1, (.iload_n 1, 1)), (2, (.iload_n 2, 1)), (3, (.iload_n 3, 1)), (4, (.invokevirtual 145, 3)), (7, (.ifCond .ne 5, 3)), (10, (.iconst (-1), 1)), (11, (.ireturn, 1)), (12, (.aload_n 0, 1)), (13, (.getfield 50, 3)), (16, (.aload_n 0, 1)), (17, (.getfield 26, 3)), (20, (.iload_n 1, 1)), (21, (.iload_n 2, 1)), (22, (.iload_n 3, 1)), (23, (.invokevirtual 190, 3)), (26, (.ireturn, 1))]
theorem dm_X11_cost : ∀ q ∈ tb_X11_cost, decode zX11_cost.2.1 q.1 = .ok q.2 := by decide +kernel
def f_X11_cost (n : Nat) (j : Nat) (a1 a2 a3 : Int32) (M : qM) : qR :=
  qc (f_X11_canDeal n a1 a2 a3 M) (fun r1 m2 => (if r1 = (0 : Int32) then some ((-1 : Int32), m2) else qc (f_X0_price n 7 j a1 a2 a3 m2) (fun r3 m4 => some (r3, m4))))
set_option maxRecDepth 4000 in
theorem w_X11_cost {g : qG} {k : qK} (n : Nat) (j r : Nat) (hj : q_isLaw j) (hr : q_isLaw r) (o : qOk g 4 zX11_cost k) (a1 a2 a3 : Int32) (M : qM) : qAE g k zX11_cost (qL j r) 0 [some (.inr (some 0)), some (.inl a1), some (.inl a2), some (.inl a3)] [] (qL j r, M) (f_X11_cost n j a1 a2 a3 M) := by
  unfold f_X11_cost
  refine qr_aload_n o (q_dm dm_X11_cost 0 rfl) rfl ?_
  refine qr_iload_n o (q_dm dm_X11_cost 1 rfl) rfl ?_
  refine qr_iload_n o (q_dm dm_X11_cost 2 rfl) rfl ?_
  refine qr_iload_n o (q_dm dm_X11_cost 3 rfl) rfl ?_
  refine qr_callv_i (As := [.inl a1, .inl a2, .inl a3]) (S := []) o (a_X11_canDeal g k.2.1 n j r hj hr a1 a2 a3 M) (Nat.le_of_ble_eq_true rfl) zv_X11_canDeal rfl cf_X11 (sh0 j r) ml_X11_145 (Nat.le_of_ble_eq_true rfl) (q_dm dm_X11_cost 4 rfl) (fun r1 m2 => ?_)
  refine qr_if_ne (tgt := 12) o (q_dm dm_X11_cost 5 rfl) (by decide) ?_ ?_
  · refine qr_aload_n o (q_dm dm_X11_cost 8 rfl) rfl ?_
    refine qr_getr (kf := 6) o cf_X11 (sh0 j r) rfl (Nat.le_of_ble_eq_true rfl) fl_X11_50 (q_dm dm_X11_cost 9 rfl) ?_
    refine qr_aload_n o (q_dm dm_X11_cost 10 rfl) rfl ?_
    refine qr_getr (kf := 2) o cf_X11 (sh0 j r) rfl (Nat.le_of_ble_eq_true rfl) fl_X11_26 (q_dm dm_X11_cost 11 rfl) ?_
    refine qr_iload_n o (q_dm dm_X11_cost 12 rfl) rfl ?_
    refine qr_iload_n o (q_dm dm_X11_cost 13 rfl) rfl ?_
    refine qr_iload_n o (q_dm dm_X11_cost 14 rfl) rfl ?_
    refine qr_callv_i (As := [.inr (some 7), .inl a1, .inl a2, .inl a3]) (S := []) o (a_X0_price g k.2.1 n j r hj hr (Or.inl rfl) a1 a2 a3 m2) (Nat.le_of_ble_eq_true rfl) zv_X0_price rfl cf_X0 (sh44 j r) ml_X11_190 (Nat.le_of_ble_eq_true rfl) (q_dm dm_X11_cost 15 rfl) (fun r3 m4 => ?_)
    exact qr_iret o rfl rfl (q_dm dm_X11_cost 16 rfl)
  · refine qr_iconst o (q_dm dm_X11_cost 6 rfl) ic_m1 ?_
    exact qr_iret o rfl rfl (q_dm dm_X11_cost 7 rfl)

theorem a_X11_cost (g : qG) (l : Launch) (n : Nat) (j r : Nat) (hj : q_isLaw j) (hr : q_isLaw r) (a1 a2 a3 : Int32) (M : qM) : qAM g l 4 zX11_cost (qL j r) [.inr (some 0), .inl a1, .inl a2, .inl a3] (qL j r, M) (f_X11_cost n j a1 a2 a3 M) :=
  qAM.of zv_X11_cost.1 (by show 4 ≤ 4; decide) (fun k hk o => w_X11_cost n j r hj hr o a1 a2 a3 M)
def tb_X11_countOfKind : List (Nat × Instr × Nat) := [(0, (.aload_n 0, 1)), (1, (.getfield 19, 3)), (4, (.iload_n 1, 1)), (5, (.bipush 10, 2)), (7, (.isub, 1)), (8, (.invokevirtual 140, 3)), (11, (.ifCond .eq 16, 3)), (14, (.aload_n 0, 1)), (15, (.getfield 19, 3)), (18, (.getfield 283, 3)), (21, (.iload_n 1, 1)), (22, (.bipush 10, 2)), (24, (.isub, 1)), (25, (.iaload, 1)), (26, (.ireturn, 1)), (27, (.aload_n 0, 1)), (28, (.getfield 19, 3)), (31, (.iload_n 1, 1)), (32, (.bipush 30, 2)), (34, (.isub, 1)), (35, (.invokevirtual 140, 3)), (38, (.ifCond .eq 16, 3)), (41, (.aload_n 0, 1)), (42, (.getfield 19, 3)), (45, (.getfield 286, 3)), (48, (.iload_n 1, 1)), (49, (.bipush 30, 2)), (51, (.isub, 1)), (52, (.iaload, 1)), (53, (.ireturn, 1)), (54, (.aload_n 0, 1)), (55, (.getfield 19, 3)), (58, (.iload_n 1, 1)), (59, (.bipush 50, 2)), (61, (.isub, 1)), (62, (.invokevirtual 140, 3)), (65, (.ifCond .eq 18, 3)), (68, (.aload_n 0, 1)), (69, (.getfield 19, 3)), (72, (.getfield 289, 3)), (75, (.iload_n 1, 1)), (76, (.bipush 50, 2)), (78, (.isub, 1)), (79, (.iaload, 1)), (80, (.goto 4, 3)), (83, (.iconst (-1), 1)), (84, (.ireturn, 1))]
theorem dm_X11_countOfKind : ∀ q ∈ tb_X11_countOfKind, decode zX11_countOfKind.2.1 q.1 = .ok q.2 := by decide +kernel
def f_X11_countOfKind (n : Nat) (a1 : Int32) (M : qM) : qR :=
  qc (f_X2_knows n (a1 - (10 : Int32)) M) (fun r1 m2 => (if r1 = (0 : Int32) then qc (f_X2_knows n (a1 - (30 : Int32)) m2) (fun r3 m4 => (if r3 = (0 : Int32) then qc (f_X2_knows n (a1 - (50 : Int32)) m4) (fun r5 m6 => (if r5 = (0 : Int32) then some ((-1 : Int32), m6) else qg (a1 - (50 : Int32)) 12 (some ((m6 6 (a1 - (50 : Int32)).toNatClampNeg), m6)))) else qg (a1 - (30 : Int32)) 12 (some ((m4 5 (a1 - (30 : Int32)).toNatClampNeg), m4)))) else qg (a1 - (10 : Int32)) 12 (some ((m2 4 (a1 - (10 : Int32)).toNatClampNeg), m2))))
set_option maxRecDepth 4000 in
theorem w_X11_countOfKind {g : qG} {k : qK} (n : Nat) (j r : Nat) (hj : q_isLaw j) (hr : q_isLaw r) (o : qOk g 1 zX11_countOfKind k) (a1 : Int32) (M : qM) : qAE g k zX11_countOfKind (qL j r) 0 [some (.inr (some 0)), some (.inl a1)] [] (qL j r, M) (f_X11_countOfKind n a1 M) := by
  unfold f_X11_countOfKind
  refine qr_aload_n o (q_dm dm_X11_countOfKind 0 rfl) rfl ?_
  refine qr_getr (kf := 1) o cf_X11 (sh0 j r) rfl (Nat.le_of_ble_eq_true rfl) fl_X11_19 (q_dm dm_X11_countOfKind 1 rfl) ?_
  refine qr_iload_n o (q_dm dm_X11_countOfKind 2 rfl) rfl ?_
  refine qr_bipush o (q_dm dm_X11_countOfKind 3 rfl) bi_10 ?_
  refine qr_isub o (q_dm dm_X11_countOfKind 4 rfl) ?_
  refine qr_callv_i (As := [.inl (a1 - (10 : Int32))]) (S := []) o (a_X2_knows g k.2.1 n j r hj hr (a1 - (10 : Int32)) M) (Nat.le_of_ble_eq_true rfl) zv_X2_knows rfl cf_X2 (sh3 j r) ml_X11_140 (Nat.le_of_ble_eq_true rfl) (q_dm dm_X11_countOfKind 5 rfl) (fun r1 m2 => ?_)
  refine qr_if_eq (tgt := 27) o (q_dm dm_X11_countOfKind 6 rfl) (by decide) ?_ ?_
  · refine qr_aload_n o (q_dm dm_X11_countOfKind 15 rfl) rfl ?_
    refine qr_getr (kf := 1) o cf_X11 (sh0 j r) rfl (Nat.le_of_ble_eq_true rfl) fl_X11_19 (q_dm dm_X11_countOfKind 16 rfl) ?_
    refine qr_iload_n o (q_dm dm_X11_countOfKind 17 rfl) rfl ?_
    refine qr_bipush o (q_dm dm_X11_countOfKind 18 rfl) bi_30 ?_
    refine qr_isub o (q_dm dm_X11_countOfKind 19 rfl) ?_
    refine qr_callv_i (As := [.inl (a1 - (30 : Int32))]) (S := []) o (a_X2_knows g k.2.1 n j r hj hr (a1 - (30 : Int32)) m2) (Nat.le_of_ble_eq_true rfl) zv_X2_knows rfl cf_X2 (sh3 j r) ml_X11_140 (Nat.le_of_ble_eq_true rfl) (q_dm dm_X11_countOfKind 20 rfl) (fun r3 m4 => ?_)
    refine qr_if_eq (tgt := 54) o (q_dm dm_X11_countOfKind 21 rfl) (by decide) ?_ ?_
    · refine qr_aload_n o (q_dm dm_X11_countOfKind 30 rfl) rfl ?_
      refine qr_getr (kf := 1) o cf_X11 (sh0 j r) rfl (Nat.le_of_ble_eq_true rfl) fl_X11_19 (q_dm dm_X11_countOfKind 31 rfl) ?_
      refine qr_iload_n o (q_dm dm_X11_countOfKind 32 rfl) rfl ?_
      refine qr_bipush o (q_dm dm_X11_countOfKind 33 rfl) bi_50 ?_
      refine qr_isub o (q_dm dm_X11_countOfKind 34 rfl) ?_
      refine qr_callv_i (As := [.inl (a1 - (50 : Int32))]) (S := []) o (a_X2_knows g k.2.1 n j r hj hr (a1 - (50 : Int32)) m4) (Nat.le_of_ble_eq_true rfl) zv_X2_knows rfl cf_X2 (sh3 j r) ml_X11_140 (Nat.le_of_ble_eq_true rfl) (q_dm dm_X11_countOfKind 35 rfl) (fun r5 m6 => ?_)
      refine qr_if_eq (tgt := 83) o (q_dm dm_X11_countOfKind 36 rfl) (by decide) ?_ ?_
      · refine qr_iconst o (q_dm dm_X11_countOfKind 45 rfl) ic_m1 ?_
        exact qr_iret o rfl rfl (q_dm dm_X11_countOfKind 46 rfl)
      · refine qr_aload_n o (q_dm dm_X11_countOfKind 37 rfl) rfl ?_
        refine qr_getr (kf := 1) o cf_X11 (sh0 j r) rfl (Nat.le_of_ble_eq_true rfl) fl_X11_19 (q_dm dm_X11_countOfKind 38 rfl) ?_
        refine qr_getr (kf := 2) o cf_X2 (sh3 j r) rfl (Nat.le_of_ble_eq_true rfl) fl_X11_289 (q_dm dm_X11_countOfKind 39 rfl) ?_
        refine qr_iload_n o (q_dm dm_X11_countOfKind 40 rfl) rfl ?_
        refine qr_bipush o (q_dm dm_X11_countOfKind 41 rfl) bi_50 ?_
        refine qr_isub o (q_dm dm_X11_countOfKind 42 rfl) ?_
        refine qr_iald o (sh6 j r) (q_dm dm_X11_countOfKind 43 rfl) ?_
        refine qr_goto (tgt := 84) o (q_dm dm_X11_countOfKind 44 rfl) (by decide) ?_
        exact qr_iret o rfl rfl (q_dm dm_X11_countOfKind 46 rfl)
    · refine qr_aload_n o (q_dm dm_X11_countOfKind 22 rfl) rfl ?_
      refine qr_getr (kf := 1) o cf_X11 (sh0 j r) rfl (Nat.le_of_ble_eq_true rfl) fl_X11_19 (q_dm dm_X11_countOfKind 23 rfl) ?_
      refine qr_getr (kf := 1) o cf_X2 (sh3 j r) rfl (Nat.le_of_ble_eq_true rfl) fl_X11_286 (q_dm dm_X11_countOfKind 24 rfl) ?_
      refine qr_iload_n o (q_dm dm_X11_countOfKind 25 rfl) rfl ?_
      refine qr_bipush o (q_dm dm_X11_countOfKind 26 rfl) bi_30 ?_
      refine qr_isub o (q_dm dm_X11_countOfKind 27 rfl) ?_
      refine qr_iald o (sh5 j r) (q_dm dm_X11_countOfKind 28 rfl) ?_
      exact qr_iret o rfl rfl (q_dm dm_X11_countOfKind 29 rfl)
  · refine qr_aload_n o (q_dm dm_X11_countOfKind 7 rfl) rfl ?_
    refine qr_getr (kf := 1) o cf_X11 (sh0 j r) rfl (Nat.le_of_ble_eq_true rfl) fl_X11_19 (q_dm dm_X11_countOfKind 8 rfl) ?_
    refine qr_getr (kf := 0) o cf_X2 (sh3 j r) rfl (Nat.le_of_ble_eq_true rfl) fl_X11_283 (q_dm dm_X11_countOfKind 9 rfl) ?_
    refine qr_iload_n o (q_dm dm_X11_countOfKind 10 rfl) rfl ?_
    refine qr_bipush o (q_dm dm_X11_countOfKind 11 rfl) bi_10 ?_
    refine qr_isub o (q_dm dm_X11_countOfKind 12 rfl) ?_
    refine qr_iald o (sh4 j r) (q_dm dm_X11_countOfKind 13 rfl) ?_
    exact qr_iret o rfl rfl (q_dm dm_X11_countOfKind 14 rfl)

theorem a_X11_countOfKind (g : qG) (l : Launch) (n : Nat) (j r : Nat) (hj : q_isLaw j) (hr : q_isLaw r) (a1 : Int32) (M : qM) : qAM g l 1 zX11_countOfKind (qL j r) [.inr (some 0), .inl a1] (qL j r, M) (f_X11_countOfKind n a1 M) :=
  qAM.of zv_X11_countOfKind.1 (by show 2 ≤ 2; decide) (fun k hk o => w_X11_countOfKind n j r hj hr o a1 M)
def tb_X11_countOfPerson : List (Nat × Instr × Nat) := [(0, (.aload_n 0, 1)), (1, (.getfield 26, 3)), (4, (.iload_n 1, 1)), (5, (.bipush 70, 2)), (7, (.isub, 1)), (8, (.invokevirtual 131, 3)), (11, (.ifCond .eq 16, 3)), (14, (.aload_n 0, 1)), (15, (.getfield 26, 3)), (18, (.getfield 108, 3)), (21, (.iload_n 1, 1)), (22, (.bipush 70, 2)), (24, (.isub, 1)), (25, (.iaload, 1)), (26, (.ireturn, 1)), (27, (.aload_n 0, 1)), (28, (.getfield 26, 3)), (31, (.iload_n 1, 1)), (32, (.bipush 80, 2)), (34, (.isub, 1)), (35, (.invokevirtual 131, 3)), (38, (.ifCond .eq 15, 3)), (41, (.aload_n 0, 1)), (42, (.getfield 26, 3)), (45, (.iload_n 1, 1)), (46, (.bipush 80, 2)), (48, (.isub, 1)), (49, (.invokevirtual 163, 3)), (52, (.ireturn, 1)), (53, (.aload_n 0, 1)), (54, (.getfield 26, 3)), (57, (.iload_n 1, 1)), (58, (.bipush 90, 2)), (60, (.isub, 1)), (61, (.invokevirtual 131, 3)), (64, (.ifCond .eq 22, 3)), (67, (.aload_n 0, 1)), (68, (.getfield 26, 3)), (71, (.aload_n 0, 1)), (72, (.getfield 26, 3)), (75, (.getfield 169, 3)), (78, (.iload_n 1, 1)), (79, (.bipush 90, 2)), (81, (.isub, 1)), (82, (.invokevirtual 292, 3)), (85, (.ireturn, 1)), (86, (.aload_n 0, 1)), (87, (.getfield 26, 3)), (90, (.iload_n 1, 1)), (91, (.bipush 100, 2)), (93, (.isub, 1)), (94, (.invokevirtual 131, 3)), (97, (.ifCond .eq 24, 3)), (100, (.aload_n 0, 1)), (101, (.getfield 26, 3)), (104, (.aload_n 0, 1)), (105, (.getfield 26, 3)), (108, (.getfield 172, 3)), (111, (.iload_n 1, 1)), (112, (.bipush 100, 2)), (114, (.isub, 1)), (115, (.invokevirtual 292, 3)), (118, (.goto 4, 3)), (121, (.iconst (-1), 1)), (122, (.ireturn, 1))]
theorem dm_X11_countOfPerson : ∀ q ∈ tb_X11_countOfPerson, decode zX11_countOfPerson.2.1 q.1 = .ok q.2 := by decide +kernel
def f_X11_countOfPerson (n : Nat) (a1 : Int32) (M : qM) : qR :=
  qc (f_X10_knows n 7 (a1 - (70 : Int32)) M) (fun r1 m2 => (if r1 = (0 : Int32) then qc (f_X10_knows n 7 (a1 - (80 : Int32)) m2) (fun r3 m4 => (if r3 = (0 : Int32) then qc (f_X10_knows n 7 (a1 - (90 : Int32)) m4) (fun r5 m6 => (if r5 = (0 : Int32) then qc (f_X10_knows n 7 (a1 - (100 : Int32)) m6) (fun r7 m8 => (if r7 = (0 : Int32) then some ((-1 : Int32), m8) else qc (f_X10_sumOf n 7 11 (a1 - (100 : Int32)) m8) (fun r9 m10 => some (r9, m10)))) else qc (f_X10_sumOf n 7 9 (a1 - (90 : Int32)) m6) (fun r11 m12 => some (r11, m12)))) else qc (f_X10_stepsLeft n 7 (a1 - (80 : Int32)) m4) (fun r13 m14 => some (r13, m14)))) else qg (a1 - (70 : Int32)) 8 (some ((m2 8 (a1 - (70 : Int32)).toNatClampNeg), m2))))
set_option maxRecDepth 4000 in
theorem w_X11_countOfPerson {g : qG} {k : qK} (n : Nat) (j r : Nat) (hj : q_isLaw j) (hr : q_isLaw r) (o : qOk g 1 zX11_countOfPerson k) (a1 : Int32) (M : qM) : qAE g k zX11_countOfPerson (qL j r) 0 [some (.inr (some 0)), some (.inl a1)] [] (qL j r, M) (f_X11_countOfPerson n a1 M) := by
  unfold f_X11_countOfPerson
  refine qr_aload_n o (q_dm dm_X11_countOfPerson 0 rfl) rfl ?_
  refine qr_getr (kf := 2) o cf_X11 (sh0 j r) rfl (Nat.le_of_ble_eq_true rfl) fl_X11_26 (q_dm dm_X11_countOfPerson 1 rfl) ?_
  refine qr_iload_n o (q_dm dm_X11_countOfPerson 2 rfl) rfl ?_
  refine qr_bipush o (q_dm dm_X11_countOfPerson 3 rfl) bi_70 ?_
  refine qr_isub o (q_dm dm_X11_countOfPerson 4 rfl) ?_
  refine qr_callv_i (As := [.inl (a1 - (70 : Int32))]) (S := []) o (a_X10_knows g k.2.1 n j r hj hr (Or.inl rfl) (a1 - (70 : Int32)) M) (Nat.le_of_ble_eq_true rfl) zv_X10_knows rfl cf_X10 (sh7 j r) ml_X11_131 (Nat.le_of_ble_eq_true rfl) (q_dm dm_X11_countOfPerson 5 rfl) (fun r1 m2 => ?_)
  refine qr_if_eq (tgt := 27) o (q_dm dm_X11_countOfPerson 6 rfl) (by decide) ?_ ?_
  · refine qr_aload_n o (q_dm dm_X11_countOfPerson 15 rfl) rfl ?_
    refine qr_getr (kf := 2) o cf_X11 (sh0 j r) rfl (Nat.le_of_ble_eq_true rfl) fl_X11_26 (q_dm dm_X11_countOfPerson 16 rfl) ?_
    refine qr_iload_n o (q_dm dm_X11_countOfPerson 17 rfl) rfl ?_
    refine qr_bipush o (q_dm dm_X11_countOfPerson 18 rfl) bi_80 ?_
    refine qr_isub o (q_dm dm_X11_countOfPerson 19 rfl) ?_
    refine qr_callv_i (As := [.inl (a1 - (80 : Int32))]) (S := []) o (a_X10_knows g k.2.1 n j r hj hr (Or.inl rfl) (a1 - (80 : Int32)) m2) (Nat.le_of_ble_eq_true rfl) zv_X10_knows rfl cf_X10 (sh7 j r) ml_X11_131 (Nat.le_of_ble_eq_true rfl) (q_dm dm_X11_countOfPerson 20 rfl) (fun r3 m4 => ?_)
    refine qr_if_eq (tgt := 53) o (q_dm dm_X11_countOfPerson 21 rfl) (by decide) ?_ ?_
    · refine qr_aload_n o (q_dm dm_X11_countOfPerson 29 rfl) rfl ?_
      refine qr_getr (kf := 2) o cf_X11 (sh0 j r) rfl (Nat.le_of_ble_eq_true rfl) fl_X11_26 (q_dm dm_X11_countOfPerson 30 rfl) ?_
      refine qr_iload_n o (q_dm dm_X11_countOfPerson 31 rfl) rfl ?_
      refine qr_bipush o (q_dm dm_X11_countOfPerson 32 rfl) bi_90 ?_
      refine qr_isub o (q_dm dm_X11_countOfPerson 33 rfl) ?_
      refine qr_callv_i (As := [.inl (a1 - (90 : Int32))]) (S := []) o (a_X10_knows g k.2.1 n j r hj hr (Or.inl rfl) (a1 - (90 : Int32)) m4) (Nat.le_of_ble_eq_true rfl) zv_X10_knows rfl cf_X10 (sh7 j r) ml_X11_131 (Nat.le_of_ble_eq_true rfl) (q_dm dm_X11_countOfPerson 34 rfl) (fun r5 m6 => ?_)
      refine qr_if_eq (tgt := 86) o (q_dm dm_X11_countOfPerson 35 rfl) (by decide) ?_ ?_
      · refine qr_aload_n o (q_dm dm_X11_countOfPerson 46 rfl) rfl ?_
        refine qr_getr (kf := 2) o cf_X11 (sh0 j r) rfl (Nat.le_of_ble_eq_true rfl) fl_X11_26 (q_dm dm_X11_countOfPerson 47 rfl) ?_
        refine qr_iload_n o (q_dm dm_X11_countOfPerson 48 rfl) rfl ?_
        refine qr_bipush o (q_dm dm_X11_countOfPerson 49 rfl) bi_100 ?_
        refine qr_isub o (q_dm dm_X11_countOfPerson 50 rfl) ?_
        refine qr_callv_i (As := [.inl (a1 - (100 : Int32))]) (S := []) o (a_X10_knows g k.2.1 n j r hj hr (Or.inl rfl) (a1 - (100 : Int32)) m6) (Nat.le_of_ble_eq_true rfl) zv_X10_knows rfl cf_X10 (sh7 j r) ml_X11_131 (Nat.le_of_ble_eq_true rfl) (q_dm dm_X11_countOfPerson 51 rfl) (fun r7 m8 => ?_)
        refine qr_if_eq (tgt := 121) o (q_dm dm_X11_countOfPerson 52 rfl) (by decide) ?_ ?_
        · refine qr_iconst o (q_dm dm_X11_countOfPerson 63 rfl) ic_m1 ?_
          exact qr_iret o rfl rfl (q_dm dm_X11_countOfPerson 64 rfl)
        · refine qr_aload_n o (q_dm dm_X11_countOfPerson 53 rfl) rfl ?_
          refine qr_getr (kf := 2) o cf_X11 (sh0 j r) rfl (Nat.le_of_ble_eq_true rfl) fl_X11_26 (q_dm dm_X11_countOfPerson 54 rfl) ?_
          refine qr_aload_n o (q_dm dm_X11_countOfPerson 55 rfl) rfl ?_
          refine qr_getr (kf := 2) o cf_X11 (sh0 j r) rfl (Nat.le_of_ble_eq_true rfl) fl_X11_26 (q_dm dm_X11_countOfPerson 56 rfl) ?_
          refine qr_getr (kf := 3) o cf_X10 (sh7 j r) rfl (Nat.le_of_ble_eq_true rfl) fl_X11_172 (q_dm dm_X11_countOfPerson 57 rfl) ?_
          refine qr_iload_n o (q_dm dm_X11_countOfPerson 58 rfl) rfl ?_
          refine qr_bipush o (q_dm dm_X11_countOfPerson 59 rfl) bi_100 ?_
          refine qr_isub o (q_dm dm_X11_countOfPerson 60 rfl) ?_
          refine qr_callv_i (As := [.inr (some 11), .inl (a1 - (100 : Int32))]) (S := []) o (a_X10_sumOf g k.2.1 n j r hj hr (Or.inl rfl) (sh11 j r) (a1 - (100 : Int32)) m8) (Nat.le_of_ble_eq_true rfl) zv_X10_sumOf rfl cf_X10 (sh7 j r) ml_X11_292 (Nat.le_of_ble_eq_true rfl) (q_dm dm_X11_countOfPerson 61 rfl) (fun r9 m10 => ?_)
          refine qr_goto (tgt := 122) o (q_dm dm_X11_countOfPerson 62 rfl) (by decide) ?_
          exact qr_iret o rfl rfl (q_dm dm_X11_countOfPerson 64 rfl)
      · refine qr_aload_n o (q_dm dm_X11_countOfPerson 36 rfl) rfl ?_
        refine qr_getr (kf := 2) o cf_X11 (sh0 j r) rfl (Nat.le_of_ble_eq_true rfl) fl_X11_26 (q_dm dm_X11_countOfPerson 37 rfl) ?_
        refine qr_aload_n o (q_dm dm_X11_countOfPerson 38 rfl) rfl ?_
        refine qr_getr (kf := 2) o cf_X11 (sh0 j r) rfl (Nat.le_of_ble_eq_true rfl) fl_X11_26 (q_dm dm_X11_countOfPerson 39 rfl) ?_
        refine qr_getr (kf := 1) o cf_X10 (sh7 j r) rfl (Nat.le_of_ble_eq_true rfl) fl_X11_169 (q_dm dm_X11_countOfPerson 40 rfl) ?_
        refine qr_iload_n o (q_dm dm_X11_countOfPerson 41 rfl) rfl ?_
        refine qr_bipush o (q_dm dm_X11_countOfPerson 42 rfl) bi_90 ?_
        refine qr_isub o (q_dm dm_X11_countOfPerson 43 rfl) ?_
        refine qr_callv_i (As := [.inr (some 9), .inl (a1 - (90 : Int32))]) (S := []) o (a_X10_sumOf g k.2.1 n j r hj hr (Or.inl rfl) (sh9 j r) (a1 - (90 : Int32)) m6) (Nat.le_of_ble_eq_true rfl) zv_X10_sumOf rfl cf_X10 (sh7 j r) ml_X11_292 (Nat.le_of_ble_eq_true rfl) (q_dm dm_X11_countOfPerson 44 rfl) (fun r11 m12 => ?_)
        exact qr_iret o rfl rfl (q_dm dm_X11_countOfPerson 45 rfl)
    · refine qr_aload_n o (q_dm dm_X11_countOfPerson 22 rfl) rfl ?_
      refine qr_getr (kf := 2) o cf_X11 (sh0 j r) rfl (Nat.le_of_ble_eq_true rfl) fl_X11_26 (q_dm dm_X11_countOfPerson 23 rfl) ?_
      refine qr_iload_n o (q_dm dm_X11_countOfPerson 24 rfl) rfl ?_
      refine qr_bipush o (q_dm dm_X11_countOfPerson 25 rfl) bi_80 ?_
      refine qr_isub o (q_dm dm_X11_countOfPerson 26 rfl) ?_
      refine qr_callv_i (As := [.inl (a1 - (80 : Int32))]) (S := []) o (a_X10_stepsLeft g k.2.1 n j r hj hr (Or.inl rfl) (a1 - (80 : Int32)) m4) (Nat.le_of_ble_eq_true rfl) zv_X10_stepsLeft rfl cf_X10 (sh7 j r) ml_X11_163 (Nat.le_of_ble_eq_true rfl) (q_dm dm_X11_countOfPerson 27 rfl) (fun r13 m14 => ?_)
      exact qr_iret o rfl rfl (q_dm dm_X11_countOfPerson 28 rfl)
  · refine qr_aload_n o (q_dm dm_X11_countOfPerson 7 rfl) rfl ?_
    refine qr_getr (kf := 2) o cf_X11 (sh0 j r) rfl (Nat.le_of_ble_eq_true rfl) fl_X11_26 (q_dm dm_X11_countOfPerson 8 rfl) ?_
    refine qr_getr (kf := 0) o cf_X10 (sh7 j r) rfl (Nat.le_of_ble_eq_true rfl) fl_X11_108 (q_dm dm_X11_countOfPerson 9 rfl) ?_
    refine qr_iload_n o (q_dm dm_X11_countOfPerson 10 rfl) rfl ?_
    refine qr_bipush o (q_dm dm_X11_countOfPerson 11 rfl) bi_70 ?_
    refine qr_isub o (q_dm dm_X11_countOfPerson 12 rfl) ?_
    refine qr_iald o (sh8 j r) (q_dm dm_X11_countOfPerson 13 rfl) ?_
    exact qr_iret o rfl rfl (q_dm dm_X11_countOfPerson 14 rfl)

theorem a_X11_countOfPerson (g : qG) (l : Launch) (n : Nat) (j r : Nat) (hj : q_isLaw j) (hr : q_isLaw r) (a1 : Int32) (M : qM) : qAM g l 1 zX11_countOfPerson (qL j r) [.inr (some 0), .inl a1] (qL j r, M) (f_X11_countOfPerson n a1 M) :=
  qAM.of zv_X11_countOfPerson.1 (by show 2 ≤ 2; decide) (fun k hk o => w_X11_countOfPerson n j r hj hr o a1 M)
def tb_X11_count : List (Nat × Instr × Nat) := [(0, (.iload_n 1, 1)), (1, (.tableswitch 78 0 4 #[35, 43, 51, 59, 70], 35)), (36, (.aload_n 0, 1)), (37, (.getfield 26, 3)), (40, (.getfield 184, 3)), (43, (.ireturn, 1)), (44, (.aload_n 0, 1)), (45, (.getfield 19, 3)), (48, (.getfield 269, 3)), (51, (.ireturn, 1)), (52, (.aload_n 0, 1)), (53, (.getfield 26, 3)), (56, (.getfield 104, 3)), (59, (.ireturn, 1)), (60, (.aload_n 0, 1)), (61, (.getfield 41, 3)), (64, (.getfield 126, 3)), (67, (.getfield 272, 3)), (70, (.ireturn, 1)), (71, (.aload_n 0, 1)), (72, (.getfield 10, 3)), (75, (.getfield 112, 3)), (78, (.ireturn, 1)), (79, (.iload_n 1, 1)), (80, (.bipush 70, 2)), (82, (.if_icmp .ge 11, 3)), (85, (.aload_n 0, 1)), (86, (.iload_n 1, 1)), (87, (.invokevirtual 277, 3)), (90, (.goto 8, 3)), (93, (.aload_n 0, 1)), (94, (.iload_n 1, 1)), (95, (.invokevirtual 280, 3)), (98, (.ireturn, 1))]
theorem dm_X11_count : ∀ q ∈ tb_X11_count, decode zX11_count.2.1 q.1 = .ok q.2 := by decide +kernel
def f_X11_count (n : Nat) (j : Nat) (a1 : Int32) (M : qM) : qR :=
  qsw a1 [((0 : Int32), some ((M 7 9), M)), ((1 : Int32), some ((M 3 3), M)), ((2 : Int32), some ((M 7 8), M)), ((3 : Int32), some ((M j 7), M)), ((4 : Int32), some ((M 1 1), M))] ((if (70 : Int32) ≤ a1 then qc (f_X11_countOfPerson n a1 M) (fun r1 m2 => some (r1, m2)) else qc (f_X11_countOfKind n a1 M) (fun r3 m4 => some (r3, m4))))
set_option maxRecDepth 4000 in
theorem w_X11_count {g : qG} {k : qK} (n : Nat) (j r : Nat) (hj : q_isLaw j) (hr : q_isLaw r) (o : qOk g 2 zX11_count k) (a1 : Int32) (M : qM) : qAE g k zX11_count (qL j r) 0 [some (.inr (some 0)), some (.inl a1)] [] (qL j r, M) (f_X11_count n j a1 M) := by
  unfold f_X11_count
  refine qr_iload_n o (q_dm dm_X11_count 0 rfl) rfl ?_
  refine qr_tablep (tgt := 79) o (q_dm dm_X11_count 1 rfl) (by show (_ : Int) + (5 : Nat) = _; decide) (by decide) ?_ (q_tbc (35) 36 (by decide) rfl (by decide) ?_ (q_tbc (43) 44 (by decide) rfl (by decide) ?_ (q_tbc (51) 52 (by decide) rfl (by decide) ?_ (q_tbc (59) 60 (by decide) rfl (by decide) ?_ (q_tbc (70) 71 (by decide) rfl (by decide) ?_ q_tbn)))))
  · refine qr_iload_n o (q_dm dm_X11_count 23 rfl) rfl ?_
    refine qr_bipush o (q_dm dm_X11_count 24 rfl) bi_70 ?_
    refine qr_icmp_ge (tgt := 93) o (q_dm dm_X11_count 25 rfl) (by decide) ?_ ?_
    · refine qr_aload_n o (q_dm dm_X11_count 30 rfl) rfl ?_
      refine qr_iload_n o (q_dm dm_X11_count 31 rfl) rfl ?_
      refine qr_callv_i (As := [.inl a1]) (S := []) o (a_X11_countOfPerson g k.2.1 n j r hj hr a1 M) (Nat.le_of_ble_eq_true rfl) zv_X11_countOfPerson rfl cf_X11 (sh0 j r) ml_X11_280 (Nat.le_of_ble_eq_true rfl) (q_dm dm_X11_count 32 rfl) (fun r1 m2 => ?_)
      exact qr_iret o rfl rfl (q_dm dm_X11_count 33 rfl)
    · refine qr_aload_n o (q_dm dm_X11_count 26 rfl) rfl ?_
      refine qr_iload_n o (q_dm dm_X11_count 27 rfl) rfl ?_
      refine qr_callv_i (As := [.inl a1]) (S := []) o (a_X11_countOfKind g k.2.1 n j r hj hr a1 M) (Nat.le_of_ble_eq_true rfl) zv_X11_countOfKind rfl cf_X11 (sh0 j r) ml_X11_277 (Nat.le_of_ble_eq_true rfl) (q_dm dm_X11_count 28 rfl) (fun r3 m4 => ?_)
      refine qr_goto (tgt := 98) o (q_dm dm_X11_count 29 rfl) (by decide) ?_
      exact qr_iret o rfl rfl (q_dm dm_X11_count 33 rfl)
  · refine qr_aload_n o (q_dm dm_X11_count 2 rfl) rfl ?_
    refine qr_getr (kf := 2) o cf_X11 (sh0 j r) rfl (Nat.le_of_ble_eq_true rfl) fl_X11_26 (q_dm dm_X11_count 3 rfl) ?_
    refine qr_getf (kf := 9) o cf_X10 (sh7 j r) rfl (Nat.le_of_ble_eq_true rfl) fl_X11_184 (q_dm dm_X11_count 4 rfl) ?_
    exact qr_iret o rfl rfl (q_dm dm_X11_count 5 rfl)
  · refine qr_aload_n o (q_dm dm_X11_count 6 rfl) rfl ?_
    refine qr_getr (kf := 1) o cf_X11 (sh0 j r) rfl (Nat.le_of_ble_eq_true rfl) fl_X11_19 (q_dm dm_X11_count 7 rfl) ?_
    refine qr_getf (kf := 3) o cf_X2 (sh3 j r) rfl (Nat.le_of_ble_eq_true rfl) fl_X11_269 (q_dm dm_X11_count 8 rfl) ?_
    exact qr_iret o rfl rfl (q_dm dm_X11_count 9 rfl)
  · refine qr_aload_n o (q_dm dm_X11_count 10 rfl) rfl ?_
    refine qr_getr (kf := 2) o cf_X11 (sh0 j r) rfl (Nat.le_of_ble_eq_true rfl) fl_X11_26 (q_dm dm_X11_count 11 rfl) ?_
    refine qr_getf (kf := 8) o cf_X10 (sh7 j r) rfl (Nat.le_of_ble_eq_true rfl) fl_X11_104 (q_dm dm_X11_count 12 rfl) ?_
    exact qr_iret o rfl rfl (q_dm dm_X11_count 13 rfl)
  · refine qr_aload_n o (q_dm dm_X11_count 14 rfl) rfl ?_
    refine qr_getr (kf := 5) o cf_X11 (sh0 j r) rfl (Nat.le_of_ble_eq_true rfl) fl_X11_41 (q_dm dm_X11_count 15 rfl) ?_
    refine qr_getr (kf := 3) o cf_X1 (sh34 j r) rfl (Nat.le_of_ble_eq_true rfl) fl_X11_126 (q_dm dm_X11_count 16 rfl) ?_
    refine qr_getf (kf := 7) o cf_X3 (shW0 j r hj) rfl (Nat.le_of_ble_eq_true rfl) fl_X11_272 (q_dm dm_X11_count 17 rfl) ?_
    exact qr_iret o rfl rfl (q_dm dm_X11_count 18 rfl)
  · refine qr_aload_n o (q_dm dm_X11_count 19 rfl) rfl ?_
    refine qr_getr (kf := 0) o cf_X11 (sh0 j r) rfl (Nat.le_of_ble_eq_true rfl) fl_X11_10 (q_dm dm_X11_count 20 rfl) ?_
    refine qr_getf (kf := 1) o cf_X9 (sh1 j r) rfl (Nat.le_of_ble_eq_true rfl) fl_X11_112 (q_dm dm_X11_count 21 rfl) ?_
    exact qr_iret o rfl rfl (q_dm dm_X11_count 22 rfl)

theorem a_X11_count (g : qG) (l : Launch) (n : Nat) (j r : Nat) (hj : q_isLaw j) (hr : q_isLaw r) (a1 : Int32) (M : qM) : qAM g l 2 zX11_count (qL j r) [.inr (some 0), .inl a1] (qL j r, M) (f_X11_count n j a1 M) :=
  qAM.of zv_X11_count.1 (by show 2 ≤ 2; decide) (fun k hk o => w_X11_count n j r hj hr o a1 M)
