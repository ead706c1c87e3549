def tb_X12_readsFactor : List (Nat × Instr × Nat) := [(0, (.aload_n 0, 1)), (1, (.invokevirtual 175, 3)), (4, (.bipush 91, 2)), (6, (.if_icmp .ne 14, 3)), (9, (.aload_n 0, 1)), (10, (.bipush 14, 2)), (12, (.invokevirtual 209, 3)), (15, (.ifCond .ne (-15), 3)), (18, (.iconst 0, 1)), (19, (.ireturn, 1)), (20, (.aload_n 0, 1)), (21, (.invokevirtual 188, 3)), (24, (.ifCond .eq 23, 3)), (27, (.aload_n 0, 1)), (28, (.invokevirtual 212, 3)), (31, (.ifCond .ne 5, 3)), (34, (.iconst 0, 1)), (35, (.ireturn, 1)), (36, (.aload_n 0, 1)), (37, (.iconst 0, 1)), (38, (.aload_n 0, 1)), (39, (.getfield 185, 3)), (42, (.invokevirtual 205, 3)), (45, (.iconst 1, 1)), (46, (.ireturn, 1)), (47, (.aload_n 0, 1)), (48, (.invokevirtual 175, 3)), (51, (.invokestatic 215, 3)), (54, (.istore_n 1, 1)), (55, (.iload_n 1, 1)), (56, (.iconst (-1), 1)), (57, (.if_icmp .ne 13, 3)), (60, (.aload_n 0, 1)), (61, (.iconst 1, 1)), (62, (.aload_n 0, 1)), (63, (.getfield 169, 3)), (66, (.invokevirtual 182, 3)), (69, (.ireturn, 1)), (70, (.aload_n 0, 1)), (71, (.iconst 1, 1)), (72, (.iload_n 1, 1)), (73, (.invokevirtual 205, 3)), (76, (.aload_n 0, 1)), (77, (.aload_n 0, 1)), (78, (.getfield 169, 3)), (81, (.iconst 1, 1)), (82, (.iadd, 1)), (83, (.putfield 169, 3)), (86, (.iconst 1, 1)), (87, (.ireturn, 1))]
theorem dm_X12_readsFactor : ∀ q ∈ tb_X12_readsFactor, decode zX12_readsFactor.2.1 q.1 = .ok q.2 := by decide +kernel
def b_X12_readsFactor_0 (n : Nat) (K0 : qM → qR) (M : qM) : qR :=
  qc (f_X12_here n  M) (fun r1 m2 => (if r1 = (91 : Int32) then qc (f_X12_opens n (14 : Int32) m2) (fun r16 m17 => (if r16 = (0 : Int32) then some ((0 : Int32), m17) else K0  m17)) else qc (f_X12_isDigit n  m2) (fun r3 m4 => (if r3 = (0 : Int32) then qc (f_X12_here n  m4) (fun r5 m6 => qc (f_X12_factOf n r5 m6) (fun r7 m8 => (if r7 = (-1 : Int32) then qc (f_X12_wrongAt n (1 : Int32) (m8 77 9) m8) (fun r11 m12 => qb r11 (some (r11, m12))) else qc (f_X12_notes n (1 : Int32) r7 m8) (fun _ m9 => qlm (mu m9 77 9 ((m9 77 9) + (1 : Int32))) (fun m10 => some ((1 : Int32), m10)))))) else qc (f_X12_readsNumber n  m4) (fun r13 m14 => (if r13 = (0 : Int32) then some ((0 : Int32), m14) else qc (f_X12_notes n (0 : Int32) (m14 77 12) m14) (fun _ m15 => some ((1 : Int32), m15))))))))
set_option maxRecDepth 4000 in
theorem wb_X12_readsFactor_0 {g : qG} {k : qK} (n : Nat) (j r : Nat) (hj : q_isLaw j) (hr : q_isLaw r) (o : qOk g 3 zX12_readsFactor k) (K0 : qM → qR) (hK0 : ∀ (M : qM), qAE g k zX12_readsFactor (qL j r) 0 [some (.inr (some 77)), none] [] (qL j r, M) (K0  M)) (M : qM) : qAE g k zX12_readsFactor (qL j r) 0 [some (.inr (some 77)), none] [] (qL j r, M) (b_X12_readsFactor_0 n K0  M) := by
  unfold b_X12_readsFactor_0
  refine qr_aload_n o (q_dm dm_X12_readsFactor 0 rfl) rfl ?_
  refine qr_callv_i (As := []) (S := []) o (a_X12_here g k.2.1 n j r hj hr  M) (Nat.le_of_ble_eq_true rfl) zv_X12_here rfl cf_X12 (sh77 j r) ml_X12_175 (Nat.le_of_ble_eq_true rfl) (q_dm dm_X12_readsFactor 1 rfl) (fun r1 m2 => ?_)
  refine qr_bipush o (q_dm dm_X12_readsFactor 2 rfl) bi_91 ?_
  refine qr_icmp_ne (tgt := 20) o (q_dm dm_X12_readsFactor 3 rfl) (by decide) ?_ ?_
  · refine qr_aload_n o (q_dm dm_X12_readsFactor 10 rfl) rfl ?_
    refine qr_callv_i (As := []) (S := []) o (a_X12_isDigit g k.2.1 n j r hj hr  m2) (Nat.le_of_ble_eq_true rfl) zv_X12_isDigit rfl cf_X12 (sh77 j r) ml_X12_188 (Nat.le_of_ble_eq_true rfl) (q_dm dm_X12_readsFactor 11 rfl) (fun r3 m4 => ?_)
    refine qr_if_eq (tgt := 47) o (q_dm dm_X12_readsFactor 12 rfl) (by decide) ?_ ?_
    · refine qr_aload_n o (q_dm dm_X12_readsFactor 25 rfl) rfl ?_
      refine qr_callv_i (As := []) (S := []) o (a_X12_here g k.2.1 n j r hj hr  m4) (Nat.le_of_ble_eq_true rfl) zv_X12_here rfl cf_X12 (sh77 j r) ml_X12_175 (Nat.le_of_ble_eq_true rfl) (q_dm dm_X12_readsFactor 26 rfl) (fun r5 m6 => ?_)
      refine qr_calls_i (As := [.inl r5]) (S := []) o (a_X12_factOf g k.2.1 n j r hj hr r5 m6) (Nat.le_of_ble_eq_true rfl) zs_X12_factOf rfl ml_X12_215 (Nat.le_of_ble_eq_true rfl) (q_dm dm_X12_readsFactor 27 rfl) (fun r7 m8 => ?_)
      refine qs_istore_n (L' := [some (.inr (some 77)), some (.inl r7)]) o (q_dm dm_X12_readsFactor 28 rfl) (Nat.le_of_ble_eq_true rfl) rfl ?_
      refine qr_iload_n o (q_dm dm_X12_readsFactor 29 rfl) rfl ?_
      refine qr_iconst o (q_dm dm_X12_readsFactor 30 rfl) ic_m1 ?_
      refine qr_icmp_ne (tgt := 70) o (q_dm dm_X12_readsFactor 31 rfl) (by decide) ?_ ?_
      · refine qr_aload_n o (q_dm dm_X12_readsFactor 38 rfl) rfl ?_
        refine qr_iconst o (q_dm dm_X12_readsFactor 39 rfl) ic_1 ?_
        refine qr_iload_n o (q_dm dm_X12_readsFactor 40 rfl) rfl ?_
        refine qr_callv_v (As := [.inl (1 : Int32), .inl r7]) (S := []) o (a_X12_notes g k.2.1 n j r hj hr (1 : Int32) r7 m8) (Nat.le_of_ble_eq_true rfl) zv_X12_notes rfl cf_X12 (sh77 j r) ml_X12_205 (Nat.le_of_ble_eq_true rfl) (q_dm dm_X12_readsFactor 41 rfl) (fun _ m9 => ?_)
        refine qr_aload_n o (q_dm dm_X12_readsFactor 42 rfl) rfl ?_
        refine qr_aload_n o (q_dm dm_X12_readsFactor 43 rfl) rfl ?_
        refine qr_getf (kf := 9) o cf_X12 (sh77 j r) rfl (Nat.le_of_ble_eq_true rfl) fl_X12_169 (q_dm dm_X12_readsFactor 44 rfl) ?_
        refine qr_iconst o (q_dm dm_X12_readsFactor 45 rfl) ic_1 ?_
        refine qr_iadd o (q_dm dm_X12_readsFactor 46 rfl) ?_
        refine qr_putf (kf := 9) o cf_X12 (sh77 j r) rfl (Nat.le_of_ble_eq_true rfl) fl_X12_169 rfl (by decide +kernel) (q_dm dm_X12_readsFactor 47 rfl) ?_
        refine qr_letm (fun m10 => ?_)
        refine qr_iconst o (q_dm dm_X12_readsFactor 48 rfl) ic_1 ?_
        exact qr_iret o rfl (by decide) (q_dm dm_X12_readsFactor 49 rfl)
      · refine qr_aload_n o (q_dm dm_X12_readsFactor 32 rfl) rfl ?_
        refine qr_iconst o (q_dm dm_X12_readsFactor 33 rfl) ic_1 ?_
        refine qr_aload_n o (q_dm dm_X12_readsFactor 34 rfl) rfl ?_
        refine qr_getf (kf := 9) o cf_X12 (sh77 j r) rfl (Nat.le_of_ble_eq_true rfl) fl_X12_169 (q_dm dm_X12_readsFactor 35 rfl) ?_
        refine qr_callv_i (As := [.inl (1 : Int32), .inl (m8 77 9)]) (S := []) o (a_X12_wrongAt g k.2.1 n j r hj hr (1 : Int32) (m8 77 9) m8) (Nat.le_of_ble_eq_true rfl) zv_X12_wrongAt rfl cf_X12 (sh77 j r) ml_X12_182 (Nat.le_of_ble_eq_true rfl) (q_dm dm_X12_readsFactor 36 rfl) (fun r11 m12 => ?_)
        exact qr_zret o rfl (q_dm dm_X12_readsFactor 37 rfl)
    · refine qr_aload_n o (q_dm dm_X12_readsFactor 13 rfl) rfl ?_
      refine qr_callv_i (As := []) (S := []) o (a_X12_readsNumber g k.2.1 n j r hj hr  m4) (Nat.le_of_ble_eq_true rfl) zv_X12_readsNumber rfl cf_X12 (sh77 j r) ml_X12_212 (Nat.le_of_ble_eq_true rfl) (q_dm dm_X12_readsFactor 14 rfl) (fun r13 m14 => ?_)
      refine qr_if_ne (tgt := 36) o (q_dm dm_X12_readsFactor 15 rfl) (by decide) ?_ ?_
      · refine qr_aload_n o (q_dm dm_X12_readsFactor 18 rfl) rfl ?_
        refine qr_iconst o (q_dm dm_X12_readsFactor 19 rfl) ic_0 ?_
        refine qr_aload_n o (q_dm dm_X12_readsFactor 20 rfl) rfl ?_
        refine qr_getf (kf := 12) o cf_X12 (sh77 j r) rfl (Nat.le_of_ble_eq_true rfl) fl_X12_185 (q_dm dm_X12_readsFactor 21 rfl) ?_
        refine qr_callv_v (As := [.inl (0 : Int32), .inl (m14 77 12)]) (S := []) o (a_X12_notes g k.2.1 n j r hj hr (0 : Int32) (m14 77 12) m14) (Nat.le_of_ble_eq_true rfl) zv_X12_notes rfl cf_X12 (sh77 j r) ml_X12_205 (Nat.le_of_ble_eq_true rfl) (q_dm dm_X12_readsFactor 22 rfl) (fun _ m15 => ?_)
        refine qr_iconst o (q_dm dm_X12_readsFactor 23 rfl) ic_1 ?_
        exact qr_iret o rfl (by decide) (q_dm dm_X12_readsFactor 24 rfl)
      · refine qr_iconst o (q_dm dm_X12_readsFactor 16 rfl) ic_0 ?_
        exact qr_iret o rfl (by decide) (q_dm dm_X12_readsFactor 17 rfl)
  · refine qr_aload_n o (q_dm dm_X12_readsFactor 4 rfl) rfl ?_
    refine qr_bipush o (q_dm dm_X12_readsFactor 5 rfl) bi_14 ?_
    refine qr_callv_i (As := [.inl (14 : Int32)]) (S := []) o (a_X12_opens g k.2.1 n j r hj hr (14 : Int32) m2) (Nat.le_of_ble_eq_true rfl) zv_X12_opens rfl cf_X12 (sh77 j r) ml_X12_209 (Nat.le_of_ble_eq_true rfl) (q_dm dm_X12_readsFactor 6 rfl) (fun r16 m17 => ?_)
    refine qr_if_ne (tgt := 0) o (q_dm dm_X12_readsFactor 7 rfl) (by decide) ?_ ?_
    · exact qr_loc (q_leS (q_leN q_le0)) (hK0  m17)
    · refine qr_iconst o (q_dm dm_X12_readsFactor 8 rfl) ic_0 ?_
      exact qr_iret o rfl (by decide) (q_dm dm_X12_readsFactor 9 rfl)

def f_X12_readsFactor_0 (n : Nat) : Nat → qM → qR
  | 0, _ => none
  | m + 1, M => b_X12_readsFactor_0 n (f_X12_readsFactor_0 n m)  M
theorem w_X12_readsFactor_0 {g : qG} {k : qK} (n : Nat) (j r : Nat) (hj : q_isLaw j) (hr : q_isLaw r) (o : qOk g 3 zX12_readsFactor k) : ∀ (m : Nat) (M : qM), qAE g k zX12_readsFactor (qL j r) 0 [some (.inr (some 77)), none] [] (qL j r, M) (f_X12_readsFactor_0 n m  M) := by
  intro m
  induction m with
  | zero =>
    intro  M
    exact qr_none
  | succ m ih =>
    intro  M
    exact wb_X12_readsFactor_0 n j r hj hr o (f_X12_readsFactor_0 n m) ih  M
def f_X12_readsFactor (n : Nat) (M : qM) : qR :=
  f_X12_readsFactor_0 n n  M
set_option maxRecDepth 4000 in
theorem w_X12_readsFactor {g : qG} {k : qK} (n : Nat) (j r : Nat) (hj : q_isLaw j) (hr : q_isLaw r) (o : qOk g 3 zX12_readsFactor k) (M : qM) : qAE g k zX12_readsFactor (qL j r) 0 [some (.inr (some 77)), none] [] (qL j r, M) (f_X12_readsFactor n  M) := by
  unfold f_X12_readsFactor
  exact qr_loc (q_leS (q_leN q_le0)) (w_X12_readsFactor_0 n j r hj hr o n  M)

theorem a_X12_readsFactor (g : qG) (l : Launch) (n : Nat) (j r : Nat) (hj : q_isLaw j) (hr : q_isLaw r) (M : qM) : qAM g l 3 zX12_readsFactor (qL j r) [.inr (some 77)] (qL j r, M) (f_X12_readsFactor n  M) :=
  qAM.of zv_X12_readsFactor.1 (by show 1 ≤ 2; decide) (fun k hk o => w_X12_readsFactor n j r hj hr o  M)
def tb_X12_sumSign : List (Nat × Instr × Nat) := [(0, (.iload_n 0, 1)), (1, (.bipush 43, 2)), (3, (.if_icmp .ne 7, 3)), (6, (.iconst 2, 1)), (7, (.goto 45, 3)), (10, (.iload_n 0, 1)), (11, (.bipush 45, 2)), (13, (.if_icmp .ne 7, 3)), (16, (.iconst 3, 1)), (17, (.goto 35, 3)), (20, (.iload_n 0, 1)), (21, (.bipush 42, 2)), (23, (.if_icmp .ne 7, 3)), (26, (.iconst 4, 1)), (27, (.goto 25, 3)), (30, (.iload_n 0, 1)), (31, (.bipush 47, 2)), (33, (.if_icmp .ne 7, 3)), (36, (.iconst 5, 1)), (37, (.goto 15, 3)), (40, (.iload_n 0, 1)), (41, (.bipush 37, 2)), (43, (.if_icmp .ne 8, 3)), (46, (.bipush 6, 2)), (48, (.goto 4, 3)), (51, (.iconst (-1), 1)), (52, (.ireturn, 1))]
theorem dm_X12_sumSign : ∀ q ∈ tb_X12_sumSign, decode zX12_sumSign.2.1 q.1 = .ok q.2 := by decide +kernel
def f_X12_sumSign (n : Nat) (a0 : Int32) (M : qM) : qR :=
  (if a0 = (43 : Int32) then some ((2 : Int32), M) else (if a0 = (45 : Int32) then some ((3 : Int32), M) else (if a0 = (42 : Int32) then some ((4 : Int32), M) else (if a0 = (47 : Int32) then some ((5 : Int32), M) else (if a0 = (37 : Int32) then some ((6 : Int32), M) else some ((-1 : Int32), M))))))
set_option maxRecDepth 4000 in
theorem w_X12_sumSign {g : qG} {k : qK} (n : Nat) (j r : Nat) (hj : q_isLaw j) (hr : q_isLaw r) (o : qOk g 0 zX12_sumSign k) (a0 : Int32) (M : qM) : qAE g k zX12_sumSign (qL j r) 0 [some (.inl a0)] [] (qL j r, M) (f_X12_sumSign n a0 M) := by
  unfold f_X12_sumSign
  refine qr_iload_n o (q_dm dm_X12_sumSign 0 rfl) rfl ?_
  refine qr_bipush o (q_dm dm_X12_sumSign 1 rfl) bi_43 ?_
  refine qr_icmp_ne (tgt := 10) o (q_dm dm_X12_sumSign 2 rfl) (by decide) ?_ ?_
  · refine qr_iload_n o (q_dm dm_X12_sumSign 5 rfl) rfl ?_
    refine qr_bipush o (q_dm dm_X12_sumSign 6 rfl) bi_45 ?_
    refine qr_icmp_ne (tgt := 20) o (q_dm dm_X12_sumSign 7 rfl) (by decide) ?_ ?_
    · refine qr_iload_n o (q_dm dm_X12_sumSign 10 rfl) rfl ?_
      refine qr_bipush o (q_dm dm_X12_sumSign 11 rfl) bi_42 ?_
      refine qr_icmp_ne (tgt := 30) o (q_dm dm_X12_sumSign 12 rfl) (by decide) ?_ ?_
      · refine qr_iload_n o (q_dm dm_X12_sumSign 15 rfl) rfl ?_
        refine qr_bipush o (q_dm dm_X12_sumSign 16 rfl) bi_47 ?_
        refine qr_icmp_ne (tgt := 40) o (q_dm dm_X12_sumSign 17 rfl) (by decide) ?_ ?_
        · refine qr_iload_n o (q_dm dm_X12_sumSign 20 rfl) rfl ?_
          refine qr_bipush o (q_dm dm_X12_sumSign 21 rfl) bi_37 ?_
          refine qr_icmp_ne (tgt := 51) o (q_dm dm_X12_sumSign 22 rfl) (by decide) ?_ ?_
          · refine qr_iconst o (q_dm dm_X12_sumSign 25 rfl) ic_m1 ?_
            exact qr_iret o rfl rfl (q_dm dm_X12_sumSign 26 rfl)
          · refine qr_bipush o (q_dm dm_X12_sumSign 23 rfl) bi_6 ?_
            refine qr_goto (tgt := 52) o (q_dm dm_X12_sumSign 24 rfl) (by decide) ?_
            exact qr_iret o rfl rfl (q_dm dm_X12_sumSign 26 rfl)
        · refine qr_iconst o (q_dm dm_X12_sumSign 18 rfl) ic_5 ?_
          refine qr_goto (tgt := 52) o (q_dm dm_X12_sumSign 19 rfl) (by decide) ?_
          exact qr_iret o rfl rfl (q_dm dm_X12_sumSign 26 rfl)
      · refine qr_iconst o (q_dm dm_X12_sumSign 13 rfl) ic_4 ?_
        refine qr_goto (tgt := 52) o (q_dm dm_X12_sumSign 14 rfl) (by decide) ?_
        exact qr_iret o rfl rfl (q_dm dm_X12_sumSign 26 rfl)
    · refine qr_iconst o (q_dm dm_X12_sumSign 8 rfl) ic_3 ?_
      refine qr_goto (tgt := 52) o (q_dm dm_X12_sumSign 9 rfl) (by decide) ?_
      exact qr_iret o rfl rfl (q_dm dm_X12_sumSign 26 rfl)
  · refine qr_iconst o (q_dm dm_X12_sumSign 3 rfl) ic_2 ?_
    refine qr_goto (tgt := 52) o (q_dm dm_X12_sumSign 4 rfl) (by decide) ?_
    exact qr_iret o rfl rfl (q_dm dm_X12_sumSign 26 rfl)

theorem a_X12_sumSign (g : qG) (l : Launch) (n : Nat) (j r : Nat) (hj : q_isLaw j) (hr : q_isLaw r) (a0 : Int32) (M : qM) : qAM g l 0 zX12_sumSign (qL j r) [.inl a0] (qL j r, M) (f_X12_sumSign n a0 M) :=
  qAM.of zs_X12_sumSign.1 (by show 1 ≤ 1; decide) (fun k hk o => w_X12_sumSign n j r hj hr o a0 M)
def tb_X12_readsSum : List (Nat × Instr × Nat) := [(0, (.aload_n 0, 1)), (1, (.getfield 199, 3)), (4, (.istore_n 1, 1)), (5, (.aload_n 0, 1)), (6, (.invokevirtual 219, 3)), (9, (.ifCond .ne 5, 3)), (12, (.iconst 0, 1)), (13, (.ireturn, 1)), (14, (.aload_n 0, 1)), (15, (.invokevirtual 175, 3)), (18, (.invokestatic 222, 3)), (21, (.istore_n 2, 1)), (22, (.iload_n 2, 1)), (23, (.iconst (-1), 1)), (24, (.if_icmp .eq 59, 3)), (27, (.aload_n 0, 1)), (28, (.iload_n 2, 1)), (29, (.iconst 4, 1)), (30, (.if_icmp .ge 7, 3)), (33, (.iconst 1, 1)), (34, (.goto 4, 3)), (37, (.iconst 0, 1)), (38, (.invokevirtual 225, 3)), (41, (.aload_n 0, 1)), (42, (.getfield 35, 3)), (45, (.aload_n 0, 1)), (46, (.getfield 199, 3)), (49, (.ldc 195, 2)), (51, (.iload_n 2, 1)), (52, (.imul, 1)), (53, (.iastore, 1)), (54, (.aload_n 0, 1)), (55, (.aload_n 0, 1)), (56, (.getfield 199, 3)), (59, (.iconst 1, 1)), (60, (.iadd, 1)), (61, (.putfield 199, 3)), (64, (.aload_n 0, 1)), (65, (.aload_n 0, 1)), (66, (.getfield 169, 3)), (69, (.iconst 1, 1)), (70, (.iadd, 1)), (71, (.putfield 169, 3)), (74, (.aload_n 0, 1)), (75, (.invokevirtual 219, 3)), (78, (.ifCond .ne 85, 3)), (81, (.iconst 0, 1)), (82, (.ireturn, 1)), (83, (.aload_n 0, 1)), (84, (.invokevirtual 175, 3)), (87, (.bipush 93, 2)), (89, (.if_icmp .ne 49, 3)), (92, (.aload_n 0, 1)), (93, (.iload_n 1, 1)), (94, (.invokevirtual 229, 3)), (97, (.ifCond .eq 41, 3)), (100, (.aload_n 0, 1)), (101, (.iconst 1, 1)), (102, (.invokevirtual 225, 3)), (105, (.aload_n 0, 1)), (106, (.aload_n 0, 1)), (107, (.getfield 199, 3)), (110, (.iconst 1, 1)), (111, (.isub, 1)), (112, (.putfield 199, 3)), (115, (.aload_n 0, 1)), (116, (.aload_n 0, 1)), (117, (.getfield 196, 3)), (120, (.iconst 1, 1)), (121, (.isub, 1)), (122, (.putfield 196, 3)), (125, (.aload_n 0, 1)), (126, (.aload_n 0, 1)), (127, (.getfield 169, 3)), (130, (.iconst 1, 1)), (131, (.iadd, 1)), (132, (.putfield 169, 3)), (135, (.goto 28, 3)), (138, (.aload_n 0, 1)), (139, (.iload_n 1, 1)), (140, (.invokevirtual 229, 3)), (143, (.ifCond .eq 13, 3)), (146, (.aload_n 0, 1)), (147, (.iconst 1, 1)), (148, (.aload_n 0, 1)), (149, (.getfield 169, 3)), (152, (.invokevirtual 182, 3)), (155, (.ireturn, 1)), (156, (.aload_n 0, 1)), (157, (.iconst 1, 1)), (158, (.invokevirtual 225, 3)), (161, (.iconst 1, 1)), (162, (.ireturn, 1)), (163, (.goto (-149), 3))]
theorem dm_X12_readsSum : ∀ q ∈ tb_X12_readsSum, decode zX12_readsSum.2.1 q.1 = .ok q.2 := by decide +kernel
def f_X12_readsSum_138 (n : Nat) (a1 : Int32) (M : qM) : qR :=
  qc (f_X12_hasOpenSum n a1 M) (fun r1 m2 => (if r1 = (0 : Int32) then qc (f_X12_closesSums n (1 : Int32) m2) (fun _ m3 => some ((1 : Int32), m3)) else qc (f_X12_wrongAt n (1 : Int32) (m2 77 9) m2) (fun r4 m5 => qb r4 (some (r4, m5)))))
set_option maxRecDepth 4000 in
theorem w_X12_readsSum_138 {g : qG} {k : qK} (n : Nat) (j r : Nat) (hj : q_isLaw j) (hr : q_isLaw r) (o : qOk g 4 zX12_readsSum k) (a1 : Int32) (M : qM) : qAE g k zX12_readsSum (qL j r) 138 [some (.inr (some 77)), some (.inl a1), none] [] (qL j r, M) (f_X12_readsSum_138 n a1 M) := by
  unfold f_X12_readsSum_138
  refine qr_aload_n o (q_dm dm_X12_readsSum 78 rfl) rfl ?_
  refine qr_iload_n o (q_dm dm_X12_readsSum 79 rfl) rfl ?_
  refine qr_callv_i (As := [.inl a1]) (S := []) o (a_X12_hasOpenSum g k.2.1 n j r hj hr a1 M) (Nat.le_of_ble_eq_true rfl) zv_X12_hasOpenSum rfl cf_X12 (sh77 j r) ml_X12_229 (Nat.le_of_ble_eq_true rfl) (q_dm dm_X12_readsSum 80 rfl) (fun r1 m2 => ?_)
  refine qr_if_eq (tgt := 156) o (q_dm dm_X12_readsSum 81 rfl) (by decide) ?_ ?_
  · refine qr_aload_n o (q_dm dm_X12_readsSum 88 rfl) rfl ?_
    refine qr_iconst o (q_dm dm_X12_readsSum 89 rfl) ic_1 ?_
    refine qr_callv_v (As := [.inl (1 : Int32)]) (S := []) o (a_X12_closesSums g k.2.1 n j r hj hr (1 : Int32) m2) (Nat.le_of_ble_eq_true rfl) zv_X12_closesSums rfl cf_X12 (sh77 j r) ml_X12_225 (Nat.le_of_ble_eq_true rfl) (q_dm dm_X12_readsSum 90 rfl) (fun _ m3 => ?_)
    refine qr_iconst o (q_dm dm_X12_readsSum 91 rfl) ic_1 ?_
    exact qr_iret o rfl (by decide) (q_dm dm_X12_readsSum 92 rfl)
  · refine qr_aload_n o (q_dm dm_X12_readsSum 82 rfl) rfl ?_
    refine qr_iconst o (q_dm dm_X12_readsSum 83 rfl) ic_1 ?_
    refine qr_aload_n o (q_dm dm_X12_readsSum 84 rfl) rfl ?_
    refine qr_getf (kf := 9) o cf_X12 (sh77 j r) rfl (Nat.le_of_ble_eq_true rfl) fl_X12_169 (q_dm dm_X12_readsSum 85 rfl) ?_
    refine qr_callv_i (As := [.inl (1 : Int32), .inl (m2 77 9)]) (S := []) o (a_X12_wrongAt g k.2.1 n j r hj hr (1 : Int32) (m2 77 9) m2) (Nat.le_of_ble_eq_true rfl) zv_X12_wrongAt rfl cf_X12 (sh77 j r) ml_X12_182 (Nat.le_of_ble_eq_true rfl) (q_dm dm_X12_readsSum 86 rfl) (fun r4 m5 => ?_)
    exact qr_zret o rfl (q_dm dm_X12_readsSum 87 rfl)

def f_X12_readsSum_38 (n : Nat) (K14 : Int32 → qM → qR) (a1 a2 s1 : Int32) (M : qM) : qR :=
  qc (f_X12_closesSums n s1 M) (fun _ m1 => qg (m1 77 15) 260 (qlm (mu m1 86 (m1 77 15).toNatClampNeg ((1048576 : Int32) * a2)) (fun m2 => qlm (mu m2 77 15 ((m2 77 15) + (1 : Int32))) (fun m3 => qlm (mu m3 77 9 ((m3 77 9) + (1 : Int32))) (fun m4 => qc (f_X12_readsFactor n  m4) (fun r5 m6 => (if r5 = (0 : Int32) then some ((0 : Int32), m6) else K14 a1 m6)))))))
set_option maxRecDepth 4000 in
theorem w_X12_readsSum_38 {g : qG} {k : qK} (n : Nat) (j r : Nat) (hj : q_isLaw j) (hr : q_isLaw r) (o : qOk g 4 zX12_readsSum k) (K14 : Int32 → qM → qR) (hK14 : ∀ (a1 : Int32) (M : qM), qAE g k zX12_readsSum (qL j r) 14 [some (.inr (some 77)), some (.inl a1), none] [] (qL j r, M) (K14 a1 M)) (a1 a2 s1 : Int32) (M : qM) : qAE g k zX12_readsSum (qL j r) 38 [some (.inr (some 77)), some (.inl a1), some (.inl a2)] [.inl s1, .inr (some 77)] (qL j r, M) (f_X12_readsSum_38 n K14 a1 a2 s1 M) := by
  unfold f_X12_readsSum_38
  refine qr_callv_v (As := [.inl s1]) (S := []) o (a_X12_closesSums g k.2.1 n j r hj hr s1 M) (Nat.le_of_ble_eq_true rfl) zv_X12_closesSums rfl cf_X12 (sh77 j r) ml_X12_225 (Nat.le_of_ble_eq_true rfl) (q_dm dm_X12_readsSum 22 rfl) (fun _ m1 => ?_)
  refine qr_aload_n o (q_dm dm_X12_readsSum 23 rfl) rfl ?_
  refine qr_getr (kf := 19) o cf_X12 (sh77 j r) rfl (Nat.le_of_ble_eq_true rfl) fl_X12_35 (q_dm dm_X12_readsSum 24 rfl) ?_
  refine qr_aload_n o (q_dm dm_X12_readsSum 25 rfl) rfl ?_
  refine qr_getf (kf := 15) o cf_X12 (sh77 j r) rfl (Nat.le_of_ble_eq_true rfl) fl_X12_199 (q_dm dm_X12_readsSum 26 rfl) ?_
  refine qr_ldc o (q_dm dm_X12_readsSum 27 rfl) kc_X12_195 ?_
  refine qr_iload_n o (q_dm dm_X12_readsSum 28 rfl) rfl ?_
  refine qr_imul o (q_dm dm_X12_readsSum 29 rfl) ?_
  refine qr_iast o (sh86 j r) (q_dm dm_X12_readsSum 30 rfl) ?_
  refine qr_letm (fun m2 => ?_)
  refine qr_aload_n o (q_dm dm_X12_readsSum 31 rfl) rfl ?_
  refine qr_aload_n o (q_dm dm_X12_readsSum 32 rfl) rfl ?_
  refine qr_getf (kf := 15) o cf_X12 (sh77 j r) rfl (Nat.le_of_ble_eq_true rfl) fl_X12_199 (q_dm dm_X12_readsSum 33 rfl) ?_
  refine qr_iconst o (q_dm dm_X12_readsSum 34 rfl) ic_1 ?_
  refine qr_iadd o (q_dm dm_X12_readsSum 35 rfl) ?_
  refine qr_putf (kf := 15) o cf_X12 (sh77 j r) rfl (Nat.le_of_ble_eq_true rfl) fl_X12_199 rfl (by decide +kernel) (q_dm dm_X12_readsSum 36 rfl) ?_
  refine qr_letm (fun m3 => ?_)
  refine qr_aload_n o (q_dm dm_X12_readsSum 37 rfl) rfl ?_
  refine qr_aload_n o (q_dm dm_X12_readsSum 38 rfl) rfl ?_
  refine qr_getf (kf := 9) o cf_X12 (sh77 j r) rfl (Nat.le_of_ble_eq_true rfl) fl_X12_169 (q_dm dm_X12_readsSum 39 rfl) ?_
  refine qr_iconst o (q_dm dm_X12_readsSum 40 rfl) ic_1 ?_
  refine qr_iadd o (q_dm dm_X12_readsSum 41 rfl) ?_
  refine qr_putf (kf := 9) o cf_X12 (sh77 j r) rfl (Nat.le_of_ble_eq_true rfl) fl_X12_169 rfl (by decide +kernel) (q_dm dm_X12_readsSum 42 rfl) ?_
  refine qr_letm (fun m4 => ?_)
  refine qr_aload_n o (q_dm dm_X12_readsSum 43 rfl) rfl ?_
  refine qr_callv_i (As := []) (S := []) o (a_X12_readsFactor g k.2.1 n j r hj hr  m4) (Nat.le_of_ble_eq_true rfl) zv_X12_readsFactor rfl cf_X12 (sh77 j r) ml_X12_219 (Nat.le_of_ble_eq_true rfl) (q_dm dm_X12_readsSum 44 rfl) (fun r5 m6 => ?_)
  refine qr_if_ne (tgt := 163) o (q_dm dm_X12_readsSum 45 rfl) (by decide) ?_ ?_
  · refine qr_goto (tgt := 14) o (q_dm dm_X12_readsSum 93 rfl) (by decide) ?_
    exact qr_loc (q_leS (q_leS (q_leN q_le0))) (hK14 a1 m6)
  · refine qr_iconst o (q_dm dm_X12_readsSum 46 rfl) ic_0 ?_
    exact qr_iret o rfl (by decide) (q_dm dm_X12_readsSum 47 rfl)

def b_X12_readsSum_14 (n : Nat) (K14 : Int32 → qM → qR) (a1 : Int32) (M : qM) : qR :=
  qc (f_X12_here n  M) (fun r1 m2 => qc (f_X12_sumSign n r1 m2) (fun r3 m4 => (if r3 = (-1 : Int32) then qc (f_X12_here n  m4) (fun r5 m6 => (if r5 = (93 : Int32) then qc (f_X12_hasOpenSum n a1 m6) (fun r7 m8 => (if r7 = (0 : Int32) then f_X12_readsSum_138 n a1 m8 else qc (f_X12_closesSums n (1 : Int32) m8) (fun _ m9 => qlm (mu m9 77 15 ((m9 77 15) - (1 : Int32))) (fun m10 => qlm (mu m10 77 13 ((m10 77 13) - (1 : Int32))) (fun m11 => qlm (mu m11 77 9 ((m11 77 9) + (1 : Int32))) (fun m12 => K14 a1 m12)))))) else f_X12_readsSum_138 n a1 m6)) else (if (4 : Int32) ≤ r3 then f_X12_readsSum_38 n K14 a1 r3 (0 : Int32) m4 else f_X12_readsSum_38 n K14 a1 r3 (1 : Int32) m4))))
set_option maxRecDepth 4000 in
theorem wb_X12_readsSum_14 {g : qG} {k : qK} (n : Nat) (j r : Nat) (hj : q_isLaw j) (hr : q_isLaw r) (o : qOk g 4 zX12_readsSum k) (K14 : Int32 → qM → qR) (hK14 : ∀ (a1 : Int32) (M : qM), qAE g k zX12_readsSum (qL j r) 14 [some (.inr (some 77)), some (.inl a1), none] [] (qL j r, M) (K14 a1 M)) (a1 : Int32) (M : qM) : qAE g k zX12_readsSum (qL j r) 14 [some (.inr (some 77)), some (.inl a1), none] [] (qL j r, M) (b_X12_readsSum_14 n K14 a1 M) := by
  unfold b_X12_readsSum_14
  refine qr_aload_n o (q_dm dm_X12_readsSum 8 rfl) rfl ?_
  refine qr_callv_i (As := []) (S := []) o (a_X12_here g k.2.1 n j r hj hr  M) (Nat.le_of_ble_eq_true rfl) zv_X12_here rfl cf_X12 (sh77 j r) ml_X12_175 (Nat.le_of_ble_eq_true rfl) (q_dm dm_X12_readsSum 9 rfl) (fun r1 m2 => ?_)
  refine qr_calls_i (As := [.inl r1]) (S := []) o (a_X12_sumSign g k.2.1 n j r hj hr r1 m2) (Nat.le_of_ble_eq_true rfl) zs_X12_sumSign rfl ml_X12_222 (Nat.le_of_ble_eq_true rfl) (q_dm dm_X12_readsSum 10 rfl) (fun r3 m4 => ?_)
  refine qs_istore_n (L' := [some (.inr (some 77)), some (.inl a1), some (.inl r3)]) o (q_dm dm_X12_readsSum 11 rfl) (Nat.le_of_ble_eq_true rfl) rfl ?_
  refine qr_iload_n o (q_dm dm_X12_readsSum 12 rfl) rfl ?_
  refine qr_iconst o (q_dm dm_X12_readsSum 13 rfl) ic_m1 ?_
  refine qr_icmp_eq (tgt := 83) o (q_dm dm_X12_readsSum 14 rfl) (by decide) ?_ ?_
  · refine qr_aload_n o (q_dm dm_X12_readsSum 48 rfl) rfl ?_
    refine qr_callv_i (As := []) (S := []) o (a_X12_here g k.2.1 n j r hj hr  m4) (Nat.le_of_ble_eq_true rfl) zv_X12_here rfl cf_X12 (sh77 j r) ml_X12_175 (Nat.le_of_ble_eq_true rfl) (q_dm dm_X12_readsSum 49 rfl) (fun r5 m6 => ?_)
    refine qr_bipush o (q_dm dm_X12_readsSum 50 rfl) bi_93 ?_
    refine qr_icmp_ne (tgt := 138) o (q_dm dm_X12_readsSum 51 rfl) (by decide) ?_ ?_
    · exact qr_loc (q_leS (q_leS (q_leN q_le0))) (w_X12_readsSum_138 n j r hj hr o a1 m6)
    · refine qr_aload_n o (q_dm dm_X12_readsSum 52 rfl) rfl ?_
      refine qr_iload_n o (q_dm dm_X12_readsSum 53 rfl) rfl ?_
      refine qr_callv_i (As := [.inl a1]) (S := []) o (a_X12_hasOpenSum g k.2.1 n j r hj hr a1 m6) (Nat.le_of_ble_eq_true rfl) zv_X12_hasOpenSum rfl cf_X12 (sh77 j r) ml_X12_229 (Nat.le_of_ble_eq_true rfl) (q_dm dm_X12_readsSum 54 rfl) (fun r7 m8 => ?_)
      refine qr_if_eq (tgt := 138) o (q_dm dm_X12_readsSum 55 rfl) (by decide) ?_ ?_
      · exact qr_loc (q_leS (q_leS (q_leN q_le0))) (w_X12_readsSum_138 n j r hj hr o a1 m8)
      · refine qr_aload_n o (q_dm dm_X12_readsSum 56 rfl) rfl ?_
        refine qr_iconst o (q_dm dm_X12_readsSum 57 rfl) ic_1 ?_
        refine qr_callv_v (As := [.inl (1 : Int32)]) (S := []) o (a_X12_closesSums g k.2.1 n j r hj hr (1 : Int32) m8) (Nat.le_of_ble_eq_true rfl) zv_X12_closesSums rfl cf_X12 (sh77 j r) ml_X12_225 (Nat.le_of_ble_eq_true rfl) (q_dm dm_X12_readsSum 58 rfl) (fun _ m9 => ?_)
        refine qr_aload_n o (q_dm dm_X12_readsSum 59 rfl) rfl ?_
        refine qr_aload_n o (q_dm dm_X12_readsSum 60 rfl) rfl ?_
        refine qr_getf (kf := 15) o cf_X12 (sh77 j r) rfl (Nat.le_of_ble_eq_true rfl) fl_X12_199 (q_dm dm_X12_readsSum 61 rfl) ?_
        refine qr_iconst o (q_dm dm_X12_readsSum 62 rfl) ic_1 ?_
        refine qr_isub o (q_dm dm_X12_readsSum 63 rfl) ?_
        refine qr_putf (kf := 15) o cf_X12 (sh77 j r) rfl (Nat.le_of_ble_eq_true rfl) fl_X12_199 rfl (by decide +kernel) (q_dm dm_X12_readsSum 64 rfl) ?_
        refine qr_letm (fun m10 => ?_)
        refine qr_aload_n o (q_dm dm_X12_readsSum 65 rfl) rfl ?_
        refine qr_aload_n o (q_dm dm_X12_readsSum 66 rfl) rfl ?_
        refine qr_getf (kf := 13) o cf_X12 (sh77 j r) rfl (Nat.le_of_ble_eq_true rfl) fl_X12_196 (q_dm dm_X12_readsSum 67 rfl) ?_
        refine qr_iconst o (q_dm dm_X12_readsSum 68 rfl) ic_1 ?_
        refine qr_isub o (q_dm dm_X12_readsSum 69 rfl) ?_
        refine qr_putf (kf := 13) o cf_X12 (sh77 j r) rfl (Nat.le_of_ble_eq_true rfl) fl_X12_196 rfl (by decide +kernel) (q_dm dm_X12_readsSum 70 rfl) ?_
        refine qr_letm (fun m11 => ?_)
        refine qr_aload_n o (q_dm dm_X12_readsSum 71 rfl) rfl ?_
        refine qr_aload_n o (q_dm dm_X12_readsSum 72 rfl) rfl ?_
        refine qr_getf (kf := 9) o cf_X12 (sh77 j r) rfl (Nat.le_of_ble_eq_true rfl) fl_X12_169 (q_dm dm_X12_readsSum 73 rfl) ?_
        refine qr_iconst o (q_dm dm_X12_readsSum 74 rfl) ic_1 ?_
        refine qr_iadd o (q_dm dm_X12_readsSum 75 rfl) ?_
        refine qr_putf (kf := 9) o cf_X12 (sh77 j r) rfl (Nat.le_of_ble_eq_true rfl) fl_X12_169 rfl (by decide +kernel) (q_dm dm_X12_readsSum 76 rfl) ?_
        refine qr_letm (fun m12 => ?_)
        refine qr_goto (tgt := 163) o (q_dm dm_X12_readsSum 77 rfl) (by decide) ?_
        refine qr_goto (tgt := 14) o (q_dm dm_X12_readsSum 93 rfl) (by decide) ?_
        exact qr_loc (q_leS (q_leS (q_leN q_le0))) (hK14 a1 m12)
  · refine qr_aload_n o (q_dm dm_X12_readsSum 15 rfl) rfl ?_
    refine qr_iload_n o (q_dm dm_X12_readsSum 16 rfl) rfl ?_
    refine qr_iconst o (q_dm dm_X12_readsSum 17 rfl) ic_4 ?_
    refine qr_icmp_ge (tgt := 37) o (q_dm dm_X12_readsSum 18 rfl) (by decide) ?_ ?_
    · refine qr_iconst o (q_dm dm_X12_readsSum 21 rfl) ic_0 ?_
      exact qr_loc (q_leS (q_leS (q_leS q_le0))) (w_X12_readsSum_38 n j r hj hr o K14 hK14 a1 r3 (0 : Int32) m4)
    · refine qr_iconst o (q_dm dm_X12_readsSum 19 rfl) ic_1 ?_
      refine qr_goto (tgt := 38) o (q_dm dm_X12_readsSum 20 rfl) (by decide) ?_
      exact qr_loc (q_leS (q_leS (q_leS q_le0))) (w_X12_readsSum_38 n j r hj hr o K14 hK14 a1 r3 (1 : Int32) m4)

def f_X12_readsSum_14 (n : Nat) : Nat → Int32 → qM → qR
  | 0, _, _ => none
  | m + 1, a1, M => b_X12_readsSum_14 n (f_X12_readsSum_14 n m) a1 M
theorem w_X12_readsSum_14 {g : qG} {k : qK} (n : Nat) (j r : Nat) (hj : q_isLaw j) (hr : q_isLaw r) (o : qOk g 4 zX12_readsSum k) : ∀ (m : Nat) (a1 : Int32) (M : qM), qAE g k zX12_readsSum (qL j r) 14 [some (.inr (some 77)), some (.inl a1), none] [] (qL j r, M) (f_X12_readsSum_14 n m a1 M) := by
  intro m
  induction m with
  | zero =>
    intro a1 M
    exact qr_none
  | succ m ih =>
    intro a1 M
    exact wb_X12_readsSum_14 n j r hj hr o (f_X12_readsSum_14 n m) ih a1 M
def f_X12_readsSum (n : Nat) (M : qM) : qR :=
  ql (M 77 15) (fun x1 => qc (f_X12_readsFactor n  M) (fun r2 m3 => (if r2 = (0 : Int32) then some ((0 : Int32), m3) else f_X12_readsSum_14 n n x1 m3)))
set_option maxRecDepth 4000 in
theorem w_X12_readsSum {g : qG} {k : qK} (n : Nat) (j r : Nat) (hj : q_isLaw j) (hr : q_isLaw r) (o : qOk g 4 zX12_readsSum k) (M : qM) : qAE g k zX12_readsSum (qL j r) 0 [some (.inr (some 77)), none, none] [] (qL j r, M) (f_X12_readsSum n  M) := by
  unfold f_X12_readsSum
  refine qr_aload_n o (q_dm dm_X12_readsSum 0 rfl) rfl ?_
  refine qr_getf (kf := 15) o cf_X12 (sh77 j r) rfl (Nat.le_of_ble_eq_true rfl) fl_X12_199 (q_dm dm_X12_readsSum 1 rfl) ?_
  refine qr_lt (fun x1 => ?_)
  refine qs_istore_n (L' := [some (.inr (some 77)), some (.inl x1), none]) o (q_dm dm_X12_readsSum 2 rfl) (Nat.le_of_ble_eq_true rfl) rfl ?_
  refine qr_aload_n o (q_dm dm_X12_readsSum 3 rfl) rfl ?_
  refine qr_callv_i (As := []) (S := []) o (a_X12_readsFactor g k.2.1 n j r hj hr  M) (Nat.le_of_ble_eq_true rfl) zv_X12_readsFactor rfl cf_X12 (sh77 j r) ml_X12_219 (Nat.le_of_ble_eq_true rfl) (q_dm dm_X12_readsSum 4 rfl) (fun r2 m3 => ?_)
  refine qr_if_ne (tgt := 14) o (q_dm dm_X12_readsSum 5 rfl) (by decide) ?_ ?_
  · exact qr_loc (q_leS (q_leS (q_leN q_le0))) (w_X12_readsSum_14 n j r hj hr o n x1 m3)
  · refine qr_iconst o (q_dm dm_X12_readsSum 6 rfl) ic_0 ?_
    exact qr_iret o rfl (by decide) (q_dm dm_X12_readsSum 7 rfl)

theorem a_X12_readsSum (g : qG) (l : Launch) (n : Nat) (j r : Nat) (hj : q_isLaw j) (hr : q_isLaw r) (M : qM) : qAM g l 4 zX12_readsSum (qL j r) [.inr (some 77)] (qL j r, M) (f_X12_readsSum n  M) :=
  qAM.of zv_X12_readsSum.1 (by show 1 ≤ 3; decide) (fun k hk o => w_X12_readsSum n j r hj hr o  M)
def tb_X12_readsCompared : List (Nat × Instr × Nat) := [(0, (.aload_n 0, 1)), (1, (.invokevirtual 232, 3)), (4, (.ifCond .ne 5, 3)), (7, (.iconst 0, 1)), (8, (.ireturn, 1)), (9, (.aload_n 0, 1)), (10, (.invokevirtual 175, 3)), (13, (.bipush 60, 2)), (15, (.if_icmp .ne 8, 3)), (18, (.bipush 7, 2)), (20, (.goto 32, 3)), (23, (.aload_n 0, 1)), (24, (.invokevirtual 175, 3)), (27, (.bipush 62, 2)), (29, (.if_icmp .ne 8, 3)), (32, (.bipush 8, 2)), (34, (.goto 18, 3)), (37, (.aload_n 0, 1)), (38, (.invokevirtual 175, 3)), (41, (.bipush 61, 2)), (43, (.if_icmp .ne 8, 3)), (46, (.bipush 9, 2)), (48, (.goto 4, 3)), (51, (.iconst (-1), 1)), (52, (.istore_n 1, 1)), (53, (.iload_n 1, 1)), (54, (.iconst (-1), 1)), (55, (.if_icmp .ne 13, 3)), (58, (.aload_n 0, 1)), (59, (.iconst 1, 1)), (60, (.aload_n 0, 1)), (61, (.getfield 169, 3)), (64, (.invokevirtual 182, 3)), (67, (.ireturn, 1)), (68, (.aload_n 0, 1)), (69, (.aload_n 0, 1)), (70, (.getfield 169, 3)), (73, (.iconst 1, 1)), (74, (.iadd, 1)), (75, (.putfield 169, 3)), (78, (.aload_n 0, 1)), (79, (.invokevirtual 232, 3)), (82, (.ifCond .ne 5, 3)), (85, (.iconst 0, 1)), (86, (.ireturn, 1)), (87, (.aload_n 0, 1)), (88, (.iload_n 1, 1)), (89, (.iconst 0, 1)), (90, (.invokevirtual 205, 3)), (93, (.aload_n 0, 1)), (94, (.invokevirtual 235, 3)), (97, (.iconst 1, 1)), (98, (.ireturn, 1))]
theorem dm_X12_readsCompared : ∀ q ∈ tb_X12_readsCompared, decode zX12_readsCompared.2.1 q.1 = .ok q.2 := by decide +kernel
def f_X12_readsCompared_52 (n : Nat) (s0 : Int32) (M : qM) : qR :=
  (if s0 = (-1 : Int32) then qc (f_X12_wrongAt n (1 : Int32) (M 77 9) M) (fun r6 m7 => qb r6 (some (r6, m7))) else qlm (mu M 77 9 ((M 77 9) + (1 : Int32))) (fun m1 => qc (f_X12_readsSum n  m1) (fun r2 m3 => (if r2 = (0 : Int32) then some ((0 : Int32), m3) else qc (f_X12_notes n s0 (0 : Int32) m3) (fun _ m4 => qc (f_X12_endsPiece n  m4) (fun _ m5 => some ((1 : Int32), m5)))))))
set_option maxRecDepth 4000 in
theorem w_X12_readsCompared_52 {g : qG} {k : qK} (n : Nat) (j r : Nat) (hj : q_isLaw j) (hr : q_isLaw r) (o : qOk g 5 zX12_readsCompared k) (s0 : Int32) (M : qM) : qAE g k zX12_readsCompared (qL j r) 52 [some (.inr (some 77)), none] [.inl s0] (qL j r, M) (f_X12_readsCompared_52 n s0 M) := by
  unfold f_X12_readsCompared_52
  refine qs_istore_n (L' := [some (.inr (some 77)), some (.inl s0)]) o (q_dm dm_X12_readsCompared 24 rfl) (Nat.le_of_ble_eq_true rfl) rfl ?_
  refine qr_iload_n o (q_dm dm_X12_readsCompared 25 rfl) rfl ?_
  refine qr_iconst o (q_dm dm_X12_readsCompared 26 rfl) ic_m1 ?_
  refine qr_icmp_ne (tgt := 68) o (q_dm dm_X12_readsCompared 27 rfl) (by decide) ?_ ?_
  · refine qr_aload_n o (q_dm dm_X12_readsCompared 34 rfl) rfl ?_
    refine qr_aload_n o (q_dm dm_X12_readsCompared 35 rfl) rfl ?_
    refine qr_getf (kf := 9) o cf_X12 (sh77 j r) rfl (Nat.le_of_ble_eq_true rfl) fl_X12_169 (q_dm dm_X12_readsCompared 36 rfl) ?_
    refine qr_iconst o (q_dm dm_X12_readsCompared 37 rfl) ic_1 ?_
    refine qr_iadd o (q_dm dm_X12_readsCompared 38 rfl) ?_
    refine qr_putf (kf := 9) o cf_X12 (sh77 j r) rfl (Nat.le_of_ble_eq_true rfl) fl_X12_169 rfl (by decide +kernel) (q_dm dm_X12_readsCompared 39 rfl) ?_
    refine qr_letm (fun m1 => ?_)
    refine qr_aload_n o (q_dm dm_X12_readsCompared 40 rfl) rfl ?_
    refine qr_callv_i (As := []) (S := []) o (a_X12_readsSum g k.2.1 n j r hj hr  m1) (Nat.le_of_ble_eq_true rfl) zv_X12_readsSum rfl cf_X12 (sh77 j r) ml_X12_232 (Nat.le_of_ble_eq_true rfl) (q_dm dm_X12_readsCompared 41 rfl) (fun r2 m3 => ?_)
    refine qr_if_ne (tgt := 87) o (q_dm dm_X12_readsCompared 42 rfl) (by decide) ?_ ?_
    · refine qr_aload_n o (q_dm dm_X12_readsCompared 45 rfl) rfl ?_
      refine qr_iload_n o (q_dm dm_X12_readsCompared 46 rfl) rfl ?_
      refine qr_iconst o (q_dm dm_X12_readsCompared 47 rfl) ic_0 ?_
      refine qr_callv_v (As := [.inl s0, .inl (0 : Int32)]) (S := []) o (a_X12_notes g k.2.1 n j r hj hr s0 (0 : Int32) m3) (Nat.le_of_ble_eq_true rfl) zv_X12_notes rfl cf_X12 (sh77 j r) ml_X12_205 (Nat.le_of_ble_eq_true rfl) (q_dm dm_X12_readsCompared 48 rfl) (fun _ m4 => ?_)
      refine qr_aload_n o (q_dm dm_X12_readsCompared 49 rfl) rfl ?_
      refine qr_callv_v (As := []) (S := []) o (a_X12_endsPiece g k.2.1 n j r hj hr  m4) (Nat.le_of_ble_eq_true rfl) zv_X12_endsPiece rfl cf_X12 (sh77 j r) ml_X12_235 (Nat.le_of_ble_eq_true rfl) (q_dm dm_X12_readsCompared 50 rfl) (fun _ m5 => ?_)
      refine qr_iconst o (q_dm dm_X12_readsCompared 51 rfl) ic_1 ?_
      exact qr_iret o rfl (by decide) (q_dm dm_X12_readsCompared 52 rfl)
    · refine qr_iconst o (q_dm dm_X12_readsCompared 43 rfl) ic_0 ?_
      exact qr_iret o rfl (by decide) (q_dm dm_X12_readsCompared 44 rfl)
  · refine qr_aload_n o (q_dm dm_X12_readsCompared 28 rfl) rfl ?_
    refine qr_iconst o (q_dm dm_X12_readsCompared 29 rfl) ic_1 ?_
    refine qr_aload_n o (q_dm dm_X12_readsCompared 30 rfl) rfl ?_
    refine qr_getf (kf := 9) o cf_X12 (sh77 j r) rfl (Nat.le_of_ble_eq_true rfl) fl_X12_169 (q_dm dm_X12_readsCompared 31 rfl) ?_
    refine qr_callv_i (As := [.inl (1 : Int32), .inl (M 77 9)]) (S := []) o (a_X12_wrongAt g k.2.1 n j r hj hr (1 : Int32) (M 77 9) M) (Nat.le_of_ble_eq_true rfl) zv_X12_wrongAt rfl cf_X12 (sh77 j r) ml_X12_182 (Nat.le_of_ble_eq_true rfl) (q_dm dm_X12_readsCompared 32 rfl) (fun r6 m7 => ?_)
    exact qr_zret o rfl (q_dm dm_X12_readsCompared 33 rfl)

def f_X12_readsCompared (n : Nat) (M : qM) : qR :=
  qc (f_X12_readsSum n  M) (fun r1 m2 => (if r1 = (0 : Int32) then some ((0 : Int32), m2) else qc (f_X12_here n  m2) (fun r3 m4 => (if r3 = (60 : Int32) then f_X12_readsCompared_52 n (7 : Int32) m4 else qc (f_X12_here n  m4) (fun r5 m6 => (if r5 = (62 : Int32) then f_X12_readsCompared_52 n (8 : Int32) m6 else qc (f_X12_here n  m6) (fun r7 m8 => (if r7 = (61 : Int32) then f_X12_readsCompared_52 n (9 : Int32) m8 else f_X12_readsCompared_52 n (-1 : Int32) m8))))))))
set_option maxRecDepth 4000 in
theorem w_X12_readsCompared {g : qG} {k : qK} (n : Nat) (j r : Nat) (hj : q_isLaw j) (hr : q_isLaw r) (o : qOk g 5 zX12_readsCompared k) (M : qM) : qAE g k zX12_readsCompared (qL j r) 0 [some (.inr (some 77)), none] [] (qL j r, M) (f_X12_readsCompared n  M) := by
  unfold f_X12_readsCompared
  refine qr_aload_n o (q_dm dm_X12_readsCompared 0 rfl) rfl ?_
  refine qr_callv_i (As := []) (S := []) o (a_X12_readsSum g k.2.1 n j r hj hr  M) (Nat.le_of_ble_eq_true rfl) zv_X12_readsSum rfl cf_X12 (sh77 j r) ml_X12_232 (Nat.le_of_ble_eq_true rfl) (q_dm dm_X12_readsCompared 1 rfl) (fun r1 m2 => ?_)
  refine qr_if_ne (tgt := 9) o (q_dm dm_X12_readsCompared 2 rfl) (by decide) ?_ ?_
  · refine qr_aload_n o (q_dm dm_X12_readsCompared 5 rfl) rfl ?_
    refine qr_callv_i (As := []) (S := []) o (a_X12_here g k.2.1 n j r hj hr  m2) (Nat.le_of_ble_eq_true rfl) zv_X12_here rfl cf_X12 (sh77 j r) ml_X12_175 (Nat.le_of_ble_eq_true rfl) (q_dm dm_X12_readsCompared 6 rfl) (fun r3 m4 => ?_)
    refine qr_bipush o (q_dm dm_X12_readsCompared 7 rfl) bi_60 ?_
    refine qr_icmp_ne (tgt := 23) o (q_dm dm_X12_readsCompared 8 rfl) (by decide) ?_ ?_
    · refine qr_aload_n o (q_dm dm_X12_readsCompared 11 rfl) rfl ?_
      refine qr_callv_i (As := []) (S := []) o (a_X12_here g k.2.1 n j r hj hr  m4) (Nat.le_of_ble_eq_true rfl) zv_X12_here rfl cf_X12 (sh77 j r) ml_X12_175 (Nat.le_of_ble_eq_true rfl) (q_dm dm_X12_readsCompared 12 rfl) (fun r5 m6 => ?_)
      refine qr_bipush o (q_dm dm_X12_readsCompared 13 rfl) bi_62 ?_
      refine qr_icmp_ne (tgt := 37) o (q_dm dm_X12_readsCompared 14 rfl) (by decide) ?_ ?_
      · refine qr_aload_n o (q_dm dm_X12_readsCompared 17 rfl) rfl ?_
        refine qr_callv_i (As := []) (S := []) o (a_X12_here g k.2.1 n j r hj hr  m6) (Nat.le_of_ble_eq_true rfl) zv_X12_here rfl cf_X12 (sh77 j r) ml_X12_175 (Nat.le_of_ble_eq_true rfl) (q_dm dm_X12_readsCompared 18 rfl) (fun r7 m8 => ?_)
        refine qr_bipush o (q_dm dm_X12_readsCompared 19 rfl) bi_61 ?_
        refine qr_icmp_ne (tgt := 51) o (q_dm dm_X12_readsCompared 20 rfl) (by decide) ?_ ?_
        · refine qr_iconst o (q_dm dm_X12_readsCompared 23 rfl) ic_m1 ?_
          exact qr_loc (q_leS (q_leN q_le0)) (w_X12_readsCompared_52 n j r hj hr o (-1 : Int32) m8)
        · refine qr_bipush o (q_dm dm_X12_readsCompared 21 rfl) bi_9 ?_
          refine qr_goto (tgt := 52) o (q_dm dm_X12_readsCompared 22 rfl) (by decide) ?_
          exact qr_loc (q_leS (q_leN q_le0)) (w_X12_readsCompared_52 n j r hj hr o (9 : Int32) m8)
      · refine qr_bipush o (q_dm dm_X12_readsCompared 15 rfl) bi_8 ?_
        refine qr_goto (tgt := 52) o (q_dm dm_X12_readsCompared 16 rfl) (by decide) ?_
        exact qr_loc (q_leS (q_leN q_le0)) (w_X12_readsCompared_52 n j r hj hr o (8 : Int32) m6)
    · refine qr_bipush o (q_dm dm_X12_readsCompared 9 rfl) bi_7 ?_
      refine qr_goto (tgt := 52) o (q_dm dm_X12_readsCompared 10 rfl) (by decide) ?_
      exact qr_loc (q_leS (q_leN q_le0)) (w_X12_readsCompared_52 n j r hj hr o (7 : Int32) m4)
  · refine qr_iconst o (q_dm dm_X12_readsCompared 3 rfl) ic_0 ?_
    exact qr_iret o rfl (by decide) (q_dm dm_X12_readsCompared 4 rfl)

theorem a_X12_readsCompared (g : qG) (l : Launch) (n : Nat) (j r : Nat) (hj : q_isLaw j) (hr : q_isLaw r) (M : qM) : qAM g l 5 zX12_readsCompared (qL j r) [.inr (some 77)] (qL j r, M) (f_X12_readsCompared n  M) :=
  qAM.of zv_X12_readsCompared.1 (by show 1 ≤ 2; decide) (fun k hk o => w_X12_readsCompared n j r hj hr o  M)
def tb_X12_readsCondition : List (Nat × Instr × Nat) := [(0, (.aload_n 0, 1)), (1, (.invokevirtual 175, 3)), (4, (.bipush 40, 2)), (6, (.if_icmp .eq 13, 3)), (9, (.aload_n 0, 1)), (10, (.iconst 1, 1)), (11, (.aload_n 0, 1)), (12, (.getfield 169, 3)), (15, (.invokevirtual 182, 3)), (18, (.ireturn, 1)), (19, (.aload_n 0, 1)), (20, (.iconst 0, 1)), (21, (.putfield 196, 3)), (24, (.aload_n 0, 1)), (25, (.iconst 0, 1)), (26, (.putfield 199, 3)), (29, (.aload_n 0, 1)), (30, (.bipush 13, 2)), (32, (.invokevirtual 209, 3)), (35, (.ifCond .ne 5, 3)), (38, (.iconst 0, 1)), (39, (.ireturn, 1)), (40, (.aload_n 0, 1)), (41, (.invokevirtual 175, 3)), (44, (.bipush 33, 2)), (46, (.if_icmp .eq 12, 3)), (49, (.aload_n 0, 1)), (50, (.invokevirtual 175, 3)), (53, (.bipush 40, 2)), (55, (.if_icmp .ne 28, 3)), (58, (.aload_n 0, 1)), (59, (.aload_n 0, 1)), (60, (.invokevirtual 175, 3)), (63, (.bipush 33, 2)), (65, (.if_icmp .ne 8, 3)), (68, (.bipush 10, 2)), (70, (.goto 5, 3)), (73, (.bipush 13, 2)), (75, (.invokevirtual 209, 3)), (78, (.ifCond .ne (-38), 3)), (81, (.iconst 0, 1)), (82, (.ireturn, 1)), (83, (.aload_n 0, 1)), (84, (.invokevirtual 238, 3)), (87, (.ifCond .ne 5, 3)), (90, (.iconst 0, 1)), (91, (.ireturn, 1)), (92, (.aload_n 0, 1)), (93, (.invokevirtual 175, 3)), (96, (.bipush 41, 2)), (98, (.if_icmp .ne 54, 3)), (101, (.aload_n 0, 1)), (102, (.iconst 1, 1)), (103, (.invokevirtual 241, 3)), (106, (.aload_n 0, 1)), (107, (.aload_n 0, 1)), (108, (.getfield 199, 3)), (111, (.iconst 1, 1)), (112, (.isub, 1)), (113, (.putfield 199, 3)), (116, (.aload_n 0, 1)), (117, (.aload_n 0, 1)), (118, (.getfield 196, 3)), (121, (.iconst 1, 1)), (122, (.isub, 1)), (123, (.putfield 196, 3)), (126, (.aload_n 0, 1)), (127, (.aload_n 0, 1)), (128, (.getfield 169, 3)), (131, (.iconst 1, 1)), (132, (.iadd, 1)), (133, (.putfield 169, 3)), (136, (.aload_n 0, 1)), (137, (.getfield 199, 3)), (140, (.ifCond .ne 5, 3)), (143, (.iconst 1, 1)), (144, (.ireturn, 1)), (145, (.aload_n 0, 1)), (146, (.invokevirtual 235, 3)), (149, (.goto (-57), 3)), (152, (.aload_n 0, 1)), (153, (.invokevirtual 175, 3)), (156, (.bipush 38, 2)), (158, (.if_icmp .eq 22, 3)), (161, (.aload_n 0, 1)), (162, (.invokevirtual 175, 3)), (165, (.bipush 124, 2)), (167, (.if_icmp .eq 13, 3)), (170, (.aload_n 0, 1)), (171, (.iconst 1, 1)), (172, (.aload_n 0, 1)), (173, (.getfield 169, 3)), (176, (.invokevirtual 182, 3)), (179, (.ireturn, 1)), (180, (.aload_n 0, 1)), (181, (.aload_n 0, 1)), (182, (.invokevirtual 175, 3)), (185, (.bipush 124, 2)), (187, (.if_icmp .ne 7, 3)), (190, (.iconst 1, 1)), (191, (.goto 4, 3)), (194, (.iconst 0, 1)), (195, (.invokevirtual 241, 3)), (198, (.aload_n 0, 1)), (199, (.aload_n 0, 1)), (200, (.invokevirtual 175, 3)), (203, (.bipush 38, 2)), (205, (.if_icmp .ne 8, 3)), (208, (.bipush 11, 2)), (210, (.goto 5, 3)), (213, (.bipush 12, 2)), (215, (.invokevirtual 244, 3)), (218, (.goto (-178), 3))]
theorem dm_X12_readsCondition : ∀ q ∈ tb_X12_readsCondition, decode zX12_readsCondition.2.1 q.1 = .ok q.2 := by decide +kernel
def f_X12_readsCondition_215 (n : Nat) (K40 : qM → qR) (s1 : Int32) (M : qM) : qR :=
  qc (f_X12_jumps n s1 M) (fun _ m1 => K40  m1)
set_option maxRecDepth 4000 in
theorem w_X12_readsCondition_215 {g : qG} {k : qK} (n : Nat) (j r : Nat) (hj : q_isLaw j) (hr : q_isLaw r) (o : qOk g 6 zX12_readsCondition k) (K40 : qM → qR) (hK40 : ∀ (M : qM), qAE g k zX12_readsCondition (qL j r) 40 [some (.inr (some 77))] [] (qL j r, M) (K40  M)) (s1 : Int32) (M : qM) : qAE g k zX12_readsCondition (qL j r) 215 [some (.inr (some 77))] [.inl s1, .inr (some 77)] (qL j r, M) (f_X12_readsCondition_215 n K40 s1 M) := by
  unfold f_X12_readsCondition_215
  refine qr_callv_v (As := [.inl s1]) (S := []) o (a_X12_jumps g k.2.1 n j r hj hr s1 M) (Nat.le_of_ble_eq_true rfl) zv_X12_jumps rfl cf_X12 (sh77 j r) ml_X12_244 (Nat.le_of_ble_eq_true rfl) (q_dm dm_X12_readsCondition 111 rfl) (fun _ m1 => ?_)
  refine qr_goto (tgt := 40) o (q_dm dm_X12_readsCondition 112 rfl) (by decide) ?_
  exact qr_loc (q_leS q_le0) (hK40  m1)

def f_X12_readsCondition_195 (n : Nat) (K40 : qM → qR) (s1 : Int32) (M : qM) : qR :=
  qc (f_X12_lands n s1 M) (fun _ m1 => qc (f_X12_here n  m1) (fun r2 m3 => (if r2 = (38 : Int32) then f_X12_readsCondition_215 n K40 (11 : Int32) m3 else f_X12_readsCondition_215 n K40 (12 : Int32) m3)))
set_option maxRecDepth 4000 in
theorem w_X12_readsCondition_195 {g : qG} {k : qK} (n : Nat) (j r : Nat) (hj : q_isLaw j) (hr : q_isLaw r) (o : qOk g 6 zX12_readsCondition k) (K40 : qM → qR) (hK40 : ∀ (M : qM), qAE g k zX12_readsCondition (qL j r) 40 [some (.inr (some 77))] [] (qL j r, M) (K40  M)) (s1 : Int32) (M : qM) : qAE g k zX12_readsCondition (qL j r) 195 [some (.inr (some 77))] [.inl s1, .inr (some 77)] (qL j r, M) (f_X12_readsCondition_195 n K40 s1 M) := by
  unfold f_X12_readsCondition_195
  refine qr_callv_v (As := [.inl s1]) (S := []) o (a_X12_lands g k.2.1 n j r hj hr s1 M) (Nat.le_of_ble_eq_true rfl) zv_X12_lands rfl cf_X12 (sh77 j r) ml_X12_241 (Nat.le_of_ble_eq_true rfl) (q_dm dm_X12_readsCondition 102 rfl) (fun _ m1 => ?_)
  refine qr_aload_n o (q_dm dm_X12_readsCondition 103 rfl) rfl ?_
  refine qr_aload_n o (q_dm dm_X12_readsCondition 104 rfl) rfl ?_
  refine qr_callv_i (As := []) (S := [.inr (some 77)]) o (a_X12_here g k.2.1 n j r hj hr  m1) (Nat.le_of_ble_eq_true rfl) zv_X12_here rfl cf_X12 (sh77 j r) ml_X12_175 (Nat.le_of_ble_eq_true rfl) (q_dm dm_X12_readsCondition 105 rfl) (fun r2 m3 => ?_)
  refine qr_bipush o (q_dm dm_X12_readsCondition 106 rfl) bi_38 ?_
  refine qr_icmp_ne (tgt := 213) o (q_dm dm_X12_readsCondition 107 rfl) (by decide) ?_ ?_
  · refine qr_bipush o (q_dm dm_X12_readsCondition 110 rfl) bi_12 ?_
    exact qr_loc (q_leS q_le0) (w_X12_readsCondition_215 n j r hj hr o K40 hK40 (12 : Int32) m3)
  · refine qr_bipush o (q_dm dm_X12_readsCondition 108 rfl) bi_11 ?_
    refine qr_goto (tgt := 215) o (q_dm dm_X12_readsCondition 109 rfl) (by decide) ?_
    exact qr_loc (q_leS q_le0) (w_X12_readsCondition_215 n j r hj hr o K40 hK40 (11 : Int32) m3)

def f_X12_readsCondition_180 (n : Nat) (K40 : qM → qR) (M : qM) : qR :=
  qc (f_X12_here n  M) (fun r1 m2 => (if r1 = (124 : Int32) then f_X12_readsCondition_195 n K40 (1 : Int32) m2 else f_X12_readsCondition_195 n K40 (0 : Int32) m2))
set_option maxRecDepth 4000 in
theorem w_X12_readsCondition_180 {g : qG} {k : qK} (n : Nat) (j r : Nat) (hj : q_isLaw j) (hr : q_isLaw r) (o : qOk g 6 zX12_readsCondition k) (K40 : qM → qR) (hK40 : ∀ (M : qM), qAE g k zX12_readsCondition (qL j r) 40 [some (.inr (some 77))] [] (qL j r, M) (K40  M)) (M : qM) : qAE g k zX12_readsCondition (qL j r) 180 [some (.inr (some 77))] [] (qL j r, M) (f_X12_readsCondition_180 n K40  M) := by
  unfold f_X12_readsCondition_180
  refine qr_aload_n o (q_dm dm_X12_readsCondition 94 rfl) rfl ?_
  refine qr_aload_n o (q_dm dm_X12_readsCondition 95 rfl) rfl ?_
  refine qr_callv_i (As := []) (S := [.inr (some 77)]) o (a_X12_here g k.2.1 n j r hj hr  M) (Nat.le_of_ble_eq_true rfl) zv_X12_here rfl cf_X12 (sh77 j r) ml_X12_175 (Nat.le_of_ble_eq_true rfl) (q_dm dm_X12_readsCondition 96 rfl) (fun r1 m2 => ?_)
  refine qr_bipush o (q_dm dm_X12_readsCondition 97 rfl) bi_124 ?_
  refine qr_icmp_ne (tgt := 194) o (q_dm dm_X12_readsCondition 98 rfl) (by decide) ?_ ?_
  · refine qr_iconst o (q_dm dm_X12_readsCondition 101 rfl) ic_0 ?_
    exact qr_loc (q_leS q_le0) (w_X12_readsCondition_195 n j r hj hr o K40 hK40 (0 : Int32) m2)
  · refine qr_iconst o (q_dm dm_X12_readsCondition 99 rfl) ic_1 ?_
    refine qr_goto (tgt := 195) o (q_dm dm_X12_readsCondition 100 rfl) (by decide) ?_
    exact qr_loc (q_leS q_le0) (w_X12_readsCondition_195 n j r hj hr o K40 hK40 (1 : Int32) m2)

def b_X12_readsCondition_92 (n : Nat) (K40 : qM → qR) (K92 : qM → qR) (M : qM) : qR :=
  qc (f_X12_here n  M) (fun r1 m2 => (if r1 = (41 : Int32) then qc (f_X12_lands n (1 : Int32) m2) (fun _ m9 => qlm (mu m9 77 15 ((m9 77 15) - (1 : Int32))) (fun m10 => qlm (mu m10 77 13 ((m10 77 13) - (1 : Int32))) (fun m11 => qlm (mu m11 77 9 ((m11 77 9) + (1 : Int32))) (fun m12 => (if (m12 77 15) = (0 : Int32) then some ((1 : Int32), m12) else qc (f_X12_endsPiece n  m12) (fun _ m13 => K92  m13)))))) else qc (f_X12_here n  m2) (fun r3 m4 => (if r3 = (38 : Int32) then f_X12_readsCondition_180 n K40  m4 else qc (f_X12_here n  m4) (fun r5 m6 => (if r5 = (124 : Int32) then f_X12_readsCondition_180 n K40  m6 else qc (f_X12_wrongAt n (1 : Int32) (m6 77 9) m6) (fun r7 m8 => qb r7 (some (r7, m8)))))))))
set_option maxRecDepth 4000 in
theorem wb_X12_readsCondition_92 {g : qG} {k : qK} (n : Nat) (j r : Nat) (hj : q_isLaw j) (hr : q_isLaw r) (o : qOk g 6 zX12_readsCondition k) (K40 : qM → qR) (hK40 : ∀ (M : qM), qAE g k zX12_readsCondition (qL j r) 40 [some (.inr (some 77))] [] (qL j r, M) (K40  M)) (K92 : qM → qR) (hK92 : ∀ (M : qM), qAE g k zX12_readsCondition (qL j r) 92 [some (.inr (some 77))] [] (qL j r, M) (K92  M)) (M : qM) : qAE g k zX12_readsCondition (qL j r) 92 [some (.inr (some 77))] [] (qL j r, M) (b_X12_readsCondition_92 n K40 K92  M) := by
  unfold b_X12_readsCondition_92
  refine qr_aload_n o (q_dm dm_X12_readsCondition 47 rfl) rfl ?_
  refine qr_callv_i (As := []) (S := []) o (a_X12_here g k.2.1 n j r hj hr  M) (Nat.le_of_ble_eq_true rfl) zv_X12_here rfl cf_X12 (sh77 j r) ml_X12_175 (Nat.le_of_ble_eq_true rfl) (q_dm dm_X12_readsCondition 48 rfl) (fun r1 m2 => ?_)
  refine qr_bipush o (q_dm dm_X12_readsCondition 49 rfl) bi_41 ?_
  refine qr_icmp_ne (tgt := 152) o (q_dm dm_X12_readsCondition 50 rfl) (by decide) ?_ ?_
  · refine qr_aload_n o (q_dm dm_X12_readsCondition 80 rfl) rfl ?_
    refine qr_callv_i (As := []) (S := []) o (a_X12_here g k.2.1 n j r hj hr  m2) (Nat.le_of_ble_eq_true rfl) zv_X12_here rfl cf_X12 (sh77 j r) ml_X12_175 (Nat.le_of_ble_eq_true rfl) (q_dm dm_X12_readsCondition 81 rfl) (fun r3 m4 => ?_)
    refine qr_bipush o (q_dm dm_X12_readsCondition 82 rfl) bi_38 ?_
    refine qr_icmp_eq (tgt := 180) o (q_dm dm_X12_readsCondition 83 rfl) (by decide) ?_ ?_
    · exact qr_loc (q_leS q_le0) (w_X12_readsCondition_180 n j r hj hr o K40 hK40  m4)
    · refine qr_aload_n o (q_dm dm_X12_readsCondition 84 rfl) rfl ?_
      refine qr_callv_i (As := []) (S := []) o (a_X12_here g k.2.1 n j r hj hr  m4) (Nat.le_of_ble_eq_true rfl) zv_X12_here rfl cf_X12 (sh77 j r) ml_X12_175 (Nat.le_of_ble_eq_true rfl) (q_dm dm_X12_readsCondition 85 rfl) (fun r5 m6 => ?_)
      refine qr_bipush o (q_dm dm_X12_readsCondition 86 rfl) bi_124 ?_
      refine qr_icmp_eq (tgt := 180) o (q_dm dm_X12_readsCondition 87 rfl) (by decide) ?_ ?_
      · exact qr_loc (q_leS q_le0) (w_X12_readsCondition_180 n j r hj hr o K40 hK40  m6)
      · refine qr_aload_n o (q_dm dm_X12_readsCondition 88 rfl) rfl ?_
        refine qr_iconst o (q_dm dm_X12_readsCondition 89 rfl) ic_1 ?_
        refine qr_aload_n o (q_dm dm_X12_readsCondition 90 rfl) rfl ?_
        refine qr_getf (kf := 9) o cf_X12 (sh77 j r) rfl (Nat.le_of_ble_eq_true rfl) fl_X12_169 (q_dm dm_X12_readsCondition 91 rfl) ?_
        refine qr_callv_i (As := [.inl (1 : Int32), .inl (m6 77 9)]) (S := []) o (a_X12_wrongAt g k.2.1 n j r hj hr (1 : Int32) (m6 77 9) m6) (Nat.le_of_ble_eq_true rfl) zv_X12_wrongAt rfl cf_X12 (sh77 j r) ml_X12_182 (Nat.le_of_ble_eq_true rfl) (q_dm dm_X12_readsCondition 92 rfl) (fun r7 m8 => ?_)
        exact qr_zret o rfl (q_dm dm_X12_readsCondition 93 rfl)
  · refine qr_aload_n o (q_dm dm_X12_readsCondition 51 rfl) rfl ?_
    refine qr_iconst o (q_dm dm_X12_readsCondition 52 rfl) ic_1 ?_
    refine qr_callv_v (As := [.inl (1 : Int32)]) (S := []) o (a_X12_lands g k.2.1 n j r hj hr (1 : Int32) m2) (Nat.le_of_ble_eq_true rfl) zv_X12_lands rfl cf_X12 (sh77 j r) ml_X12_241 (Nat.le_of_ble_eq_true rfl) (q_dm dm_X12_readsCondition 53 rfl) (fun _ m9 => ?_)
    refine qr_aload_n o (q_dm dm_X12_readsCondition 54 rfl) rfl ?_
    refine qr_aload_n o (q_dm dm_X12_readsCondition 55 rfl) rfl ?_
    refine qr_getf (kf := 15) o cf_X12 (sh77 j r) rfl (Nat.le_of_ble_eq_true rfl) fl_X12_199 (q_dm dm_X12_readsCondition 56 rfl) ?_
    refine qr_iconst o (q_dm dm_X12_readsCondition 57 rfl) ic_1 ?_
    refine qr_isub o (q_dm dm_X12_readsCondition 58 rfl) ?_
    refine qr_putf (kf := 15) o cf_X12 (sh77 j r) rfl (Nat.le_of_ble_eq_true rfl) fl_X12_199 rfl (by decide +kernel) (q_dm dm_X12_readsCondition 59 rfl) ?_
    refine qr_letm (fun m10 => ?_)
    refine qr_aload_n o (q_dm dm_X12_readsCondition 60 rfl) rfl ?_
    refine qr_aload_n o (q_dm dm_X12_readsCondition 61 rfl) rfl ?_
    refine qr_getf (kf := 13) o cf_X12 (sh77 j r) rfl (Nat.le_of_ble_eq_true rfl) fl_X12_196 (q_dm dm_X12_readsCondition 62 rfl) ?_
    refine qr_iconst o (q_dm dm_X12_readsCondition 63 rfl) ic_1 ?_
    refine qr_isub o (q_dm dm_X12_readsCondition 64 rfl) ?_
    refine qr_putf (kf := 13) o cf_X12 (sh77 j r) rfl (Nat.le_of_ble_eq_true rfl) fl_X12_196 rfl (by decide +kernel) (q_dm dm_X12_readsCondition 65 rfl) ?_
    refine qr_letm (fun m11 => ?_)
    refine qr_aload_n o (q_dm dm_X12_readsCondition 66 rfl) rfl ?_
    refine qr_aload_n o (q_dm dm_X12_readsCondition 67 rfl) rfl ?_
    refine qr_getf (kf := 9) o cf_X12 (sh77 j r) rfl (Nat.le_of_ble_eq_true rfl) fl_X12_169 (q_dm dm_X12_readsCondition 68 rfl) ?_
    refine qr_iconst o (q_dm dm_X12_readsCondition 69 rfl) ic_1 ?_
    refine qr_iadd o (q_dm dm_X12_readsCondition 70 rfl) ?_
    refine qr_putf (kf := 9) o cf_X12 (sh77 j r) rfl (Nat.le_of_ble_eq_true rfl) fl_X12_169 rfl (by decide +kernel) (q_dm dm_X12_readsCondition 71 rfl) ?_
    refine qr_letm (fun m12 => ?_)
    refine qr_aload_n o (q_dm dm_X12_readsCondition 72 rfl) rfl ?_
    refine qr_getf (kf := 15) o cf_X12 (sh77 j r) rfl (Nat.le_of_ble_eq_true rfl) fl_X12_199 (q_dm dm_X12_readsCondition 73 rfl) ?_
    refine qr_if_ne (tgt := 145) o (q_dm dm_X12_readsCondition 74 rfl) (by decide) ?_ ?_
    · refine qr_aload_n o (q_dm dm_X12_readsCondition 77 rfl) rfl ?_
      refine qr_callv_v (As := []) (S := []) o (a_X12_endsPiece g k.2.1 n j r hj hr  m12) (Nat.le_of_ble_eq_true rfl) zv_X12_endsPiece rfl cf_X12 (sh77 j r) ml_X12_235 (Nat.le_of_ble_eq_true rfl) (q_dm dm_X12_readsCondition 78 rfl) (fun _ m13 => ?_)
      refine qr_goto (tgt := 92) o (q_dm dm_X12_readsCondition 79 rfl) (by decide) ?_
      exact qr_loc (q_leS q_le0) (hK92  m13)
    · refine qr_iconst o (q_dm dm_X12_readsCondition 75 rfl) ic_1 ?_
      exact qr_iret o rfl (by decide) (q_dm dm_X12_readsCondition 76 rfl)

def f_X12_readsCondition_92 (n : Nat) (K40 : qM → qR) : Nat → qM → qR
  | 0, _ => none
  | m + 1, M => b_X12_readsCondition_92 n K40 (f_X12_readsCondition_92 n K40 m)  M
theorem w_X12_readsCondition_92 {g : qG} {k : qK} (n : Nat) (j r : Nat) (hj : q_isLaw j) (hr : q_isLaw r) (o : qOk g 6 zX12_readsCondition k) (K40 : qM → qR) (hK40 : ∀ (M : qM), qAE g k zX12_readsCondition (qL j r) 40 [some (.inr (some 77))] [] (qL j r, M) (K40  M)) : ∀ (m : Nat) (M : qM), qAE g k zX12_readsCondition (qL j r) 92 [some (.inr (some 77))] [] (qL j r, M) (f_X12_readsCondition_92 n K40 m  M) := by
  intro m
  induction m with
  | zero =>
    intro  M
    exact qr_none
  | succ m ih =>
    intro  M
    exact wb_X12_readsCondition_92 n j r hj hr o K40 hK40 (f_X12_readsCondition_92 n K40 m) ih  M
def f_X12_readsCondition_75 (n : Nat) (K40 : qM → qR) (s1 : Int32) (M : qM) : qR :=
  qc (f_X12_opens n s1 M) (fun r1 m2 => (if r1 = (0 : Int32) then some ((0 : Int32), m2) else K40  m2))
set_option maxRecDepth 4000 in
theorem w_X12_readsCondition_75 {g : qG} {k : qK} (n : Nat) (j r : Nat) (hj : q_isLaw j) (hr : q_isLaw r) (o : qOk g 6 zX12_readsCondition k) (K40 : qM → qR) (hK40 : ∀ (M : qM), qAE g k zX12_readsCondition (qL j r) 40 [some (.inr (some 77))] [] (qL j r, M) (K40  M)) (s1 : Int32) (M : qM) : qAE g k zX12_readsCondition (qL j r) 75 [some (.inr (some 77))] [.inl s1, .inr (some 77)] (qL j r, M) (f_X12_readsCondition_75 n K40 s1 M) := by
  unfold f_X12_readsCondition_75
  refine qr_callv_i (As := [.inl s1]) (S := []) o (a_X12_opens g k.2.1 n j r hj hr s1 M) (Nat.le_of_ble_eq_true rfl) zv_X12_opens rfl cf_X12 (sh77 j r) ml_X12_209 (Nat.le_of_ble_eq_true rfl) (q_dm dm_X12_readsCondition 38 rfl) (fun r1 m2 => ?_)
  refine qr_if_ne (tgt := 40) o (q_dm dm_X12_readsCondition 39 rfl) (by decide) ?_ ?_
  · exact qr_loc (q_leS q_le0) (hK40  m2)
  · refine qr_iconst o (q_dm dm_X12_readsCondition 40 rfl) ic_0 ?_
    exact qr_iret o rfl (by decide) (q_dm dm_X12_readsCondition 41 rfl)

def f_X12_readsCondition_58 (n : Nat) (K40 : qM → qR) (M : qM) : qR :=
  qc (f_X12_here n  M) (fun r1 m2 => (if r1 = (33 : Int32) then f_X12_readsCondition_75 n K40 (10 : Int32) m2 else f_X12_readsCondition_75 n K40 (13 : Int32) m2))
set_option maxRecDepth 4000 in
theorem w_X12_readsCondition_58 {g : qG} {k : qK} (n : Nat) (j r : Nat) (hj : q_isLaw j) (hr : q_isLaw r) (o : qOk g 6 zX12_readsCondition k) (K40 : qM → qR) (hK40 : ∀ (M : qM), qAE g k zX12_readsCondition (qL j r) 40 [some (.inr (some 77))] [] (qL j r, M) (K40  M)) (M : qM) : qAE g k zX12_readsCondition (qL j r) 58 [some (.inr (some 77))] [] (qL j r, M) (f_X12_readsCondition_58 n K40  M) := by
  unfold f_X12_readsCondition_58
  refine qr_aload_n o (q_dm dm_X12_readsCondition 30 rfl) rfl ?_
  refine qr_aload_n o (q_dm dm_X12_readsCondition 31 rfl) rfl ?_
  refine qr_callv_i (As := []) (S := [.inr (some 77)]) o (a_X12_here g k.2.1 n j r hj hr  M) (Nat.le_of_ble_eq_true rfl) zv_X12_here rfl cf_X12 (sh77 j r) ml_X12_175 (Nat.le_of_ble_eq_true rfl) (q_dm dm_X12_readsCondition 32 rfl) (fun r1 m2 => ?_)
  refine qr_bipush o (q_dm dm_X12_readsCondition 33 rfl) bi_33 ?_
  refine qr_icmp_ne (tgt := 73) o (q_dm dm_X12_readsCondition 34 rfl) (by decide) ?_ ?_
  · refine qr_bipush o (q_dm dm_X12_readsCondition 37 rfl) bi_13 ?_
    exact qr_loc (q_leS q_le0) (w_X12_readsCondition_75 n j r hj hr o K40 hK40 (13 : Int32) m2)
  · refine qr_bipush o (q_dm dm_X12_readsCondition 35 rfl) bi_10 ?_
    refine qr_goto (tgt := 75) o (q_dm dm_X12_readsCondition 36 rfl) (by decide) ?_
    exact qr_loc (q_leS q_le0) (w_X12_readsCondition_75 n j r hj hr o K40 hK40 (10 : Int32) m2)

def b_X12_readsCondition_40 (n : Nat) (K40 : qM → qR) (M : qM) : qR :=
  qc (f_X12_here n  M) (fun r1 m2 => (if r1 = (33 : Int32) then f_X12_readsCondition_58 n K40  m2 else qc (f_X12_here n  m2) (fun r3 m4 => (if r3 = (40 : Int32) then f_X12_readsCondition_58 n K40  m4 else qc (f_X12_readsCompared n  m4) (fun r5 m6 => (if r5 = (0 : Int32) then some ((0 : Int32), m6) else f_X12_readsCondition_92 n K40 n  m6))))))
set_option maxRecDepth 4000 in
theorem wb_X12_readsCondition_40 {g : qG} {k : qK} (n : Nat) (j r : Nat) (hj : q_isLaw j) (hr : q_isLaw r) (o : qOk g 6 zX12_readsCondition k) (K40 : qM → qR) (hK40 : ∀ (M : qM), qAE g k zX12_readsCondition (qL j r) 40 [some (.inr (some 77))] [] (qL j r, M) (K40  M)) (M : qM) : qAE g k zX12_readsCondition (qL j r) 40 [some (.inr (some 77))] [] (qL j r, M) (b_X12_readsCondition_40 n K40  M) := by
  unfold b_X12_readsCondition_40
  refine qr_aload_n o (q_dm dm_X12_readsCondition 22 rfl) rfl ?_
  refine qr_callv_i (As := []) (S := []) o (a_X12_here g k.2.1 n j r hj hr  M) (Nat.le_of_ble_eq_true rfl) zv_X12_here rfl cf_X12 (sh77 j r) ml_X12_175 (Nat.le_of_ble_eq_true rfl) (q_dm dm_X12_readsCondition 23 rfl) (fun r1 m2 => ?_)
  refine qr_bipush o (q_dm dm_X12_readsCondition 24 rfl) bi_33 ?_
  refine qr_icmp_eq (tgt := 58) o (q_dm dm_X12_readsCondition 25 rfl) (by decide) ?_ ?_
  · exact qr_loc (q_leS q_le0) (w_X12_readsCondition_58 n j r hj hr o K40 hK40  m2)
  · refine qr_aload_n o (q_dm dm_X12_readsCondition 26 rfl) rfl ?_
    refine qr_callv_i (As := []) (S := []) o (a_X12_here g k.2.1 n j r hj hr  m2) (Nat.le_of_ble_eq_true rfl) zv_X12_here rfl cf_X12 (sh77 j r) ml_X12_175 (Nat.le_of_ble_eq_true rfl) (q_dm dm_X12_readsCondition 27 rfl) (fun r3 m4 => ?_)
    refine qr_bipush o (q_dm dm_X12_readsCondition 28 rfl) bi_40 ?_
    refine qr_icmp_ne (tgt := 83) o (q_dm dm_X12_readsCondition 29 rfl) (by decide) ?_ ?_
    · refine qr_aload_n o (q_dm dm_X12_readsCondition 42 rfl) rfl ?_
      refine qr_callv_i (As := []) (S := []) o (a_X12_readsCompared g k.2.1 n j r hj hr  m4) (Nat.le_of_ble_eq_true rfl) zv_X12_readsCompared rfl cf_X12 (sh77 j r) ml_X12_238 (Nat.le_of_ble_eq_true rfl) (q_dm dm_X12_readsCondition 43 rfl) (fun r5 m6 => ?_)
      refine qr_if_ne (tgt := 92) o (q_dm dm_X12_readsCondition 44 rfl) (by decide) ?_ ?_
      · exact qr_loc (q_leS q_le0) (w_X12_readsCondition_92 n j r hj hr o K40 hK40 n  m6)
      · refine qr_iconst o (q_dm dm_X12_readsCondition 45 rfl) ic_0 ?_
        exact qr_iret o rfl (by decide) (q_dm dm_X12_readsCondition 46 rfl)
    · exact qr_loc (q_leS q_le0) (w_X12_readsCondition_58 n j r hj hr o K40 hK40  m4)

def f_X12_readsCondition_40 (n : Nat) : Nat → qM → qR
  | 0, _ => none
  | m + 1, M => b_X12_readsCondition_40 n (f_X12_readsCondition_40 n m)  M
theorem w_X12_readsCondition_40 {g : qG} {k : qK} (n : Nat) (j r : Nat) (hj : q_isLaw j) (hr : q_isLaw r) (o : qOk g 6 zX12_readsCondition k) : ∀ (m : Nat) (M : qM), qAE g k zX12_readsCondition (qL j r) 40 [some (.inr (some 77))] [] (qL j r, M) (f_X12_readsCondition_40 n m  M) := by
  intro m
  induction m with
  | zero =>
    intro  M
    exact qr_none
  | succ m ih =>
    intro  M
    exact wb_X12_readsCondition_40 n j r hj hr o (f_X12_readsCondition_40 n m) ih  M
def f_X12_readsCondition (n : Nat) (M : qM) : qR :=
  qc (f_X12_here n  M) (fun r1 m2 => (if r1 = (40 : Int32) then qlm (mu m2 77 13 (0 : Int32)) (fun m3 => qlm (mu m3 77 15 (0 : Int32)) (fun m4 => qc (f_X12_opens n (13 : Int32) m4) (fun r5 m6 => (if r5 = (0 : Int32) then some ((0 : Int32), m6) else f_X12_readsCondition_40 n n  m6)))) else qc (f_X12_wrongAt n (1 : Int32) (m2 77 9) m2) (fun r7 m8 => qb r7 (some (r7, m8)))))
set_option maxRecDepth 4000 in
theorem w_X12_readsCondition {g : qG} {k : qK} (n : Nat) (j r : Nat) (hj : q_isLaw j) (hr : q_isLaw r) (o : qOk g 6 zX12_readsCondition k) (M : qM) : qAE g k zX12_readsCondition (qL j r) 0 [some (.inr (some 77))] [] (qL j r, M) (f_X12_readsCondition n  M) := by
  unfold f_X12_readsCondition
  refine qr_aload_n o (q_dm dm_X12_readsCondition 0 rfl) rfl ?_
  refine qr_callv_i (As := []) (S := []) o (a_X12_here g k.2.1 n j r hj hr  M) (Nat.le_of_ble_eq_true rfl) zv_X12_here rfl cf_X12 (sh77 j r) ml_X12_175 (Nat.le_of_ble_eq_true rfl) (q_dm dm_X12_readsCondition 1 rfl) (fun r1 m2 => ?_)
  refine qr_bipush o (q_dm dm_X12_readsCondition 2 rfl) bi_40 ?_
  refine qr_icmp_eq (tgt := 19) o (q_dm dm_X12_readsCondition 3 rfl) (by decide) ?_ ?_
  · refine qr_aload_n o (q_dm dm_X12_readsCondition 10 rfl) rfl ?_
    refine qr_iconst o (q_dm dm_X12_readsCondition 11 rfl) ic_0 ?_
    refine qr_putf (kf := 13) o cf_X12 (sh77 j r) rfl (Nat.le_of_ble_eq_true rfl) fl_X12_196 rfl (by decide +kernel) (q_dm dm_X12_readsCondition 12 rfl) ?_
    refine qr_letm (fun m3 => ?_)
    refine qr_aload_n o (q_dm dm_X12_readsCondition 13 rfl) rfl ?_
    refine qr_iconst o (q_dm dm_X12_readsCondition 14 rfl) ic_0 ?_
    refine qr_putf (kf := 15) o cf_X12 (sh77 j r) rfl (Nat.le_of_ble_eq_true rfl) fl_X12_199 rfl (by decide +kernel) (q_dm dm_X12_readsCondition 15 rfl) ?_
    refine qr_letm (fun m4 => ?_)
    refine qr_aload_n o (q_dm dm_X12_readsCondition 16 rfl) rfl ?_
    refine qr_bipush o (q_dm dm_X12_readsCondition 17 rfl) bi_13 ?_
    refine qr_callv_i (As := [.inl (13 : Int32)]) (S := []) o (a_X12_opens g k.2.1 n j r hj hr (13 : Int32) m4) (Nat.le_of_ble_eq_true rfl) zv_X12_opens rfl cf_X12 (sh77 j r) ml_X12_209 (Nat.le_of_ble_eq_true rfl) (q_dm dm_X12_readsCondition 18 rfl) (fun r5 m6 => ?_)
    refine qr_if_ne (tgt := 40) o (q_dm dm_X12_readsCondition 19 rfl) (by decide) ?_ ?_
    · exact qr_loc (q_leS q_le0) (w_X12_readsCondition_40 n j r hj hr o n  m6)
    · refine qr_iconst o (q_dm dm_X12_readsCondition 20 rfl) ic_0 ?_
      exact qr_iret o rfl (by decide) (q_dm dm_X12_readsCondition 21 rfl)
  · refine qr_aload_n o (q_dm dm_X12_readsCondition 4 rfl) rfl ?_
    refine qr_iconst o (q_dm dm_X12_readsCondition 5 rfl) ic_1 ?_
    refine qr_aload_n o (q_dm dm_X12_readsCondition 6 rfl) rfl ?_
    refine qr_getf (kf := 9) o cf_X12 (sh77 j r) rfl (Nat.le_of_ble_eq_true rfl) fl_X12_169 (q_dm dm_X12_readsCondition 7 rfl) ?_
    refine qr_callv_i (As := [.inl (1 : Int32), .inl (m2 77 9)]) (S := []) o (a_X12_wrongAt g k.2.1 n j r hj hr (1 : Int32) (m2 77 9) m2) (Nat.le_of_ble_eq_true rfl) zv_X12_wrongAt rfl cf_X12 (sh77 j r) ml_X12_182 (Nat.le_of_ble_eq_true rfl) (q_dm dm_X12_readsCondition 8 rfl) (fun r7 m8 => ?_)
    exact qr_zret o rfl (q_dm dm_X12_readsCondition 9 rfl)

theorem a_X12_readsCondition (g : qG) (l : Launch) (n : Nat) (j r : Nat) (hj : q_isLaw j) (hr : q_isLaw r) (M : qM) : qAM g l 6 zX12_readsCondition (qL j r) [.inr (some 77)] (qL j r, M) (f_X12_readsCondition n  M) :=
  qAM.of zv_X12_readsCondition.1 (by show 1 ≤ 1; decide) (fun k hk o => w_X12_readsCondition n j r hj hr o  M)
def tb_X12_readsClause : List (Nat × Instr × Nat) := [(0, (.aload_n 0, 1)), (1, (.invokevirtual 175, 3)), (4, (.istore_n 1, 1)), (5, (.iload_n 1, 1)), (6, (.invokestatic 247, 3)), (9, (.ifCond .ne 13, 3)), (12, (.aload_n 0, 1)), (13, (.iconst 1, 1)), (14, (.aload_n 0, 1)), (15, (.getfield 169, 3)), (18, (.invokevirtual 182, 3)), (21, (.ireturn, 1)), (22, (.aload_n 0, 1)), (23, (.getfield 250, 3)), (26, (.bipush 16, 2)), (28, (.if_icmp .ne 13, 3)), (31, (.aload_n 0, 1)), (32, (.iconst 4, 1)), (33, (.aload_n 0, 1)), (34, (.getfield 169, 3)), (37, (.invokevirtual 182, 3)), (40, (.ireturn, 1)), (41, (.aload_n 0, 1)), (42, (.getfield 38, 3)), (45, (.aload_n 0, 1)), (46, (.getfield 250, 3)), (49, (.iload_n 1, 1)), (50, (.iastore, 1)), (51, (.aload_n 0, 1)), (52, (.aload_n 0, 1)), (53, (.getfield 169, 3)), (56, (.iconst 1, 1)), (57, (.iadd, 1)), (58, (.putfield 169, 3)), (61, (.aload_n 0, 1)), (62, (.getfield 41, 3)), (65, (.aload_n 0, 1)), (66, (.getfield 250, 3)), (69, (.aload_n 0, 1)), (70, (.getfield 192, 3)), (73, (.iastore, 1)), (74, (.aload_n 0, 1)), (75, (.iconst 0, 1)), (76, (.putfield 196, 3)), (79, (.aload_n 0, 1)), (80, (.iconst 0, 1)), (81, (.putfield 199, 3)), (84, (.iload_n 1, 1)), (85, (.bipush 97, 2)), (87, (.if_icmp .eq 12, 3)), (90, (.aload_n 0, 1)), (91, (.invokevirtual 232, 3)), (94, (.ifCond .ne 5, 3)), (97, (.iconst 0, 1)), (98, (.ireturn, 1)), (99, (.aload_n 0, 1)), (100, (.getfield 44, 3)), (103, (.aload_n 0, 1)), (104, (.getfield 250, 3)), (107, (.aload_n 0, 1)), (108, (.getfield 192, 3)), (111, (.iastore, 1)), (112, (.aload_n 0, 1)), (113, (.invokevirtual 253, 3)), (116, (.ifCond .ne 5, 3)), (119, (.iconst 0, 1)), (120, (.ireturn, 1)), (121, (.aload_n 0, 1)), (122, (.getfield 47, 3)), (125, (.aload_n 0, 1)), (126, (.getfield 250, 3)), (129, (.aload_n 0, 1)), (130, (.getfield 192, 3)), (133, (.iastore, 1)), (134, (.aload_n 0, 1)), (135, (.aload_n 0, 1)), (136, (.getfield 250, 3)), (139, (.iconst 1, 1)), (140, (.iadd, 1)), (141, (.putfield 250, 3)), (144, (.iconst 1, 1)), (145, (.ireturn, 1))]
theorem dm_X12_readsClause : ∀ q ∈ tb_X12_readsClause, decode zX12_readsClause.2.1 q.1 = .ok q.2 := by decide +kernel
def f_X12_readsClause_99 (n : Nat) (M : qM) : qR :=
  qg (M 77 16) 16 (qlm (mu M 89 (M 77 16).toNatClampNeg (M 77 14)) (fun m1 => qc (f_X12_readsCondition n  m1) (fun r2 m3 => (if r2 = (0 : Int32) then some ((0 : Int32), m3) else qg (m3 77 16) 16 (qlm (mu m3 90 (m3 77 16).toNatClampNeg (m3 77 14)) (fun m4 => qlm (mu m4 77 16 ((m4 77 16) + (1 : Int32))) (fun m5 => some ((1 : Int32), m5))))))))
set_option maxRecDepth 4000 in
theorem w_X12_readsClause_99 {g : qG} {k : qK} (n : Nat) (j r : Nat) (hj : q_isLaw j) (hr : q_isLaw r) (o : qOk g 7 zX12_readsClause k) (M : qM) : qAE g k zX12_readsClause (qL j r) 99 [some (.inr (some 77)), none] [] (qL j r, M) (f_X12_readsClause_99 n  M) := by
  unfold f_X12_readsClause_99
  refine qr_aload_n o (q_dm dm_X12_readsClause 55 rfl) rfl ?_
  refine qr_getr (kf := 22) o cf_X12 (sh77 j r) rfl (Nat.le_of_ble_eq_true rfl) fl_X12_44 (q_dm dm_X12_readsClause 56 rfl) ?_
  refine qr_aload_n o (q_dm dm_X12_readsClause 57 rfl) rfl ?_
  refine qr_getf (kf := 16) o cf_X12 (sh77 j r) rfl (Nat.le_of_ble_eq_true rfl) fl_X12_250 (q_dm dm_X12_readsClause 58 rfl) ?_
  refine qr_aload_n o (q_dm dm_X12_readsClause 59 rfl) rfl ?_
  refine qr_getf (kf := 14) o cf_X12 (sh77 j r) rfl (Nat.le_of_ble_eq_true rfl) fl_X12_192 (q_dm dm_X12_readsClause 60 rfl) ?_
  refine qr_iast o (sh89 j r) (q_dm dm_X12_readsClause 61 rfl) ?_
  refine qr_letm (fun m1 => ?_)
  refine qr_aload_n o (q_dm dm_X12_readsClause 62 rfl) rfl ?_
  refine qr_callv_i (As := []) (S := []) o (a_X12_readsCondition g k.2.1 n j r hj hr  m1) (Nat.le_of_ble_eq_true rfl) zv_X12_readsCondition rfl cf_X12 (sh77 j r) ml_X12_253 (Nat.le_of_ble_eq_true rfl) (q_dm dm_X12_readsClause 63 rfl) (fun r2 m3 => ?_)
  refine qr_if_ne (tgt := 121) o (q_dm dm_X12_readsClause 64 rfl) (by decide) ?_ ?_
  · refine qr_aload_n o (q_dm dm_X12_readsClause 67 rfl) rfl ?_
    refine qr_getr (kf := 23) o cf_X12 (sh77 j r) rfl (Nat.le_of_ble_eq_true rfl) fl_X12_47 (q_dm dm_X12_readsClause 68 rfl) ?_
    refine qr_aload_n o (q_dm dm_X12_readsClause 69 rfl) rfl ?_
    refine qr_getf (kf := 16) o cf_X12 (sh77 j r) rfl (Nat.le_of_ble_eq_true rfl) fl_X12_250 (q_dm dm_X12_readsClause 70 rfl) ?_
    refine qr_aload_n o (q_dm dm_X12_readsClause 71 rfl) rfl ?_
    refine qr_getf (kf := 14) o cf_X12 (sh77 j r) rfl (Nat.le_of_ble_eq_true rfl) fl_X12_192 (q_dm dm_X12_readsClause 72 rfl) ?_
    refine qr_iast o (sh90 j r) (q_dm dm_X12_readsClause 73 rfl) ?_
    refine qr_letm (fun m4 => ?_)
    refine qr_aload_n o (q_dm dm_X12_readsClause 74 rfl) rfl ?_
    refine qr_aload_n o (q_dm dm_X12_readsClause 75 rfl) rfl ?_
    refine qr_getf (kf := 16) o cf_X12 (sh77 j r) rfl (Nat.le_of_ble_eq_true rfl) fl_X12_250 (q_dm dm_X12_readsClause 76 rfl) ?_
    refine qr_iconst o (q_dm dm_X12_readsClause 77 rfl) ic_1 ?_
    refine qr_iadd o (q_dm dm_X12_readsClause 78 rfl) ?_
    refine qr_putf (kf := 16) o cf_X12 (sh77 j r) rfl (Nat.le_of_ble_eq_true rfl) fl_X12_250 rfl (by decide +kernel) (q_dm dm_X12_readsClause 79 rfl) ?_
    refine qr_letm (fun m5 => ?_)
    refine qr_iconst o (q_dm dm_X12_readsClause 80 rfl) ic_1 ?_
    exact qr_iret o rfl (by decide) (q_dm dm_X12_readsClause 81 rfl)
  · refine qr_iconst o (q_dm dm_X12_readsClause 65 rfl) ic_0 ?_
    exact qr_iret o rfl (by decide) (q_dm dm_X12_readsClause 66 rfl)

def f_X12_readsClause (n : Nat) (M : qM) : qR :=
  qc (f_X12_here n  M) (fun r1 m2 => qc (f_X12_isClause n r1 m2) (fun r3 m4 => (if r3 = (0 : Int32) then qc (f_X12_wrongAt n (1 : Int32) (m4 77 9) m4) (fun r14 m15 => qb r14 (some (r14, m15))) else (if (m4 77 16) = (16 : Int32) then qc (f_X12_wrongAt n (4 : Int32) (m4 77 9) m4) (fun r12 m13 => qb r12 (some (r12, m13))) else qg (m4 77 16) 16 (qlm (mu m4 87 (m4 77 16).toNatClampNeg r1) (fun m5 => qlm (mu m5 77 9 ((m5 77 9) + (1 : Int32))) (fun m6 => qg (m6 77 16) 16 (qlm (mu m6 88 (m6 77 16).toNatClampNeg (m6 77 14)) (fun m7 => qlm (mu m7 77 13 (0 : Int32)) (fun m8 => qlm (mu m8 77 15 (0 : Int32)) (fun m9 => (if r1 = (97 : Int32) then f_X12_readsClause_99 n  m9 else qc (f_X12_readsSum n  m9) (fun r10 m11 => (if r10 = (0 : Int32) then some ((0 : Int32), m11) else f_X12_readsClause_99 n  m11))))))))))))))
set_option maxRecDepth 4000 in
theorem w_X12_readsClause {g : qG} {k : qK} (n : Nat) (j r : Nat) (hj : q_isLaw j) (hr : q_isLaw r) (o : qOk g 7 zX12_readsClause k) (M : qM) : qAE g k zX12_readsClause (qL j r) 0 [some (.inr (some 77)), none] [] (qL j r, M) (f_X12_readsClause n  M) := by
  unfold f_X12_readsClause
  refine qr_aload_n o (q_dm dm_X12_readsClause 0 rfl) rfl ?_
  refine qr_callv_i (As := []) (S := []) o (a_X12_here g k.2.1 n j r hj hr  M) (Nat.le_of_ble_eq_true rfl) zv_X12_here rfl cf_X12 (sh77 j r) ml_X12_175 (Nat.le_of_ble_eq_true rfl) (q_dm dm_X12_readsClause 1 rfl) (fun r1 m2 => ?_)
  refine qs_istore_n (L' := [some (.inr (some 77)), some (.inl r1)]) o (q_dm dm_X12_readsClause 2 rfl) (Nat.le_of_ble_eq_true rfl) rfl ?_
  refine qr_iload_n o (q_dm dm_X12_readsClause 3 rfl) rfl ?_
  refine qr_calls_i (As := [.inl r1]) (S := []) o (a_X12_isClause g k.2.1 n j r hj hr r1 m2) (Nat.le_of_ble_eq_true rfl) zs_X12_isClause rfl ml_X12_247 (Nat.le_of_ble_eq_true rfl) (q_dm dm_X12_readsClause 4 rfl) (fun r3 m4 => ?_)
  refine qr_if_ne (tgt := 22) o (q_dm dm_X12_readsClause 5 rfl) (by decide) ?_ ?_
  · refine qr_aload_n o (q_dm dm_X12_readsClause 12 rfl) rfl ?_
    refine qr_getf (kf := 16) o cf_X12 (sh77 j r) rfl (Nat.le_of_ble_eq_true rfl) fl_X12_250 (q_dm dm_X12_readsClause 13 rfl) ?_
    refine qr_bipush o (q_dm dm_X12_readsClause 14 rfl) bi_16 ?_
    refine qr_icmp_ne (tgt := 41) o (q_dm dm_X12_readsClause 15 rfl) (by decide) ?_ ?_
    · refine qr_aload_n o (q_dm dm_X12_readsClause 22 rfl) rfl ?_
      refine qr_getr (kf := 20) o cf_X12 (sh77 j r) rfl (Nat.le_of_ble_eq_true rfl) fl_X12_38 (q_dm dm_X12_readsClause 23 rfl) ?_
      refine qr_aload_n o (q_dm dm_X12_readsClause 24 rfl) rfl ?_
      refine qr_getf (kf := 16) o cf_X12 (sh77 j r) rfl (Nat.le_of_ble_eq_true rfl) fl_X12_250 (q_dm dm_X12_readsClause 25 rfl) ?_
      refine qr_iload_n o (q_dm dm_X12_readsClause 26 rfl) rfl ?_
      refine qr_iast o (sh87 j r) (q_dm dm_X12_readsClause 27 rfl) ?_
      refine qr_letm (fun m5 => ?_)
      refine qr_aload_n o (q_dm dm_X12_readsClause 28 rfl) rfl ?_
      refine qr_aload_n o (q_dm dm_X12_readsClause 29 rfl) rfl ?_
      refine qr_getf (kf := 9) o cf_X12 (sh77 j r) rfl (Nat.le_of_ble_eq_true rfl) fl_X12_169 (q_dm dm_X12_readsClause 30 rfl) ?_
      refine qr_iconst o (q_dm dm_X12_readsClause 31 rfl) ic_1 ?_
      refine qr_iadd o (q_dm dm_X12_readsClause 32 rfl) ?_
      refine qr_putf (kf := 9) o cf_X12 (sh77 j r) rfl (Nat.le_of_ble_eq_true rfl) fl_X12_169 rfl (by decide +kernel) (q_dm dm_X12_readsClause 33 rfl) ?_
      refine qr_letm (fun m6 => ?_)
      refine qr_aload_n o (q_dm dm_X12_readsClause 34 rfl) rfl ?_
      refine qr_getr (kf := 21) o cf_X12 (sh77 j r) rfl (Nat.le_of_ble_eq_true rfl) fl_X12_41 (q_dm dm_X12_readsClause 35 rfl) ?_
      refine qr_aload_n o (q_dm dm_X12_readsClause 36 rfl) rfl ?_
      refine qr_getf (kf := 16) o cf_X12 (sh77 j r) rfl (Nat.le_of_ble_eq_true rfl) fl_X12_250 (q_dm dm_X12_readsClause 37 rfl) ?_
      refine qr_aload_n o (q_dm dm_X12_readsClause 38 rfl) rfl ?_
      refine qr_getf (kf := 14) o cf_X12 (sh77 j r) rfl (Nat.le_of_ble_eq_true rfl) fl_X12_192 (q_dm dm_X12_readsClause 39 rfl) ?_
      refine qr_iast o (sh88 j r) (q_dm dm_X12_readsClause 40 rfl) ?_
      refine qr_letm (fun m7 => ?_)
      refine qr_aload_n o (q_dm dm_X12_readsClause 41 rfl) rfl ?_
      refine qr_iconst o (q_dm dm_X12_readsClause 42 rfl) ic_0 ?_
      refine qr_putf (kf := 13) o cf_X12 (sh77 j r) rfl (Nat.le_of_ble_eq_true rfl) fl_X12_196 rfl (by decide +kernel) (q_dm dm_X12_readsClause 43 rfl) ?_
      refine qr_letm (fun m8 => ?_)
      refine qr_aload_n o (q_dm dm_X12_readsClause 44 rfl) rfl ?_
      refine qr_iconst o (q_dm dm_X12_readsClause 45 rfl) ic_0 ?_
      refine qr_putf (kf := 15) o cf_X12 (sh77 j r) rfl (Nat.le_of_ble_eq_true rfl) fl_X12_199 rfl (by decide +kernel) (q_dm dm_X12_readsClause 46 rfl) ?_
      refine qr_letm (fun m9 => ?_)
      refine qr_iload_n o (q_dm dm_X12_readsClause 47 rfl) rfl ?_
      refine qr_bipush o (q_dm dm_X12_readsClause 48 rfl) bi_97 ?_
      refine qr_icmp_eq (tgt := 99) o (q_dm dm_X12_readsClause 49 rfl) (by decide) ?_ ?_
      · exact qr_loc (q_leS (q_leN q_le0)) (w_X12_readsClause_99 n j r hj hr o  m9)
      · refine qr_aload_n o (q_dm dm_X12_readsClause 50 rfl) rfl ?_
        refine qr_callv_i (As := []) (S := []) o (a_X12_readsSum g k.2.1 n j r hj hr  m9) (Nat.le_of_ble_eq_true rfl) zv_X12_readsSum rfl cf_X12 (sh77 j r) ml_X12_232 (Nat.le_of_ble_eq_true rfl) (q_dm dm_X12_readsClause 51 rfl) (fun r10 m11 => ?_)
        refine qr_if_ne (tgt := 99) o (q_dm dm_X12_readsClause 52 rfl) (by decide) ?_ ?_
        · exact qr_loc (q_leS (q_leN q_le0)) (w_X12_readsClause_99 n j r hj hr o  m11)
        · refine qr_iconst o (q_dm dm_X12_readsClause 53 rfl) ic_0 ?_
          exact qr_iret o rfl (by decide) (q_dm dm_X12_readsClause 54 rfl)
    · refine qr_aload_n o (q_dm dm_X12_readsClause 16 rfl) rfl ?_
      refine qr_iconst o (q_dm dm_X12_readsClause 17 rfl) ic_4 ?_
      refine qr_aload_n o (q_dm dm_X12_readsClause 18 rfl) rfl ?_
      refine qr_getf (kf := 9) o cf_X12 (sh77 j r) rfl (Nat.le_of_ble_eq_true rfl) fl_X12_169 (q_dm dm_X12_readsClause 19 rfl) ?_
      refine qr_callv_i (As := [.inl (4 : Int32), .inl (m4 77 9)]) (S := []) o (a_X12_wrongAt g k.2.1 n j r hj hr (4 : Int32) (m4 77 9) m4) (Nat.le_of_ble_eq_true rfl) zv_X12_wrongAt rfl cf_X12 (sh77 j r) ml_X12_182 (Nat.le_of_ble_eq_true rfl) (q_dm dm_X12_readsClause 20 rfl) (fun r12 m13 => ?_)
      exact qr_zret o rfl (q_dm dm_X12_readsClause 21 rfl)
  · refine qr_aload_n o (q_dm dm_X12_readsClause 6 rfl) rfl ?_
    refine qr_iconst o (q_dm dm_X12_readsClause 7 rfl) ic_1 ?_
    refine qr_aload_n o (q_dm dm_X12_readsClause 8 rfl) rfl ?_
    refine qr_getf (kf := 9) o cf_X12 (sh77 j r) rfl (Nat.le_of_ble_eq_true rfl) fl_X12_169 (q_dm dm_X12_readsClause 9 rfl) ?_
    refine qr_callv_i (As := [.inl (1 : Int32), .inl (m4 77 9)]) (S := []) o (a_X12_wrongAt g k.2.1 n j r hj hr (1 : Int32) (m4 77 9) m4) (Nat.le_of_ble_eq_true rfl) zv_X12_wrongAt rfl cf_X12 (sh77 j r) ml_X12_182 (Nat.le_of_ble_eq_true rfl) (q_dm dm_X12_readsClause 10 rfl) (fun r14 m15 => ?_)
    exact qr_zret o rfl (q_dm dm_X12_readsClause 11 rfl)

theorem a_X12_readsClause (g : qG) (l : Launch) (n : Nat) (j r : Nat) (hj : q_isLaw j) (hr : q_isLaw r) (M : qM) : qAM g l 7 zX12_readsClause (qL j r) [.inr (some 77)] (qL j r, M) (f_X12_readsClause n  M) :=
  qAM.of zv_X12_readsClause.1 (by show 1 ≤ 2; decide) (fun k hk o => w_X12_readsClause n j r hj hr o  M)
def tb_X12_takes : List (Nat × Instr × Nat) := [(0, (.aload_n 0, 1)), (1, (.invokevirtual 175, 3)), (4, (.iload_n 1, 1)), (5, (.if_icmp .eq 13, 3)), (8, (.aload_n 0, 1)), (9, (.iconst 1, 1)), (10, (.aload_n 0, 1)), (11, (.getfield 169, 3)), (14, (.invokevirtual 182, 3)), (17, (.ireturn, 1)), (18, (.aload_n 0, 1)), (19, (.aload_n 0, 1)), (20, (.getfield 169, 3)), (23, (.iconst 1, 1)), (24, (.iadd, 1)), (25, (.putfield 169, 3)), (28, (.iconst 1, 1)), (29, (.ireturn, 1))]
theorem dm_X12_takes : ∀ q ∈ tb_X12_takes, decode zX12_takes.2.1 q.1 = .ok q.2 := by decide +kernel
def f_X12_takes (n : Nat) (a1 : Int32) (M : qM) : qR :=
  qc (f_X12_here n  M) (fun r1 m2 => (if r1 = a1 then qlm (mu m2 77 9 ((m2 77 9) + (1 : Int32))) (fun m3 => some ((1 : Int32), m3)) else qc (f_X12_wrongAt n (1 : Int32) (m2 77 9) m2) (fun r4 m5 => qb r4 (some (r4, m5)))))
set_option maxRecDepth 4000 in
theorem w_X12_takes {g : qG} {k : qK} (n : Nat) (j r : Nat) (hj : q_isLaw j) (hr : q_isLaw r) (o : qOk g 1 zX12_takes k) (a1 : Int32) (M : qM) : qAE g k zX12_takes (qL j r) 0 [some (.inr (some 77)), some (.inl a1)] [] (qL j r, M) (f_X12_takes n a1 M) := by
  unfold f_X12_takes
  refine qr_aload_n o (q_dm dm_X12_takes 0 rfl) rfl ?_
  refine qr_callv_i (As := []) (S := []) o (a_X12_here g k.2.1 n j r hj hr  M) (Nat.le_of_ble_eq_true rfl) zv_X12_here rfl cf_X12 (sh77 j r) ml_X12_175 (Nat.le_of_ble_eq_true rfl) (q_dm dm_X12_takes 1 rfl) (fun r1 m2 => ?_)
  refine qr_iload_n o (q_dm dm_X12_takes 2 rfl) rfl ?_
  refine qr_icmp_eq (tgt := 18) o (q_dm dm_X12_takes 3 rfl) (by decide) ?_ ?_
  · refine qr_aload_n o (q_dm dm_X12_takes 10 rfl) rfl ?_
    refine qr_aload_n o (q_dm dm_X12_takes 11 rfl) rfl ?_
    refine qr_getf (kf := 9) o cf_X12 (sh77 j r) rfl (Nat.le_of_ble_eq_true rfl) fl_X12_169 (q_dm dm_X12_takes 12 rfl) ?_
    refine qr_iconst o (q_dm dm_X12_takes 13 rfl) ic_1 ?_
    refine qr_iadd o (q_dm dm_X12_takes 14 rfl) ?_
    refine qr_putf (kf := 9) o cf_X12 (sh77 j r) rfl (Nat.le_of_ble_eq_true rfl) fl_X12_169 rfl (by decide +kernel) (q_dm dm_X12_takes 15 rfl) ?_
    refine qr_letm (fun m3 => ?_)
    refine qr_iconst o (q_dm dm_X12_takes 16 rfl) ic_1 ?_
    exact qr_iret o rfl (by decide) (q_dm dm_X12_takes 17 rfl)
  · refine qr_aload_n o (q_dm dm_X12_takes 4 rfl) rfl ?_
    refine qr_iconst o (q_dm dm_X12_takes 5 rfl) ic_1 ?_
    refine qr_aload_n o (q_dm dm_X12_takes 6 rfl) rfl ?_
    refine qr_getf (kf := 9) o cf_X12 (sh77 j r) rfl (Nat.le_of_ble_eq_true rfl) fl_X12_169 (q_dm dm_X12_takes 7 rfl) ?_
    refine qr_callv_i (As := [.inl (1 : Int32), .inl (m2 77 9)]) (S := []) o (a_X12_wrongAt g k.2.1 n j r hj hr (1 : Int32) (m2 77 9) m2) (Nat.le_of_ble_eq_true rfl) zv_X12_wrongAt rfl cf_X12 (sh77 j r) ml_X12_182 (Nat.le_of_ble_eq_true rfl) (q_dm dm_X12_takes 8 rfl) (fun r4 m5 => ?_)
    exact qr_zret o rfl (q_dm dm_X12_takes 9 rfl)

theorem a_X12_takes (g : qG) (l : Launch) (n : Nat) (j r : Nat) (hj : q_isLaw j) (hr : q_isLaw r) (a1 : Int32) (M : qM) : qAM g l 1 zX12_takes (qL j r) [.inr (some 77), .inl a1] (qL j r, M) (f_X12_takes n a1 M) :=
  qAM.of zv_X12_takes.1 (by show 2 ≤ 2; decide) (fun k hk o => w_X12_takes n j r hj hr o a1 M)

def tb_X12_law : List (Nat × Instr × Nat) := [(0, (.iload_n 1, 1)), (1, (.iconst 1, 1)), (2, (.sipush 240, 3)), (5, (.invokestatic 153, 3)), (8, (.ifCond .eq 11, 3)), (11, (.iload_n 1, 1)), (12, (.aload_n 0, 1)), (13, (.getfield 162, 3)), (16, (.if_icmp .le 5, 3)), (19, (.iconst (-1), 1)), (20, (.ireturn, 1)), (21, (.aload_n 0, 1)), (22, (.iconst 0, 1)), (23, (.putfield 169, 3)), (26, (.aload_n 0, 1)), (27, (.iload_n 1, 1)), (28, (.putfield 172, 3)), (31, (.aload_n 0, 1)), (32, (.iconst 0, 1)), (33, (.putfield 192, 3)), (36, (.aload_n 0, 1)), (37, (.iconst 0, 1)), (38, (.putfield 250, 3)), (41, (.aload_n 0, 1)), (42, (.invokevirtual 256, 3)), (45, (.istore_n 2, 1)), (46, (.iload_n 2, 1)), (47, (.ifCond .eq 39, 3)), (50, (.aload_n 0, 1)), (51, (.getfield 169, 3)), (54, (.aload_n 0, 1)), (55, (.getfield 172, 3)), (58, (.if_icmp .ge 28, 3)), (61, (.aload_n 0, 1)), (62, (.bipush 59, 2)), (64, (.invokevirtual 259, 3)), (67, (.ifCond .eq 14, 3)), (70, (.aload_n 0, 1)), (71, (.invokevirtual 256, 3)), (74, (.ifCond .eq 7, 3)), (77, (.iconst 1, 1)), (78, (.goto 4, 3)), (81, (.iconst 0, 1)), (82, (.istore_n 2, 1)), (83, (.goto (-37), 3)), (86, (.aload_n 0, 1)), (87, (.iconst 0, 1)), (88, (.putfield 162, 3)), (91, (.iload_n 2, 1)), (92, (.ifCond .ne 8, 3)), (95, (.aload_n 0, 1)), (96, (.getfield 179, 3)), (99, (.ireturn, 1)), (100, (.aload_n 0, 1)), (101, (.aload_n 0, 1)), (102, (.getfield 250, 3)), (105, (.putfield 262, 3)), (108, (.iconst 0, 1)), (109, (.istore_n 3, 1)), (110, (.iload_n 3, 1)), (111, (.aload_n 0, 1)), (112, (.getfield 192, 3)), (115, (.if_icmp .ge 21, 3)), (118, (.aload_n 0, 1)), (119, (.getfield 50, 3)), (122, (.iload_n 3, 1)), (123, (.aload_n 0, 1)), (124, (.getfield 32, 3)), (127, (.iload_n 3, 1)), (128, (.iaload, 1)), (129, (.iastore, 1)), (130, (.iinc 3 1, 3)), (133, (.goto (-23), 3)), (136, (.iconst 0, 1)), (137, (.istore_n 3, 1)), (138, (.iload_n 3, 1)), (139, (.aload_n 0, 1)), (140, (.getfield 250, 3)), (143, (.if_icmp .ge 57, 3)), (146, (.aload_n 0, 1)), (147, (.getfield 53, 3)), (150, (.iload_n 3, 1)), (151, (.aload_n 0, 1)), (152, (.getfield 38, 3)), (155, (.iload_n 3, 1)), (156, (.iaload, 1)), (157, (.iastore, 1)), (158, (.aload_n 0, 1)), (159, (.getfield 56, 3)), (162, (.iload_n 3, 1)), (163, (.aload_n 0, 1)), (164, (.getfield 41, 3)), (167, (.iload_n 3, 1)), (168, (.iaload, 1)), (169, (.iastore, 1)), (170, (.aload_n 0, 1)), (171, (.getfield 59, 3)), (174, (.iload_n 3, 1)), (175, (.aload_n 0, 1)), (176, (.getfield 44, 3)), (179, (.iload_n 3, 1)), (180, (.iaload, 1)), (181, (.iastore, 1)), (182, (.aload_n 0, 1)), (183, (.getfield 62, 3)), (186, (.iload_n 3, 1)), (187, (.aload_n 0, 1)), (188, (.getfield 47, 3)), (191, (.iload_n 3, 1)), (192, (.iaload, 1)), (193, (.iastore, 1)), (194, (.iinc 3 1, 3)), (197, (.goto (-59), 3)), (200, (.aload_n 0, 1)), (201, (.getfield 250, 3)), (204, (.ireturn, 1))]
theorem dm_X12_law : ∀ q ∈ tb_X12_law, decode zX12_law.2.1 q.1 = .ok q.2 := by decide +kernel
def b_X12_law_138 (n : Nat) (K138 : Int32 → qM → qR) (a3 : Int32) (M : qM) : qR :=
  (if (M 77 16) ≤ a3 then some ((M 77 16), M) else qg a3 16 (qg a3 16 (qlm (mu M 92 a3.toNatClampNeg (M 87 a3.toNatClampNeg)) (fun m1 => qg a3 16 (qg a3 16 (qlm (mu m1 93 a3.toNatClampNeg (m1 88 a3.toNatClampNeg)) (fun m2 => qg a3 16 (qg a3 16 (qlm (mu m2 94 a3.toNatClampNeg (m2 89 a3.toNatClampNeg)) (fun m3 => qg a3 16 (qg a3 16 (qlm (mu m3 95 a3.toNatClampNeg (m3 90 a3.toNatClampNeg)) (fun m4 => ql (a3 + (1 : Int32)) (fun x5 => K138 x5 m4))))))))))))))
set_option maxRecDepth 4000 in
theorem wb_X12_law_138 {g : qG} {k : qK} (n : Nat) (j r : Nat) (hj : q_isLaw j) (hr : q_isLaw r) (o : qOk g 8 zX12_law k) (K138 : Int32 → qM → qR) (hK138 : ∀ (a3 : Int32) (M : qM), qAE g k zX12_law (qL j r) 138 [some (.inr (some 77)), none, none, some (.inl a3)] [] (qL j r, M) (K138 a3 M)) (a3 : Int32) (M : qM) : qAE g k zX12_law (qL j r) 138 [some (.inr (some 77)), none, none, some (.inl a3)] [] (qL j r, M) (b_X12_law_138 n K138 a3 M) := by
  unfold b_X12_law_138
  refine qr_iload_n o (q_dm dm_X12_law 75 rfl) rfl ?_
  refine qr_aload_n o (q_dm dm_X12_law 76 rfl) rfl ?_
  refine qr_getf (kf := 16) o cf_X12 (sh77 j r) rfl (Nat.le_of_ble_eq_true rfl) fl_X12_250 (q_dm dm_X12_law 77 rfl) ?_
  refine qr_icmp_ge (tgt := 200) o (q_dm dm_X12_law 78 rfl) (by decide) ?_ ?_
  · refine qr_aload_n o (q_dm dm_X12_law 113 rfl) rfl ?_
    refine qr_getf (kf := 16) o cf_X12 (sh77 j r) rfl (Nat.le_of_ble_eq_true rfl) fl_X12_250 (q_dm dm_X12_law 114 rfl) ?_
    exact qr_iret o rfl rfl (q_dm dm_X12_law 115 rfl)
  · refine qr_aload_n o (q_dm dm_X12_law 79 rfl) rfl ?_
    refine qr_getr (kf := 25) o cf_X12 (sh77 j r) rfl (Nat.le_of_ble_eq_true rfl) fl_X12_53 (q_dm dm_X12_law 80 rfl) ?_
    refine qr_iload_n o (q_dm dm_X12_law 81 rfl) rfl ?_
    refine qr_aload_n o (q_dm dm_X12_law 82 rfl) rfl ?_
    refine qr_getr (kf := 20) o cf_X12 (sh77 j r) rfl (Nat.le_of_ble_eq_true rfl) fl_X12_38 (q_dm dm_X12_law 83 rfl) ?_
    refine qr_iload_n o (q_dm dm_X12_law 84 rfl) rfl ?_
    refine qr_iald o (sh87 j r) (q_dm dm_X12_law 85 rfl) ?_
    refine qr_iast o (sh92 j r) (q_dm dm_X12_law 86 rfl) ?_
    refine qr_letm (fun m1 => ?_)
    refine qr_aload_n o (q_dm dm_X12_law 87 rfl) rfl ?_
    refine qr_getr (kf := 26) o cf_X12 (sh77 j r) rfl (Nat.le_of_ble_eq_true rfl) fl_X12_56 (q_dm dm_X12_law 88 rfl) ?_
    refine qr_iload_n o (q_dm dm_X12_law 89 rfl) rfl ?_
    refine qr_aload_n o (q_dm dm_X12_law 90 rfl) rfl ?_
    refine qr_getr (kf := 21) o cf_X12 (sh77 j r) rfl (Nat.le_of_ble_eq_true rfl) fl_X12_41 (q_dm dm_X12_law 91 rfl) ?_
    refine qr_iload_n o (q_dm dm_X12_law 92 rfl) rfl ?_
    refine qr_iald o (sh88 j r) (q_dm dm_X12_law 93 rfl) ?_
    refine qr_iast o (sh93 j r) (q_dm dm_X12_law 94 rfl) ?_
    refine qr_letm (fun m2 => ?_)
    refine qr_aload_n o (q_dm dm_X12_law 95 rfl) rfl ?_
    refine qr_getr (kf := 27) o cf_X12 (sh77 j r) rfl (Nat.le_of_ble_eq_true rfl) fl_X12_59 (q_dm dm_X12_law 96 rfl) ?_
    refine qr_iload_n o (q_dm dm_X12_law 97 rfl) rfl ?_
    refine qr_aload_n o (q_dm dm_X12_law 98 rfl) rfl ?_
    refine qr_getr (kf := 22) o cf_X12 (sh77 j r) rfl (Nat.le_of_ble_eq_true rfl) fl_X12_44 (q_dm dm_X12_law 99 rfl) ?_
    refine qr_iload_n o (q_dm dm_X12_law 100 rfl) rfl ?_
    refine qr_iald o (sh89 j r) (q_dm dm_X12_law 101 rfl) ?_
    refine qr_iast o (sh94 j r) (q_dm dm_X12_law 102 rfl) ?_
    refine qr_letm (fun m3 => ?_)
    refine qr_aload_n o (q_dm dm_X12_law 103 rfl) rfl ?_
    refine qr_getr (kf := 28) o cf_X12 (sh77 j r) rfl (Nat.le_of_ble_eq_true rfl) fl_X12_62 (q_dm dm_X12_law 104 rfl) ?_
    refine qr_iload_n o (q_dm dm_X12_law 105 rfl) rfl ?_
    refine qr_aload_n o (q_dm dm_X12_law 106 rfl) rfl ?_
    refine qr_getr (kf := 23) o cf_X12 (sh77 j r) rfl (Nat.le_of_ble_eq_true rfl) fl_X12_47 (q_dm dm_X12_law 107 rfl) ?_
    refine qr_iload_n o (q_dm dm_X12_law 108 rfl) rfl ?_
    refine qr_iald o (sh90 j r) (q_dm dm_X12_law 109 rfl) ?_
    refine qr_iast o (sh95 j r) (q_dm dm_X12_law 110 rfl) ?_
    refine qr_letm (fun m4 => ?_)
    refine qs_iincl2 (L' := fun x5 => [some (.inr (some 77)), none, none, some (.inl x5)]) o (q_dm dm_X12_law 111 rfl) rfl ic_1 (Nat.le_of_ble_eq_true rfl) (fun _ => rfl) (fun x5 => ?_)
    refine qr_goto (tgt := 138) o (q_dm dm_X12_law 112 rfl) (by decide) ?_
    exact qr_loc (q_leS (q_leN (q_leN (q_leS q_le0)))) (hK138 x5 m4)

def f_X12_law_138 (n : Nat) : Nat → Int32 → qM → qR
  | 0, _, _ => none
  | m + 1, a3, M => b_X12_law_138 n (f_X12_law_138 n m) a3 M
theorem w_X12_law_138 {g : qG} {k : qK} (n : Nat) (j r : Nat) (hj : q_isLaw j) (hr : q_isLaw r) (o : qOk g 8 zX12_law k) : ∀ (m : Nat) (a3 : Int32) (M : qM), qAE g k zX12_law (qL j r) 138 [some (.inr (some 77)), none, none, some (.inl a3)] [] (qL j r, M) (f_X12_law_138 n m a3 M) := by
  intro m
  induction m with
  | zero =>
    intro a3 M
    exact qr_none
  | succ m ih =>
    intro a3 M
    exact wb_X12_law_138 n j r hj hr o (f_X12_law_138 n m) ih a3 M
def b_X12_law_110 (n : Nat) (K110 : Int32 → qM → qR) (a3 : Int32) (M : qM) : qR :=
  (if (M 77 14) ≤ a3 then f_X12_law_138 n n (0 : Int32) M else qg a3 260 (qg a3 260 (qlm (mu M 91 a3.toNatClampNeg (M 85 a3.toNatClampNeg)) (fun m1 => ql (a3 + (1 : Int32)) (fun x2 => K110 x2 m1)))))
set_option maxRecDepth 4000 in
theorem wb_X12_law_110 {g : qG} {k : qK} (n : Nat) (j r : Nat) (hj : q_isLaw j) (hr : q_isLaw r) (o : qOk g 8 zX12_law k) (K110 : Int32 → qM → qR) (hK110 : ∀ (a3 : Int32) (M : qM), qAE g k zX12_law (qL j r) 110 [some (.inr (some 77)), none, none, some (.inl a3)] [] (qL j r, M) (K110 a3 M)) (a3 : Int32) (M : qM) : qAE g k zX12_law (qL j r) 110 [some (.inr (some 77)), none, none, some (.inl a3)] [] (qL j r, M) (b_X12_law_110 n K110 a3 M) := by
  unfold b_X12_law_110
  refine qr_iload_n o (q_dm dm_X12_law 59 rfl) rfl ?_
  refine qr_aload_n o (q_dm dm_X12_law 60 rfl) rfl ?_
  refine qr_getf (kf := 14) o cf_X12 (sh77 j r) rfl (Nat.le_of_ble_eq_true rfl) fl_X12_192 (q_dm dm_X12_law 61 rfl) ?_
  refine qr_icmp_ge (tgt := 136) o (q_dm dm_X12_law 62 rfl) (by decide) ?_ ?_
  · refine qr_iconst o (q_dm dm_X12_law 73 rfl) ic_0 ?_
    refine qs_istore_n (L' := [some (.inr (some 77)), none, none, some (.inl (0 : Int32))]) o (q_dm dm_X12_law 74 rfl) (Nat.le_of_ble_eq_true rfl) rfl ?_
    exact qr_loc (q_leS (q_leN (q_leN (q_leS q_le0)))) (w_X12_law_138 n j r hj hr o n (0 : Int32) M)
  · refine qr_aload_n o (q_dm dm_X12_law 63 rfl) rfl ?_
    refine qr_getr (kf := 24) o cf_X12 (sh77 j r) rfl (Nat.le_of_ble_eq_true rfl) fl_X12_50 (q_dm dm_X12_law 64 rfl) ?_
    refine qr_iload_n o (q_dm dm_X12_law 65 rfl) rfl ?_
    refine qr_aload_n o (q_dm dm_X12_law 66 rfl) rfl ?_
    refine qr_getr (kf := 18) o cf_X12 (sh77 j r) rfl (Nat.le_of_ble_eq_true rfl) fl_X12_32 (q_dm dm_X12_law 67 rfl) ?_
    refine qr_iload_n o (q_dm dm_X12_law 68 rfl) rfl ?_
    refine qr_iald o (sh85 j r) (q_dm dm_X12_law 69 rfl) ?_
    refine qr_iast o (sh91 j r) (q_dm dm_X12_law 70 rfl) ?_
    refine qr_letm (fun m1 => ?_)
    refine qs_iincl2 (L' := fun x2 => [some (.inr (some 77)), none, none, some (.inl x2)]) o (q_dm dm_X12_law 71 rfl) rfl ic_1 (Nat.le_of_ble_eq_true rfl) (fun _ => rfl) (fun x2 => ?_)
    refine qr_goto (tgt := 110) o (q_dm dm_X12_law 72 rfl) (by decide) ?_
    exact qr_loc (q_leS (q_leN (q_leN (q_leS q_le0)))) (hK110 x2 m1)

def f_X12_law_110 (n : Nat) : Nat → Int32 → qM → qR
  | 0, _, _ => none
  | m + 1, a3, M => b_X12_law_110 n (f_X12_law_110 n m) a3 M
theorem w_X12_law_110 {g : qG} {k : qK} (n : Nat) (j r : Nat) (hj : q_isLaw j) (hr : q_isLaw r) (o : qOk g 8 zX12_law k) : ∀ (m : Nat) (a3 : Int32) (M : qM), qAE g k zX12_law (qL j r) 110 [some (.inr (some 77)), none, none, some (.inl a3)] [] (qL j r, M) (f_X12_law_110 n m a3 M) := by
  intro m
  induction m with
  | zero =>
    intro a3 M
    exact qr_none
  | succ m ih =>
    intro a3 M
    exact wb_X12_law_110 n j r hj hr o (f_X12_law_110 n m) ih a3 M
def f_X12_law_86 (n : Nat) (a2 : Int32) (M : qM) : qR :=
  qlm (mu M 77 8 (0 : Int32)) (fun m1 => (if a2 = (0 : Int32) then some ((m1 77 11), m1) else qlm (mu m1 77 17 (m1 77 16)) (fun m2 => f_X12_law_110 n n (0 : Int32) m2)))
set_option maxRecDepth 4000 in
theorem w_X12_law_86 {g : qG} {k : qK} (n : Nat) (j r : Nat) (hj : q_isLaw j) (hr : q_isLaw r) (o : qOk g 8 zX12_law k) (a2 : Int32) (M : qM) : qAE g k zX12_law (qL j r) 86 [some (.inr (some 77)), none, some (.inl a2), none] [] (qL j r, M) (f_X12_law_86 n a2 M) := by
  unfold f_X12_law_86
  refine qr_aload_n o (q_dm dm_X12_law 45 rfl) rfl ?_
  refine qr_iconst o (q_dm dm_X12_law 46 rfl) ic_0 ?_
  refine qr_putf (kf := 8) o cf_X12 (sh77 j r) rfl (Nat.le_of_ble_eq_true rfl) fl_X12_162 rfl (by decide +kernel) (q_dm dm_X12_law 47 rfl) ?_
  refine qr_letm (fun m1 => ?_)
  refine qr_iload_n o (q_dm dm_X12_law 48 rfl) rfl ?_
  refine qr_if_ne (tgt := 100) o (q_dm dm_X12_law 49 rfl) (by decide) ?_ ?_
  · refine qr_aload_n o (q_dm dm_X12_law 53 rfl) rfl ?_
    refine qr_aload_n o (q_dm dm_X12_law 54 rfl) rfl ?_
    refine qr_getf (kf := 16) o cf_X12 (sh77 j r) rfl (Nat.le_of_ble_eq_true rfl) fl_X12_250 (q_dm dm_X12_law 55 rfl) ?_
    refine qr_putf (kf := 17) o cf_X12 (sh77 j r) rfl (Nat.le_of_ble_eq_true rfl) fl_X12_262 rfl (by decide +kernel) (q_dm dm_X12_law 56 rfl) ?_
    refine qr_letm (fun m2 => ?_)
    refine qr_iconst o (q_dm dm_X12_law 57 rfl) ic_0 ?_
    refine qs_istore_n (L' := [some (.inr (some 77)), none, some (.inl a2), some (.inl (0 : Int32))]) o (q_dm dm_X12_law 58 rfl) (Nat.le_of_ble_eq_true rfl) rfl ?_
    exact qr_loc (q_leS (q_leN (q_leN (q_leS q_le0)))) (w_X12_law_110 n j r hj hr o n (0 : Int32) m2)
  · refine qr_aload_n o (q_dm dm_X12_law 50 rfl) rfl ?_
    refine qr_getf (kf := 11) o cf_X12 (sh77 j r) rfl (Nat.le_of_ble_eq_true rfl) fl_X12_179 (q_dm dm_X12_law 51 rfl) ?_
    exact qr_iret o rfl rfl (q_dm dm_X12_law 52 rfl)

def b_X12_law_46 (n : Nat) (K46 : Int32 → qM → qR) (a2 : Int32) (M : qM) : qR :=
  (if a2 = (0 : Int32) then f_X12_law_86 n a2 M else (if (M 77 10) ≤ (M 77 9) then f_X12_law_86 n a2 M else qc (f_X12_takes n (59 : Int32) M) (fun r1 m2 => (if r1 = (0 : Int32) then K46 (0 : Int32) m2 else qc (f_X12_readsClause n  m2) (fun r3 m4 => (if r3 = (0 : Int32) then K46 (0 : Int32) m4 else K46 (1 : Int32) m4))))))
set_option maxRecDepth 4000 in
theorem wb_X12_law_46 {g : qG} {k : qK} (n : Nat) (j r : Nat) (hj : q_isLaw j) (hr : q_isLaw r) (o : qOk g 8 zX12_law k) (K46 : Int32 → qM → qR) (hK46 : ∀ (a2 : Int32) (M : qM), qAE g k zX12_law (qL j r) 46 [some (.inr (some 77)), none, some (.inl a2), none] [] (qL j r, M) (K46 a2 M)) (a2 : Int32) (M : qM) : qAE g k zX12_law (qL j r) 46 [some (.inr (some 77)), none, some (.inl a2), none] [] (qL j r, M) (b_X12_law_46 n K46 a2 M) := by
  unfold b_X12_law_46
  refine qr_iload_n o (q_dm dm_X12_law 26 rfl) rfl ?_
  refine qr_if_eq (tgt := 86) o (q_dm dm_X12_law 27 rfl) (by decide) ?_ ?_
  · exact qr_loc (q_leS (q_leN (q_leS (q_leN q_le0)))) (w_X12_law_86 n j r hj hr o a2 M)
  · refine qr_aload_n o (q_dm dm_X12_law 28 rfl) rfl ?_
    refine qr_getf (kf := 9) o cf_X12 (sh77 j r) rfl (Nat.le_of_ble_eq_true rfl) fl_X12_169 (q_dm dm_X12_law 29 rfl) ?_
    refine qr_aload_n o (q_dm dm_X12_law 30 rfl) rfl ?_
    refine qr_getf (kf := 10) o cf_X12 (sh77 j r) rfl (Nat.le_of_ble_eq_true rfl) fl_X12_172 (q_dm dm_X12_law 31 rfl) ?_
    refine qr_icmp_ge (tgt := 86) o (q_dm dm_X12_law 32 rfl) (by decide) ?_ ?_
    · exact qr_loc (q_leS (q_leN (q_leS (q_leN q_le0)))) (w_X12_law_86 n j r hj hr o a2 M)
    · refine qr_aload_n o (q_dm dm_X12_law 33 rfl) rfl ?_
      refine qr_bipush o (q_dm dm_X12_law 34 rfl) bi_59 ?_
      refine qr_callv_i (As := [.inl (59 : Int32)]) (S := []) o (a_X12_takes g k.2.1 n j r hj hr (59 : Int32) M) (Nat.le_of_ble_eq_true rfl) zv_X12_takes rfl cf_X12 (sh77 j r) ml_X12_259 (Nat.le_of_ble_eq_true rfl) (q_dm dm_X12_law 35 rfl) (fun r1 m2 => ?_)
      refine qr_if_eq (tgt := 81) o (q_dm dm_X12_law 36 rfl) (by decide) ?_ ?_
      · refine qr_iconst o (q_dm dm_X12_law 42 rfl) ic_0 ?_
        refine qs_istore_n (L' := [some (.inr (some 77)), none, some (.inl (0 : Int32)), none]) o (q_dm dm_X12_law 43 rfl) (Nat.le_of_ble_eq_true rfl) rfl ?_
        refine qr_goto (tgt := 46) o (q_dm dm_X12_law 44 rfl) (by decide) ?_
        exact qr_loc (q_leS (q_leN (q_leS (q_leN q_le0)))) (hK46 (0 : Int32) m2)
      · refine qr_aload_n o (q_dm dm_X12_law 37 rfl) rfl ?_
        refine qr_callv_i (As := []) (S := []) o (a_X12_readsClause g k.2.1 n j r hj hr  m2) (Nat.le_of_ble_eq_true rfl) zv_X12_readsClause rfl cf_X12 (sh77 j r) ml_X12_256 (Nat.le_of_ble_eq_true rfl) (q_dm dm_X12_law 38 rfl) (fun r3 m4 => ?_)
        refine qr_if_eq (tgt := 81) o (q_dm dm_X12_law 39 rfl) (by decide) ?_ ?_
        · refine qr_iconst o (q_dm dm_X12_law 42 rfl) ic_0 ?_
          refine qs_istore_n (L' := [some (.inr (some 77)), none, some (.inl (0 : Int32)), none]) o (q_dm dm_X12_law 43 rfl) (Nat.le_of_ble_eq_true rfl) rfl ?_
          refine qr_goto (tgt := 46) o (q_dm dm_X12_law 44 rfl) (by decide) ?_
          exact qr_loc (q_leS (q_leN (q_leS (q_leN q_le0)))) (hK46 (0 : Int32) m4)
        · refine qr_iconst o (q_dm dm_X12_law 40 rfl) ic_1 ?_
          refine qr_goto (tgt := 82) o (q_dm dm_X12_law 41 rfl) (by decide) ?_
          refine qs_istore_n (L' := [some (.inr (some 77)), none, some (.inl (1 : Int32)), none]) o (q_dm dm_X12_law 43 rfl) (Nat.le_of_ble_eq_true rfl) rfl ?_
          refine qr_goto (tgt := 46) o (q_dm dm_X12_law 44 rfl) (by decide) ?_
          exact qr_loc (q_leS (q_leN (q_leS (q_leN q_le0)))) (hK46 (1 : Int32) m4)

def f_X12_law_46 (n : Nat) : Nat → Int32 → qM → qR
  | 0, _, _ => none
  | m + 1, a2, M => b_X12_law_46 n (f_X12_law_46 n m) a2 M
theorem w_X12_law_46 {g : qG} {k : qK} (n : Nat) (j r : Nat) (hj : q_isLaw j) (hr : q_isLaw r) (o : qOk g 8 zX12_law k) : ∀ (m : Nat) (a2 : Int32) (M : qM), qAE g k zX12_law (qL j r) 46 [some (.inr (some 77)), none, some (.inl a2), none] [] (qL j r, M) (f_X12_law_46 n m a2 M) := by
  intro m
  induction m with
  | zero =>
    intro a2 M
    exact qr_none
  | succ m ih =>
    intro a2 M
    exact wb_X12_law_46 n j r hj hr o (f_X12_law_46 n m) ih a2 M
def f_X12_law (n : Nat) (a1 : Int32) (M : qM) : qR :=
  qc (f_X12_in n a1 (1 : Int32) (240 : Int32) M) (fun r1 m2 => (if r1 = (0 : Int32) then some ((-1 : Int32), m2) else (if a1 ≤ (m2 77 8) then qlm (mu m2 77 9 (0 : Int32)) (fun m3 => qlm (mu m3 77 10 a1) (fun m4 => qlm (mu m4 77 14 (0 : Int32)) (fun m5 => qlm (mu m5 77 16 (0 : Int32)) (fun m6 => qc (f_X12_readsClause n  m6) (fun r7 m8 => f_X12_law_46 n n r7 m8))))) else some ((-1 : Int32), m2))))
set_option maxRecDepth 4000 in
theorem w_X12_law {g : qG} {k : qK} (n : Nat) (j r : Nat) (hj : q_isLaw j) (hr : q_isLaw r) (o : qOk g 8 zX12_law k) (a1 : Int32) (M : qM) : qAE g k zX12_law (qL j r) 0 [some (.inr (some 77)), some (.inl a1), none, none] [] (qL j r, M) (f_X12_law n a1 M) := by
  unfold f_X12_law
  refine qr_iload_n o (q_dm dm_X12_law 0 rfl) rfl ?_
  refine qr_iconst o (q_dm dm_X12_law 1 rfl) ic_1 ?_
  refine qr_sipush o (q_dm dm_X12_law 2 rfl) si_240 ?_
  refine qr_calls_i (As := [.inl a1, .inl (1 : Int32), .inl (240 : Int32)]) (S := []) o (a_X12_in g k.2.1 n j r hj hr a1 (1 : Int32) (240 : Int32) M) (Nat.le_of_ble_eq_true rfl) zs_X12_in rfl ml_X12_153 (Nat.le_of_ble_eq_true rfl) (q_dm dm_X12_law 3 rfl) (fun r1 m2 => ?_)
  refine qr_if_eq (tgt := 19) o (q_dm dm_X12_law 4 rfl) (by decide) ?_ ?_
  · refine qr_iconst o (q_dm dm_X12_law 9 rfl) ic_m1 ?_
    exact qr_iret o rfl rfl (q_dm dm_X12_law 10 rfl)
  · refine qr_iload_n o (q_dm dm_X12_law 5 rfl) rfl ?_
    refine qr_aload_n o (q_dm dm_X12_law 6 rfl) rfl ?_
    refine qr_getf (kf := 8) o cf_X12 (sh77 j r) rfl (Nat.le_of_ble_eq_true rfl) fl_X12_162 (q_dm dm_X12_law 7 rfl) ?_
    refine qr_icmp_le (tgt := 21) o (q_dm dm_X12_law 8 rfl) (by decide) ?_ ?_
    · refine qr_aload_n o (q_dm dm_X12_law 11 rfl) rfl ?_
      refine qr_iconst o (q_dm dm_X12_law 12 rfl) ic_0 ?_
      refine qr_putf (kf := 9) o cf_X12 (sh77 j r) rfl (Nat.le_of_ble_eq_true rfl) fl_X12_169 rfl (by decide +kernel) (q_dm dm_X12_law 13 rfl) ?_
      refine qr_letm (fun m3 => ?_)
      refine qr_aload_n o (q_dm dm_X12_law 14 rfl) rfl ?_
      refine qr_iload_n o (q_dm dm_X12_law 15 rfl) rfl ?_
      refine qr_putf (kf := 10) o cf_X12 (sh77 j r) rfl (Nat.le_of_ble_eq_true rfl) fl_X12_172 rfl (by decide +kernel) (q_dm dm_X12_law 16 rfl) ?_
      refine qr_letm (fun m4 => ?_)
      refine qr_aload_n o (q_dm dm_X12_law 17 rfl) rfl ?_
      refine qr_iconst o (q_dm dm_X12_law 18 rfl) ic_0 ?_
      refine qr_putf (kf := 14) o cf_X12 (sh77 j r) rfl (Nat.le_of_ble_eq_true rfl) fl_X12_192 rfl (by decide +kernel) (q_dm dm_X12_law 19 rfl) ?_
      refine qr_letm (fun m5 => ?_)
      refine qr_aload_n o (q_dm dm_X12_law 20 rfl) rfl ?_
      refine qr_iconst o (q_dm dm_X12_law 21 rfl) ic_0 ?_
      refine qr_putf (kf := 16) o cf_X12 (sh77 j r) rfl (Nat.le_of_ble_eq_true rfl) fl_X12_250 rfl (by decide +kernel) (q_dm dm_X12_law 22 rfl) ?_
      refine qr_letm (fun m6 => ?_)
      refine qr_aload_n o (q_dm dm_X12_law 23 rfl) rfl ?_
      refine qr_callv_i (As := []) (S := []) o (a_X12_readsClause g k.2.1 n j r hj hr  m6) (Nat.le_of_ble_eq_true rfl) zv_X12_readsClause rfl cf_X12 (sh77 j r) ml_X12_256 (Nat.le_of_ble_eq_true rfl) (q_dm dm_X12_law 24 rfl) (fun r7 m8 => ?_)
      refine qs_istore_n (L' := [some (.inr (some 77)), some (.inl a1), some (.inl r7), none]) o (q_dm dm_X12_law 25 rfl) (Nat.le_of_ble_eq_true rfl) rfl ?_
      exact qr_loc (q_leS (q_leN (q_leS (q_leN q_le0)))) (w_X12_law_46 n j r hj hr o n r7 m8)
    · refine qr_iconst o (q_dm dm_X12_law 9 rfl) ic_m1 ?_
      exact qr_iret o rfl rfl (q_dm dm_X12_law 10 rfl)

theorem a_X12_law (g : qG) (l : Launch) (n : Nat) (j r : Nat) (hj : q_isLaw j) (hr : q_isLaw r) (a1 : Int32) (M : qM) : qAM g l 8 zX12_law (qL j r) [.inr (some 77), .inl a1] (qL j r, M) (f_X12_law n a1 M) :=
  qAM.of zv_X12_law.1 (by show 2 ≤ 4; decide) (fun k hk o => w_X12_law n j r hj hr o a1 M)
def tb_X12_laysWays : List (Nat × Instr × Nat) := [(0, (.iconst 0, 1)), (1, (.istore_n 1, 1)), (2, (.iconst 0, 1)), (3, (.istore_n 2, 1)), (4, (.iload_n 2, 1)), (5, (.iconst 4, 1)), (6, (.if_icmp .ge 65, 3)), (9, (.iconst 0, 1)), (10, (.istore_n 3, 1)), (11, (.iload_n 3, 1)), (12, (.iload_n 2, 1)), (13, (.if_icmp .gt 52, 3)), (16, (.iconst 0, 1)), (17, (.istore 4, 2)), (19, (.iload 4, 2)), (21, (.iload_n 3, 1)), (22, (.if_icmp .gt 37, 3)), (25, (.aload_n 0, 1)), (26, (.getfield 83, 3)), (29, (.iload_n 1, 1)), (30, (.iload_n 3, 1)), (31, (.iastore, 1)), (32, (.aload_n 0, 1)), (33, (.getfield 86, 3)), (36, (.iload_n 1, 1)), (37, (.iload_n 2, 1)), (38, (.iload_n 3, 1)), (39, (.isub, 1)), (40, (.iastore, 1)), (41, (.aload_n 0, 1)), (42, (.getfield 89, 3)), (45, (.iload_n 1, 1)), (46, (.iload 4, 2)), (48, (.iastore, 1)), (49, (.iload_n 1, 1)), (50, (.iconst 1, 1)), (51, (.iadd, 1)), (52, (.istore_n 1, 1)), (53, (.iinc 4 1, 3)), (56, (.goto (-37), 3)), (59, (.iinc 3 1, 3)), (62, (.goto (-51), 3)), (65, (.iinc 2 1, 3)), (68, (.goto (-64), 3)), (71, (.return_, 1))]
theorem dm_X12_laysWays : ∀ q ∈ tb_X12_laysWays, decode zX12_laysWays.2.1 q.1 = .ok q.2 := by decide +kernel
def b_X12_laysWays_19 (n : Nat) (K4 : Int32 → Int32 → qM → qR) (K11 : Int32 → Int32 → Int32 → qM → qR) (K19 : Int32 → Int32 → Int32 → Int32 → qM → qR) (a1 a2 a3 a4 : Int32) (M : qM) : qR :=
  (if a3 < a4 then ql (a3 + (1 : Int32)) (fun x1 => K11 a1 a2 x1 M) else qg a1 20 (qlm (mu M 102 a1.toNatClampNeg a3) (fun m2 => qg a1 20 (qlm (mu m2 103 a1.toNatClampNeg (a2 - a3)) (fun m3 => qg a1 20 (qlm (mu m3 104 a1.toNatClampNeg a4) (fun m4 => ql (a1 + (1 : Int32)) (fun x5 => ql (a4 + (1 : Int32)) (fun x6 => K19 x5 a2 a3 x6 m4)))))))))
set_option maxRecDepth 4000 in
theorem wb_X12_laysWays_19 {g : qG} {k : qK} (n : Nat) (j r : Nat) (hj : q_isLaw j) (hr : q_isLaw r) (o : qOk g 0 zX12_laysWays k) (K4 : Int32 → Int32 → qM → qR) (hK4 : ∀ (a1 a2 : Int32) (M : qM), qAE g k zX12_laysWays (qL j r) 4 [some (.inr (some 77)), some (.inl a1), some (.inl a2), none, none] [] (qL j r, M) (K4 a1 a2 M)) (K11 : Int32 → Int32 → Int32 → qM → qR) (hK11 : ∀ (a1 a2 a3 : Int32) (M : qM), qAE g k zX12_laysWays (qL j r) 11 [some (.inr (some 77)), some (.inl a1), some (.inl a2), some (.inl a3), none] [] (qL j r, M) (K11 a1 a2 a3 M)) (K19 : Int32 → Int32 → Int32 → Int32 → qM → qR) (hK19 : ∀ (a1 a2 a3 a4 : Int32) (M : qM), qAE g k zX12_laysWays (qL j r) 19 [some (.inr (some 77)), some (.inl a1), some (.inl a2), some (.inl a3), some (.inl a4)] [] (qL j r, M) (K19 a1 a2 a3 a4 M)) (a1 a2 a3 a4 : Int32) (M : qM) : qAE g k zX12_laysWays (qL j r) 19 [some (.inr (some 77)), some (.inl a1), some (.inl a2), some (.inl a3), some (.inl a4)] [] (qL j r, M) (b_X12_laysWays_19 n K4 K11 K19 a1 a2 a3 a4 M) := by
  unfold b_X12_laysWays_19
  refine qr_iload o (q_dm dm_X12_laysWays 14 rfl) rfl ?_
  refine qr_iload_n o (q_dm dm_X12_laysWays 15 rfl) rfl ?_
  refine qr_icmp_gt (tgt := 59) o (q_dm dm_X12_laysWays 16 rfl) (by decide) ?_ ?_
  · refine qs_iincl2 (L' := fun x1 => [some (.inr (some 77)), some (.inl a1), some (.inl a2), some (.inl x1), some (.inl a4)]) o (q_dm dm_X12_laysWays 40 rfl) rfl ic_1 (Nat.le_of_ble_eq_true rfl) (fun _ => rfl) (fun x1 => ?_)
    refine qr_goto (tgt := 11) o (q_dm dm_X12_laysWays 41 rfl) (by decide) ?_
    exact qr_loc (q_leS (q_leS (q_leS (q_leS (q_leN q_le0))))) (hK11 a1 a2 x1 M)
  · refine qr_aload_n o (q_dm dm_X12_laysWays 17 rfl) rfl ?_
    refine qr_getr (kf := 45) o cf_X12 (sh77 j r) rfl (Nat.le_of_ble_eq_true rfl) fl_X12_83 (q_dm dm_X12_laysWays 18 rfl) ?_
    refine qr_iload_n o (q_dm dm_X12_laysWays 19 rfl) rfl ?_
    refine qr_iload_n o (q_dm dm_X12_laysWays 20 rfl) rfl ?_
    refine qr_iast o (sh102 j r) (q_dm dm_X12_laysWays 21 rfl) ?_
    refine qr_letm (fun m2 => ?_)
    refine qr_aload_n o (q_dm dm_X12_laysWays 22 rfl) rfl ?_
    refine qr_getr (kf := 46) o cf_X12 (sh77 j r) rfl (Nat.le_of_ble_eq_true rfl) fl_X12_86 (q_dm dm_X12_laysWays 23 rfl) ?_
    refine qr_iload_n o (q_dm dm_X12_laysWays 24 rfl) rfl ?_
    refine qr_iload_n o (q_dm dm_X12_laysWays 25 rfl) rfl ?_
    refine qr_iload_n o (q_dm dm_X12_laysWays 26 rfl) rfl ?_
    refine qr_isub o (q_dm dm_X12_laysWays 27 rfl) ?_
    refine qr_iast o (sh103 j r) (q_dm dm_X12_laysWays 28 rfl) ?_
    refine qr_letm (fun m3 => ?_)
    refine qr_aload_n o (q_dm dm_X12_laysWays 29 rfl) rfl ?_
    refine qr_getr (kf := 47) o cf_X12 (sh77 j r) rfl (Nat.le_of_ble_eq_true rfl) fl_X12_89 (q_dm dm_X12_laysWays 30 rfl) ?_
    refine qr_iload_n o (q_dm dm_X12_laysWays 31 rfl) rfl ?_
    refine qr_iload o (q_dm dm_X12_laysWays 32 rfl) rfl ?_
    refine qr_iast o (sh104 j r) (q_dm dm_X12_laysWays 33 rfl) ?_
    refine qr_letm (fun m4 => ?_)
    refine qr_iload_n o (q_dm dm_X12_laysWays 34 rfl) rfl ?_
    refine qr_iconst o (q_dm dm_X12_laysWays 35 rfl) ic_1 ?_
    refine qr_iadd o (q_dm dm_X12_laysWays 36 rfl) ?_
    refine qr_lt (fun x5 => ?_)
    refine qs_istore_n (L' := [some (.inr (some 77)), some (.inl x5), some (.inl a2), some (.inl a3), some (.inl a4)]) o (q_dm dm_X12_laysWays 37 rfl) (Nat.le_of_ble_eq_true rfl) rfl ?_
    refine qs_iincl2 (L' := fun x6 => [some (.inr (some 77)), some (.inl x5), some (.inl a2), some (.inl a3), some (.inl x6)]) o (q_dm dm_X12_laysWays 38 rfl) rfl ic_1 (Nat.le_of_ble_eq_true rfl) (fun _ => rfl) (fun x6 => ?_)
    refine qr_goto (tgt := 19) o (q_dm dm_X12_laysWays 39 rfl) (by decide) ?_
    exact qr_loc (q_leS (q_leS (q_leS (q_leS (q_leS q_le0))))) (hK19 x5 a2 a3 x6 m4)

def f_X12_laysWays_19 (n : Nat) (K4 : Int32 → Int32 → qM → qR) (K11 : Int32 → Int32 → Int32 → qM → qR) : Nat → Int32 → Int32 → Int32 → Int32 → qM → qR
  | 0, _, _, _, _, _ => none
  | m + 1, a1, a2, a3, a4, M => b_X12_laysWays_19 n K4 K11 (f_X12_laysWays_19 n K4 K11 m) a1 a2 a3 a4 M
theorem w_X12_laysWays_19 {g : qG} {k : qK} (n : Nat) (j r : Nat) (hj : q_isLaw j) (hr : q_isLaw r) (o : qOk g 0 zX12_laysWays k) (K4 : Int32 → Int32 → qM → qR) (hK4 : ∀ (a1 a2 : Int32) (M : qM), qAE g k zX12_laysWays (qL j r) 4 [some (.inr (some 77)), some (.inl a1), some (.inl a2), none, none] [] (qL j r, M) (K4 a1 a2 M)) (K11 : Int32 → Int32 → Int32 → qM → qR) (hK11 : ∀ (a1 a2 a3 : Int32) (M : qM), qAE g k zX12_laysWays (qL j r) 11 [some (.inr (some 77)), some (.inl a1), some (.inl a2), some (.inl a3), none] [] (qL j r, M) (K11 a1 a2 a3 M)) : ∀ (m : Nat) (a1 a2 a3 a4 : Int32) (M : qM), qAE g k zX12_laysWays (qL j r) 19 [some (.inr (some 77)), some (.inl a1), some (.inl a2), some (.inl a3), some (.inl a4)] [] (qL j r, M) (f_X12_laysWays_19 n K4 K11 m a1 a2 a3 a4 M) := by
  intro m
  induction m with
  | zero =>
    intro a1 a2 a3 a4 M
    exact qr_none
  | succ m ih =>
    intro a1 a2 a3 a4 M
    exact wb_X12_laysWays_19 n j r hj hr o K4 hK4 K11 hK11 (f_X12_laysWays_19 n K4 K11 m) ih a1 a2 a3 a4 M
def b_X12_laysWays_11 (n : Nat) (K4 : Int32 → Int32 → qM → qR) (K11 : Int32 → Int32 → Int32 → qM → qR) (a1 a2 a3 : Int32) (M : qM) : qR :=
  (if a2 < a3 then ql (a2 + (1 : Int32)) (fun x1 => K4 a1 x1 M) else f_X12_laysWays_19 n K4 K11 n a1 a2 a3 (0 : Int32) M)
set_option maxRecDepth 4000 in
theorem wb_X12_laysWays_11 {g : qG} {k : qK} (n : Nat) (j r : Nat) (hj : q_isLaw j) (hr : q_isLaw r) (o : qOk g 0 zX12_laysWays k) (K4 : Int32 → Int32 → qM → qR) (hK4 : ∀ (a1 a2 : Int32) (M : qM), qAE g k zX12_laysWays (qL j r) 4 [some (.inr (some 77)), some (.inl a1), some (.inl a2), none, none] [] (qL j r, M) (K4 a1 a2 M)) (K11 : Int32 → Int32 → Int32 → qM → qR) (hK11 : ∀ (a1 a2 a3 : Int32) (M : qM), qAE g k zX12_laysWays (qL j r) 11 [some (.inr (some 77)), some (.inl a1), some (.inl a2), some (.inl a3), none] [] (qL j r, M) (K11 a1 a2 a3 M)) (a1 a2 a3 : Int32) (M : qM) : qAE g k zX12_laysWays (qL j r) 11 [some (.inr (some 77)), some (.inl a1), some (.inl a2), some (.inl a3), none] [] (qL j r, M) (b_X12_laysWays_11 n K4 K11 a1 a2 a3 M) := by
  unfold b_X12_laysWays_11
  refine qr_iload_n o (q_dm dm_X12_laysWays 9 rfl) rfl ?_
  refine qr_iload_n o (q_dm dm_X12_laysWays 10 rfl) rfl ?_
  refine qr_icmp_gt (tgt := 65) o (q_dm dm_X12_laysWays 11 rfl) (by decide) ?_ ?_
  · refine qs_iincl2 (L' := fun x1 => [some (.inr (some 77)), some (.inl a1), some (.inl x1), some (.inl a3), none]) o (q_dm dm_X12_laysWays 42 rfl) rfl ic_1 (Nat.le_of_ble_eq_true rfl) (fun _ => rfl) (fun x1 => ?_)
    refine qr_goto (tgt := 4) o (q_dm dm_X12_laysWays 43 rfl) (by decide) ?_
    exact qr_loc (q_leS (q_leS (q_leS (q_leN (q_leN q_le0))))) (hK4 a1 x1 M)
  · refine qr_iconst o (q_dm dm_X12_laysWays 12 rfl) ic_0 ?_
    refine qs_istore (L' := [some (.inr (some 77)), some (.inl a1), some (.inl a2), some (.inl a3), some (.inl (0 : Int32))]) o (q_dm dm_X12_laysWays 13 rfl) (Nat.le_of_ble_eq_true rfl) rfl ?_
    exact qr_loc (q_leS (q_leS (q_leS (q_leS (q_leS q_le0))))) (w_X12_laysWays_19 n j r hj hr o K4 hK4 K11 hK11 n a1 a2 a3 (0 : Int32) M)

def f_X12_laysWays_11 (n : Nat) (K4 : Int32 → Int32 → qM → qR) : Nat → Int32 → Int32 → Int32 → qM → qR
  | 0, _, _, _, _ => none
  | m + 1, a1, a2, a3, M => b_X12_laysWays_11 n K4 (f_X12_laysWays_11 n K4 m) a1 a2 a3 M
theorem w_X12_laysWays_11 {g : qG} {k : qK} (n : Nat) (j r : Nat) (hj : q_isLaw j) (hr : q_isLaw r) (o : qOk g 0 zX12_laysWays k) (K4 : Int32 → Int32 → qM → qR) (hK4 : ∀ (a1 a2 : Int32) (M : qM), qAE g k zX12_laysWays (qL j r) 4 [some (.inr (some 77)), some (.inl a1), some (.inl a2), none, none] [] (qL j r, M) (K4 a1 a2 M)) : ∀ (m : Nat) (a1 a2 a3 : Int32) (M : qM), qAE g k zX12_laysWays (qL j r) 11 [some (.inr (some 77)), some (.inl a1), some (.inl a2), some (.inl a3), none] [] (qL j r, M) (f_X12_laysWays_11 n K4 m a1 a2 a3 M) := by
  intro m
  induction m with
  | zero =>
    intro a1 a2 a3 M
    exact qr_none
  | succ m ih =>
    intro a1 a2 a3 M
    exact wb_X12_laysWays_11 n j r hj hr o K4 hK4 (f_X12_laysWays_11 n K4 m) ih a1 a2 a3 M
def b_X12_laysWays_4 (n : Nat) (K4 : Int32 → Int32 → qM → qR) (a1 a2 : Int32) (M : qM) : qR :=
  (if (4 : Int32) ≤ a2 then some (0, M) else f_X12_laysWays_11 n K4 n a1 a2 (0 : Int32) M)
set_option maxRecDepth 4000 in
theorem wb_X12_laysWays_4 {g : qG} {k : qK} (n : Nat) (j r : Nat) (hj : q_isLaw j) (hr : q_isLaw r) (o : qOk g 0 zX12_laysWays k) (K4 : Int32 → Int32 → qM → qR) (hK4 : ∀ (a1 a2 : Int32) (M : qM), qAE g k zX12_laysWays (qL j r) 4 [some (.inr (some 77)), some (.inl a1), some (.inl a2), none, none] [] (qL j r, M) (K4 a1 a2 M)) (a1 a2 : Int32) (M : qM) : qAE g k zX12_laysWays (qL j r) 4 [some (.inr (some 77)), some (.inl a1), some (.inl a2), none, none] [] (qL j r, M) (b_X12_laysWays_4 n K4 a1 a2 M) := by
  unfold b_X12_laysWays_4
  refine qr_iload_n o (q_dm dm_X12_laysWays 4 rfl) rfl ?_
  refine qr_iconst o (q_dm dm_X12_laysWays 5 rfl) ic_4 ?_
  refine qr_icmp_ge (tgt := 71) o (q_dm dm_X12_laysWays 6 rfl) (by decide) ?_ ?_
  · exact qr_vret o rfl (q_dm dm_X12_laysWays 44 rfl)
  · refine qr_iconst o (q_dm dm_X12_laysWays 7 rfl) ic_0 ?_
    refine qs_istore_n (L' := [some (.inr (some 77)), some (.inl a1), some (.inl a2), some (.inl (0 : Int32)), none]) o (q_dm dm_X12_laysWays 8 rfl) (Nat.le_of_ble_eq_true rfl) rfl ?_
    exact qr_loc (q_leS (q_leS (q_leS (q_leS (q_leN q_le0))))) (w_X12_laysWays_11 n j r hj hr o K4 hK4 n a1 a2 (0 : Int32) M)

def f_X12_laysWays_4 (n : Nat) : Nat → Int32 → Int32 → qM → qR
  | 0, _, _, _ => none
  | m + 1, a1, a2, M => b_X12_laysWays_4 n (f_X12_laysWays_4 n m) a1 a2 M
theorem w_X12_laysWays_4 {g : qG} {k : qK} (n : Nat) (j r : Nat) (hj : q_isLaw j) (hr : q_isLaw r) (o : qOk g 0 zX12_laysWays k) : ∀ (m : Nat) (a1 a2 : Int32) (M : qM), qAE g k zX12_laysWays (qL j r) 4 [some (.inr (some 77)), some (.inl a1), some (.inl a2), none, none] [] (qL j r, M) (f_X12_laysWays_4 n m a1 a2 M) := by
  intro m
  induction m with
  | zero =>
    intro a1 a2 M
    exact qr_none
  | succ m ih =>
    intro a1 a2 M
    exact wb_X12_laysWays_4 n j r hj hr o (f_X12_laysWays_4 n m) ih a1 a2 M
def f_X12_laysWays (n : Nat) (M : qM) : qR :=
  f_X12_laysWays_4 n n (0 : Int32) (0 : Int32) M
set_option maxRecDepth 4000 in
theorem w_X12_laysWays {g : qG} {k : qK} (n : Nat) (j r : Nat) (hj : q_isLaw j) (hr : q_isLaw r) (o : qOk g 0 zX12_laysWays k) (M : qM) : qAE g k zX12_laysWays (qL j r) 0 [some (.inr (some 77)), none, none, none, none] [] (qL j r, M) (f_X12_laysWays n  M) := by
  unfold f_X12_laysWays
  refine qr_iconst o (q_dm dm_X12_laysWays 0 rfl) ic_0 ?_
  refine qs_istore_n (L' := [some (.inr (some 77)), some (.inl (0 : Int32)), none, none, none]) o (q_dm dm_X12_laysWays 1 rfl) (Nat.le_of_ble_eq_true rfl) rfl ?_
  refine qr_iconst o (q_dm dm_X12_laysWays 2 rfl) ic_0 ?_
  refine qs_istore_n (L' := [some (.inr (some 77)), some (.inl (0 : Int32)), some (.inl (0 : Int32)), none, none]) o (q_dm dm_X12_laysWays 3 rfl) (Nat.le_of_ble_eq_true rfl) rfl ?_
  exact qr_loc (q_leS (q_leS (q_leS (q_leN (q_leN q_le0))))) (w_X12_laysWays_4 n j r hj hr o n (0 : Int32) (0 : Int32) M)

theorem a_X12_laysWays (g : qG) (l : Launch) (n : Nat) (j r : Nat) (hj : q_isLaw j) (hr : q_isLaw r) (M : qM) : qAM g l 0 zX12_laysWays (qL j r) [.inr (some 77)] (qL j r, M) (f_X12_laysWays n  M) :=
  qAM.of zv_X12_laysWays.1 (by show 1 ≤ 5; decide) (fun k hk o => w_X12_laysWays n j r hj hr o  M)
def tb_X12_loophole : List (Nat × Instr × Nat) := [(0, (.iload_n 1, 1)), (1, (.ifCond .lt 35, 3)), (4, (.iload_n 2, 1)), (5, (.ifCond .lt 31, 3)), (8, (.iload_n 1, 1)), (9, (.iload_n 2, 1)), (10, (.ior, 1)), (11, (.aload_n 0, 1)), (12, (.getfield 145, 3)), (15, (.iconst (-1), 1)), (16, (.ixor, 1)), (17, (.iand, 1)), (18, (.ifCond .ne 18, 3)), (21, (.iload_n 1, 1)), (22, (.iload_n 2, 1)), (23, (.iand, 1)), (24, (.ifCond .ne 12, 3)), (27, (.iload_n 3, 1)), (28, (.iconst 0, 1)), (29, (.iconst 1, 1)), (30, (.invokestatic 153, 3)), (33, (.ifCond .ne 5, 3)), (36, (.iconst (-1), 1)), (37, (.ireturn, 1)), (38, (.aload_n 0, 1)), (39, (.getfield 19, 3)), (42, (.bipush 12, 2)), (44, (.iconst 1, 1)), (45, (.iastore, 1)), (46, (.iconst 0, 1)), (47, (.istore 4, 2)), (49, (.bipush (-2), 2)), (51, (.istore 5, 2)), (53, (.iconst 0, 1)), (54, (.istore 6, 2)), (56, (.iload 6, 2)), (58, (.sipush 256, 3)), (61, (.if_icmp .ge 60, 3)), (64, (.aload_n 0, 1)), (65, (.getfield 22, 3)), (68, (.bipush 12, 2)), (70, (.iload 6, 2)), (72, (.iastore, 1)), (73, (.aload_n 0, 1)), (74, (.iload_n 1, 1)), (75, (.iload_n 2, 1)), (76, (.invokevirtual 420, 3)), (79, (.ifCond .ne 6, 3)), (82, (.goto 33, 3)), (85, (.iload 4, 2)), (87, (.iconst 1, 1)), (88, (.iadd, 1)), (89, (.istore 4, 2)), (91, (.iload 5, 2)), (93, (.bipush (-2), 2)), (95, (.if_icmp .eq 16, 3)), (98, (.iload 6, 2)), (100, (.invokestatic 276, 3)), (103, (.iload 5, 2)), (105, (.invokestatic 276, 3)), (108, (.if_icmp .ge 7, 3)), (111, (.iload 6, 2)), (113, (.istore 5, 2)), (115, (.iinc 6 1, 3)), (118, (.goto (-62), 3)), (121, (.iload_n 3, 1)), (122, (.ifCond .ne 8, 3)), (125, (.iload 5, 2)), (127, (.goto 5, 3)), (130, (.iload 4, 2)), (132, (.ireturn, 1))]
theorem dm_X12_loophole : ∀ q ∈ tb_X12_loophole, decode zX12_loophole.2.1 q.1 = .ok q.2 := by decide +kernel
def f_X12_loophole_111 (n : Nat) (K56 : Int32 → Int32 → Int32 → Int32 → Int32 → Int32 → qM → qR) (a1 a2 a3 a4 a6 : Int32) (M : qM) : qR :=
  ql (a6 + (1 : Int32)) (fun x1 => K56 a1 a2 a3 a4 a6 x1 M)
set_option maxRecDepth 4000 in
theorem w_X12_loophole_111 {g : qG} {k : qK} (n : Nat) (j r : Nat) (hj : q_isLaw j) (hr : q_isLaw r) (o : qOk g 4 zX12_loophole k) (K56 : Int32 → Int32 → Int32 → Int32 → Int32 → Int32 → qM → qR) (hK56 : ∀ (a1 a2 a3 a4 a5 a6 : Int32) (M : qM), qAE g k zX12_loophole (qL j r) 56 [some (.inr (some 77)), some (.inl a1), some (.inl a2), some (.inl a3), some (.inl a4), some (.inl a5), some (.inl a6)] [] (qL j r, M) (K56 a1 a2 a3 a4 a5 a6 M)) (a1 a2 a3 a4 a6 : Int32) (M : qM) : qAE g k zX12_loophole (qL j r) 111 [some (.inr (some 77)), some (.inl a1), some (.inl a2), some (.inl a3), some (.inl a4), none, some (.inl a6)] [] (qL j r, M) (f_X12_loophole_111 n K56 a1 a2 a3 a4 a6 M) := by
  unfold f_X12_loophole_111
  refine qr_iload o (q_dm dm_X12_loophole 61 rfl) rfl ?_
  refine qs_istore (L' := [some (.inr (some 77)), some (.inl a1), some (.inl a2), some (.inl a3), some (.inl a4), some (.inl a6), some (.inl a6)]) o (q_dm dm_X12_loophole 62 rfl) (Nat.le_of_ble_eq_true rfl) rfl ?_
  refine qs_iincl2 (L' := fun x1 => [some (.inr (some 77)), some (.inl a1), some (.inl a2), some (.inl a3), some (.inl a4), some (.inl a6), some (.inl x1)]) o (q_dm dm_X12_loophole 63 rfl) rfl ic_1 (Nat.le_of_ble_eq_true rfl) (fun _ => rfl) (fun x1 => ?_)
  refine qr_goto (tgt := 56) o (q_dm dm_X12_loophole 64 rfl) (by decide) ?_
  exact qr_loc (q_leS (q_leS (q_leS (q_leS (q_leS (q_leS (q_leS q_le0))))))) (hK56 a1 a2 a3 a4 a6 x1 M)

def b_X12_loophole_56 (n : Nat) (K56 : Int32 → Int32 → Int32 → Int32 → Int32 → Int32 → qM → qR) (a1 a2 a3 a4 a5 a6 : Int32) (M : qM) : qR :=
  (if (256 : Int32) ≤ a6 then (if a3 = (0 : Int32) then some (a5, M) else some (a4, M)) else qlm (mu M 82 12 a6) (fun m1 => qc (f_X12_finds n a1 a2 m1) (fun r2 m3 => (if r2 = (0 : Int32) then ql (a6 + (1 : Int32)) (fun x10 => K56 a1 a2 a3 a4 a5 x10 m3) else ql (a4 + (1 : Int32)) (fun x4 => (if a5 = (-2 : Int32) then f_X12_loophole_111 n K56 a1 a2 a3 x4 a6 m3 else qc (f_X12_bits n a6 m3) (fun r5 m6 => qc (f_X12_bits n a5 m6) (fun r7 m8 => (if r7 ≤ r5 then ql (a6 + (1 : Int32)) (fun x9 => K56 a1 a2 a3 x4 a5 x9 m8) else f_X12_loophole_111 n K56 a1 a2 a3 x4 a6 m8)))))))))
set_option maxRecDepth 4000 in
theorem wb_X12_loophole_56 {g : qG} {k : qK} (n : Nat) (j r : Nat) (hj : q_isLaw j) (hr : q_isLaw r) (o : qOk g 4 zX12_loophole k) (K56 : Int32 → Int32 → Int32 → Int32 → Int32 → Int32 → qM → qR) (hK56 : ∀ (a1 a2 a3 a4 a5 a6 : Int32) (M : qM), qAE g k zX12_loophole (qL j r) 56 [some (.inr (some 77)), some (.inl a1), some (.inl a2), some (.inl a3), some (.inl a4), some (.inl a5), some (.inl a6)] [] (qL j r, M) (K56 a1 a2 a3 a4 a5 a6 M)) (a1 a2 a3 a4 a5 a6 : Int32) (M : qM) : qAE g k zX12_loophole (qL j r) 56 [some (.inr (some 77)), some (.inl a1), some (.inl a2), some (.inl a3), some (.inl a4), some (.inl a5), some (.inl a6)] [] (qL j r, M) (b_X12_loophole_56 n K56 a1 a2 a3 a4 a5 a6 M) := by
  unfold b_X12_loophole_56
  refine qr_iload o (q_dm dm_X12_loophole 35 rfl) rfl ?_
  refine qr_sipush o (q_dm dm_X12_loophole 36 rfl) si_256 ?_
  refine qr_icmp_ge (tgt := 121) o (q_dm dm_X12_loophole 37 rfl) (by decide) ?_ ?_
  · refine qr_iload_n o (q_dm dm_X12_loophole 65 rfl) rfl ?_
    refine qr_if_ne (tgt := 130) o (q_dm dm_X12_loophole 66 rfl) (by decide) ?_ ?_
    · refine qr_iload o (q_dm dm_X12_loophole 69 rfl) rfl ?_
      exact qr_iret o rfl rfl (q_dm dm_X12_loophole 70 rfl)
    · refine qr_iload o (q_dm dm_X12_loophole 67 rfl) rfl ?_
      refine qr_goto (tgt := 132) o (q_dm dm_X12_loophole 68 rfl) (by decide) ?_
      exact qr_iret o rfl rfl (q_dm dm_X12_loophole 70 rfl)
  · refine qr_aload_n o (q_dm dm_X12_loophole 38 rfl) rfl ?_
    refine qr_getr (kf := 4) o cf_X12 (sh77 j r) rfl (Nat.le_of_ble_eq_true rfl) fl_X12_22 (q_dm dm_X12_loophole 39 rfl) ?_
    refine qr_bipush o (q_dm dm_X12_loophole 40 rfl) bi_12 ?_
    refine qr_iload o (q_dm dm_X12_loophole 41 rfl) rfl ?_
    refine qr_iast0 (c := 12) o (sh82 j r) (by decide) (by decide) (q_dm dm_X12_loophole 42 rfl) ?_
    refine qr_letm (fun m1 => ?_)
    refine qr_aload_n o (q_dm dm_X12_loophole 43 rfl) rfl ?_
    refine qr_iload_n o (q_dm dm_X12_loophole 44 rfl) rfl ?_
    refine qr_iload_n o (q_dm dm_X12_loophole 45 rfl) rfl ?_
    refine qr_callv_i (As := [.inl a1, .inl a2]) (S := []) o (a_X12_finds g k.2.1 n j r hj hr a1 a2 m1) (Nat.le_of_ble_eq_true rfl) zv_X12_finds rfl cf_X12 (sh77 j r) ml_X12_420 (Nat.le_of_ble_eq_true rfl) (q_dm dm_X12_loophole 46 rfl) (fun r2 m3 => ?_)
    refine qr_if_ne (tgt := 85) o (q_dm dm_X12_loophole 47 rfl) (by decide) ?_ ?_
    · refine qr_iload o (q_dm dm_X12_loophole 49 rfl) rfl ?_
      refine qr_iconst o (q_dm dm_X12_loophole 50 rfl) ic_1 ?_
      refine qr_iadd o (q_dm dm_X12_loophole 51 rfl) ?_
      refine qr_lt (fun x4 => ?_)
      refine qs_istore (L' := [some (.inr (some 77)), some (.inl a1), some (.inl a2), some (.inl a3), some (.inl x4), some (.inl a5), some (.inl a6)]) o (q_dm dm_X12_loophole 52 rfl) (Nat.le_of_ble_eq_true rfl) rfl ?_
      refine qr_iload o (q_dm dm_X12_loophole 53 rfl) rfl ?_
      refine qr_bipush o (q_dm dm_X12_loophole 54 rfl) bi_m2 ?_
      refine qr_icmp_eq (tgt := 111) o (q_dm dm_X12_loophole 55 rfl) (by decide) ?_ ?_
      · exact qr_loc (q_leS (q_leS (q_leS (q_leS (q_leS (q_leN (q_leS q_le0))))))) (w_X12_loophole_111 n j r hj hr o K56 hK56 a1 a2 a3 x4 a6 m3)
      · refine qr_iload o (q_dm dm_X12_loophole 56 rfl) rfl ?_
        refine qr_calls_i (As := [.inl a6]) (S := []) o (a_X12_bits g k.2.1 n j r hj hr a6 m3) (Nat.le_of_ble_eq_true rfl) zs_X12_bits rfl ml_X12_276 (Nat.le_of_ble_eq_true rfl) (q_dm dm_X12_loophole 57 rfl) (fun r5 m6 => ?_)
        refine qr_iload o (q_dm dm_X12_loophole 58 rfl) rfl ?_
        refine qr_calls_i (As := [.inl a5]) (S := [.inl r5]) o (a_X12_bits g k.2.1 n j r hj hr a5 m6) (Nat.le_of_ble_eq_true rfl) zs_X12_bits rfl ml_X12_276 (Nat.le_of_ble_eq_true rfl) (q_dm dm_X12_loophole 59 rfl) (fun r7 m8 => ?_)
        refine qr_icmp_ge (tgt := 115) o (q_dm dm_X12_loophole 60 rfl) (by decide) ?_ ?_
        · refine qs_iincl2 (L' := fun x9 => [some (.inr (some 77)), some (.inl a1), some (.inl a2), some (.inl a3), some (.inl x4), some (.inl a5), some (.inl x9)]) o (q_dm dm_X12_loophole 63 rfl) rfl ic_1 (Nat.le_of_ble_eq_true rfl) (fun _ => rfl) (fun x9 => ?_)
          refine qr_goto (tgt := 56) o (q_dm dm_X12_loophole 64 rfl) (by decide) ?_
          exact qr_loc (q_leS (q_leS (q_leS (q_leS (q_leS (q_leS (q_leS q_le0))))))) (hK56 a1 a2 a3 x4 a5 x9 m8)
        · exact qr_loc (q_leS (q_leS (q_leS (q_leS (q_leS (q_leN (q_leS q_le0))))))) (w_X12_loophole_111 n j r hj hr o K56 hK56 a1 a2 a3 x4 a6 m8)
    · refine qr_goto (tgt := 115) o (q_dm dm_X12_loophole 48 rfl) (by decide) ?_
      refine qs_iincl2 (L' := fun x10 => [some (.inr (some 77)), some (.inl a1), some (.inl a2), some (.inl a3), some (.inl a4), some (.inl a5), some (.inl x10)]) o (q_dm dm_X12_loophole 63 rfl) rfl ic_1 (Nat.le_of_ble_eq_true rfl) (fun _ => rfl) (fun x10 => ?_)
      refine qr_goto (tgt := 56) o (q_dm dm_X12_loophole 64 rfl) (by decide) ?_
      exact qr_loc (q_leS (q_leS (q_leS (q_leS (q_leS (q_leS (q_leS q_le0))))))) (hK56 a1 a2 a3 a4 a5 x10 m3)

def f_X12_loophole_56 (n : Nat) : Nat → Int32 → Int32 → Int32 → Int32 → Int32 → Int32 → qM → qR
  | 0, _, _, _, _, _, _, _ => none
  | m + 1, a1, a2, a3, a4, a5, a6, M => b_X12_loophole_56 n (f_X12_loophole_56 n m) a1 a2 a3 a4 a5 a6 M
theorem w_X12_loophole_56 {g : qG} {k : qK} (n : Nat) (j r : Nat) (hj : q_isLaw j) (hr : q_isLaw r) (o : qOk g 4 zX12_loophole k) : ∀ (m : Nat) (a1 a2 a3 a4 a5 a6 : Int32) (M : qM), qAE g k zX12_loophole (qL j r) 56 [some (.inr (some 77)), some (.inl a1), some (.inl a2), some (.inl a3), some (.inl a4), some (.inl a5), some (.inl a6)] [] (qL j r, M) (f_X12_loophole_56 n m a1 a2 a3 a4 a5 a6 M) := by
  intro m
  induction m with
  | zero =>
    intro a1 a2 a3 a4 a5 a6 M
    exact qr_none
  | succ m ih =>
    intro a1 a2 a3 a4 a5 a6 M
    exact wb_X12_loophole_56 n j r hj hr o (f_X12_loophole_56 n m) ih a1 a2 a3 a4 a5 a6 M
def f_X12_loophole (n : Nat) (a1 a2 a3 : Int32) (M : qM) : qR :=
  (if a1 < (0 : Int32) then some ((-1 : Int32), M) else (if a2 < (0 : Int32) then some ((-1 : Int32), M) else (if ((a1 ||| a2) &&& ((M 77 6) ^^^ (-1 : Int32))) = (0 : Int32) then (if (a1 &&& a2) = (0 : Int32) then qc (f_X12_in n a3 (0 : Int32) (1 : Int32) M) (fun r1 m2 => (if r1 = (0 : Int32) then some ((-1 : Int32), m2) else qlm (mu m2 81 12 (1 : Int32)) (fun m3 => f_X12_loophole_56 n n a1 a2 a3 (0 : Int32) (-2 : Int32) (0 : Int32) m3))) else some ((-1 : Int32), M)) else some ((-1 : Int32), M))))
set_option maxRecDepth 4000 in
theorem w_X12_loophole {g : qG} {k : qK} (n : Nat) (j r : Nat) (hj : q_isLaw j) (hr : q_isLaw r) (o : qOk g 4 zX12_loophole k) (a1 a2 a3 : Int32) (M : qM) : qAE g k zX12_loophole (qL j r) 0 [some (.inr (some 77)), some (.inl a1), some (.inl a2), some (.inl a3), none, none, none] [] (qL j r, M) (f_X12_loophole n a1 a2 a3 M) := by
  unfold f_X12_loophole
  refine qr_iload_n o (q_dm dm_X12_loophole 0 rfl) rfl ?_
  refine qr_if_lt (tgt := 36) o (q_dm dm_X12_loophole 1 rfl) (by decide) ?_ ?_
  · refine qr_iconst o (q_dm dm_X12_loophole 22 rfl) ic_m1 ?_
    exact qr_iret o rfl rfl (q_dm dm_X12_loophole 23 rfl)
  · refine qr_iload_n o (q_dm dm_X12_loophole 2 rfl) rfl ?_
    refine qr_if_lt (tgt := 36) o (q_dm dm_X12_loophole 3 rfl) (by decide) ?_ ?_
    · refine qr_iconst o (q_dm dm_X12_loophole 22 rfl) ic_m1 ?_
      exact qr_iret o rfl rfl (q_dm dm_X12_loophole 23 rfl)
    · refine qr_iload_n o (q_dm dm_X12_loophole 4 rfl) rfl ?_
      refine qr_iload_n o (q_dm dm_X12_loophole 5 rfl) rfl ?_
      refine qr_ior o (q_dm dm_X12_loophole 6 rfl) ?_
      refine qr_aload_n o (q_dm dm_X12_loophole 7 rfl) rfl ?_
      refine qr_getf (kf := 6) o cf_X12 (sh77 j r) rfl (Nat.le_of_ble_eq_true rfl) fl_X12_145 (q_dm dm_X12_loophole 8 rfl) ?_
      refine qr_iconst o (q_dm dm_X12_loophole 9 rfl) ic_m1 ?_
      refine qr_ixor o (q_dm dm_X12_loophole 10 rfl) ?_
      refine qr_iand o (q_dm dm_X12_loophole 11 rfl) ?_
      refine qr_if_ne (tgt := 36) o (q_dm dm_X12_loophole 12 rfl) (by decide) ?_ ?_
      · refine qr_iconst o (q_dm dm_X12_loophole 22 rfl) ic_m1 ?_
        exact qr_iret o rfl rfl (q_dm dm_X12_loophole 23 rfl)
      · refine qr_iload_n o (q_dm dm_X12_loophole 13 rfl) rfl ?_
        refine qr_iload_n o (q_dm dm_X12_loophole 14 rfl) rfl ?_
        refine qr_iand o (q_dm dm_X12_loophole 15 rfl) ?_
        refine qr_if_ne (tgt := 36) o (q_dm dm_X12_loophole 16 rfl) (by decide) ?_ ?_
        · refine qr_iconst o (q_dm dm_X12_loophole 22 rfl) ic_m1 ?_
          exact qr_iret o rfl rfl (q_dm dm_X12_loophole 23 rfl)
        · refine qr_iload_n o (q_dm dm_X12_loophole 17 rfl) rfl ?_
          refine qr_iconst o (q_dm dm_X12_loophole 18 rfl) ic_0 ?_
          refine qr_iconst o (q_dm dm_X12_loophole 19 rfl) ic_1 ?_
          refine qr_calls_i (As := [.inl a3, .inl (0 : Int32), .inl (1 : Int32)]) (S := []) o (a_X12_in g k.2.1 n j r hj hr a3 (0 : Int32) (1 : Int32) M) (Nat.le_of_ble_eq_true rfl) zs_X12_in rfl ml_X12_153 (Nat.le_of_ble_eq_true rfl) (q_dm dm_X12_loophole 20 rfl) (fun r1 m2 => ?_)
          refine qr_if_ne (tgt := 38) o (q_dm dm_X12_loophole 21 rfl) (by decide) ?_ ?_
          · refine qr_aload_n o (q_dm dm_X12_loophole 24 rfl) rfl ?_
            refine qr_getr (kf := 3) o cf_X12 (sh77 j r) rfl (Nat.le_of_ble_eq_true rfl) fl_X12_19 (q_dm dm_X12_loophole 25 rfl) ?_
            refine qr_bipush o (q_dm dm_X12_loophole 26 rfl) bi_12 ?_
            refine qr_iconst o (q_dm dm_X12_loophole 27 rfl) ic_1 ?_
            refine qr_iast0 (c := 12) o (sh81 j r) (by decide) (by decide) (q_dm dm_X12_loophole 28 rfl) ?_
            refine qr_letm (fun m3 => ?_)
            refine qr_iconst o (q_dm dm_X12_loophole 29 rfl) ic_0 ?_
            refine qs_istore (L' := [some (.inr (some 77)), some (.inl a1), some (.inl a2), some (.inl a3), some (.inl (0 : Int32)), none, none]) o (q_dm dm_X12_loophole 30 rfl) (Nat.le_of_ble_eq_true rfl) rfl ?_
            refine qr_bipush o (q_dm dm_X12_loophole 31 rfl) bi_m2 ?_
            refine qs_istore (L' := [some (.inr (some 77)), some (.inl a1), some (.inl a2), some (.inl a3), some (.inl (0 : Int32)), some (.inl (-2 : Int32)), none]) o (q_dm dm_X12_loophole 32 rfl) (Nat.le_of_ble_eq_true rfl) rfl ?_
            refine qr_iconst o (q_dm dm_X12_loophole 33 rfl) ic_0 ?_
            refine qs_istore (L' := [some (.inr (some 77)), some (.inl a1), some (.inl a2), some (.inl a3), some (.inl (0 : Int32)), some (.inl (-2 : Int32)), some (.inl (0 : Int32))]) o (q_dm dm_X12_loophole 34 rfl) (Nat.le_of_ble_eq_true rfl) rfl ?_
            exact qr_loc (q_leS (q_leS (q_leS (q_leS (q_leS (q_leS (q_leS q_le0))))))) (w_X12_loophole_56 n j r hj hr o n a1 a2 a3 (0 : Int32) (-2 : Int32) (0 : Int32) m3)
          · refine qr_iconst o (q_dm dm_X12_loophole 22 rfl) ic_m1 ?_
            exact qr_iret o rfl rfl (q_dm dm_X12_loophole 23 rfl)

theorem a_X12_loophole (g : qG) (l : Launch) (n : Nat) (j r : Nat) (hj : q_isLaw j) (hr : q_isLaw r) (a1 a2 a3 : Int32) (M : qM) : qAM g l 4 zX12_loophole (qL j r) [.inr (some 77), .inl a1, .inl a2, .inl a3] (qL j r, M) (f_X12_loophole n a1 a2 a3 M) :=
  qAM.of zv_X12_loophole.1 (by show 4 ≤ 7; decide) (fun k hk o => w_X12_loophole n j r hj hr o a1 a2 a3 M)
def tb_X12_person : List (Nat × Instr × Nat) := [(0, (.iload_n 1, 1)), (1, (.iconst 0, 1)), (2, (.bipush 7, 2)), (4, (.invokestatic 153, 3)), (7, (.ifCond .eq 13, 3)), (10, (.iload_n 2, 1)), (11, (.iconst 0, 1)), (12, (.ldc 161, 2)), (14, (.invokestatic 153, 3)), (17, (.ifCond .ne 5, 3)), (20, (.iconst 0, 1)), (21, (.ireturn, 1)), (22, (.aload_n 0, 1)), (23, (.getfield 7, 3)), (26, (.sipush 312, 3)), (29, (.aload_n 0, 1)), (30, (.getfield 7, 3)), (33, (.sipush 312, 3)), (36, (.iaload, 1)), (37, (.iconst 1, 1)), (38, (.iload_n 1, 1)), (39, (.ishl, 1)), (40, (.ior, 1)), (41, (.iastore, 1)), (42, (.aload_n 0, 1)), (43, (.getfield 7, 3)), (46, (.sipush 288, 3)), (49, (.iload_n 1, 1)), (50, (.iadd, 1)), (51, (.iload_n 2, 1)), (52, (.iastore, 1)), (53, (.iconst 1, 1)), (54, (.ireturn, 1))]
theorem dm_X12_person : ∀ q ∈ tb_X12_person, decode zX12_person.2.1 q.1 = .ok q.2 := by decide +kernel
def f_X12_person (n : Nat) (a1 a2 : Int32) (M : qM) : qR :=
  qc (f_X12_in n a1 (0 : Int32) (7 : Int32) M) (fun r1 m2 => (if r1 = (0 : Int32) then some ((0 : Int32), m2) else qc (f_X12_in n a2 (0 : Int32) (99999 : Int32) m2) (fun r3 m4 => (if r3 = (0 : Int32) then some ((0 : Int32), m4) else qlm (mu m4 78 312 ((m4 78 312) ||| ((1 : Int32) <<< (a1 &&& 31)))) (fun m5 => qg ((288 : Int32) + a1) 954 (qlm (mu m5 78 ((288 : Int32) + a1).toNatClampNeg a2) (fun m6 => some ((1 : Int32), m6))))))))
set_option maxRecDepth 4000 in
theorem w_X12_person {g : qG} {k : qK} (n : Nat) (j r : Nat) (hj : q_isLaw j) (hr : q_isLaw r) (o : qOk g 1 zX12_person k) (a1 a2 : Int32) (M : qM) : qAE g k zX12_person (qL j r) 0 [some (.inr (some 77)), some (.inl a1), some (.inl a2)] [] (qL j r, M) (f_X12_person n a1 a2 M) := by
  unfold f_X12_person
  refine qr_iload_n o (q_dm dm_X12_person 0 rfl) rfl ?_
  refine qr_iconst o (q_dm dm_X12_person 1 rfl) ic_0 ?_
  refine qr_bipush o (q_dm dm_X12_person 2 rfl) bi_7 ?_
  refine qr_calls_i (As := [.inl a1, .inl (0 : Int32), .inl (7 : Int32)]) (S := []) o (a_X12_in g k.2.1 n j r hj hr a1 (0 : Int32) (7 : Int32) M) (Nat.le_of_ble_eq_true rfl) zs_X12_in rfl ml_X12_153 (Nat.le_of_ble_eq_true rfl) (q_dm dm_X12_person 3 rfl) (fun r1 m2 => ?_)
  refine qr_if_eq (tgt := 20) o (q_dm dm_X12_person 4 rfl) (by decide) ?_ ?_
  · refine qr_iconst o (q_dm dm_X12_person 10 rfl) ic_0 ?_
    exact qr_iret o rfl (by decide) (q_dm dm_X12_person 11 rfl)
  · refine qr_iload_n o (q_dm dm_X12_person 5 rfl) rfl ?_
    refine qr_iconst o (q_dm dm_X12_person 6 rfl) ic_0 ?_
    refine qr_ldc o (q_dm dm_X12_person 7 rfl) kc_X12_161 ?_
    refine qr_calls_i (As := [.inl a2, .inl (0 : Int32), .inl (99999 : Int32)]) (S := []) o (a_X12_in g k.2.1 n j r hj hr a2 (0 : Int32) (99999 : Int32) m2) (Nat.le_of_ble_eq_true rfl) zs_X12_in rfl ml_X12_153 (Nat.le_of_ble_eq_true rfl) (q_dm dm_X12_person 8 rfl) (fun r3 m4 => ?_)
    refine qr_if_ne (tgt := 22) o (q_dm dm_X12_person 9 rfl) (by decide) ?_ ?_
    · refine qr_aload_n o (q_dm dm_X12_person 12 rfl) rfl ?_
      refine qr_getr (kf := 0) o cf_X12 (sh77 j r) rfl (Nat.le_of_ble_eq_true rfl) fl_X12_7 (q_dm dm_X12_person 13 rfl) ?_
      refine qr_sipush o (q_dm dm_X12_person 14 rfl) si_312 ?_
      refine qr_aload_n o (q_dm dm_X12_person 15 rfl) rfl ?_
      refine qr_getr (kf := 0) o cf_X12 (sh77 j r) rfl (Nat.le_of_ble_eq_true rfl) fl_X12_7 (q_dm dm_X12_person 16 rfl) ?_
      refine qr_sipush o (q_dm dm_X12_person 17 rfl) si_312 ?_
      refine qr_iald0 (c := 312) o (sh78 j r) (by decide) (by decide) (q_dm dm_X12_person 18 rfl) ?_
      refine qr_iconst o (q_dm dm_X12_person 19 rfl) ic_1 ?_
      refine qr_iload_n o (q_dm dm_X12_person 20 rfl) rfl ?_
      refine qr_ishl o (q_dm dm_X12_person 21 rfl) ?_
      refine qr_ior o (q_dm dm_X12_person 22 rfl) ?_
      refine qr_iast0 (c := 312) o (sh78 j r) (by decide) (by decide) (q_dm dm_X12_person 23 rfl) ?_
      refine qr_letm (fun m5 => ?_)
      refine qr_aload_n o (q_dm dm_X12_person 24 rfl) rfl ?_
      refine qr_getr (kf := 0) o cf_X12 (sh77 j r) rfl (Nat.le_of_ble_eq_true rfl) fl_X12_7 (q_dm dm_X12_person 25 rfl) ?_
      refine qr_sipush o (q_dm dm_X12_person 26 rfl) si_288 ?_
      refine qr_iload_n o (q_dm dm_X12_person 27 rfl) rfl ?_
      refine qr_iadd o (q_dm dm_X12_person 28 rfl) ?_
      refine qr_iload_n o (q_dm dm_X12_person 29 rfl) rfl ?_
      refine qr_iast o (sh78 j r) (q_dm dm_X12_person 30 rfl) ?_
      refine qr_letm (fun m6 => ?_)
      refine qr_iconst o (q_dm dm_X12_person 31 rfl) ic_1 ?_
      exact qr_iret o rfl (by decide) (q_dm dm_X12_person 32 rfl)
    · refine qr_iconst o (q_dm dm_X12_person 10 rfl) ic_0 ?_
      exact qr_iret o rfl (by decide) (q_dm dm_X12_person 11 rfl)

theorem a_X12_person (g : qG) (l : Launch) (n : Nat) (j r : Nat) (hj : q_isLaw j) (hr : q_isLaw r) (a1 a2 : Int32) (M : qM) : qAM g l 1 zX12_person (qL j r) [.inr (some 77), .inl a1, .inl a2] (qL j r, M) (f_X12_person n a1 a2 M) :=
  qAM.of zv_X12_person.1 (by show 3 ≤ 3; decide) (fun k hk o => w_X12_person n j r hj hr o a1 a2 M)
def tb_X12_readsStep : List (Nat × Instr × Nat) := [(0, (.aload_n 0, 1)), (1, (.getfield 169, 3)), (4, (.istore_n 1, 1)), (5, (.aload_n 0, 1)), (6, (.invokevirtual 175, 3)), (9, (.bipush 40, 2)), (11, (.if_icmp .ne 75, 3)), (14, (.aload_n 0, 1)), (15, (.getfield 323, 3)), (18, (.iconst 3, 1)), (19, (.if_icmp .ne 13, 3)), (22, (.aload_n 0, 1)), (23, (.iconst 5, 1)), (24, (.aload_n 0, 1)), (25, (.getfield 169, 3)), (28, (.invokevirtual 182, 3)), (31, (.ireturn, 1)), (32, (.aload_n 0, 1)), (33, (.getfield 77, 3)), (36, (.aload_n 0, 1)), (37, (.getfield 323, 3)), (40, (.aload_n 0, 1)), (41, (.getfield 169, 3)), (44, (.iastore, 1)), (45, (.aload_n 0, 1)), (46, (.getfield 80, 3)), (49, (.aload_n 0, 1)), (50, (.getfield 323, 3)), (53, (.aload_n 0, 1)), (54, (.getfield 326, 3)), (57, (.iastore, 1)), (58, (.aload_n 0, 1)), (59, (.aload_n 0, 1)), (60, (.getfield 323, 3)), (63, (.iconst 1, 1)), (64, (.iadd, 1)), (65, (.putfield 323, 3)), (68, (.aload_n 0, 1)), (69, (.aload_n 0, 1)), (70, (.getfield 169, 3)), (73, (.iconst 1, 1)), (74, (.iadd, 1)), (75, (.putfield 169, 3)), (78, (.aload_n 0, 1)), (79, (.getfield 169, 3)), (82, (.istore_n 1, 1)), (83, (.goto (-78), 3)), (86, (.aload_n 0, 1)), (87, (.invokevirtual 188, 3)), (90, (.ifCond .ne 13, 3)), (93, (.aload_n 0, 1)), (94, (.iconst 1, 1)), (95, (.aload_n 0, 1)), (96, (.getfield 169, 3)), (99, (.invokevirtual 182, 3)), (102, (.ireturn, 1)), (103, (.aload_n 0, 1)), (104, (.iconst 0, 1)), (105, (.putfield 185, 3)), (108, (.aload_n 0, 1)), (109, (.invokevirtual 188, 3)), (112, (.ifCond .eq 45, 3)), (115, (.aload_n 0, 1)), (116, (.getfield 169, 3)), (119, (.iload_n 1, 1)), (120, (.iconst 2, 1)), (121, (.iadd, 1)), (122, (.if_icmp .ge 35, 3)), (125, (.aload_n 0, 1)), (126, (.bipush 10, 2)), (128, (.aload_n 0, 1)), (129, (.getfield 185, 3)), (132, (.imul, 1)), (133, (.aload_n 0, 1)), (134, (.invokevirtual 175, 3)), (137, (.iadd, 1)), (138, (.bipush 48, 2)), (140, (.isub, 1)), (141, (.putfield 185, 3)), (144, (.aload_n 0, 1)), (145, (.aload_n 0, 1)), (146, (.getfield 169, 3)), (149, (.iconst 1, 1)), (150, (.iadd, 1)), (151, (.putfield 169, 3)), (154, (.goto (-46), 3)), (157, (.aload_n 0, 1)), (158, (.getfield 185, 3)), (161, (.bipush 12, 2)), (163, (.if_icmp .lt 10, 3)), (166, (.aload_n 0, 1)), (167, (.iconst 3, 1)), (168, (.iload_n 1, 1)), (169, (.invokevirtual 182, 3)), (172, (.ireturn, 1)), (173, (.bipush 8, 2)), (175, (.istore_n 2, 1)), (176, (.aload_n 0, 1)), (177, (.invokevirtual 175, 3)), (180, (.bipush 38, 2)), (182, (.if_icmp .ne 64, 3)), (185, (.aload_n 0, 1)), (186, (.aload_n 0, 1)), (187, (.getfield 169, 3)), (190, (.iconst 1, 1)), (191, (.iadd, 1)), (192, (.putfield 169, 3)), (195, (.aload_n 0, 1)), (196, (.invokevirtual 188, 3)), (199, (.ifCond .ne 13, 3)), (202, (.aload_n 0, 1)), (203, (.iconst 1, 1)), (204, (.aload_n 0, 1)), (205, (.getfield 169, 3)), (208, (.invokevirtual 182, 3)), (211, (.ireturn, 1)), (212, (.aload_n 0, 1)), (213, (.invokevirtual 175, 3)), (216, (.bipush 48, 2)), (218, (.isub, 1)), (219, (.istore_n 2, 1)), (220, (.iload_n 2, 1)), (221, (.bipush 8, 2)), (223, (.if_icmp .lt 13, 3)), (226, (.aload_n 0, 1)), (227, (.iconst 3, 1)), (228, (.aload_n 0, 1)), (229, (.getfield 169, 3)), (232, (.invokevirtual 182, 3)), (235, (.ireturn, 1)), (236, (.aload_n 0, 1)), (237, (.aload_n 0, 1)), (238, (.getfield 169, 3)), (241, (.iconst 1, 1)), (242, (.iadd, 1)), (243, (.putfield 169, 3)), (246, (.aload_n 0, 1)), (247, (.getfield 326, 3)), (250, (.bipush 40, 2)), (252, (.if_icmp .ne 11, 3)), (255, (.aload_n 0, 1)), (256, (.bipush 6, 2)), (258, (.iload_n 1, 1)), (259, (.invokevirtual 182, 3)), (262, (.ireturn, 1)), (263, (.aload_n 0, 1)), (264, (.getfield 71, 3)), (267, (.aload_n 0, 1)), (268, (.getfield 326, 3)), (271, (.aload_n 0, 1)), (272, (.getfield 185, 3)), (275, (.iastore, 1)), (276, (.aload_n 0, 1)), (277, (.getfield 74, 3)), (280, (.aload_n 0, 1)), (281, (.getfield 326, 3)), (284, (.iload_n 2, 1)), (285, (.iastore, 1)), (286, (.aload_n 0, 1)), (287, (.aload_n 0, 1)), (288, (.getfield 326, 3)), (291, (.iconst 1, 1)), (292, (.iadd, 1)), (293, (.putfield 326, 3)), (296, (.aload_n 0, 1)), (297, (.invokevirtual 175, 3)), (300, (.bipush 41, 2)), (302, (.if_icmp .ne 19, 3)), (305, (.aload_n 0, 1)), (306, (.getfield 323, 3)), (309, (.ifCond .le 12, 3)), (312, (.aload_n 0, 1)), (313, (.invokevirtual 329, 3)), (316, (.ifCond .ne (-20), 3)), (319, (.iconst 0, 1)), (320, (.ireturn, 1)), (321, (.iconst 1, 1)), (322, (.ireturn, 1))]
theorem dm_X12_readsStep : ∀ q ∈ tb_X12_readsStep, decode zX12_readsStep.2.1 q.1 = .ok q.2 := by decide +kernel
def b_X12_readsStep_296 (n : Nat) (K296 : qM → qR) (M : qM) : qR :=
  qc (f_X12_here n  M) (fun r1 m2 => (if r1 = (41 : Int32) then (if (m2 77 36) ≤ (0 : Int32) then some ((1 : Int32), m2) else qc (f_X12_endsRound n  m2) (fun r3 m4 => (if r3 = (0 : Int32) then some ((0 : Int32), m4) else K296  m4))) else some ((1 : Int32), m2)))
set_option maxRecDepth 4000 in
theorem wb_X12_readsStep_296 {g : qG} {k : qK} (n : Nat) (j r : Nat) (hj : q_isLaw j) (hr : q_isLaw r) (o : qOk g 2 zX12_readsStep k) (K296 : qM → qR) (hK296 : ∀ (M : qM), qAE g k zX12_readsStep (qL j r) 296 [some (.inr (some 77)), none, none] [] (qL j r, M) (K296  M)) (M : qM) : qAE g k zX12_readsStep (qL j r) 296 [some (.inr (some 77)), none, none] [] (qL j r, M) (b_X12_readsStep_296 n K296  M) := by
  unfold b_X12_readsStep_296
  refine qr_aload_n o (q_dm dm_X12_readsStep 164 rfl) rfl ?_
  refine qr_callv_i (As := []) (S := []) o (a_X12_here g k.2.1 n j r hj hr  M) (Nat.le_of_ble_eq_true rfl) zv_X12_here rfl cf_X12 (sh77 j r) ml_X12_175 (Nat.le_of_ble_eq_true rfl) (q_dm dm_X12_readsStep 165 rfl) (fun r1 m2 => ?_)
  refine qr_bipush o (q_dm dm_X12_readsStep 166 rfl) bi_41 ?_
  refine qr_icmp_ne (tgt := 321) o (q_dm dm_X12_readsStep 167 rfl) (by decide) ?_ ?_
  · refine qr_iconst o (q_dm dm_X12_readsStep 176 rfl) ic_1 ?_
    exact qr_iret o rfl (by decide) (q_dm dm_X12_readsStep 177 rfl)
  · refine qr_aload_n o (q_dm dm_X12_readsStep 168 rfl) rfl ?_
    refine qr_getf (kf := 36) o cf_X12 (sh77 j r) rfl (Nat.le_of_ble_eq_true rfl) fl_X12_323 (q_dm dm_X12_readsStep 169 rfl) ?_
    refine qr_if_le (tgt := 321) o (q_dm dm_X12_readsStep 170 rfl) (by decide) ?_ ?_
    · refine qr_iconst o (q_dm dm_X12_readsStep 176 rfl) ic_1 ?_
      exact qr_iret o rfl (by decide) (q_dm dm_X12_readsStep 177 rfl)
    · refine qr_aload_n o (q_dm dm_X12_readsStep 171 rfl) rfl ?_
      refine qr_callv_i (As := []) (S := []) o (a_X12_endsRound g k.2.1 n j r hj hr  m2) (Nat.le_of_ble_eq_true rfl) zv_X12_endsRound rfl cf_X12 (sh77 j r) ml_X12_329 (Nat.le_of_ble_eq_true rfl) (q_dm dm_X12_readsStep 172 rfl) (fun r3 m4 => ?_)
      refine qr_if_ne (tgt := 296) o (q_dm dm_X12_readsStep 173 rfl) (by decide) ?_ ?_
      · exact qr_loc (q_leS (q_leN (q_leN q_le0))) (hK296  m4)
      · refine qr_iconst o (q_dm dm_X12_readsStep 174 rfl) ic_0 ?_
        exact qr_iret o rfl (by decide) (q_dm dm_X12_readsStep 175 rfl)

def f_X12_readsStep_296 (n : Nat) : Nat → qM → qR
  | 0, _ => none
  | m + 1, M => b_X12_readsStep_296 n (f_X12_readsStep_296 n m)  M
theorem w_X12_readsStep_296 {g : qG} {k : qK} (n : Nat) (j r : Nat) (hj : q_isLaw j) (hr : q_isLaw r) (o : qOk g 2 zX12_readsStep k) : ∀ (m : Nat) (M : qM), qAE g k zX12_readsStep (qL j r) 296 [some (.inr (some 77)), none, none] [] (qL j r, M) (f_X12_readsStep_296 n m  M) := by
  intro m
  induction m with
  | zero =>
    intro  M
    exact qr_none
  | succ m ih =>
    intro  M
    exact wb_X12_readsStep_296 n j r hj hr o (f_X12_readsStep_296 n m) ih  M
def f_X12_readsStep_246 (n : Nat) (a1 a2 : Int32) (M : qM) : qR :=
  (if (M 77 35) = (40 : Int32) then qc (f_X12_wrongAt n (6 : Int32) a1 M) (fun r4 m5 => qb r4 (some (r4, m5))) else qg (M 77 35) 40 (qlm (mu M 98 (M 77 35).toNatClampNeg (M 77 12)) (fun m1 => qg (m1 77 35) 40 (qlm (mu m1 99 (m1 77 35).toNatClampNeg a2) (fun m2 => qlm (mu m2 77 35 ((m2 77 35) + (1 : Int32))) (fun m3 => f_X12_readsStep_296 n n  m3))))))
set_option maxRecDepth 4000 in
theorem w_X12_readsStep_246 {g : qG} {k : qK} (n : Nat) (j r : Nat) (hj : q_isLaw j) (hr : q_isLaw r) (o : qOk g 2 zX12_readsStep k) (a1 a2 : Int32) (M : qM) : qAE g k zX12_readsStep (qL j r) 246 [some (.inr (some 77)), some (.inl a1), some (.inl a2)] [] (qL j r, M) (f_X12_readsStep_246 n a1 a2 M) := by
  unfold f_X12_readsStep_246
  refine qr_aload_n o (q_dm dm_X12_readsStep 136 rfl) rfl ?_
  refine qr_getf (kf := 35) o cf_X12 (sh77 j r) rfl (Nat.le_of_ble_eq_true rfl) fl_X12_326 (q_dm dm_X12_readsStep 137 rfl) ?_
  refine qr_bipush o (q_dm dm_X12_readsStep 138 rfl) bi_40 ?_
  refine qr_icmp_ne (tgt := 263) o (q_dm dm_X12_readsStep 139 rfl) (by decide) ?_ ?_
  · refine qr_aload_n o (q_dm dm_X12_readsStep 145 rfl) rfl ?_
    refine qr_getr (kf := 31) o cf_X12 (sh77 j r) rfl (Nat.le_of_ble_eq_true rfl) fl_X12_71 (q_dm dm_X12_readsStep 146 rfl) ?_
    refine qr_aload_n o (q_dm dm_X12_readsStep 147 rfl) rfl ?_
    refine qr_getf (kf := 35) o cf_X12 (sh77 j r) rfl (Nat.le_of_ble_eq_true rfl) fl_X12_326 (q_dm dm_X12_readsStep 148 rfl) ?_
    refine qr_aload_n o (q_dm dm_X12_readsStep 149 rfl) rfl ?_
    refine qr_getf (kf := 12) o cf_X12 (sh77 j r) rfl (Nat.le_of_ble_eq_true rfl) fl_X12_185 (q_dm dm_X12_readsStep 150 rfl) ?_
    refine qr_iast o (sh98 j r) (q_dm dm_X12_readsStep 151 rfl) ?_
    refine qr_letm (fun m1 => ?_)
    refine qr_aload_n o (q_dm dm_X12_readsStep 152 rfl) rfl ?_
    refine qr_getr (kf := 32) o cf_X12 (sh77 j r) rfl (Nat.le_of_ble_eq_true rfl) fl_X12_74 (q_dm dm_X12_readsStep 153 rfl) ?_
    refine qr_aload_n o (q_dm dm_X12_readsStep 154 rfl) rfl ?_
    refine qr_getf (kf := 35) o cf_X12 (sh77 j r) rfl (Nat.le_of_ble_eq_true rfl) fl_X12_326 (q_dm dm_X12_readsStep 155 rfl) ?_
    refine qr_iload_n o (q_dm dm_X12_readsStep 156 rfl) rfl ?_
    refine qr_iast o (sh99 j r) (q_dm dm_X12_readsStep 157 rfl) ?_
    refine qr_letm (fun m2 => ?_)
    refine qr_aload_n o (q_dm dm_X12_readsStep 158 rfl) rfl ?_
    refine qr_aload_n o (q_dm dm_X12_readsStep 159 rfl) rfl ?_
    refine qr_getf (kf := 35) o cf_X12 (sh77 j r) rfl (Nat.le_of_ble_eq_true rfl) fl_X12_326 (q_dm dm_X12_readsStep 160 rfl) ?_
    refine qr_iconst o (q_dm dm_X12_readsStep 161 rfl) ic_1 ?_
    refine qr_iadd o (q_dm dm_X12_readsStep 162 rfl) ?_
    refine qr_putf (kf := 35) o cf_X12 (sh77 j r) rfl (Nat.le_of_ble_eq_true rfl) fl_X12_326 rfl (by decide +kernel) (q_dm dm_X12_readsStep 163 rfl) ?_
    refine qr_letm (fun m3 => ?_)
    exact qr_loc (q_leS (q_leN (q_leN q_le0))) (w_X12_readsStep_296 n j r hj hr o n  m3)
  · refine qr_aload_n o (q_dm dm_X12_readsStep 140 rfl) rfl ?_
    refine qr_bipush o (q_dm dm_X12_readsStep 141 rfl) bi_6 ?_
    refine qr_iload_n o (q_dm dm_X12_readsStep 142 rfl) rfl ?_
    refine qr_callv_i (As := [.inl (6 : Int32), .inl a1]) (S := []) o (a_X12_wrongAt g k.2.1 n j r hj hr (6 : Int32) a1 M) (Nat.le_of_ble_eq_true rfl) zv_X12_wrongAt rfl cf_X12 (sh77 j r) ml_X12_182 (Nat.le_of_ble_eq_true rfl) (q_dm dm_X12_readsStep 143 rfl) (fun r4 m5 => ?_)
    exact qr_zret o rfl (q_dm dm_X12_readsStep 144 rfl)

def f_X12_readsStep_157 (n : Nat) (a1 : Int32) (M : qM) : qR :=
  (if (M 77 12) < (12 : Int32) then qc (f_X12_here n  M) (fun r1 m2 => (if r1 = (38 : Int32) then qlm (mu m2 77 9 ((m2 77 9) + (1 : Int32))) (fun m3 => qc (f_X12_isDigit n  m3) (fun r4 m5 => (if r4 = (0 : Int32) then qc (f_X12_wrongAt n (1 : Int32) (m5 77 9) m5) (fun r12 m13 => qb r12 (some (r12, m13))) else qc (f_X12_here n  m5) (fun r6 m7 => ql (r6 - (48 : Int32)) (fun x8 => (if x8 < (8 : Int32) then qlm (mu m7 77 9 ((m7 77 9) + (1 : Int32))) (fun m9 => f_X12_readsStep_246 n a1 x8 m9) else qc (f_X12_wrongAt n (3 : Int32) (m7 77 9) m7) (fun r10 m11 => qb r10 (some (r10, m11))))))))) else f_X12_readsStep_246 n a1 (8 : Int32) m2)) else qc (f_X12_wrongAt n (3 : Int32) a1 M) (fun r14 m15 => qb r14 (some (r14, m15))))
set_option maxRecDepth 4000 in
theorem w_X12_readsStep_157 {g : qG} {k : qK} (n : Nat) (j r : Nat) (hj : q_isLaw j) (hr : q_isLaw r) (o : qOk g 2 zX12_readsStep k) (a1 : Int32) (M : qM) : qAE g k zX12_readsStep (qL j r) 157 [some (.inr (some 77)), some (.inl a1), none] [] (qL j r, M) (f_X12_readsStep_157 n a1 M) := by
  unfold f_X12_readsStep_157
  refine qr_aload_n o (q_dm dm_X12_readsStep 86 rfl) rfl ?_
  refine qr_getf (kf := 12) o cf_X12 (sh77 j r) rfl (Nat.le_of_ble_eq_true rfl) fl_X12_185 (q_dm dm_X12_readsStep 87 rfl) ?_
  refine qr_bipush o (q_dm dm_X12_readsStep 88 rfl) bi_12 ?_
  refine qr_icmp_lt (tgt := 173) o (q_dm dm_X12_readsStep 89 rfl) (by decide) ?_ ?_
  · refine qr_bipush o (q_dm dm_X12_readsStep 95 rfl) bi_8 ?_
    refine qs_istore_n (L' := [some (.inr (some 77)), some (.inl a1), some (.inl (8 : Int32))]) o (q_dm dm_X12_readsStep 96 rfl) (Nat.le_of_ble_eq_true rfl) rfl ?_
    refine qr_aload_n o (q_dm dm_X12_readsStep 97 rfl) rfl ?_
    refine qr_callv_i (As := []) (S := []) o (a_X12_here g k.2.1 n j r hj hr  M) (Nat.le_of_ble_eq_true rfl) zv_X12_here rfl cf_X12 (sh77 j r) ml_X12_175 (Nat.le_of_ble_eq_true rfl) (q_dm dm_X12_readsStep 98 rfl) (fun r1 m2 => ?_)
    refine qr_bipush o (q_dm dm_X12_readsStep 99 rfl) bi_38 ?_
    refine qr_icmp_ne (tgt := 246) o (q_dm dm_X12_readsStep 100 rfl) (by decide) ?_ ?_
    · exact qr_loc (q_leS (q_leS (q_leS q_le0))) (w_X12_readsStep_246 n j r hj hr o a1 (8 : Int32) m2)
    · refine qr_aload_n o (q_dm dm_X12_readsStep 101 rfl) rfl ?_
      refine qr_aload_n o (q_dm dm_X12_readsStep 102 rfl) rfl ?_
      refine qr_getf (kf := 9) o cf_X12 (sh77 j r) rfl (Nat.le_of_ble_eq_true rfl) fl_X12_169 (q_dm dm_X12_readsStep 103 rfl) ?_
      refine qr_iconst o (q_dm dm_X12_readsStep 104 rfl) ic_1 ?_
      refine qr_iadd o (q_dm dm_X12_readsStep 105 rfl) ?_
      refine qr_putf (kf := 9) o cf_X12 (sh77 j r) rfl (Nat.le_of_ble_eq_true rfl) fl_X12_169 rfl (by decide +kernel) (q_dm dm_X12_readsStep 106 rfl) ?_
      refine qr_letm (fun m3 => ?_)
      refine qr_aload_n o (q_dm dm_X12_readsStep 107 rfl) rfl ?_
      refine qr_callv_i (As := []) (S := []) o (a_X12_isDigit g k.2.1 n j r hj hr  m3) (Nat.le_of_ble_eq_true rfl) zv_X12_isDigit rfl cf_X12 (sh77 j r) ml_X12_188 (Nat.le_of_ble_eq_true rfl) (q_dm dm_X12_readsStep 108 rfl) (fun r4 m5 => ?_)
      refine qr_if_ne (tgt := 212) o (q_dm dm_X12_readsStep 109 rfl) (by decide) ?_ ?_
      · refine qr_aload_n o (q_dm dm_X12_readsStep 116 rfl) rfl ?_
        refine qr_callv_i (As := []) (S := []) o (a_X12_here g k.2.1 n j r hj hr  m5) (Nat.le_of_ble_eq_true rfl) zv_X12_here rfl cf_X12 (sh77 j r) ml_X12_175 (Nat.le_of_ble_eq_true rfl) (q_dm dm_X12_readsStep 117 rfl) (fun r6 m7 => ?_)
        refine qr_bipush o (q_dm dm_X12_readsStep 118 rfl) bi_48 ?_
        refine qr_isub o (q_dm dm_X12_readsStep 119 rfl) ?_
        refine qr_lt (fun x8 => ?_)
        refine qs_istore_n (L' := [some (.inr (some 77)), some (.inl a1), some (.inl x8)]) o (q_dm dm_X12_readsStep 120 rfl) (Nat.le_of_ble_eq_true rfl) rfl ?_
        refine qr_iload_n o (q_dm dm_X12_readsStep 121 rfl) rfl ?_
        refine qr_bipush o (q_dm dm_X12_readsStep 122 rfl) bi_8 ?_
        refine qr_icmp_lt (tgt := 236) o (q_dm dm_X12_readsStep 123 rfl) (by decide) ?_ ?_
        · refine qr_aload_n o (q_dm dm_X12_readsStep 130 rfl) rfl ?_
          refine qr_aload_n o (q_dm dm_X12_readsStep 131 rfl) rfl ?_
          refine qr_getf (kf := 9) o cf_X12 (sh77 j r) rfl (Nat.le_of_ble_eq_true rfl) fl_X12_169 (q_dm dm_X12_readsStep 132 rfl) ?_
          refine qr_iconst o (q_dm dm_X12_readsStep 133 rfl) ic_1 ?_
          refine qr_iadd o (q_dm dm_X12_readsStep 134 rfl) ?_
          refine qr_putf (kf := 9) o cf_X12 (sh77 j r) rfl (Nat.le_of_ble_eq_true rfl) fl_X12_169 rfl (by decide +kernel) (q_dm dm_X12_readsStep 135 rfl) ?_
          refine qr_letm (fun m9 => ?_)
          exact qr_loc (q_leS (q_leS (q_leS q_le0))) (w_X12_readsStep_246 n j r hj hr o a1 x8 m9)
        · refine qr_aload_n o (q_dm dm_X12_readsStep 124 rfl) rfl ?_
          refine qr_iconst o (q_dm dm_X12_readsStep 125 rfl) ic_3 ?_
          refine qr_aload_n o (q_dm dm_X12_readsStep 126 rfl) rfl ?_
          refine qr_getf (kf := 9) o cf_X12 (sh77 j r) rfl (Nat.le_of_ble_eq_true rfl) fl_X12_169 (q_dm dm_X12_readsStep 127 rfl) ?_
          refine qr_callv_i (As := [.inl (3 : Int32), .inl (m7 77 9)]) (S := []) o (a_X12_wrongAt g k.2.1 n j r hj hr (3 : Int32) (m7 77 9) m7) (Nat.le_of_ble_eq_true rfl) zv_X12_wrongAt rfl cf_X12 (sh77 j r) ml_X12_182 (Nat.le_of_ble_eq_true rfl) (q_dm dm_X12_readsStep 128 rfl) (fun r10 m11 => ?_)
          exact qr_zret o rfl (q_dm dm_X12_readsStep 129 rfl)
      · refine qr_aload_n o (q_dm dm_X12_readsStep 110 rfl) rfl ?_
        refine qr_iconst o (q_dm dm_X12_readsStep 111 rfl) ic_1 ?_
        refine qr_aload_n o (q_dm dm_X12_readsStep 112 rfl) rfl ?_
        refine qr_getf (kf := 9) o cf_X12 (sh77 j r) rfl (Nat.le_of_ble_eq_true rfl) fl_X12_169 (q_dm dm_X12_readsStep 113 rfl) ?_
        refine qr_callv_i (As := [.inl (1 : Int32), .inl (m5 77 9)]) (S := []) o (a_X12_wrongAt g k.2.1 n j r hj hr (1 : Int32) (m5 77 9) m5) (Nat.le_of_ble_eq_true rfl) zv_X12_wrongAt rfl cf_X12 (sh77 j r) ml_X12_182 (Nat.le_of_ble_eq_true rfl) (q_dm dm_X12_readsStep 114 rfl) (fun r12 m13 => ?_)
        exact qr_zret o rfl (q_dm dm_X12_readsStep 115 rfl)
  · refine qr_aload_n o (q_dm dm_X12_readsStep 90 rfl) rfl ?_
    refine qr_iconst o (q_dm dm_X12_readsStep 91 rfl) ic_3 ?_
    refine qr_iload_n o (q_dm dm_X12_readsStep 92 rfl) rfl ?_
    refine qr_callv_i (As := [.inl (3 : Int32), .inl a1]) (S := []) o (a_X12_wrongAt g k.2.1 n j r hj hr (3 : Int32) a1 M) (Nat.le_of_ble_eq_true rfl) zv_X12_wrongAt rfl cf_X12 (sh77 j r) ml_X12_182 (Nat.le_of_ble_eq_true rfl) (q_dm dm_X12_readsStep 93 rfl) (fun r14 m15 => ?_)
    exact qr_zret o rfl (q_dm dm_X12_readsStep 94 rfl)

def b_X12_readsStep_108 (n : Nat) (K108 : Int32 → qM → qR) (a1 : Int32) (M : qM) : qR :=
  qc (f_X12_isDigit n  M) (fun r1 m2 => (if r1 = (0 : Int32) then f_X12_readsStep_157 n a1 m2 else (if (a1 + (2 : Int32)) ≤ (m2 77 9) then f_X12_readsStep_157 n a1 m2 else qc (f_X12_here n  m2) (fun r3 m4 => qlm (mu m4 77 12 ((((10 : Int32) * (m2 77 12)) + r3) - (48 : Int32))) (fun m5 => qlm (mu m5 77 9 ((m5 77 9) + (1 : Int32))) (fun m6 => K108 a1 m6))))))
set_option maxRecDepth 4000 in
theorem wb_X12_readsStep_108 {g : qG} {k : qK} (n : Nat) (j r : Nat) (hj : q_isLaw j) (hr : q_isLaw r) (o : qOk g 2 zX12_readsStep k) (K108 : Int32 → qM → qR) (hK108 : ∀ (a1 : Int32) (M : qM), qAE g k zX12_readsStep (qL j r) 108 [some (.inr (some 77)), some (.inl a1), none] [] (qL j r, M) (K108 a1 M)) (a1 : Int32) (M : qM) : qAE g k zX12_readsStep (qL j r) 108 [some (.inr (some 77)), some (.inl a1), none] [] (qL j r, M) (b_X12_readsStep_108 n K108 a1 M) := by
  unfold b_X12_readsStep_108
  refine qr_aload_n o (q_dm dm_X12_readsStep 59 rfl) rfl ?_
  refine qr_callv_i (As := []) (S := []) o (a_X12_isDigit g k.2.1 n j r hj hr  M) (Nat.le_of_ble_eq_true rfl) zv_X12_isDigit rfl cf_X12 (sh77 j r) ml_X12_188 (Nat.le_of_ble_eq_true rfl) (q_dm dm_X12_readsStep 60 rfl) (fun r1 m2 => ?_)
  refine qr_if_eq (tgt := 157) o (q_dm dm_X12_readsStep 61 rfl) (by decide) ?_ ?_
  · exact qr_loc (q_leS (q_leS (q_leN q_le0))) (w_X12_readsStep_157 n j r hj hr o a1 m2)
  · refine qr_aload_n o (q_dm dm_X12_readsStep 62 rfl) rfl ?_
    refine qr_getf (kf := 9) o cf_X12 (sh77 j r) rfl (Nat.le_of_ble_eq_true rfl) fl_X12_169 (q_dm dm_X12_readsStep 63 rfl) ?_
    refine qr_iload_n o (q_dm dm_X12_readsStep 64 rfl) rfl ?_
    refine qr_iconst o (q_dm dm_X12_readsStep 65 rfl) ic_2 ?_
    refine qr_iadd o (q_dm dm_X12_readsStep 66 rfl) ?_
    refine qr_icmp_ge (tgt := 157) o (q_dm dm_X12_readsStep 67 rfl) (by decide) ?_ ?_
    · exact qr_loc (q_leS (q_leS (q_leN q_le0))) (w_X12_readsStep_157 n j r hj hr o a1 m2)
    · refine qr_aload_n o (q_dm dm_X12_readsStep 68 rfl) rfl ?_
      refine qr_bipush o (q_dm dm_X12_readsStep 69 rfl) bi_10 ?_
      refine qr_aload_n o (q_dm dm_X12_readsStep 70 rfl) rfl ?_
      refine qr_getf (kf := 12) o cf_X12 (sh77 j r) rfl (Nat.le_of_ble_eq_true rfl) fl_X12_185 (q_dm dm_X12_readsStep 71 rfl) ?_
      refine qr_imul o (q_dm dm_X12_readsStep 72 rfl) ?_
      refine qr_aload_n o (q_dm dm_X12_readsStep 73 rfl) rfl ?_
      refine qr_callv_i (As := []) (S := [.inl ((10 : Int32) * (m2 77 12)), .inr (some 77)]) o (a_X12_here g k.2.1 n j r hj hr  m2) (Nat.le_of_ble_eq_true rfl) zv_X12_here rfl cf_X12 (sh77 j r) ml_X12_175 (Nat.le_of_ble_eq_true rfl) (q_dm dm_X12_readsStep 74 rfl) (fun r3 m4 => ?_)
      refine qr_iadd o (q_dm dm_X12_readsStep 75 rfl) ?_
      refine qr_bipush o (q_dm dm_X12_readsStep 76 rfl) bi_48 ?_
      refine qr_isub o (q_dm dm_X12_readsStep 77 rfl) ?_
      refine qr_putf (kf := 12) o cf_X12 (sh77 j r) rfl (Nat.le_of_ble_eq_true rfl) fl_X12_185 rfl (by decide +kernel) (q_dm dm_X12_readsStep 78 rfl) ?_
      refine qr_letm (fun m5 => ?_)
      refine qr_aload_n o (q_dm dm_X12_readsStep 79 rfl) rfl ?_
      refine qr_aload_n o (q_dm dm_X12_readsStep 80 rfl) rfl ?_
      refine qr_getf (kf := 9) o cf_X12 (sh77 j r) rfl (Nat.le_of_ble_eq_true rfl) fl_X12_169 (q_dm dm_X12_readsStep 81 rfl) ?_
      refine qr_iconst o (q_dm dm_X12_readsStep 82 rfl) ic_1 ?_
      refine qr_iadd o (q_dm dm_X12_readsStep 83 rfl) ?_
      refine qr_putf (kf := 9) o cf_X12 (sh77 j r) rfl (Nat.le_of_ble_eq_true rfl) fl_X12_169 rfl (by decide +kernel) (q_dm dm_X12_readsStep 84 rfl) ?_
      refine qr_letm (fun m6 => ?_)
      refine qr_goto (tgt := 108) o (q_dm dm_X12_readsStep 85 rfl) (by decide) ?_
      exact qr_loc (q_leS (q_leS (q_leN q_le0))) (hK108 a1 m6)

def f_X12_readsStep_108 (n : Nat) : Nat → Int32 → qM → qR
  | 0, _, _ => none
  | m + 1, a1, M => b_X12_readsStep_108 n (f_X12_readsStep_108 n m) a1 M
theorem w_X12_readsStep_108 {g : qG} {k : qK} (n : Nat) (j r : Nat) (hj : q_isLaw j) (hr : q_isLaw r) (o : qOk g 2 zX12_readsStep k) : ∀ (m : Nat) (a1 : Int32) (M : qM), qAE g k zX12_readsStep (qL j r) 108 [some (.inr (some 77)), some (.inl a1), none] [] (qL j r, M) (f_X12_readsStep_108 n m a1 M) := by
  intro m
  induction m with
  | zero =>
    intro a1 M
    exact qr_none
  | succ m ih =>
    intro a1 M
    exact wb_X12_readsStep_108 n j r hj hr o (f_X12_readsStep_108 n m) ih a1 M
def b_X12_readsStep_5 (n : Nat) (K5 : Int32 → qM → qR) (a1 : Int32) (M : qM) : qR :=
  qc (f_X12_here n  M) (fun r1 m2 => (if r1 = (40 : Int32) then (if (m2 77 36) = (3 : Int32) then qc (f_X12_wrongAt n (5 : Int32) (m2 77 9) m2) (fun r13 m14 => qb r13 (some (r13, m14))) else qg (m2 77 36) 3 (qlm (mu m2 100 (m2 77 36).toNatClampNeg (m2 77 9)) (fun m8 => qg (m8 77 36) 3 (qlm (mu m8 101 (m8 77 36).toNatClampNeg (m8 77 35)) (fun m9 => qlm (mu m9 77 36 ((m9 77 36) + (1 : Int32))) (fun m10 => qlm (mu m10 77 9 ((m10 77 9) + (1 : Int32))) (fun m11 => ql (m11 77 9) (fun x12 => K5 x12 m11)))))))) else qc (f_X12_isDigit n  m2) (fun r3 m4 => (if r3 = (0 : Int32) then qc (f_X12_wrongAt n (1 : Int32) (m4 77 9) m4) (fun r6 m7 => qb r6 (some (r6, m7))) else qlm (mu m4 77 12 (0 : Int32)) (fun m5 => f_X12_readsStep_108 n n a1 m5)))))
set_option maxRecDepth 4000 in
theorem wb_X12_readsStep_5 {g : qG} {k : qK} (n : Nat) (j r : Nat) (hj : q_isLaw j) (hr : q_isLaw r) (o : qOk g 2 zX12_readsStep k) (K5 : Int32 → qM → qR) (hK5 : ∀ (a1 : Int32) (M : qM), qAE g k zX12_readsStep (qL j r) 5 [some (.inr (some 77)), some (.inl a1), none] [] (qL j r, M) (K5 a1 M)) (a1 : Int32) (M : qM) : qAE g k zX12_readsStep (qL j r) 5 [some (.inr (some 77)), some (.inl a1), none] [] (qL j r, M) (b_X12_readsStep_5 n K5 a1 M) := by
  unfold b_X12_readsStep_5
  refine qr_aload_n o (q_dm dm_X12_readsStep 3 rfl) rfl ?_
  refine qr_callv_i (As := []) (S := []) o (a_X12_here g k.2.1 n j r hj hr  M) (Nat.le_of_ble_eq_true rfl) zv_X12_here rfl cf_X12 (sh77 j r) ml_X12_175 (Nat.le_of_ble_eq_true rfl) (q_dm dm_X12_readsStep 4 rfl) (fun r1 m2 => ?_)
  refine qr_bipush o (q_dm dm_X12_readsStep 5 rfl) bi_40 ?_
  refine qr_icmp_ne (tgt := 86) o (q_dm dm_X12_readsStep 6 rfl) (by decide) ?_ ?_
  · refine qr_aload_n o (q_dm dm_X12_readsStep 47 rfl) rfl ?_
    refine qr_callv_i (As := []) (S := []) o (a_X12_isDigit g k.2.1 n j r hj hr  m2) (Nat.le_of_ble_eq_true rfl) zv_X12_isDigit rfl cf_X12 (sh77 j r) ml_X12_188 (Nat.le_of_ble_eq_true rfl) (q_dm dm_X12_readsStep 48 rfl) (fun r3 m4 => ?_)
    refine qr_if_ne (tgt := 103) o (q_dm dm_X12_readsStep 49 rfl) (by decide) ?_ ?_
    · refine qr_aload_n o (q_dm dm_X12_readsStep 56 rfl) rfl ?_
      refine qr_iconst o (q_dm dm_X12_readsStep 57 rfl) ic_0 ?_
      refine qr_putf (kf := 12) o cf_X12 (sh77 j r) rfl (Nat.le_of_ble_eq_true rfl) fl_X12_185 rfl (by decide +kernel) (q_dm dm_X12_readsStep 58 rfl) ?_
      refine qr_letm (fun m5 => ?_)
      exact qr_loc (q_leS (q_leS (q_leN q_le0))) (w_X12_readsStep_108 n j r hj hr o n a1 m5)
    · refine qr_aload_n o (q_dm dm_X12_readsStep 50 rfl) rfl ?_
      refine qr_iconst o (q_dm dm_X12_readsStep 51 rfl) ic_1 ?_
      refine qr_aload_n o (q_dm dm_X12_readsStep 52 rfl) rfl ?_
      refine qr_getf (kf := 9) o cf_X12 (sh77 j r) rfl (Nat.le_of_ble_eq_true rfl) fl_X12_169 (q_dm dm_X12_readsStep 53 rfl) ?_
      refine qr_callv_i (As := [.inl (1 : Int32), .inl (m4 77 9)]) (S := []) o (a_X12_wrongAt g k.2.1 n j r hj hr (1 : Int32) (m4 77 9) m4) (Nat.le_of_ble_eq_true rfl) zv_X12_wrongAt rfl cf_X12 (sh77 j r) ml_X12_182 (Nat.le_of_ble_eq_true rfl) (q_dm dm_X12_readsStep 54 rfl) (fun r6 m7 => ?_)
      exact qr_zret o rfl (q_dm dm_X12_readsStep 55 rfl)
  · refine qr_aload_n o (q_dm dm_X12_readsStep 7 rfl) rfl ?_
    refine qr_getf (kf := 36) o cf_X12 (sh77 j r) rfl (Nat.le_of_ble_eq_true rfl) fl_X12_323 (q_dm dm_X12_readsStep 8 rfl) ?_
    refine qr_iconst o (q_dm dm_X12_readsStep 9 rfl) ic_3 ?_
    refine qr_icmp_ne (tgt := 32) o (q_dm dm_X12_readsStep 10 rfl) (by decide) ?_ ?_
    · refine qr_aload_n o (q_dm dm_X12_readsStep 17 rfl) rfl ?_
      refine qr_getr (kf := 33) o cf_X12 (sh77 j r) rfl (Nat.le_of_ble_eq_true rfl) fl_X12_77 (q_dm dm_X12_readsStep 18 rfl) ?_
      refine qr_aload_n o (q_dm dm_X12_readsStep 19 rfl) rfl ?_
      refine qr_getf (kf := 36) o cf_X12 (sh77 j r) rfl (Nat.le_of_ble_eq_true rfl) fl_X12_323 (q_dm dm_X12_readsStep 20 rfl) ?_
      refine qr_aload_n o (q_dm dm_X12_readsStep 21 rfl) rfl ?_
      refine qr_getf (kf := 9) o cf_X12 (sh77 j r) rfl (Nat.le_of_ble_eq_true rfl) fl_X12_169 (q_dm dm_X12_readsStep 22 rfl) ?_
      refine qr_iast o (sh100 j r) (q_dm dm_X12_readsStep 23 rfl) ?_
      refine qr_letm (fun m8 => ?_)
      refine qr_aload_n o (q_dm dm_X12_readsStep 24 rfl) rfl ?_
      refine qr_getr (kf := 34) o cf_X12 (sh77 j r) rfl (Nat.le_of_ble_eq_true rfl) fl_X12_80 (q_dm dm_X12_readsStep 25 rfl) ?_
      refine qr_aload_n o (q_dm dm_X12_readsStep 26 rfl) rfl ?_
      refine qr_getf (kf := 36) o cf_X12 (sh77 j r) rfl (Nat.le_of_ble_eq_true rfl) fl_X12_323 (q_dm dm_X12_readsStep 27 rfl) ?_
      refine qr_aload_n o (q_dm dm_X12_readsStep 28 rfl) rfl ?_
      refine qr_getf (kf := 35) o cf_X12 (sh77 j r) rfl (Nat.le_of_ble_eq_true rfl) fl_X12_326 (q_dm dm_X12_readsStep 29 rfl) ?_
      refine qr_iast o (sh101 j r) (q_dm dm_X12_readsStep 30 rfl) ?_
      refine qr_letm (fun m9 => ?_)
      refine qr_aload_n o (q_dm dm_X12_readsStep 31 rfl) rfl ?_
      refine qr_aload_n o (q_dm dm_X12_readsStep 32 rfl) rfl ?_
      refine qr_getf (kf := 36) o cf_X12 (sh77 j r) rfl (Nat.le_of_ble_eq_true rfl) fl_X12_323 (q_dm dm_X12_readsStep 33 rfl) ?_
      refine qr_iconst o (q_dm dm_X12_readsStep 34 rfl) ic_1 ?_
      refine qr_iadd o (q_dm dm_X12_readsStep 35 rfl) ?_
      refine qr_putf (kf := 36) o cf_X12 (sh77 j r) rfl (Nat.le_of_ble_eq_true rfl) fl_X12_323 rfl (by decide +kernel) (q_dm dm_X12_readsStep 36 rfl) ?_
      refine qr_letm (fun m10 => ?_)
      refine qr_aload_n o (q_dm dm_X12_readsStep 37 rfl) rfl ?_
      refine qr_aload_n o (q_dm dm_X12_readsStep 38 rfl) rfl ?_
      refine qr_getf (kf := 9) o cf_X12 (sh77 j r) rfl (Nat.le_of_ble_eq_true rfl) fl_X12_169 (q_dm dm_X12_readsStep 39 rfl) ?_
      refine qr_iconst o (q_dm dm_X12_readsStep 40 rfl) ic_1 ?_
      refine qr_iadd o (q_dm dm_X12_readsStep 41 rfl) ?_
      refine qr_putf (kf := 9) o cf_X12 (sh77 j r) rfl (Nat.le_of_ble_eq_true rfl) fl_X12_169 rfl (by decide +kernel) (q_dm dm_X12_readsStep 42 rfl) ?_
      refine qr_letm (fun m11 => ?_)
      refine qr_aload_n o (q_dm dm_X12_readsStep 43 rfl) rfl ?_
      refine qr_getf (kf := 9) o cf_X12 (sh77 j r) rfl (Nat.le_of_ble_eq_true rfl) fl_X12_169 (q_dm dm_X12_readsStep 44 rfl) ?_
      refine qr_lt (fun x12 => ?_)
      refine qs_istore_n (L' := [some (.inr (some 77)), some (.inl x12), none]) o (q_dm dm_X12_readsStep 45 rfl) (Nat.le_of_ble_eq_true rfl) rfl ?_
      refine qr_goto (tgt := 5) o (q_dm dm_X12_readsStep 46 rfl) (by decide) ?_
      exact qr_loc (q_leS (q_leS (q_leN q_le0))) (hK5 x12 m11)
    · refine qr_aload_n o (q_dm dm_X12_readsStep 11 rfl) rfl ?_
      refine qr_iconst o (q_dm dm_X12_readsStep 12 rfl) ic_5 ?_
      refine qr_aload_n o (q_dm dm_X12_readsStep 13 rfl) rfl ?_
      refine qr_getf (kf := 9) o cf_X12 (sh77 j r) rfl (Nat.le_of_ble_eq_true rfl) fl_X12_169 (q_dm dm_X12_readsStep 14 rfl) ?_
      refine qr_callv_i (As := [.inl (5 : Int32), .inl (m2 77 9)]) (S := []) o (a_X12_wrongAt g k.2.1 n j r hj hr (5 : Int32) (m2 77 9) m2) (Nat.le_of_ble_eq_true rfl) zv_X12_wrongAt rfl cf_X12 (sh77 j r) ml_X12_182 (Nat.le_of_ble_eq_true rfl) (q_dm dm_X12_readsStep 15 rfl) (fun r13 m14 => ?_)
      exact qr_zret o rfl (q_dm dm_X12_readsStep 16 rfl)

def f_X12_readsStep_5 (n : Nat) : Nat → Int32 → qM → qR
  | 0, _, _ => none
  | m + 1, a1, M => b_X12_readsStep_5 n (f_X12_readsStep_5 n m) a1 M
theorem w_X12_readsStep_5 {g : qG} {k : qK} (n : Nat) (j r : Nat) (hj : q_isLaw j) (hr : q_isLaw r) (o : qOk g 2 zX12_readsStep k) : ∀ (m : Nat) (a1 : Int32) (M : qM), qAE g k zX12_readsStep (qL j r) 5 [some (.inr (some 77)), some (.inl a1), none] [] (qL j r, M) (f_X12_readsStep_5 n m a1 M) := by
  intro m
  induction m with
  | zero =>
    intro a1 M
    exact qr_none
  | succ m ih =>
    intro a1 M
    exact wb_X12_readsStep_5 n j r hj hr o (f_X12_readsStep_5 n m) ih a1 M
def f_X12_readsStep (n : Nat) (M : qM) : qR :=
  ql (M 77 9) (fun x1 => f_X12_readsStep_5 n n x1 M)
set_option maxRecDepth 4000 in
theorem w_X12_readsStep {g : qG} {k : qK} (n : Nat) (j r : Nat) (hj : q_isLaw j) (hr : q_isLaw r) (o : qOk g 2 zX12_readsStep k) (M : qM) : qAE g k zX12_readsStep (qL j r) 0 [some (.inr (some 77)), none, none] [] (qL j r, M) (f_X12_readsStep n  M) := by
  unfold f_X12_readsStep
  refine qr_aload_n o (q_dm dm_X12_readsStep 0 rfl) rfl ?_
  refine qr_getf (kf := 9) o cf_X12 (sh77 j r) rfl (Nat.le_of_ble_eq_true rfl) fl_X12_169 (q_dm dm_X12_readsStep 1 rfl) ?_
  refine qr_lt (fun x1 => ?_)
  refine qs_istore_n (L' := [some (.inr (some 77)), some (.inl x1), none]) o (q_dm dm_X12_readsStep 2 rfl) (Nat.le_of_ble_eq_true rfl) rfl ?_
  exact qr_loc (q_leS (q_leS (q_leN q_le0))) (w_X12_readsStep_5 n j r hj hr o n x1 M)

theorem a_X12_readsStep (g : qG) (l : Launch) (n : Nat) (j r : Nat) (hj : q_isLaw j) (hr : q_isLaw r) (M : qM) : qAM g l 2 zX12_readsStep (qL j r) [.inr (some 77)] (qL j r, M) (f_X12_readsStep n  M) :=
  qAM.of zv_X12_readsStep.1 (by show 1 ≤ 3; decide) (fun k hk o => w_X12_readsStep n j r hj hr o  M)

def tb_X12_plan : List (Nat × Instr × Nat) := [(0, (.aload_n 0, 1)), (1, (.iload_n 1, 1)), (2, (.invokevirtual 310, 3)), (5, (.ifCond .eq 21, 3)), (8, (.iload_n 2, 1)), (9, (.iconst 1, 1)), (10, (.bipush 80, 2)), (12, (.invokestatic 153, 3)), (15, (.ifCond .eq 11, 3)), (18, (.iload_n 2, 1)), (19, (.aload_n 0, 1)), (20, (.getfield 162, 3)), (23, (.if_icmp .le 5, 3)), (26, (.iconst (-1), 1)), (27, (.ireturn, 1)), (28, (.aload_n 0, 1)), (29, (.iconst 0, 1)), (30, (.putfield 169, 3)), (33, (.aload_n 0, 1)), (34, (.iload_n 2, 1)), (35, (.putfield 172, 3)), (38, (.aload_n 0, 1)), (39, (.iconst 0, 1)), (40, (.putfield 326, 3)), (43, (.aload_n 0, 1)), (44, (.iconst 0, 1)), (45, (.putfield 323, 3)), (48, (.aload_n 0, 1)), (49, (.invokevirtual 332, 3)), (52, (.istore_n 3, 1)), (53, (.iload_n 3, 1)), (54, (.ifCond .eq 46, 3)), (57, (.aload_n 0, 1)), (58, (.getfield 169, 3)), (61, (.aload_n 0, 1)), (62, (.getfield 172, 3)), (65, (.if_icmp .lt 10, 3)), (68, (.aload_n 0, 1)), (69, (.getfield 323, 3)), (72, (.ifCond .le 28, 3)), (75, (.aload_n 0, 1)), (76, (.bipush 44, 2)), (78, (.invokevirtual 259, 3)), (81, (.ifCond .eq 14, 3)), (84, (.aload_n 0, 1)), (85, (.invokevirtual 332, 3)), (88, (.ifCond .eq 7, 3)), (91, (.iconst 1, 1)), (92, (.goto 4, 3)), (95, (.iconst 0, 1)), (96, (.istore_n 3, 1)), (97, (.goto (-44), 3)), (100, (.aload_n 0, 1)), (101, (.iconst 0, 1)), (102, (.putfield 162, 3)), (105, (.iload_n 3, 1)), (106, (.ifCond .ne 8, 3)), (109, (.aload_n 0, 1)), (110, (.getfield 179, 3)), (113, (.ireturn, 1)), (114, (.aload_n 0, 1)), (115, (.getfield 7, 3)), (118, (.sipush 296, 3)), (121, (.iload_n 1, 1)), (122, (.iadd, 1)), (123, (.aload_n 0, 1)), (124, (.getfield 326, 3)), (127, (.iastore, 1)), (128, (.aload_n 0, 1)), (129, (.getfield 7, 3)), (132, (.sipush 304, 3)), (135, (.iload_n 1, 1)), (136, (.iadd, 1)), (137, (.iconst 0, 1)), (138, (.iastore, 1)), (139, (.iconst 0, 1)), (140, (.istore 4, 2)), (142, (.iload 4, 2)), (144, (.aload_n 0, 1)), (145, (.getfield 326, 3)), (148, (.if_icmp .ge 55, 3)), (151, (.aload_n 0, 1)), (152, (.getfield 7, 3)), (155, (.sipush 314, 3)), (158, (.bipush 40, 2)), (160, (.iload_n 1, 1)), (161, (.imul, 1)), (162, (.iadd, 1)), (163, (.iload 4, 2)), (165, (.iadd, 1)), (166, (.aload_n 0, 1)), (167, (.getfield 71, 3)), (170, (.iload 4, 2)), (172, (.iaload, 1)), (173, (.iastore, 1)), (174, (.aload_n 0, 1)), (175, (.getfield 7, 3)), (178, (.sipush 634, 3)), (181, (.bipush 40, 2)), (183, (.iload_n 1, 1)), (184, (.imul, 1)), (185, (.iadd, 1)), (186, (.iload 4, 2)), (188, (.iadd, 1)), (189, (.aload_n 0, 1)), (190, (.getfield 74, 3)), (193, (.iload 4, 2)), (195, (.iaload, 1)), (196, (.iastore, 1)), (197, (.iinc 4 1, 3)), (200, (.goto (-58), 3)), (203, (.aload_n 0, 1)), (204, (.getfield 326, 3)), (207, (.ireturn, 1))]
theorem dm_X12_plan : ∀ q ∈ tb_X12_plan, decode zX12_plan.2.1 q.1 = .ok q.2 := by decide +kernel
def b_X12_plan_142 (n : Nat) (K142 : Int32 → Int32 → qM → qR) (a1 a4 : Int32) (M : qM) : qR :=
  (if (M 77 35) ≤ a4 then some ((M 77 35), M) else qg a4 40 (qg (((314 : Int32) + ((40 : Int32) * a1)) + a4) 954 (qlm (mu M 78 (((314 : Int32) + ((40 : Int32) * a1)) + a4).toNatClampNeg (M 98 a4.toNatClampNeg)) (fun m1 => qg a4 40 (qg (((634 : Int32) + ((40 : Int32) * a1)) + a4) 954 (qlm (mu m1 78 (((634 : Int32) + ((40 : Int32) * a1)) + a4).toNatClampNeg (m1 99 a4.toNatClampNeg)) (fun m2 => ql (a4 + (1 : Int32)) (fun x3 => K142 a1 x3 m2))))))))
set_option maxRecDepth 4000 in
theorem wb_X12_plan_142 {g : qG} {k : qK} (n : Nat) (j r : Nat) (hj : q_isLaw j) (hr : q_isLaw r) (o : qOk g 3 zX12_plan k) (K142 : Int32 → Int32 → qM → qR) (hK142 : ∀ (a1 a4 : Int32) (M : qM), qAE g k zX12_plan (qL j r) 142 [some (.inr (some 77)), some (.inl a1), none, none, some (.inl a4)] [] (qL j r, M) (K142 a1 a4 M)) (a1 a4 : Int32) (M : qM) : qAE g k zX12_plan (qL j r) 142 [some (.inr (some 77)), some (.inl a1), none, none, some (.inl a4)] [] (qL j r, M) (b_X12_plan_142 n K142 a1 a4 M) := by
  unfold b_X12_plan_142
  refine qr_iload o (q_dm dm_X12_plan 77 rfl) rfl ?_
  refine qr_aload_n o (q_dm dm_X12_plan 78 rfl) rfl ?_
  refine qr_getf (kf := 35) o cf_X12 (sh77 j r) rfl (Nat.le_of_ble_eq_true rfl) fl_X12_326 (q_dm dm_X12_plan 79 rfl) ?_
  refine qr_icmp_ge (tgt := 203) o (q_dm dm_X12_plan 80 rfl) (by decide) ?_ ?_
  · refine qr_aload_n o (q_dm dm_X12_plan 111 rfl) rfl ?_
    refine qr_getf (kf := 35) o cf_X12 (sh77 j r) rfl (Nat.le_of_ble_eq_true rfl) fl_X12_326 (q_dm dm_X12_plan 112 rfl) ?_
    exact qr_iret o rfl rfl (q_dm dm_X12_plan 113 rfl)
  · refine qr_aload_n o (q_dm dm_X12_plan 81 rfl) rfl ?_
    refine qr_getr (kf := 0) o cf_X12 (sh77 j r) rfl (Nat.le_of_ble_eq_true rfl) fl_X12_7 (q_dm dm_X12_plan 82 rfl) ?_
    refine qr_sipush o (q_dm dm_X12_plan 83 rfl) si_314 ?_
    refine qr_bipush o (q_dm dm_X12_plan 84 rfl) bi_40 ?_
    refine qr_iload_n o (q_dm dm_X12_plan 85 rfl) rfl ?_
    refine qr_imul o (q_dm dm_X12_plan 86 rfl) ?_
    refine qr_iadd o (q_dm dm_X12_plan 87 rfl) ?_
    refine qr_iload o (q_dm dm_X12_plan 88 rfl) rfl ?_
    refine qr_iadd o (q_dm dm_X12_plan 89 rfl) ?_
    refine qr_aload_n o (q_dm dm_X12_plan 90 rfl) rfl ?_
    refine qr_getr (kf := 31) o cf_X12 (sh77 j r) rfl (Nat.le_of_ble_eq_true rfl) fl_X12_71 (q_dm dm_X12_plan 91 rfl) ?_
    refine qr_iload o (q_dm dm_X12_plan 92 rfl) rfl ?_
    refine qr_iald o (sh98 j r) (q_dm dm_X12_plan 93 rfl) ?_
    refine qr_iast o (sh78 j r) (q_dm dm_X12_plan 94 rfl) ?_
    refine qr_letm (fun m1 => ?_)
    refine qr_aload_n o (q_dm dm_X12_plan 95 rfl) rfl ?_
    refine qr_getr (kf := 0) o cf_X12 (sh77 j r) rfl (Nat.le_of_ble_eq_true rfl) fl_X12_7 (q_dm dm_X12_plan 96 rfl) ?_
    refine qr_sipush o (q_dm dm_X12_plan 97 rfl) si_634 ?_
    refine qr_bipush o (q_dm dm_X12_plan 98 rfl) bi_40 ?_
    refine qr_iload_n o (q_dm dm_X12_plan 99 rfl) rfl ?_
    refine qr_imul o (q_dm dm_X12_plan 100 rfl) ?_
    refine qr_iadd o (q_dm dm_X12_plan 101 rfl) ?_
    refine qr_iload o (q_dm dm_X12_plan 102 rfl) rfl ?_
    refine qr_iadd o (q_dm dm_X12_plan 103 rfl) ?_
    refine qr_aload_n o (q_dm dm_X12_plan 104 rfl) rfl ?_
    refine qr_getr (kf := 32) o cf_X12 (sh77 j r) rfl (Nat.le_of_ble_eq_true rfl) fl_X12_74 (q_dm dm_X12_plan 105 rfl) ?_
    refine qr_iload o (q_dm dm_X12_plan 106 rfl) rfl ?_
    refine qr_iald o (sh99 j r) (q_dm dm_X12_plan 107 rfl) ?_
    refine qr_iast o (sh78 j r) (q_dm dm_X12_plan 108 rfl) ?_
    refine qr_letm (fun m2 => ?_)
    refine qs_iincl2 (L' := fun x3 => [some (.inr (some 77)), some (.inl a1), none, none, some (.inl x3)]) o (q_dm dm_X12_plan 109 rfl) rfl ic_1 (Nat.le_of_ble_eq_true rfl) (fun _ => rfl) (fun x3 => ?_)
    refine qr_goto (tgt := 142) o (q_dm dm_X12_plan 110 rfl) (by decide) ?_
    exact qr_loc (q_leS (q_leS (q_leN (q_leN (q_leS q_le0))))) (hK142 a1 x3 m2)

def f_X12_plan_142 (n : Nat) : Nat → Int32 → Int32 → qM → qR
  | 0, _, _, _ => none
  | m + 1, a1, a4, M => b_X12_plan_142 n (f_X12_plan_142 n m) a1 a4 M
theorem w_X12_plan_142 {g : qG} {k : qK} (n : Nat) (j r : Nat) (hj : q_isLaw j) (hr : q_isLaw r) (o : qOk g 3 zX12_plan k) : ∀ (m : Nat) (a1 a4 : Int32) (M : qM), qAE g k zX12_plan (qL j r) 142 [some (.inr (some 77)), some (.inl a1), none, none, some (.inl a4)] [] (qL j r, M) (f_X12_plan_142 n m a1 a4 M) := by
  intro m
  induction m with
  | zero =>
    intro a1 a4 M
    exact qr_none
  | succ m ih =>
    intro a1 a4 M
    exact wb_X12_plan_142 n j r hj hr o (f_X12_plan_142 n m) ih a1 a4 M
def f_X12_plan_100 (n : Nat) (a1 a3 : Int32) (M : qM) : qR :=
  qlm (mu M 77 8 (0 : Int32)) (fun m1 => (if a3 = (0 : Int32) then some ((m1 77 11), m1) else qg ((296 : Int32) + a1) 954 (qlm (mu m1 78 ((296 : Int32) + a1).toNatClampNeg (m1 77 35)) (fun m2 => qg ((304 : Int32) + a1) 954 (qlm (mu m2 78 ((304 : Int32) + a1).toNatClampNeg (0 : Int32)) (fun m3 => f_X12_plan_142 n n a1 (0 : Int32) m3))))))
set_option maxRecDepth 4000 in
theorem w_X12_plan_100 {g : qG} {k : qK} (n : Nat) (j r : Nat) (hj : q_isLaw j) (hr : q_isLaw r) (o : qOk g 3 zX12_plan k) (a1 a3 : Int32) (M : qM) : qAE g k zX12_plan (qL j r) 100 [some (.inr (some 77)), some (.inl a1), none, some (.inl a3), none] [] (qL j r, M) (f_X12_plan_100 n a1 a3 M) := by
  unfold f_X12_plan_100
  refine qr_aload_n o (q_dm dm_X12_plan 52 rfl) rfl ?_
  refine qr_iconst o (q_dm dm_X12_plan 53 rfl) ic_0 ?_
  refine qr_putf (kf := 8) o cf_X12 (sh77 j r) rfl (Nat.le_of_ble_eq_true rfl) fl_X12_162 rfl (by decide +kernel) (q_dm dm_X12_plan 54 rfl) ?_
  refine qr_letm (fun m1 => ?_)
  refine qr_iload_n o (q_dm dm_X12_plan 55 rfl) rfl ?_
  refine qr_if_ne (tgt := 114) o (q_dm dm_X12_plan 56 rfl) (by decide) ?_ ?_
  · refine qr_aload_n o (q_dm dm_X12_plan 60 rfl) rfl ?_
    refine qr_getr (kf := 0) o cf_X12 (sh77 j r) rfl (Nat.le_of_ble_eq_true rfl) fl_X12_7 (q_dm dm_X12_plan 61 rfl) ?_
    refine qr_sipush o (q_dm dm_X12_plan 62 rfl) si_296 ?_
    refine qr_iload_n o (q_dm dm_X12_plan 63 rfl) rfl ?_
    refine qr_iadd o (q_dm dm_X12_plan 64 rfl) ?_
    refine qr_aload_n o (q_dm dm_X12_plan 65 rfl) rfl ?_
    refine qr_getf (kf := 35) o cf_X12 (sh77 j r) rfl (Nat.le_of_ble_eq_true rfl) fl_X12_326 (q_dm dm_X12_plan 66 rfl) ?_
    refine qr_iast o (sh78 j r) (q_dm dm_X12_plan 67 rfl) ?_
    refine qr_letm (fun m2 => ?_)
    refine qr_aload_n o (q_dm dm_X12_plan 68 rfl) rfl ?_
    refine qr_getr (kf := 0) o cf_X12 (sh77 j r) rfl (Nat.le_of_ble_eq_true rfl) fl_X12_7 (q_dm dm_X12_plan 69 rfl) ?_
    refine qr_sipush o (q_dm dm_X12_plan 70 rfl) si_304 ?_
    refine qr_iload_n o (q_dm dm_X12_plan 71 rfl) rfl ?_
    refine qr_iadd o (q_dm dm_X12_plan 72 rfl) ?_
    refine qr_iconst o (q_dm dm_X12_plan 73 rfl) ic_0 ?_
    refine qr_iast o (sh78 j r) (q_dm dm_X12_plan 74 rfl) ?_
    refine qr_letm (fun m3 => ?_)
    refine qr_iconst o (q_dm dm_X12_plan 75 rfl) ic_0 ?_
    refine qs_istore (L' := [some (.inr (some 77)), some (.inl a1), none, some (.inl a3), some (.inl (0 : Int32))]) o (q_dm dm_X12_plan 76 rfl) (Nat.le_of_ble_eq_true rfl) rfl ?_
    exact qr_loc (q_leS (q_leS (q_leN (q_leN (q_leS q_le0))))) (w_X12_plan_142 n j r hj hr o n a1 (0 : Int32) m3)
  · refine qr_aload_n o (q_dm dm_X12_plan 57 rfl) rfl ?_
    refine qr_getf (kf := 11) o cf_X12 (sh77 j r) rfl (Nat.le_of_ble_eq_true rfl) fl_X12_179 (q_dm dm_X12_plan 58 rfl) ?_
    exact qr_iret o rfl rfl (q_dm dm_X12_plan 59 rfl)

def f_X12_plan_75 (n : Nat) (K53 : Int32 → Int32 → qM → qR) (a1 : Int32) (M : qM) : qR :=
  qc (f_X12_takes n (44 : Int32) M) (fun r1 m2 => (if r1 = (0 : Int32) then K53 a1 (0 : Int32) m2 else qc (f_X12_readsStep n  m2) (fun r3 m4 => (if r3 = (0 : Int32) then K53 a1 (0 : Int32) m4 else K53 a1 (1 : Int32) m4))))
set_option maxRecDepth 4000 in
theorem w_X12_plan_75 {g : qG} {k : qK} (n : Nat) (j r : Nat) (hj : q_isLaw j) (hr : q_isLaw r) (o : qOk g 3 zX12_plan k) (K53 : Int32 → Int32 → qM → qR) (hK53 : ∀ (a1 a3 : Int32) (M : qM), qAE g k zX12_plan (qL j r) 53 [some (.inr (some 77)), some (.inl a1), none, some (.inl a3), none] [] (qL j r, M) (K53 a1 a3 M)) (a1 : Int32) (M : qM) : qAE g k zX12_plan (qL j r) 75 [some (.inr (some 77)), some (.inl a1), none, none, none] [] (qL j r, M) (f_X12_plan_75 n K53 a1 M) := by
  unfold f_X12_plan_75
  refine qr_aload_n o (q_dm dm_X12_plan 40 rfl) rfl ?_
  refine qr_bipush o (q_dm dm_X12_plan 41 rfl) bi_44 ?_
  refine qr_callv_i (As := [.inl (44 : Int32)]) (S := []) o (a_X12_takes g k.2.1 n j r hj hr (44 : Int32) M) (Nat.le_of_ble_eq_true rfl) zv_X12_takes rfl cf_X12 (sh77 j r) ml_X12_259 (Nat.le_of_ble_eq_true rfl) (q_dm dm_X12_plan 42 rfl) (fun r1 m2 => ?_)
  refine qr_if_eq (tgt := 95) o (q_dm dm_X12_plan 43 rfl) (by decide) ?_ ?_
  · refine qr_iconst o (q_dm dm_X12_plan 49 rfl) ic_0 ?_
    refine qs_istore_n (L' := [some (.inr (some 77)), some (.inl a1), none, some (.inl (0 : Int32)), none]) o (q_dm dm_X12_plan 50 rfl) (Nat.le_of_ble_eq_true rfl) rfl ?_
    refine qr_goto (tgt := 53) o (q_dm dm_X12_plan 51 rfl) (by decide) ?_
    exact qr_loc (q_leS (q_leS (q_leN (q_leS (q_leN q_le0))))) (hK53 a1 (0 : Int32) m2)
  · refine qr_aload_n o (q_dm dm_X12_plan 44 rfl) rfl ?_
    refine qr_callv_i (As := []) (S := []) o (a_X12_readsStep g k.2.1 n j r hj hr  m2) (Nat.le_of_ble_eq_true rfl) zv_X12_readsStep rfl cf_X12 (sh77 j r) ml_X12_332 (Nat.le_of_ble_eq_true rfl) (q_dm dm_X12_plan 45 rfl) (fun r3 m4 => ?_)
    refine qr_if_eq (tgt := 95) o (q_dm dm_X12_plan 46 rfl) (by decide) ?_ ?_
    · refine qr_iconst o (q_dm dm_X12_plan 49 rfl) ic_0 ?_
      refine qs_istore_n (L' := [some (.inr (some 77)), some (.inl a1), none, some (.inl (0 : Int32)), none]) o (q_dm dm_X12_plan 50 rfl) (Nat.le_of_ble_eq_true rfl) rfl ?_
      refine qr_goto (tgt := 53) o (q_dm dm_X12_plan 51 rfl) (by decide) ?_
      exact qr_loc (q_leS (q_leS (q_leN (q_leS (q_leN q_le0))))) (hK53 a1 (0 : Int32) m4)
    · refine qr_iconst o (q_dm dm_X12_plan 47 rfl) ic_1 ?_
      refine qr_goto (tgt := 96) o (q_dm dm_X12_plan 48 rfl) (by decide) ?_
      refine qs_istore_n (L' := [some (.inr (some 77)), some (.inl a1), none, some (.inl (1 : Int32)), none]) o (q_dm dm_X12_plan 50 rfl) (Nat.le_of_ble_eq_true rfl) rfl ?_
      refine qr_goto (tgt := 53) o (q_dm dm_X12_plan 51 rfl) (by decide) ?_
      exact qr_loc (q_leS (q_leS (q_leN (q_leS (q_leN q_le0))))) (hK53 a1 (1 : Int32) m4)

def b_X12_plan_53 (n : Nat) (K53 : Int32 → Int32 → qM → qR) (a1 a3 : Int32) (M : qM) : qR :=
  (if a3 = (0 : Int32) then f_X12_plan_100 n a1 a3 M else (if (M 77 9) < (M 77 10) then f_X12_plan_75 n K53 a1 M else (if (M 77 36) ≤ (0 : Int32) then f_X12_plan_100 n a1 a3 M else f_X12_plan_75 n K53 a1 M)))
set_option maxRecDepth 4000 in
theorem wb_X12_plan_53 {g : qG} {k : qK} (n : Nat) (j r : Nat) (hj : q_isLaw j) (hr : q_isLaw r) (o : qOk g 3 zX12_plan k) (K53 : Int32 → Int32 → qM → qR) (hK53 : ∀ (a1 a3 : Int32) (M : qM), qAE g k zX12_plan (qL j r) 53 [some (.inr (some 77)), some (.inl a1), none, some (.inl a3), none] [] (qL j r, M) (K53 a1 a3 M)) (a1 a3 : Int32) (M : qM) : qAE g k zX12_plan (qL j r) 53 [some (.inr (some 77)), some (.inl a1), none, some (.inl a3), none] [] (qL j r, M) (b_X12_plan_53 n K53 a1 a3 M) := by
  unfold b_X12_plan_53
  refine qr_iload_n o (q_dm dm_X12_plan 30 rfl) rfl ?_
  refine qr_if_eq (tgt := 100) o (q_dm dm_X12_plan 31 rfl) (by decide) ?_ ?_
  · exact qr_loc (q_leS (q_leS (q_leN (q_leS (q_leN q_le0))))) (w_X12_plan_100 n j r hj hr o a1 a3 M)
  · refine qr_aload_n o (q_dm dm_X12_plan 32 rfl) rfl ?_
    refine qr_getf (kf := 9) o cf_X12 (sh77 j r) rfl (Nat.le_of_ble_eq_true rfl) fl_X12_169 (q_dm dm_X12_plan 33 rfl) ?_
    refine qr_aload_n o (q_dm dm_X12_plan 34 rfl) rfl ?_
    refine qr_getf (kf := 10) o cf_X12 (sh77 j r) rfl (Nat.le_of_ble_eq_true rfl) fl_X12_172 (q_dm dm_X12_plan 35 rfl) ?_
    refine qr_icmp_lt (tgt := 75) o (q_dm dm_X12_plan 36 rfl) (by decide) ?_ ?_
    · exact qr_loc (q_leS (q_leS (q_leN (q_leN (q_leN q_le0))))) (w_X12_plan_75 n j r hj hr o K53 hK53 a1 M)
    · refine qr_aload_n o (q_dm dm_X12_plan 37 rfl) rfl ?_
      refine qr_getf (kf := 36) o cf_X12 (sh77 j r) rfl (Nat.le_of_ble_eq_true rfl) fl_X12_323 (q_dm dm_X12_plan 38 rfl) ?_
      refine qr_if_le (tgt := 100) o (q_dm dm_X12_plan 39 rfl) (by decide) ?_ ?_
      · exact qr_loc (q_leS (q_leS (q_leN (q_leS (q_leN q_le0))))) (w_X12_plan_100 n j r hj hr o a1 a3 M)
      · exact qr_loc (q_leS (q_leS (q_leN (q_leN (q_leN q_le0))))) (w_X12_plan_75 n j r hj hr o K53 hK53 a1 M)

def f_X12_plan_53 (n : Nat) : Nat → Int32 → Int32 → qM → qR
  | 0, _, _, _ => none
  | m + 1, a1, a3, M => b_X12_plan_53 n (f_X12_plan_53 n m) a1 a3 M
theorem w_X12_plan_53 {g : qG} {k : qK} (n : Nat) (j r : Nat) (hj : q_isLaw j) (hr : q_isLaw r) (o : qOk g 3 zX12_plan k) : ∀ (m : Nat) (a1 a3 : Int32) (M : qM), qAE g k zX12_plan (qL j r) 53 [some (.inr (some 77)), some (.inl a1), none, some (.inl a3), none] [] (qL j r, M) (f_X12_plan_53 n m a1 a3 M) := by
  intro m
  induction m with
  | zero =>
    intro a1 a3 M
    exact qr_none
  | succ m ih =>
    intro a1 a3 M
    exact wb_X12_plan_53 n j r hj hr o (f_X12_plan_53 n m) ih a1 a3 M
def f_X12_plan (n : Nat) (a1 a2 : Int32) (M : qM) : qR :=
  qc (f_X12_isPerson n a1 M) (fun r1 m2 => (if r1 = (0 : Int32) then some ((-1 : Int32), m2) else qc (f_X12_in n a2 (1 : Int32) (80 : Int32) m2) (fun r3 m4 => (if r3 = (0 : Int32) then some ((-1 : Int32), m4) else (if a2 ≤ (m4 77 8) then qlm (mu m4 77 9 (0 : Int32)) (fun m5 => qlm (mu m5 77 10 a2) (fun m6 => qlm (mu m6 77 35 (0 : Int32)) (fun m7 => qlm (mu m7 77 36 (0 : Int32)) (fun m8 => qc (f_X12_readsStep n  m8) (fun r9 m10 => f_X12_plan_53 n n a1 r9 m10))))) else some ((-1 : Int32), m4))))))
set_option maxRecDepth 4000 in
theorem w_X12_plan {g : qG} {k : qK} (n : Nat) (j r : Nat) (hj : q_isLaw j) (hr : q_isLaw r) (o : qOk g 3 zX12_plan k) (a1 a2 : Int32) (M : qM) : qAE g k zX12_plan (qL j r) 0 [some (.inr (some 77)), some (.inl a1), some (.inl a2), none, none] [] (qL j r, M) (f_X12_plan n a1 a2 M) := by
  unfold f_X12_plan
  refine qr_aload_n o (q_dm dm_X12_plan 0 rfl) rfl ?_
  refine qr_iload_n o (q_dm dm_X12_plan 1 rfl) rfl ?_
  refine qr_callv_i (As := [.inl a1]) (S := []) o (a_X12_isPerson g k.2.1 n j r hj hr a1 M) (Nat.le_of_ble_eq_true rfl) zv_X12_isPerson rfl cf_X12 (sh77 j r) ml_X12_310 (Nat.le_of_ble_eq_true rfl) (q_dm dm_X12_plan 2 rfl) (fun r1 m2 => ?_)
  refine qr_if_eq (tgt := 26) o (q_dm dm_X12_plan 3 rfl) (by decide) ?_ ?_
  · refine qr_iconst o (q_dm dm_X12_plan 13 rfl) ic_m1 ?_
    exact qr_iret o rfl rfl (q_dm dm_X12_plan 14 rfl)
  · refine qr_iload_n o (q_dm dm_X12_plan 4 rfl) rfl ?_
    refine qr_iconst o (q_dm dm_X12_plan 5 rfl) ic_1 ?_
    refine qr_bipush o (q_dm dm_X12_plan 6 rfl) bi_80 ?_
    refine qr_calls_i (As := [.inl a2, .inl (1 : Int32), .inl (80 : Int32)]) (S := []) o (a_X12_in g k.2.1 n j r hj hr a2 (1 : Int32) (80 : Int32) m2) (Nat.le_of_ble_eq_true rfl) zs_X12_in rfl ml_X12_153 (Nat.le_of_ble_eq_true rfl) (q_dm dm_X12_plan 7 rfl) (fun r3 m4 => ?_)
    refine qr_if_eq (tgt := 26) o (q_dm dm_X12_plan 8 rfl) (by decide) ?_ ?_
    · refine qr_iconst o (q_dm dm_X12_plan 13 rfl) ic_m1 ?_
      exact qr_iret o rfl rfl (q_dm dm_X12_plan 14 rfl)
    · refine qr_iload_n o (q_dm dm_X12_plan 9 rfl) rfl ?_
      refine qr_aload_n o (q_dm dm_X12_plan 10 rfl) rfl ?_
      refine qr_getf (kf := 8) o cf_X12 (sh77 j r) rfl (Nat.le_of_ble_eq_true rfl) fl_X12_162 (q_dm dm_X12_plan 11 rfl) ?_
      refine qr_icmp_le (tgt := 28) o (q_dm dm_X12_plan 12 rfl) (by decide) ?_ ?_
      · refine qr_aload_n o (q_dm dm_X12_plan 15 rfl) rfl ?_
        refine qr_iconst o (q_dm dm_X12_plan 16 rfl) ic_0 ?_
        refine qr_putf (kf := 9) o cf_X12 (sh77 j r) rfl (Nat.le_of_ble_eq_true rfl) fl_X12_169 rfl (by decide +kernel) (q_dm dm_X12_plan 17 rfl) ?_
        refine qr_letm (fun m5 => ?_)
        refine qr_aload_n o (q_dm dm_X12_plan 18 rfl) rfl ?_
        refine qr_iload_n o (q_dm dm_X12_plan 19 rfl) rfl ?_
        refine qr_putf (kf := 10) o cf_X12 (sh77 j r) rfl (Nat.le_of_ble_eq_true rfl) fl_X12_172 rfl (by decide +kernel) (q_dm dm_X12_plan 20 rfl) ?_
        refine qr_letm (fun m6 => ?_)
        refine qr_aload_n o (q_dm dm_X12_plan 21 rfl) rfl ?_
        refine qr_iconst o (q_dm dm_X12_plan 22 rfl) ic_0 ?_
        refine qr_putf (kf := 35) o cf_X12 (sh77 j r) rfl (Nat.le_of_ble_eq_true rfl) fl_X12_326 rfl (by decide +kernel) (q_dm dm_X12_plan 23 rfl) ?_
        refine qr_letm (fun m7 => ?_)
        refine qr_aload_n o (q_dm dm_X12_plan 24 rfl) rfl ?_
        refine qr_iconst o (q_dm dm_X12_plan 25 rfl) ic_0 ?_
        refine qr_putf (kf := 36) o cf_X12 (sh77 j r) rfl (Nat.le_of_ble_eq_true rfl) fl_X12_323 rfl (by decide +kernel) (q_dm dm_X12_plan 26 rfl) ?_
        refine qr_letm (fun m8 => ?_)
        refine qr_aload_n o (q_dm dm_X12_plan 27 rfl) rfl ?_
        refine qr_callv_i (As := []) (S := []) o (a_X12_readsStep g k.2.1 n j r hj hr  m8) (Nat.le_of_ble_eq_true rfl) zv_X12_readsStep rfl cf_X12 (sh77 j r) ml_X12_332 (Nat.le_of_ble_eq_true rfl) (q_dm dm_X12_plan 28 rfl) (fun r9 m10 => ?_)
        refine qs_istore_n (L' := [some (.inr (some 77)), some (.inl a1), some (.inl a2), some (.inl r9), none]) o (q_dm dm_X12_plan 29 rfl) (Nat.le_of_ble_eq_true rfl) rfl ?_
        exact qr_loc (q_leS (q_leS (q_leN (q_leS (q_leN q_le0))))) (w_X12_plan_53 n j r hj hr o n a1 r9 m10)
      · refine qr_iconst o (q_dm dm_X12_plan 13 rfl) ic_m1 ?_
        exact qr_iret o rfl rfl (q_dm dm_X12_plan 14 rfl)

theorem a_X12_plan (g : qG) (l : Launch) (n : Nat) (j r : Nat) (hj : q_isLaw j) (hr : q_isLaw r) (a1 a2 : Int32) (M : qM) : qAM g l 3 zX12_plan (qL j r) [.inr (some 77), .inl a1, .inl a2] (qL j r, M) (f_X12_plan n a1 a2 M) :=
  qAM.of zv_X12_plan.1 (by show 3 ≤ 5; decide) (fun k hk o => w_X12_plan n j r hj hr o a1 a2 M)
def tb_X12_rivals : List (Nat × Instr × Nat) := [(0, (.iload_n 1, 1)), (1, (.iconst 0, 1)), (2, (.sipush 999, 3)), (5, (.invokestatic 153, 3)), (8, (.ifCond .eq 23, 3)), (11, (.iload_n 2, 1)), (12, (.iconst 0, 1)), (13, (.sipush 999, 3)), (16, (.invokestatic 153, 3)), (19, (.ifCond .eq 12, 3)), (22, (.iload_n 3, 1)), (23, (.iconst 0, 1)), (24, (.iconst 1, 1)), (25, (.invokestatic 153, 3)), (28, (.ifCond .ne 5, 3)), (31, (.iconst (-1), 1)), (32, (.ireturn, 1)), (33, (.iconst 0, 1)), (34, (.istore 4, 2)), (36, (.bipush (-2), 2)), (38, (.istore 5, 2)), (40, (.iconst 0, 1)), (41, (.istore 6, 2)), (43, (.iload 6, 2)), (45, (.iconst 4, 1)), (46, (.if_icmp .ge 74, 3)), (49, (.iload 6, 2)), (51, (.iconst 1, 1)), (52, (.ixor, 1)), (53, (.iconst 0, 1)), (54, (.iload_n 1, 1)), (55, (.iload_n 2, 1)), (56, (.invokestatic 450, 3)), (59, (.iload 6, 2)), (61, (.iconst 0, 1)), (62, (.iload_n 1, 1)), (63, (.iload_n 2, 1)), (64, (.invokestatic 450, 3)), (67, (.if_icmp .gt 47, 3)), (70, (.iload 6, 2)), (72, (.iconst 2, 1)), (73, (.ixor, 1)), (74, (.iconst 1, 1)), (75, (.iload_n 1, 1)), (76, (.iload_n 2, 1)), (77, (.invokestatic 450, 3)), (80, (.iload 6, 2)), (82, (.iconst 1, 1)), (83, (.iload_n 1, 1)), (84, (.iload_n 2, 1)), (85, (.invokestatic 450, 3)), (88, (.if_icmp .le 6, 3)), (91, (.goto 23, 3)), (94, (.iload 4, 2)), (96, (.ifCond .ne 8, 3)), (99, (.iload 6, 2)), (101, (.goto 5, 3)), (104, (.iload 5, 2)), (106, (.istore 5, 2)), (108, (.iload 4, 2)), (110, (.iconst 1, 1)), (111, (.iadd, 1)), (112, (.istore 4, 2)), (114, (.iinc 6 1, 3)), (117, (.goto (-74), 3)), (120, (.iload_n 3, 1)), (121, (.ifCond .ne 8, 3)), (124, (.iload 4, 2)), (126, (.goto 5, 3)), (129, (.iload 5, 2)), (131, (.ireturn, 1))]
theorem dm_X12_rivals : ∀ q ∈ tb_X12_rivals, decode zX12_rivals.2.1 q.1 = .ok q.2 := by decide +kernel
def f_X12_rivals_106 (n : Nat) (K43 : Int32 → Int32 → Int32 → Int32 → Int32 → Int32 → qM → qR) (a1 a2 a3 a4 a6 s0 : Int32) (M : qM) : qR :=
  ql (a4 + (1 : Int32)) (fun x1 => ql (a6 + (1 : Int32)) (fun x2 => K43 a1 a2 a3 x1 s0 x2 M))
set_option maxRecDepth 4000 in
theorem w_X12_rivals_106 {g : qG} {k : qK} (n : Nat) (j r : Nat) (hj : q_isLaw j) (hr : q_isLaw r) (o : qOk g 2 zX12_rivals k) (K43 : Int32 → Int32 → Int32 → Int32 → Int32 → Int32 → qM → qR) (hK43 : ∀ (a1 a2 a3 a4 a5 a6 : Int32) (M : qM), qAE g k zX12_rivals (qL j r) 43 [none, some (.inl a1), some (.inl a2), some (.inl a3), some (.inl a4), some (.inl a5), some (.inl a6)] [] (qL j r, M) (K43 a1 a2 a3 a4 a5 a6 M)) (a1 a2 a3 a4 a6 s0 : Int32) (M : qM) : qAE g k zX12_rivals (qL j r) 106 [none, some (.inl a1), some (.inl a2), some (.inl a3), some (.inl a4), none, some (.inl a6)] [.inl s0] (qL j r, M) (f_X12_rivals_106 n K43 a1 a2 a3 a4 a6 s0 M) := by
  unfold f_X12_rivals_106
  refine qs_istore (L' := [none, some (.inl a1), some (.inl a2), some (.inl a3), some (.inl a4), some (.inl s0), some (.inl a6)]) o (q_dm dm_X12_rivals 58 rfl) (Nat.le_of_ble_eq_true rfl) rfl ?_
  refine qr_iload o (q_dm dm_X12_rivals 59 rfl) rfl ?_
  refine qr_iconst o (q_dm dm_X12_rivals 60 rfl) ic_1 ?_
  refine qr_iadd o (q_dm dm_X12_rivals 61 rfl) ?_
  refine qr_lt (fun x1 => ?_)
  refine qs_istore (L' := [none, some (.inl a1), some (.inl a2), some (.inl a3), some (.inl x1), some (.inl s0), some (.inl a6)]) o (q_dm dm_X12_rivals 62 rfl) (Nat.le_of_ble_eq_true rfl) rfl ?_
  refine qs_iincl2 (L' := fun x2 => [none, some (.inl a1), some (.inl a2), some (.inl a3), some (.inl x1), some (.inl s0), some (.inl x2)]) o (q_dm dm_X12_rivals 63 rfl) rfl ic_1 (Nat.le_of_ble_eq_true rfl) (fun _ => rfl) (fun x2 => ?_)
  refine qr_goto (tgt := 43) o (q_dm dm_X12_rivals 64 rfl) (by decide) ?_
  exact qr_loc (q_leN (q_leS (q_leS (q_leS (q_leS (q_leS (q_leS q_le0))))))) (hK43 a1 a2 a3 x1 s0 x2 M)

def b_X12_rivals_43 (n : Nat) (K43 : Int32 → Int32 → Int32 → Int32 → Int32 → Int32 → qM → qR) (a1 a2 a3 a4 a5 a6 : Int32) (M : qM) : qR :=
  (if (4 : Int32) ≤ a6 then (if a3 = (0 : Int32) then some (a4, M) else some (a5, M)) else qc (f_X12_gainOf n (a6 ^^^ (1 : Int32)) (0 : Int32) a1 a2 M) (fun r1 m2 => qc (f_X12_gainOf n a6 (0 : Int32) a1 a2 m2) (fun r3 m4 => (if r3 < r1 then ql (a6 + (1 : Int32)) (fun x5 => K43 a1 a2 a3 a4 a5 x5 m4) else qc (f_X12_gainOf n (a6 ^^^ (2 : Int32)) (1 : Int32) a1 a2 m4) (fun r6 m7 => qc (f_X12_gainOf n a6 (1 : Int32) a1 a2 m7) (fun r8 m9 => (if r6 ≤ r8 then (if a4 = (0 : Int32) then f_X12_rivals_106 n K43 a1 a2 a3 a4 a6 a6 m9 else f_X12_rivals_106 n K43 a1 a2 a3 a4 a6 a5 m9) else ql (a6 + (1 : Int32)) (fun x10 => K43 a1 a2 a3 a4 a5 x10 m9))))))))
set_option maxRecDepth 4000 in
theorem wb_X12_rivals_43 {g : qG} {k : qK} (n : Nat) (j r : Nat) (hj : q_isLaw j) (hr : q_isLaw r) (o : qOk g 2 zX12_rivals k) (K43 : Int32 → Int32 → Int32 → Int32 → Int32 → Int32 → qM → qR) (hK43 : ∀ (a1 a2 a3 a4 a5 a6 : Int32) (M : qM), qAE g k zX12_rivals (qL j r) 43 [none, some (.inl a1), some (.inl a2), some (.inl a3), some (.inl a4), some (.inl a5), some (.inl a6)] [] (qL j r, M) (K43 a1 a2 a3 a4 a5 a6 M)) (a1 a2 a3 a4 a5 a6 : Int32) (M : qM) : qAE g k zX12_rivals (qL j r) 43 [none, some (.inl a1), some (.inl a2), some (.inl a3), some (.inl a4), some (.inl a5), some (.inl a6)] [] (qL j r, M) (b_X12_rivals_43 n K43 a1 a2 a3 a4 a5 a6 M) := by
  unfold b_X12_rivals_43
  refine qr_iload o (q_dm dm_X12_rivals 23 rfl) rfl ?_
  refine qr_iconst o (q_dm dm_X12_rivals 24 rfl) ic_4 ?_
  refine qr_icmp_ge (tgt := 120) o (q_dm dm_X12_rivals 25 rfl) (by decide) ?_ ?_
  · refine qr_iload_n o (q_dm dm_X12_rivals 65 rfl) rfl ?_
    refine qr_if_ne (tgt := 129) o (q_dm dm_X12_rivals 66 rfl) (by decide) ?_ ?_
    · refine qr_iload o (q_dm dm_X12_rivals 69 rfl) rfl ?_
      exact qr_iret o rfl rfl (q_dm dm_X12_rivals 70 rfl)
    · refine qr_iload o (q_dm dm_X12_rivals 67 rfl) rfl ?_
      refine qr_goto (tgt := 131) o (q_dm dm_X12_rivals 68 rfl) (by decide) ?_
      exact qr_iret o rfl rfl (q_dm dm_X12_rivals 70 rfl)
  · refine qr_iload o (q_dm dm_X12_rivals 26 rfl) rfl ?_
    refine qr_iconst o (q_dm dm_X12_rivals 27 rfl) ic_1 ?_
    refine qr_ixor o (q_dm dm_X12_rivals 28 rfl) ?_
    refine qr_iconst o (q_dm dm_X12_rivals 29 rfl) ic_0 ?_
    refine qr_iload_n o (q_dm dm_X12_rivals 30 rfl) rfl ?_
    refine qr_iload_n o (q_dm dm_X12_rivals 31 rfl) rfl ?_
    refine qr_calls_i (As := [.inl (a6 ^^^ (1 : Int32)), .inl (0 : Int32), .inl a1, .inl a2]) (S := []) o (a_X12_gainOf g k.2.1 n j r hj hr (a6 ^^^ (1 : Int32)) (0 : Int32) a1 a2 M) (Nat.le_of_ble_eq_true rfl) zs_X12_gainOf rfl ml_X12_450 (Nat.le_of_ble_eq_true rfl) (q_dm dm_X12_rivals 32 rfl) (fun r1 m2 => ?_)
    refine qr_iload o (q_dm dm_X12_rivals 33 rfl) rfl ?_
    refine qr_iconst o (q_dm dm_X12_rivals 34 rfl) ic_0 ?_
    refine qr_iload_n o (q_dm dm_X12_rivals 35 rfl) rfl ?_
    refine qr_iload_n o (q_dm dm_X12_rivals 36 rfl) rfl ?_
    refine qr_calls_i (As := [.inl a6, .inl (0 : Int32), .inl a1, .inl a2]) (S := [.inl r1]) o (a_X12_gainOf g k.2.1 n j r hj hr a6 (0 : Int32) a1 a2 m2) (Nat.le_of_ble_eq_true rfl) zs_X12_gainOf rfl ml_X12_450 (Nat.le_of_ble_eq_true rfl) (q_dm dm_X12_rivals 37 rfl) (fun r3 m4 => ?_)
    refine qr_icmp_gt (tgt := 114) o (q_dm dm_X12_rivals 38 rfl) (by decide) ?_ ?_
    · refine qs_iincl2 (L' := fun x5 => [none, some (.inl a1), some (.inl a2), some (.inl a3), some (.inl a4), some (.inl a5), some (.inl x5)]) o (q_dm dm_X12_rivals 63 rfl) rfl ic_1 (Nat.le_of_ble_eq_true rfl) (fun _ => rfl) (fun x5 => ?_)
      refine qr_goto (tgt := 43) o (q_dm dm_X12_rivals 64 rfl) (by decide) ?_
      exact qr_loc (q_leN (q_leS (q_leS (q_leS (q_leS (q_leS (q_leS q_le0))))))) (hK43 a1 a2 a3 a4 a5 x5 m4)
    · refine qr_iload o (q_dm dm_X12_rivals 39 rfl) rfl ?_
      refine qr_iconst o (q_dm dm_X12_rivals 40 rfl) ic_2 ?_
      refine qr_ixor o (q_dm dm_X12_rivals 41 rfl) ?_
      refine qr_iconst o (q_dm dm_X12_rivals 42 rfl) ic_1 ?_
      refine qr_iload_n o (q_dm dm_X12_rivals 43 rfl) rfl ?_
      refine qr_iload_n o (q_dm dm_X12_rivals 44 rfl) rfl ?_
      refine qr_calls_i (As := [.inl (a6 ^^^ (2 : Int32)), .inl (1 : Int32), .inl a1, .inl a2]) (S := []) o (a_X12_gainOf g k.2.1 n j r hj hr (a6 ^^^ (2 : Int32)) (1 : Int32) a1 a2 m4) (Nat.le_of_ble_eq_true rfl) zs_X12_gainOf rfl ml_X12_450 (Nat.le_of_ble_eq_true rfl) (q_dm dm_X12_rivals 45 rfl) (fun r6 m7 => ?_)
      refine qr_iload o (q_dm dm_X12_rivals 46 rfl) rfl ?_
      refine qr_iconst o (q_dm dm_X12_rivals 47 rfl) ic_1 ?_
      refine qr_iload_n o (q_dm dm_X12_rivals 48 rfl) rfl ?_
      refine qr_iload_n o (q_dm dm_X12_rivals 49 rfl) rfl ?_
      refine qr_calls_i (As := [.inl a6, .inl (1 : Int32), .inl a1, .inl a2]) (S := [.inl r6]) o (a_X12_gainOf g k.2.1 n j r hj hr a6 (1 : Int32) a1 a2 m7) (Nat.le_of_ble_eq_true rfl) zs_X12_gainOf rfl ml_X12_450 (Nat.le_of_ble_eq_true rfl) (q_dm dm_X12_rivals 50 rfl) (fun r8 m9 => ?_)
      refine qr_icmp_le (tgt := 94) o (q_dm dm_X12_rivals 51 rfl) (by decide) ?_ ?_
      · refine qr_iload o (q_dm dm_X12_rivals 53 rfl) rfl ?_
        refine qr_if_ne (tgt := 104) o (q_dm dm_X12_rivals 54 rfl) (by decide) ?_ ?_
        · refine qr_iload o (q_dm dm_X12_rivals 57 rfl) rfl ?_
          exact qr_loc (q_leN (q_leS (q_leS (q_leS (q_leS (q_leN (q_leS q_le0))))))) (w_X12_rivals_106 n j r hj hr o K43 hK43 a1 a2 a3 a4 a6 a5 m9)
        · refine qr_iload o (q_dm dm_X12_rivals 55 rfl) rfl ?_
          refine qr_goto (tgt := 106) o (q_dm dm_X12_rivals 56 rfl) (by decide) ?_
          exact qr_loc (q_leN (q_leS (q_leS (q_leS (q_leS (q_leN (q_leS q_le0))))))) (w_X12_rivals_106 n j r hj hr o K43 hK43 a1 a2 a3 a4 a6 a6 m9)
      · refine qr_goto (tgt := 114) o (q_dm dm_X12_rivals 52 rfl) (by decide) ?_
        refine qs_iincl2 (L' := fun x10 => [none, some (.inl a1), some (.inl a2), some (.inl a3), some (.inl a4), some (.inl a5), some (.inl x10)]) o (q_dm dm_X12_rivals 63 rfl) rfl ic_1 (Nat.le_of_ble_eq_true rfl) (fun _ => rfl) (fun x10 => ?_)
        refine qr_goto (tgt := 43) o (q_dm dm_X12_rivals 64 rfl) (by decide) ?_
        exact qr_loc (q_leN (q_leS (q_leS (q_leS (q_leS (q_leS (q_leS q_le0))))))) (hK43 a1 a2 a3 a4 a5 x10 m9)

def f_X12_rivals_43 (n : Nat) : Nat → Int32 → Int32 → Int32 → Int32 → Int32 → Int32 → qM → qR
  | 0, _, _, _, _, _, _, _ => none
  | m + 1, a1, a2, a3, a4, a5, a6, M => b_X12_rivals_43 n (f_X12_rivals_43 n m) a1 a2 a3 a4 a5 a6 M
theorem w_X12_rivals_43 {g : qG} {k : qK} (n : Nat) (j r : Nat) (hj : q_isLaw j) (hr : q_isLaw r) (o : qOk g 2 zX12_rivals k) : ∀ (m : Nat) (a1 a2 a3 a4 a5 a6 : Int32) (M : qM), qAE g k zX12_rivals (qL j r) 43 [none, some (.inl a1), some (.inl a2), some (.inl a3), some (.inl a4), some (.inl a5), some (.inl a6)] [] (qL j r, M) (f_X12_rivals_43 n m a1 a2 a3 a4 a5 a6 M) := by
  intro m
  induction m with
  | zero =>
    intro a1 a2 a3 a4 a5 a6 M
    exact qr_none
  | succ m ih =>
    intro a1 a2 a3 a4 a5 a6 M
    exact wb_X12_rivals_43 n j r hj hr o (f_X12_rivals_43 n m) ih a1 a2 a3 a4 a5 a6 M
def f_X12_rivals (n : Nat) (a1 a2 a3 : Int32) (M : qM) : qR :=
  qc (f_X12_in n a1 (0 : Int32) (999 : Int32) M) (fun r1 m2 => (if r1 = (0 : Int32) then some ((-1 : Int32), m2) else qc (f_X12_in n a2 (0 : Int32) (999 : Int32) m2) (fun r3 m4 => (if r3 = (0 : Int32) then some ((-1 : Int32), m4) else qc (f_X12_in n a3 (0 : Int32) (1 : Int32) m4) (fun r5 m6 => (if r5 = (0 : Int32) then some ((-1 : Int32), m6) else f_X12_rivals_43 n n a1 a2 a3 (0 : Int32) (-2 : Int32) (0 : Int32) m6))))))
set_option maxRecDepth 4000 in
theorem w_X12_rivals {g : qG} {k : qK} (n : Nat) (j r : Nat) (hj : q_isLaw j) (hr : q_isLaw r) (o : qOk g 2 zX12_rivals k) (a1 a2 a3 : Int32) (M : qM) : qAE g k zX12_rivals (qL j r) 0 [some (.inr (some 77)), some (.inl a1), some (.inl a2), some (.inl a3), none, none, none] [] (qL j r, M) (f_X12_rivals n a1 a2 a3 M) := by
  unfold f_X12_rivals
  refine qr_iload_n o (q_dm dm_X12_rivals 0 rfl) rfl ?_
  refine qr_iconst o (q_dm dm_X12_rivals 1 rfl) ic_0 ?_
  refine qr_sipush o (q_dm dm_X12_rivals 2 rfl) si_999 ?_
  refine qr_calls_i (As := [.inl a1, .inl (0 : Int32), .inl (999 : Int32)]) (S := []) o (a_X12_in g k.2.1 n j r hj hr a1 (0 : Int32) (999 : Int32) M) (Nat.le_of_ble_eq_true rfl) zs_X12_in rfl ml_X12_153 (Nat.le_of_ble_eq_true rfl) (q_dm dm_X12_rivals 3 rfl) (fun r1 m2 => ?_)
  refine qr_if_eq (tgt := 31) o (q_dm dm_X12_rivals 4 rfl) (by decide) ?_ ?_
  · refine qr_iconst o (q_dm dm_X12_rivals 15 rfl) ic_m1 ?_
    exact qr_iret o rfl rfl (q_dm dm_X12_rivals 16 rfl)
  · refine qr_iload_n o (q_dm dm_X12_rivals 5 rfl) rfl ?_
    refine qr_iconst o (q_dm dm_X12_rivals 6 rfl) ic_0 ?_
    refine qr_sipush o (q_dm dm_X12_rivals 7 rfl) si_999 ?_
    refine qr_calls_i (As := [.inl a2, .inl (0 : Int32), .inl (999 : Int32)]) (S := []) o (a_X12_in g k.2.1 n j r hj hr a2 (0 : Int32) (999 : Int32) m2) (Nat.le_of_ble_eq_true rfl) zs_X12_in rfl ml_X12_153 (Nat.le_of_ble_eq_true rfl) (q_dm dm_X12_rivals 8 rfl) (fun r3 m4 => ?_)
    refine qr_if_eq (tgt := 31) o (q_dm dm_X12_rivals 9 rfl) (by decide) ?_ ?_
    · refine qr_iconst o (q_dm dm_X12_rivals 15 rfl) ic_m1 ?_
      exact qr_iret o rfl rfl (q_dm dm_X12_rivals 16 rfl)
    · refine qr_iload_n o (q_dm dm_X12_rivals 10 rfl) rfl ?_
      refine qr_iconst o (q_dm dm_X12_rivals 11 rfl) ic_0 ?_
      refine qr_iconst o (q_dm dm_X12_rivals 12 rfl) ic_1 ?_
      refine qr_calls_i (As := [.inl a3, .inl (0 : Int32), .inl (1 : Int32)]) (S := []) o (a_X12_in g k.2.1 n j r hj hr a3 (0 : Int32) (1 : Int32) m4) (Nat.le_of_ble_eq_true rfl) zs_X12_in rfl ml_X12_153 (Nat.le_of_ble_eq_true rfl) (q_dm dm_X12_rivals 13 rfl) (fun r5 m6 => ?_)
      refine qr_if_ne (tgt := 33) o (q_dm dm_X12_rivals 14 rfl) (by decide) ?_ ?_
      · refine qr_iconst o (q_dm dm_X12_rivals 17 rfl) ic_0 ?_
        refine qs_istore (L' := [some (.inr (some 77)), some (.inl a1), some (.inl a2), some (.inl a3), some (.inl (0 : Int32)), none, none]) o (q_dm dm_X12_rivals 18 rfl) (Nat.le_of_ble_eq_true rfl) rfl ?_
        refine qr_bipush o (q_dm dm_X12_rivals 19 rfl) bi_m2 ?_
        refine qs_istore (L' := [some (.inr (some 77)), some (.inl a1), some (.inl a2), some (.inl a3), some (.inl (0 : Int32)), some (.inl (-2 : Int32)), none]) o (q_dm dm_X12_rivals 20 rfl) (Nat.le_of_ble_eq_true rfl) rfl ?_
        refine qr_iconst o (q_dm dm_X12_rivals 21 rfl) ic_0 ?_
        refine qs_istore (L' := [some (.inr (some 77)), some (.inl a1), some (.inl a2), some (.inl a3), some (.inl (0 : Int32)), some (.inl (-2 : Int32)), some (.inl (0 : Int32))]) o (q_dm dm_X12_rivals 22 rfl) (Nat.le_of_ble_eq_true rfl) rfl ?_
        exact qr_loc (q_leN (q_leS (q_leS (q_leS (q_leS (q_leS (q_leS q_le0))))))) (w_X12_rivals_43 n j r hj hr o n a1 a2 a3 (0 : Int32) (-2 : Int32) (0 : Int32) m6)
      · refine qr_iconst o (q_dm dm_X12_rivals 15 rfl) ic_m1 ?_
        exact qr_iret o rfl rfl (q_dm dm_X12_rivals 16 rfl)

theorem a_X12_rivals (g : qG) (l : Launch) (n : Nat) (j r : Nat) (hj : q_isLaw j) (hr : q_isLaw r) (a1 a2 a3 : Int32) (M : qM) : qAM g l 2 zX12_rivals (qL j r) [.inr (some 77), .inl a1, .inl a2, .inl a3] (qL j r, M) (f_X12_rivals n a1 a2 a3 M) :=
  qAM.of zv_X12_rivals.1 (by show 4 ≤ 7; decide) (fun k hk o => w_X12_rivals n j r hj hr o a1 a2 a3 M)
def tb_X12_soonest : List (Nat × Instr × Nat) := [(0, (.aload_n 0, 1)), (1, (.iload_n 1, 1)), (2, (.iload_n 2, 1)), (3, (.iload_n 3, 1)), (4, (.invokevirtual 386, 3)), (7, (.ifCond .eq 23, 3)), (10, (.iload 4, 2)), (12, (.iconst 0, 1)), (13, (.iconst 3, 1)), (14, (.invokestatic 153, 3)), (17, (.ifCond .eq 13, 3)), (20, (.iload 5, 2)), (22, (.iconst 0, 1)), (23, (.iconst 1, 1)), (24, (.invokestatic 153, 3)), (27, (.ifCond .ne 5, 3)), (30, (.iconst (-1), 1)), (31, (.ireturn, 1)), (32, (.aload_n 0, 1)), (33, (.iload_n 1, 1)), (34, (.iload_n 2, 1)), (35, (.invokevirtual 389, 3)), (38, (.aload_n 0, 1)), (39, (.invokevirtual 392, 3)), (42, (.istore 6, 2)), (44, (.aload_n 0, 1)), (45, (.iload_n 3, 1)), (46, (.invokevirtual 395, 3)), (49, (.istore 7, 2)), (51, (.ldc_w 398, 3)), (54, (.istore 8, 2)), (56, (.iconst 0, 1)), (57, (.istore 9, 2)), (59, (.iload 9, 2)), (61, (.iload 6, 2)), (63, (.if_icmp .ge 26, 3)), (66, (.aload_n 0, 1)), (67, (.getfield 108, 3)), (70, (.iload 9, 2)), (72, (.iload 9, 2)), (74, (.ifCond .ne 7, 3)), (77, (.iconst 1, 1)), (78, (.goto 4, 3)), (81, (.iconst 0, 1)), (82, (.bastore, 1)), (83, (.iinc 9 1, 3)), (86, (.goto (-27), 3)), (89, (.iconst 0, 1)), (90, (.istore 9, 2)), (92, (.iload 9, 2)), (94, (.iload 6, 2)), (96, (.if_icmp .ge 71, 3)), (99, (.aload_n 0, 1)), (100, (.getfield 108, 3)), (103, (.iload 9, 2)), (105, (.baload, 1)), (106, (.ifCond .ne 6, 3)), (109, (.goto 52, 3)), (112, (.aload_n 0, 1)), (113, (.iload 9, 2)), (115, (.invokevirtual 399, 3)), (118, (.aload_n 0, 1)), (119, (.getfield 89, 3)), (122, (.aload_n 0, 1)), (123, (.getfield 101, 3)), (126, (.iload 7, 2)), (128, (.iaload, 1)), (129, (.iaload, 1)), (130, (.ifCond .le 25, 3)), (133, (.iload 8, 2)), (135, (.bipush 16, 2)), (137, (.aload_n 0, 1)), (138, (.invokevirtual 402, 3)), (141, (.imul, 1)), (142, (.aload_n 0, 1)), (143, (.invokevirtual 405, 3)), (146, (.iadd, 1)), (147, (.invokestatic 307, 3)), (150, (.istore 8, 2)), (152, (.goto 9, 3)), (155, (.aload_n 0, 1)), (156, (.iload 4, 2)), (158, (.invokevirtual 408, 3)), (161, (.iinc 9 1, 3)), (164, (.goto (-72), 3)), (167, (.iload 8, 2)), (169, (.ldc_w 398, 3)), (172, (.if_icmp .ne 8, 3)), (175, (.bipush (-2), 2)), (177, (.goto 21, 3)), (180, (.iload 5, 2)), (182, (.ifCond .ne 11, 3)), (185, (.iload 8, 2)), (187, (.bipush 16, 2)), (189, (.idiv, 1)), (190, (.goto 8, 3)), (193, (.iload 8, 2)), (195, (.bipush 16, 2)), (197, (.irem, 1)), (198, (.ireturn, 1))]
theorem dm_X12_soonest : ∀ q ∈ tb_X12_soonest, decode zX12_soonest.2.1 q.1 = .ok q.2 := by decide +kernel
def b_X12_soonest_92 (n : Nat) (K92 : Int32 → Int32 → Int32 → Int32 → Int32 → Int32 → qM → qR) (a4 a5 a6 a7 a8 a9 : Int32) (M : qM) : qR :=
  (if a6 ≤ a9 then (if a8 = (1000000000 : Int32) then some ((-2 : Int32), M) else (if a5 = (0 : Int32) then some ((a8 / (16 : Int32)), M) else some ((a8 - a8 / (16 : Int32) * (16 : Int32)), M))) else qg a9 160000 ((if (M 110 a9.toNatClampNeg) = (0 : Int32) then ql (a9 + (1 : Int32)) (fun x11 => K92 a4 a5 a6 a7 a8 x11 M) else qc (f_X12_takesState n a9 M) (fun _ m1 => qg a7 4 (qg (m1 108 a7.toNatClampNeg) 20 ((if (m1 104 (m1 108 a7.toNatClampNeg).toNatClampNeg) ≤ (0 : Int32) then qc (f_X12_spreads n a4 m1) (fun _ m2 => ql (a9 + (1 : Int32)) (fun x3 => K92 a4 a5 a6 a7 a8 x3 m2)) else qc (f_X12_hoursNow n  m1) (fun r4 m5 => qc (f_X12_madeNow n  m5) (fun r6 m7 => qc (f_X12_min n a8 (((16 : Int32) * r4) + r6) m7) (fun r8 m9 => ql (a9 + (1 : Int32)) (fun x10 => K92 a4 a5 a6 a7 r8 x10 m9)))))))))))
set_option maxRecDepth 4000 in
theorem wb_X12_soonest_92 {g : qG} {k : qK} (n : Nat) (j r : Nat) (hj : q_isLaw j) (hr : q_isLaw r) (o : qOk g 5 zX12_soonest k) (K92 : Int32 → Int32 → Int32 → Int32 → Int32 → Int32 → qM → qR) (hK92 : ∀ (a4 a5 a6 a7 a8 a9 : Int32) (M : qM), qAE g k zX12_soonest (qL j r) 92 [some (.inr (some 77)), none, none, none, some (.inl a4), some (.inl a5), some (.inl a6), some (.inl a7), some (.inl a8), some (.inl a9)] [] (qL j r, M) (K92 a4 a5 a6 a7 a8 a9 M)) (a4 a5 a6 a7 a8 a9 : Int32) (M : qM) : qAE g k zX12_soonest (qL j r) 92 [some (.inr (some 77)), none, none, none, some (.inl a4), some (.inl a5), some (.inl a6), some (.inl a7), some (.inl a8), some (.inl a9)] [] (qL j r, M) (b_X12_soonest_92 n K92 a4 a5 a6 a7 a8 a9 M) := by
  unfold b_X12_soonest_92
  refine qr_iload o (q_dm dm_X12_soonest 49 rfl) rfl ?_
  refine qr_iload o (q_dm dm_X12_soonest 50 rfl) rfl ?_
  refine qr_icmp_ge (tgt := 167) o (q_dm dm_X12_soonest 51 rfl) (by decide) ?_ ?_
  · refine qr_iload o (q_dm dm_X12_soonest 85 rfl) rfl ?_
    refine qr_ldc_w o (q_dm dm_X12_soonest 86 rfl) kc_X12_398 ?_
    refine qr_icmp_ne (tgt := 180) o (q_dm dm_X12_soonest 87 rfl) (by decide) ?_ ?_
    · refine qr_iload o (q_dm dm_X12_soonest 90 rfl) rfl ?_
      refine qr_if_ne (tgt := 193) o (q_dm dm_X12_soonest 91 rfl) (by decide) ?_ ?_
      · refine qr_iload o (q_dm dm_X12_soonest 96 rfl) rfl ?_
        refine qr_bipush o (q_dm dm_X12_soonest 97 rfl) bi_16 ?_
        refine qr_iremc o (q_dm dm_X12_soonest 98 rfl) (by decide) ?_
        exact qr_iret o rfl rfl (q_dm dm_X12_soonest 99 rfl)
      · refine qr_iload o (q_dm dm_X12_soonest 92 rfl) rfl ?_
        refine qr_bipush o (q_dm dm_X12_soonest 93 rfl) bi_16 ?_
        refine qr_idivc o (q_dm dm_X12_soonest 94 rfl) (by decide) ?_
        refine qr_goto (tgt := 198) o (q_dm dm_X12_soonest 95 rfl) (by decide) ?_
        exact qr_iret o rfl rfl (q_dm dm_X12_soonest 99 rfl)
    · refine qr_bipush o (q_dm dm_X12_soonest 88 rfl) bi_m2 ?_
      refine qr_goto (tgt := 198) o (q_dm dm_X12_soonest 89 rfl) (by decide) ?_
      exact qr_iret o rfl rfl (q_dm dm_X12_soonest 99 rfl)
  · refine qr_aload_n o (q_dm dm_X12_soonest 52 rfl) rfl ?_
    refine qr_getr (kf := 53) o cf_X12 (sh77 j r) rfl (Nat.le_of_ble_eq_true rfl) fl_X12_108 (q_dm dm_X12_soonest 53 rfl) ?_
    refine qr_iload o (q_dm dm_X12_soonest 54 rfl) rfl ?_
    refine qr_zald o (sh110 j r) (q_dm dm_X12_soonest 55 rfl) ?_
    refine qr_if_ne (tgt := 112) o (q_dm dm_X12_soonest 56 rfl) (by decide) ?_ ?_
    · refine qr_aload_n o (q_dm dm_X12_soonest 58 rfl) rfl ?_
      refine qr_iload o (q_dm dm_X12_soonest 59 rfl) rfl ?_
      refine qr_callv_v (As := [.inl a9]) (S := []) o (a_X12_takesState g k.2.1 n j r hj hr a9 M) (Nat.le_of_ble_eq_true rfl) zv_X12_takesState rfl cf_X12 (sh77 j r) ml_X12_399 (Nat.le_of_ble_eq_true rfl) (q_dm dm_X12_soonest 60 rfl) (fun _ m1 => ?_)
      refine qr_aload_n o (q_dm dm_X12_soonest 61 rfl) rfl ?_
      refine qr_getr (kf := 47) o cf_X12 (sh77 j r) rfl (Nat.le_of_ble_eq_true rfl) fl_X12_89 (q_dm dm_X12_soonest 62 rfl) ?_
      refine qr_aload_n o (q_dm dm_X12_soonest 63 rfl) rfl ?_
      refine qr_getr (kf := 51) o cf_X12 (sh77 j r) rfl (Nat.le_of_ble_eq_true rfl) fl_X12_101 (q_dm dm_X12_soonest 64 rfl) ?_
      refine qr_iload o (q_dm dm_X12_soonest 65 rfl) rfl ?_
      refine qr_iald o (sh108 j r) (q_dm dm_X12_soonest 66 rfl) ?_
      refine qr_iald o (sh104 j r) (q_dm dm_X12_soonest 67 rfl) ?_
      refine qr_if_le (tgt := 155) o (q_dm dm_X12_soonest 68 rfl) (by decide) ?_ ?_
      · refine qr_aload_n o (q_dm dm_X12_soonest 80 rfl) rfl ?_
        refine qr_iload o (q_dm dm_X12_soonest 81 rfl) rfl ?_
        refine qr_callv_v (As := [.inl a4]) (S := []) o (a_X12_spreads g k.2.1 n j r hj hr a4 m1) (Nat.le_of_ble_eq_true rfl) zv_X12_spreads rfl cf_X12 (sh77 j r) ml_X12_408 (Nat.le_of_ble_eq_true rfl) (q_dm dm_X12_soonest 82 rfl) (fun _ m2 => ?_)
        refine qs_iincl2 (L' := fun x3 => [some (.inr (some 77)), none, none, none, some (.inl a4), some (.inl a5), some (.inl a6), some (.inl a7), some (.inl a8), some (.inl x3)]) o (q_dm dm_X12_soonest 83 rfl) rfl ic_1 (Nat.le_of_ble_eq_true rfl) (fun _ => rfl) (fun x3 => ?_)
        refine qr_goto (tgt := 92) o (q_dm dm_X12_soonest 84 rfl) (by decide) ?_
        exact qr_loc (q_leS (q_leN (q_leN (q_leN (q_leS (q_leS (q_leS (q_leS (q_leS (q_leS q_le0)))))))))) (hK92 a4 a5 a6 a7 a8 x3 m2)
      · refine qr_iload o (q_dm dm_X12_soonest 69 rfl) rfl ?_
        refine qr_bipush o (q_dm dm_X12_soonest 70 rfl) bi_16 ?_
        refine qr_aload_n o (q_dm dm_X12_soonest 71 rfl) rfl ?_
        refine qr_callv_i (As := []) (S := [.inl (16 : Int32), .inl a8]) o (a_X12_hoursNow g k.2.1 n j r hj hr  m1) (Nat.le_of_ble_eq_true rfl) zv_X12_hoursNow rfl cf_X12 (sh77 j r) ml_X12_402 (Nat.le_of_ble_eq_true rfl) (q_dm dm_X12_soonest 72 rfl) (fun r4 m5 => ?_)
        refine qr_imul o (q_dm dm_X12_soonest 73 rfl) ?_
        refine qr_aload_n o (q_dm dm_X12_soonest 74 rfl) rfl ?_
        refine qr_callv_i (As := []) (S := [.inl ((16 : Int32) * r4), .inl a8]) o (a_X12_madeNow g k.2.1 n j r hj hr  m5) (Nat.le_of_ble_eq_true rfl) zv_X12_madeNow rfl cf_X12 (sh77 j r) ml_X12_405 (Nat.le_of_ble_eq_true rfl) (q_dm dm_X12_soonest 75 rfl) (fun r6 m7 => ?_)
        refine qr_iadd o (q_dm dm_X12_soonest 76 rfl) ?_
        refine qr_calls_i (As := [.inl a8, .inl (((16 : Int32) * r4) + r6)]) (S := []) o (a_X12_min g k.2.1 n j r hj hr a8 (((16 : Int32) * r4) + r6) m7) (Nat.le_of_ble_eq_true rfl) zs_X12_min rfl ml_X12_307 (Nat.le_of_ble_eq_true rfl) (q_dm dm_X12_soonest 77 rfl) (fun r8 m9 => ?_)
        refine qs_istore (L' := [some (.inr (some 77)), none, none, none, some (.inl a4), some (.inl a5), some (.inl a6), some (.inl a7), some (.inl r8), some (.inl a9)]) o (q_dm dm_X12_soonest 78 rfl) (Nat.le_of_ble_eq_true rfl) rfl ?_
        refine qr_goto (tgt := 161) o (q_dm dm_X12_soonest 79 rfl) (by decide) ?_
        refine qs_iincl2 (L' := fun x10 => [some (.inr (some 77)), none, none, none, some (.inl a4), some (.inl a5), some (.inl a6), some (.inl a7), some (.inl r8), some (.inl x10)]) o (q_dm dm_X12_soonest 83 rfl) rfl ic_1 (Nat.le_of_ble_eq_true rfl) (fun _ => rfl) (fun x10 => ?_)
        refine qr_goto (tgt := 92) o (q_dm dm_X12_soonest 84 rfl) (by decide) ?_
        exact qr_loc (q_leS (q_leN (q_leN (q_leN (q_leS (q_leS (q_leS (q_leS (q_leS (q_leS q_le0)))))))))) (hK92 a4 a5 a6 a7 r8 x10 m9)
    · refine qr_goto (tgt := 161) o (q_dm dm_X12_soonest 57 rfl) (by decide) ?_
      refine qs_iincl2 (L' := fun x11 => [some (.inr (some 77)), none, none, none, some (.inl a4), some (.inl a5), some (.inl a6), some (.inl a7), some (.inl a8), some (.inl x11)]) o (q_dm dm_X12_soonest 83 rfl) rfl ic_1 (Nat.le_of_ble_eq_true rfl) (fun _ => rfl) (fun x11 => ?_)
      refine qr_goto (tgt := 92) o (q_dm dm_X12_soonest 84 rfl) (by decide) ?_
      exact qr_loc (q_leS (q_leN (q_leN (q_leN (q_leS (q_leS (q_leS (q_leS (q_leS (q_leS q_le0)))))))))) (hK92 a4 a5 a6 a7 a8 x11 M)

def f_X12_soonest_92 (n : Nat) : Nat → Int32 → Int32 → Int32 → Int32 → Int32 → Int32 → qM → qR
  | 0, _, _, _, _, _, _, _ => none
  | m + 1, a4, a5, a6, a7, a8, a9, M => b_X12_soonest_92 n (f_X12_soonest_92 n m) a4 a5 a6 a7 a8 a9 M
theorem w_X12_soonest_92 {g : qG} {k : qK} (n : Nat) (j r : Nat) (hj : q_isLaw j) (hr : q_isLaw r) (o : qOk g 5 zX12_soonest k) : ∀ (m : Nat) (a4 a5 a6 a7 a8 a9 : Int32) (M : qM), qAE g k zX12_soonest (qL j r) 92 [some (.inr (some 77)), none, none, none, some (.inl a4), some (.inl a5), some (.inl a6), some (.inl a7), some (.inl a8), some (.inl a9)] [] (qL j r, M) (f_X12_soonest_92 n m a4 a5 a6 a7 a8 a9 M) := by
  intro m
  induction m with
  | zero =>
    intro a4 a5 a6 a7 a8 a9 M
    exact qr_none
  | succ m ih =>
    intro a4 a5 a6 a7 a8 a9 M
    exact wb_X12_soonest_92 n j r hj hr o (f_X12_soonest_92 n m) ih a4 a5 a6 a7 a8 a9 M
def b_X12_soonest_59 (n : Nat) (K59 : Int32 → Int32 → Int32 → Int32 → Int32 → Int32 → qM → qR) (a4 a5 a6 a7 a8 a9 : Int32) (M : qM) : qR :=
  (if a6 ≤ a9 then f_X12_soonest_92 n n a4 a5 a6 a7 a8 (0 : Int32) M else (if a9 = (0 : Int32) then qg a9 160000 (qlm (mu M 110 a9.toNatClampNeg (vp_nar .boolean (1 : Int32))) (fun m3 => ql (a9 + (1 : Int32)) (fun x4 => K59 a4 a5 a6 a7 a8 x4 m3))) else qg a9 160000 (qlm (mu M 110 a9.toNatClampNeg (vp_nar .boolean (0 : Int32))) (fun m1 => ql (a9 + (1 : Int32)) (fun x2 => K59 a4 a5 a6 a7 a8 x2 m1)))))
set_option maxRecDepth 4000 in
theorem wb_X12_soonest_59 {g : qG} {k : qK} (n : Nat) (j r : Nat) (hj : q_isLaw j) (hr : q_isLaw r) (o : qOk g 5 zX12_soonest k) (K59 : Int32 → Int32 → Int32 → Int32 → Int32 → Int32 → qM → qR) (hK59 : ∀ (a4 a5 a6 a7 a8 a9 : Int32) (M : qM), qAE g k zX12_soonest (qL j r) 59 [some (.inr (some 77)), none, none, none, some (.inl a4), some (.inl a5), some (.inl a6), some (.inl a7), some (.inl a8), some (.inl a9)] [] (qL j r, M) (K59 a4 a5 a6 a7 a8 a9 M)) (a4 a5 a6 a7 a8 a9 : Int32) (M : qM) : qAE g k zX12_soonest (qL j r) 59 [some (.inr (some 77)), none, none, none, some (.inl a4), some (.inl a5), some (.inl a6), some (.inl a7), some (.inl a8), some (.inl a9)] [] (qL j r, M) (b_X12_soonest_59 n K59 a4 a5 a6 a7 a8 a9 M) := by
  unfold b_X12_soonest_59
  refine qr_iload o (q_dm dm_X12_soonest 33 rfl) rfl ?_
  refine qr_iload o (q_dm dm_X12_soonest 34 rfl) rfl ?_
  refine qr_icmp_ge (tgt := 89) o (q_dm dm_X12_soonest 35 rfl) (by decide) ?_ ?_
  · refine qr_iconst o (q_dm dm_X12_soonest 47 rfl) ic_0 ?_
    refine qs_istore (L' := [some (.inr (some 77)), none, none, none, some (.inl a4), some (.inl a5), some (.inl a6), some (.inl a7), some (.inl a8), some (.inl (0 : Int32))]) o (q_dm dm_X12_soonest 48 rfl) (Nat.le_of_ble_eq_true rfl) rfl ?_
    exact qr_loc (q_leS (q_leN (q_leN (q_leN (q_leS (q_leS (q_leS (q_leS (q_leS (q_leS q_le0)))))))))) (w_X12_soonest_92 n j r hj hr o n a4 a5 a6 a7 a8 (0 : Int32) M)
  · refine qr_aload_n o (q_dm dm_X12_soonest 36 rfl) rfl ?_
    refine qr_getr (kf := 53) o cf_X12 (sh77 j r) rfl (Nat.le_of_ble_eq_true rfl) fl_X12_108 (q_dm dm_X12_soonest 37 rfl) ?_
    refine qr_iload o (q_dm dm_X12_soonest 38 rfl) rfl ?_
    refine qr_iload o (q_dm dm_X12_soonest 39 rfl) rfl ?_
    refine qr_if_ne (tgt := 81) o (q_dm dm_X12_soonest 40 rfl) (by decide) ?_ ?_
    · refine qr_iconst o (q_dm dm_X12_soonest 43 rfl) ic_0 ?_
      refine qr_zast o (sh110 j r) (q_dm dm_X12_soonest 44 rfl) ?_
      refine qr_letm (fun m1 => ?_)
      refine qs_iincl2 (L' := fun x2 => [some (.inr (some 77)), none, none, none, some (.inl a4), some (.inl a5), some (.inl a6), some (.inl a7), some (.inl a8), some (.inl x2)]) o (q_dm dm_X12_soonest 45 rfl) rfl ic_1 (Nat.le_of_ble_eq_true rfl) (fun _ => rfl) (fun x2 => ?_)
      refine qr_goto (tgt := 59) o (q_dm dm_X12_soonest 46 rfl) (by decide) ?_
      exact qr_loc (q_leS (q_leN (q_leN (q_leN (q_leS (q_leS (q_leS (q_leS (q_leS (q_leS q_le0)))))))))) (hK59 a4 a5 a6 a7 a8 x2 m1)
    · refine qr_iconst o (q_dm dm_X12_soonest 41 rfl) ic_1 ?_
      refine qr_goto (tgt := 82) o (q_dm dm_X12_soonest 42 rfl) (by decide) ?_
      refine qr_zast o (sh110 j r) (q_dm dm_X12_soonest 44 rfl) ?_
      refine qr_letm (fun m3 => ?_)
      refine qs_iincl2 (L' := fun x4 => [some (.inr (some 77)), none, none, none, some (.inl a4), some (.inl a5), some (.inl a6), some (.inl a7), some (.inl a8), some (.inl x4)]) o (q_dm dm_X12_soonest 45 rfl) rfl ic_1 (Nat.le_of_ble_eq_true rfl) (fun _ => rfl) (fun x4 => ?_)
      refine qr_goto (tgt := 59) o (q_dm dm_X12_soonest 46 rfl) (by decide) ?_
      exact qr_loc (q_leS (q_leN (q_leN (q_leN (q_leS (q_leS (q_leS (q_leS (q_leS (q_leS q_le0)))))))))) (hK59 a4 a5 a6 a7 a8 x4 m3)

def f_X12_soonest_59 (n : Nat) : Nat → Int32 → Int32 → Int32 → Int32 → Int32 → Int32 → qM → qR
  | 0, _, _, _, _, _, _, _ => none
  | m + 1, a4, a5, a6, a7, a8, a9, M => b_X12_soonest_59 n (f_X12_soonest_59 n m) a4 a5 a6 a7 a8 a9 M
theorem w_X12_soonest_59 {g : qG} {k : qK} (n : Nat) (j r : Nat) (hj : q_isLaw j) (hr : q_isLaw r) (o : qOk g 5 zX12_soonest k) : ∀ (m : Nat) (a4 a5 a6 a7 a8 a9 : Int32) (M : qM), qAE g k zX12_soonest (qL j r) 59 [some (.inr (some 77)), none, none, none, some (.inl a4), some (.inl a5), some (.inl a6), some (.inl a7), some (.inl a8), some (.inl a9)] [] (qL j r, M) (f_X12_soonest_59 n m a4 a5 a6 a7 a8 a9 M) := by
  intro m
  induction m with
  | zero =>
    intro a4 a5 a6 a7 a8 a9 M
    exact qr_none
  | succ m ih =>
    intro a4 a5 a6 a7 a8 a9 M
    exact wb_X12_soonest_59 n j r hj hr o (f_X12_soonest_59 n m) ih a4 a5 a6 a7 a8 a9 M
def f_X12_soonest (n : Nat) (a1 a2 a3 a4 a5 : Int32) (M : qM) : qR :=
  qc (f_X12_areSome n a1 a2 a3 M) (fun r1 m2 => (if r1 = (0 : Int32) then some ((-1 : Int32), m2) else qc (f_X12_in n a4 (0 : Int32) (3 : Int32) m2) (fun r3 m4 => (if r3 = (0 : Int32) then some ((-1 : Int32), m4) else qc (f_X12_in n a5 (0 : Int32) (1 : Int32) m4) (fun r5 m6 => (if r5 = (0 : Int32) then some ((-1 : Int32), m6) else qc (f_X12_laysOwn n a1 a2 m6) (fun _ m7 => qc (f_X12_statesAll n  m7) (fun r8 m9 => qc (f_X12_placeOf n a3 m9) (fun r10 m11 => f_X12_soonest_59 n n a4 a5 r8 r10 (1000000000 : Int32) (0 : Int32) m11)))))))))
set_option maxRecDepth 4000 in
theorem w_X12_soonest {g : qG} {k : qK} (n : Nat) (j r : Nat) (hj : q_isLaw j) (hr : q_isLaw r) (o : qOk g 5 zX12_soonest k) (a1 a2 a3 a4 a5 : Int32) (M : qM) : qAE g k zX12_soonest (qL j r) 0 [some (.inr (some 77)), some (.inl a1), some (.inl a2), some (.inl a3), some (.inl a4), some (.inl a5), none, none, none, none] [] (qL j r, M) (f_X12_soonest n a1 a2 a3 a4 a5 M) := by
  unfold f_X12_soonest
  refine qr_aload_n o (q_dm dm_X12_soonest 0 rfl) rfl ?_
  refine qr_iload_n o (q_dm dm_X12_soonest 1 rfl) rfl ?_
  refine qr_iload_n o (q_dm dm_X12_soonest 2 rfl) rfl ?_
  refine qr_iload_n o (q_dm dm_X12_soonest 3 rfl) rfl ?_
  refine qr_callv_i (As := [.inl a1, .inl a2, .inl a3]) (S := []) o (a_X12_areSome g k.2.1 n j r hj hr a1 a2 a3 M) (Nat.le_of_ble_eq_true rfl) zv_X12_areSome rfl cf_X12 (sh77 j r) ml_X12_386 (Nat.le_of_ble_eq_true rfl) (q_dm dm_X12_soonest 4 rfl) (fun r1 m2 => ?_)
  refine qr_if_eq (tgt := 30) o (q_dm dm_X12_soonest 5 rfl) (by decide) ?_ ?_
  · refine qr_iconst o (q_dm dm_X12_soonest 16 rfl) ic_m1 ?_
    exact qr_iret o rfl rfl (q_dm dm_X12_soonest 17 rfl)
  · refine qr_iload o (q_dm dm_X12_soonest 6 rfl) rfl ?_
    refine qr_iconst o (q_dm dm_X12_soonest 7 rfl) ic_0 ?_
    refine qr_iconst o (q_dm dm_X12_soonest 8 rfl) ic_3 ?_
    refine qr_calls_i (As := [.inl a4, .inl (0 : Int32), .inl (3 : Int32)]) (S := []) o (a_X12_in g k.2.1 n j r hj hr a4 (0 : Int32) (3 : Int32) m2) (Nat.le_of_ble_eq_true rfl) zs_X12_in rfl ml_X12_153 (Nat.le_of_ble_eq_true rfl) (q_dm dm_X12_soonest 9 rfl) (fun r3 m4 => ?_)
    refine qr_if_eq (tgt := 30) o (q_dm dm_X12_soonest 10 rfl) (by decide) ?_ ?_
    · refine qr_iconst o (q_dm dm_X12_soonest 16 rfl) ic_m1 ?_
      exact qr_iret o rfl rfl (q_dm dm_X12_soonest 17 rfl)
    · refine qr_iload o (q_dm dm_X12_soonest 11 rfl) rfl ?_
      refine qr_iconst o (q_dm dm_X12_soonest 12 rfl) ic_0 ?_
      refine qr_iconst o (q_dm dm_X12_soonest 13 rfl) ic_1 ?_
      refine qr_calls_i (As := [.inl a5, .inl (0 : Int32), .inl (1 : Int32)]) (S := []) o (a_X12_in g k.2.1 n j r hj hr a5 (0 : Int32) (1 : Int32) m4) (Nat.le_of_ble_eq_true rfl) zs_X12_in rfl ml_X12_153 (Nat.le_of_ble_eq_true rfl) (q_dm dm_X12_soonest 14 rfl) (fun r5 m6 => ?_)
      refine qr_if_ne (tgt := 32) o (q_dm dm_X12_soonest 15 rfl) (by decide) ?_ ?_
      · refine qr_aload_n o (q_dm dm_X12_soonest 18 rfl) rfl ?_
        refine qr_iload_n o (q_dm dm_X12_soonest 19 rfl) rfl ?_
        refine qr_iload_n o (q_dm dm_X12_soonest 20 rfl) rfl ?_
        refine qr_callv_v (As := [.inl a1, .inl a2]) (S := []) o (a_X12_laysOwn g k.2.1 n j r hj hr a1 a2 m6) (Nat.le_of_ble_eq_true rfl) zv_X12_laysOwn rfl cf_X12 (sh77 j r) ml_X12_389 (Nat.le_of_ble_eq_true rfl) (q_dm dm_X12_soonest 21 rfl) (fun _ m7 => ?_)
        refine qr_aload_n o (q_dm dm_X12_soonest 22 rfl) rfl ?_
        refine qr_callv_i (As := []) (S := []) o (a_X12_statesAll g k.2.1 n j r hj hr  m7) (Nat.le_of_ble_eq_true rfl) zv_X12_statesAll rfl cf_X12 (sh77 j r) ml_X12_392 (Nat.le_of_ble_eq_true rfl) (q_dm dm_X12_soonest 23 rfl) (fun r8 m9 => ?_)
        refine qs_istore (L' := [some (.inr (some 77)), some (.inl a1), some (.inl a2), some (.inl a3), some (.inl a4), some (.inl a5), some (.inl r8), none, none, none]) o (q_dm dm_X12_soonest 24 rfl) (Nat.le_of_ble_eq_true rfl) rfl ?_
        refine qr_aload_n o (q_dm dm_X12_soonest 25 rfl) rfl ?_
        refine qr_iload_n o (q_dm dm_X12_soonest 26 rfl) rfl ?_
        refine qr_callv_i (As := [.inl a3]) (S := []) o (a_X12_placeOf g k.2.1 n j r hj hr a3 m9) (Nat.le_of_ble_eq_true rfl) zv_X12_placeOf rfl cf_X12 (sh77 j r) ml_X12_395 (Nat.le_of_ble_eq_true rfl) (q_dm dm_X12_soonest 27 rfl) (fun r10 m11 => ?_)
        refine qs_istore (L' := [some (.inr (some 77)), some (.inl a1), some (.inl a2), some (.inl a3), some (.inl a4), some (.inl a5), some (.inl r8), some (.inl r10), none, none]) o (q_dm dm_X12_soonest 28 rfl) (Nat.le_of_ble_eq_true rfl) rfl ?_
        refine qr_ldc_w o (q_dm dm_X12_soonest 29 rfl) kc_X12_398 ?_
        refine qs_istore (L' := [some (.inr (some 77)), some (.inl a1), some (.inl a2), some (.inl a3), some (.inl a4), some (.inl a5), some (.inl r8), some (.inl r10), some (.inl (1000000000 : Int32)), none]) o (q_dm dm_X12_soonest 30 rfl) (Nat.le_of_ble_eq_true rfl) rfl ?_
        refine qr_iconst o (q_dm dm_X12_soonest 31 rfl) ic_0 ?_
        refine qs_istore (L' := [some (.inr (some 77)), some (.inl a1), some (.inl a2), some (.inl a3), some (.inl a4), some (.inl a5), some (.inl r8), some (.inl r10), some (.inl (1000000000 : Int32)), some (.inl (0 : Int32))]) o (q_dm dm_X12_soonest 32 rfl) (Nat.le_of_ble_eq_true rfl) rfl ?_
        exact qr_loc (q_leS (q_leN (q_leN (q_leN (q_leS (q_leS (q_leS (q_leS (q_leS (q_leS q_le0)))))))))) (w_X12_soonest_59 n j r hj hr o n a4 a5 r8 r10 (1000000000 : Int32) (0 : Int32) m11)
      · refine qr_iconst o (q_dm dm_X12_soonest 16 rfl) ic_m1 ?_
        exact qr_iret o rfl rfl (q_dm dm_X12_soonest 17 rfl)

theorem a_X12_soonest (g : qG) (l : Launch) (n : Nat) (j r : Nat) (hj : q_isLaw j) (hr : q_isLaw r) (a1 a2 a3 a4 a5 : Int32) (M : qM) : qAM g l 5 zX12_soonest (qL j r) [.inr (some 77), .inl a1, .inl a2, .inl a3, .inl a4, .inl a5] (qL j r, M) (f_X12_soonest n a1 a2 a3 a4 a5 M) :=
  qAM.of zv_X12_soonest.1 (by show 6 ≤ 10; decide) (fun k hk o => w_X12_soonest n j r hj hr o a1 a2 a3 a4 a5 M)
def tb_X12_tried : List (Nat × Instr × Nat) := [(0, (.iload_n 1, 1)), (1, (.iconst 1, 1)), (2, (.bipush 60, 2)), (4, (.invokestatic 153, 3)), (7, (.ifCond .eq 34, 3)), (10, (.iload_n 2, 1)), (11, (.iconst 0, 1)), (12, (.iconst 5, 1)), (13, (.invokestatic 153, 3)), (16, (.ifCond .ne 27, 3)), (19, (.iload_n 2, 1)), (20, (.bipush 10, 2)), (22, (.bipush 17, 2)), (24, (.invokestatic 153, 3)), (27, (.ifCond .eq 14, 3)), (30, (.aload_n 0, 1)), (31, (.iload_n 2, 1)), (32, (.bipush 10, 2)), (34, (.isub, 1)), (35, (.invokevirtual 310, 3)), (38, (.ifCond .ne 5, 3)), (41, (.iconst (-1), 1)), (42, (.ireturn, 1)), (43, (.aload_n 0, 1)), (44, (.getfield 7, 3)), (47, (.aload_n 0, 1)), (48, (.getfield 13, 3)), (51, (.invokestatic 319, 3)), (54, (.aload_n 0, 1)), (55, (.iload_n 1, 1)), (56, (.invokevirtual 359, 3)), (59, (.iload_n 2, 1)), (60, (.tableswitch 88 0 5 #[40, 48, 56, 64, 72, 80], 40)), (100, (.aload_n 0, 1)), (101, (.getfield 335, 3)), (104, (.istore_n 3, 1)), (105, (.goto 71, 3)), (108, (.aload_n 0, 1)), (109, (.getfield 341, 3)), (112, (.istore_n 3, 1)), (113, (.goto 63, 3)), (116, (.aload_n 0, 1)), (117, (.getfield 344, 3)), (120, (.istore_n 3, 1)), (121, (.goto 55, 3)), (124, (.aload_n 0, 1)), (125, (.getfield 347, 3)), (128, (.istore_n 3, 1)), (129, (.goto 47, 3)), (132, (.aload_n 0, 1)), (133, (.getfield 350, 3)), (136, (.istore_n 3, 1)), (137, (.goto 39, 3)), (140, (.aload_n 0, 1)), (141, (.getfield 338, 3)), (144, (.istore_n 3, 1)), (145, (.goto 31, 3)), (148, (.aload_n 0, 1)), (149, (.getfield 7, 3)), (152, (.sipush 296, 3)), (155, (.iload_n 2, 1)), (156, (.iadd, 1)), (157, (.bipush 10, 2)), (159, (.isub, 1)), (160, (.iaload, 1)), (161, (.aload_n 0, 1)), (162, (.getfield 7, 3)), (165, (.sipush 304, 3)), (168, (.iload_n 2, 1)), (169, (.iadd, 1)), (170, (.bipush 10, 2)), (172, (.isub, 1)), (173, (.iaload, 1)), (174, (.isub, 1)), (175, (.istore_n 3, 1)), (176, (.aload_n 0, 1)), (177, (.getfield 13, 3)), (180, (.aload_n 0, 1)), (181, (.getfield 7, 3)), (184, (.invokestatic 319, 3)), (187, (.iload_n 3, 1)), (188, (.ireturn, 1))]
theorem dm_X12_tried : ∀ q ∈ tb_X12_tried, decode zX12_tried.2.1 q.1 = .ok q.2 := by decide +kernel
def f_X12_tried_176 (n : Nat) (a3 : Int32) (M : qM) : qR :=
  qc (f_X12_copies n 79 78 M) (fun _ m1 => some (a3, m1))
set_option maxRecDepth 4000 in
theorem w_X12_tried_176 {g : qG} {k : qK} (n : Nat) (j r : Nat) (hj : q_isLaw j) (hr : q_isLaw r) (o : qOk g 7 zX12_tried k) (a3 : Int32) (M : qM) : qAE g k zX12_tried (qL j r) 176 [some (.inr (some 77)), none, none, some (.inl a3)] [] (qL j r, M) (f_X12_tried_176 n a3 M) := by
  unfold f_X12_tried_176
  refine qr_aload_n o (q_dm dm_X12_tried 75 rfl) rfl ?_
  refine qr_getr (kf := 1) o cf_X12 (sh77 j r) rfl (Nat.le_of_ble_eq_true rfl) fl_X12_13 (q_dm dm_X12_tried 76 rfl) ?_
  refine qr_aload_n o (q_dm dm_X12_tried 77 rfl) rfl ?_
  refine qr_getr (kf := 0) o cf_X12 (sh77 j r) rfl (Nat.le_of_ble_eq_true rfl) fl_X12_7 (q_dm dm_X12_tried 78 rfl) ?_
  refine qr_calls_v (As := [.inr (some 79), .inr (some 78)]) (S := []) o (a_X12_copies g k.2.1 n j r hj hr (sh79 j r) (sh78 j r) M) (Nat.le_of_ble_eq_true rfl) zs_X12_copies rfl ml_X12_319 (Nat.le_of_ble_eq_true rfl) (q_dm dm_X12_tried 79 rfl) (fun _ m1 => ?_)
  refine qr_iload_n o (q_dm dm_X12_tried 80 rfl) rfl ?_
  exact qr_iret o rfl rfl (q_dm dm_X12_tried 81 rfl)

def f_X12_tried_43 (n : Nat) (a1 a2 : Int32) (M : qM) : qR :=
  qc (f_X12_copies n 78 79 M) (fun _ m1 => qc (f_X12_daysGo n a1 m1) (fun _ m2 => qsw a2 [((0 : Int32), ql (m2 77 37) (fun x4 => f_X12_tried_176 n x4 m2)), ((1 : Int32), ql (m2 77 38) (fun x5 => f_X12_tried_176 n x5 m2)), ((2 : Int32), ql (m2 77 40) (fun x6 => f_X12_tried_176 n x6 m2)), ((3 : Int32), ql (m2 77 41) (fun x7 => f_X12_tried_176 n x7 m2)), ((4 : Int32), ql (m2 77 42) (fun x8 => f_X12_tried_176 n x8 m2)), ((5 : Int32), ql (m2 77 39) (fun x9 => f_X12_tried_176 n x9 m2))] (qg (((296 : Int32) + a2) - (10 : Int32)) 954 (qg (((304 : Int32) + a2) - (10 : Int32)) 954 (ql ((m2 78 (((296 : Int32) + a2) - (10 : Int32)).toNatClampNeg) - (m2 78 (((304 : Int32) + a2) - (10 : Int32)).toNatClampNeg)) (fun x3 => f_X12_tried_176 n x3 m2))))))
set_option maxRecDepth 4000 in
theorem w_X12_tried_43 {g : qG} {k : qK} (n : Nat) (j r : Nat) (hj : q_isLaw j) (hr : q_isLaw r) (o : qOk g 7 zX12_tried k) (a1 a2 : Int32) (M : qM) : qAE g k zX12_tried (qL j r) 43 [some (.inr (some 77)), some (.inl a1), some (.inl a2), none] [] (qL j r, M) (f_X12_tried_43 n a1 a2 M) := by
  unfold f_X12_tried_43
  refine qr_aload_n o (q_dm dm_X12_tried 23 rfl) rfl ?_
  refine qr_getr (kf := 0) o cf_X12 (sh77 j r) rfl (Nat.le_of_ble_eq_true rfl) fl_X12_7 (q_dm dm_X12_tried 24 rfl) ?_
  refine qr_aload_n o (q_dm dm_X12_tried 25 rfl) rfl ?_
  refine qr_getr (kf := 1) o cf_X12 (sh77 j r) rfl (Nat.le_of_ble_eq_true rfl) fl_X12_13 (q_dm dm_X12_tried 26 rfl) ?_
  refine qr_calls_v (As := [.inr (some 78), .inr (some 79)]) (S := []) o (a_X12_copies g k.2.1 n j r hj hr (sh78 j r) (sh79 j r) M) (Nat.le_of_ble_eq_true rfl) zs_X12_copies rfl ml_X12_319 (Nat.le_of_ble_eq_true rfl) (q_dm dm_X12_tried 27 rfl) (fun _ m1 => ?_)
  refine qr_aload_n o (q_dm dm_X12_tried 28 rfl) rfl ?_
  refine qr_iload_n o (q_dm dm_X12_tried 29 rfl) rfl ?_
  refine qr_callv_v (As := [.inl a1]) (S := []) o (a_X12_daysGo g k.2.1 n j r hj hr a1 m1) (Nat.le_of_ble_eq_true rfl) zv_X12_daysGo rfl cf_X12 (sh77 j r) ml_X12_359 (Nat.le_of_ble_eq_true rfl) (q_dm dm_X12_tried 30 rfl) (fun _ m2 => ?_)
  refine qr_iload_n o (q_dm dm_X12_tried 31 rfl) rfl ?_
  refine qr_tablep (tgt := 148) o (q_dm dm_X12_tried 32 rfl) (by show (_ : Int) + (6 : Nat) = _; decide) (by decide) ?_ (q_tbc (40) 100 (by decide) rfl (by decide) ?_ (q_tbc (48) 108 (by decide) rfl (by decide) ?_ (q_tbc (56) 116 (by decide) rfl (by decide) ?_ (q_tbc (64) 124 (by decide) rfl (by decide) ?_ (q_tbc (72) 132 (by decide) rfl (by decide) ?_ (q_tbc (80) 140 (by decide) rfl (by decide) ?_ q_tbn))))))
  · refine qr_aload_n o (q_dm dm_X12_tried 57 rfl) rfl ?_
    refine qr_getr (kf := 0) o cf_X12 (sh77 j r) rfl (Nat.le_of_ble_eq_true rfl) fl_X12_7 (q_dm dm_X12_tried 58 rfl) ?_
    refine qr_sipush o (q_dm dm_X12_tried 59 rfl) si_296 ?_
    refine qr_iload_n o (q_dm dm_X12_tried 60 rfl) rfl ?_
    refine qr_iadd o (q_dm dm_X12_tried 61 rfl) ?_
    refine qr_bipush o (q_dm dm_X12_tried 62 rfl) bi_10 ?_
    refine qr_isub o (q_dm dm_X12_tried 63 rfl) ?_
    refine qr_iald o (sh78 j r) (q_dm dm_X12_tried 64 rfl) ?_
    refine qr_aload_n o (q_dm dm_X12_tried 65 rfl) rfl ?_
    refine qr_getr (kf := 0) o cf_X12 (sh77 j r) rfl (Nat.le_of_ble_eq_true rfl) fl_X12_7 (q_dm dm_X12_tried 66 rfl) ?_
    refine qr_sipush o (q_dm dm_X12_tried 67 rfl) si_304 ?_
    refine qr_iload_n o (q_dm dm_X12_tried 68 rfl) rfl ?_
    refine qr_iadd o (q_dm dm_X12_tried 69 rfl) ?_
    refine qr_bipush o (q_dm dm_X12_tried 70 rfl) bi_10 ?_
    refine qr_isub o (q_dm dm_X12_tried 71 rfl) ?_
    refine qr_iald o (sh78 j r) (q_dm dm_X12_tried 72 rfl) ?_
    refine qr_isub o (q_dm dm_X12_tried 73 rfl) ?_
    refine qr_lt (fun x3 => ?_)
    refine qs_istore_n (L' := [some (.inr (some 77)), some (.inl a1), some (.inl a2), some (.inl x3)]) o (q_dm dm_X12_tried 74 rfl) (Nat.le_of_ble_eq_true rfl) rfl ?_
    exact qr_loc (q_leS (q_leN (q_leN (q_leS q_le0)))) (w_X12_tried_176 n j r hj hr o x3 m2)
  · refine qr_aload_n o (q_dm dm_X12_tried 33 rfl) rfl ?_
    refine qr_getf (kf := 37) o cf_X12 (sh77 j r) rfl (Nat.le_of_ble_eq_true rfl) fl_X12_335 (q_dm dm_X12_tried 34 rfl) ?_
    refine qr_lt (fun x4 => ?_)
    refine qs_istore_n (L' := [some (.inr (some 77)), some (.inl a1), some (.inl a2), some (.inl x4)]) o (q_dm dm_X12_tried 35 rfl) (Nat.le_of_ble_eq_true rfl) rfl ?_
    refine qr_goto (tgt := 176) o (q_dm dm_X12_tried 36 rfl) (by decide) ?_
    exact qr_loc (q_leS (q_leN (q_leN (q_leS q_le0)))) (w_X12_tried_176 n j r hj hr o x4 m2)
  · refine qr_aload_n o (q_dm dm_X12_tried 37 rfl) rfl ?_
    refine qr_getf (kf := 38) o cf_X12 (sh77 j r) rfl (Nat.le_of_ble_eq_true rfl) fl_X12_341 (q_dm dm_X12_tried 38 rfl) ?_
    refine qr_lt (fun x5 => ?_)
    refine qs_istore_n (L' := [some (.inr (some 77)), some (.inl a1), some (.inl a2), some (.inl x5)]) o (q_dm dm_X12_tried 39 rfl) (Nat.le_of_ble_eq_true rfl) rfl ?_
    refine qr_goto (tgt := 176) o (q_dm dm_X12_tried 40 rfl) (by decide) ?_
    exact qr_loc (q_leS (q_leN (q_leN (q_leS q_le0)))) (w_X12_tried_176 n j r hj hr o x5 m2)
  · refine qr_aload_n o (q_dm dm_X12_tried 41 rfl) rfl ?_
    refine qr_getf (kf := 40) o cf_X12 (sh77 j r) rfl (Nat.le_of_ble_eq_true rfl) fl_X12_344 (q_dm dm_X12_tried 42 rfl) ?_
    refine qr_lt (fun x6 => ?_)
    refine qs_istore_n (L' := [some (.inr (some 77)), some (.inl a1), some (.inl a2), some (.inl x6)]) o (q_dm dm_X12_tried 43 rfl) (Nat.le_of_ble_eq_true rfl) rfl ?_
    refine qr_goto (tgt := 176) o (q_dm dm_X12_tried 44 rfl) (by decide) ?_
    exact qr_loc (q_leS (q_leN (q_leN (q_leS q_le0)))) (w_X12_tried_176 n j r hj hr o x6 m2)
  · refine qr_aload_n o (q_dm dm_X12_tried 45 rfl) rfl ?_
    refine qr_getf (kf := 41) o cf_X12 (sh77 j r) rfl (Nat.le_of_ble_eq_true rfl) fl_X12_347 (q_dm dm_X12_tried 46 rfl) ?_
    refine qr_lt (fun x7 => ?_)
    refine qs_istore_n (L' := [some (.inr (some 77)), some (.inl a1), some (.inl a2), some (.inl x7)]) o (q_dm dm_X12_tried 47 rfl) (Nat.le_of_ble_eq_true rfl) rfl ?_
    refine qr_goto (tgt := 176) o (q_dm dm_X12_tried 48 rfl) (by decide) ?_
    exact qr_loc (q_leS (q_leN (q_leN (q_leS q_le0)))) (w_X12_tried_176 n j r hj hr o x7 m2)
  · refine qr_aload_n o (q_dm dm_X12_tried 49 rfl) rfl ?_
    refine qr_getf (kf := 42) o cf_X12 (sh77 j r) rfl (Nat.le_of_ble_eq_true rfl) fl_X12_350 (q_dm dm_X12_tried 50 rfl) ?_
    refine qr_lt (fun x8 => ?_)
    refine qs_istore_n (L' := [some (.inr (some 77)), some (.inl a1), some (.inl a2), some (.inl x8)]) o (q_dm dm_X12_tried 51 rfl) (Nat.le_of_ble_eq_true rfl) rfl ?_
    refine qr_goto (tgt := 176) o (q_dm dm_X12_tried 52 rfl) (by decide) ?_
    exact qr_loc (q_leS (q_leN (q_leN (q_leS q_le0)))) (w_X12_tried_176 n j r hj hr o x8 m2)
  · refine qr_aload_n o (q_dm dm_X12_tried 53 rfl) rfl ?_
    refine qr_getf (kf := 39) o cf_X12 (sh77 j r) rfl (Nat.le_of_ble_eq_true rfl) fl_X12_338 (q_dm dm_X12_tried 54 rfl) ?_
    refine qr_lt (fun x9 => ?_)
    refine qs_istore_n (L' := [some (.inr (some 77)), some (.inl a1), some (.inl a2), some (.inl x9)]) o (q_dm dm_X12_tried 55 rfl) (Nat.le_of_ble_eq_true rfl) rfl ?_
    refine qr_goto (tgt := 176) o (q_dm dm_X12_tried 56 rfl) (by decide) ?_
    exact qr_loc (q_leS (q_leN (q_leN (q_leS q_le0)))) (w_X12_tried_176 n j r hj hr o x9 m2)

def f_X12_tried (n : Nat) (a1 a2 : Int32) (M : qM) : qR :=
  qc (f_X12_in n a1 (1 : Int32) (60 : Int32) M) (fun r1 m2 => (if r1 = (0 : Int32) then some ((-1 : Int32), m2) else qc (f_X12_in n a2 (0 : Int32) (5 : Int32) m2) (fun r3 m4 => (if r3 = (0 : Int32) then qc (f_X12_in n a2 (10 : Int32) (17 : Int32) m4) (fun r5 m6 => (if r5 = (0 : Int32) then some ((-1 : Int32), m6) else qc (f_X12_isPerson n (a2 - (10 : Int32)) m6) (fun r7 m8 => (if r7 = (0 : Int32) then some ((-1 : Int32), m8) else f_X12_tried_43 n a1 a2 m8)))) else f_X12_tried_43 n a1 a2 m4))))
set_option maxRecDepth 4000 in
theorem w_X12_tried {g : qG} {k : qK} (n : Nat) (j r : Nat) (hj : q_isLaw j) (hr : q_isLaw r) (o : qOk g 7 zX12_tried k) (a1 a2 : Int32) (M : qM) : qAE g k zX12_tried (qL j r) 0 [some (.inr (some 77)), some (.inl a1), some (.inl a2), none] [] (qL j r, M) (f_X12_tried n a1 a2 M) := by
  unfold f_X12_tried
  refine qr_iload_n o (q_dm dm_X12_tried 0 rfl) rfl ?_
  refine qr_iconst o (q_dm dm_X12_tried 1 rfl) ic_1 ?_
  refine qr_bipush o (q_dm dm_X12_tried 2 rfl) bi_60 ?_
  refine qr_calls_i (As := [.inl a1, .inl (1 : Int32), .inl (60 : Int32)]) (S := []) o (a_X12_in g k.2.1 n j r hj hr a1 (1 : Int32) (60 : Int32) M) (Nat.le_of_ble_eq_true rfl) zs_X12_in rfl ml_X12_153 (Nat.le_of_ble_eq_true rfl) (q_dm dm_X12_tried 3 rfl) (fun r1 m2 => ?_)
  refine qr_if_eq (tgt := 41) o (q_dm dm_X12_tried 4 rfl) (by decide) ?_ ?_
  · refine qr_iconst o (q_dm dm_X12_tried 21 rfl) ic_m1 ?_
    exact qr_iret o rfl rfl (q_dm dm_X12_tried 22 rfl)
  · refine qr_iload_n o (q_dm dm_X12_tried 5 rfl) rfl ?_
    refine qr_iconst o (q_dm dm_X12_tried 6 rfl) ic_0 ?_
    refine qr_iconst o (q_dm dm_X12_tried 7 rfl) ic_5 ?_
    refine qr_calls_i (As := [.inl a2, .inl (0 : Int32), .inl (5 : Int32)]) (S := []) o (a_X12_in g k.2.1 n j r hj hr a2 (0 : Int32) (5 : Int32) m2) (Nat.le_of_ble_eq_true rfl) zs_X12_in rfl ml_X12_153 (Nat.le_of_ble_eq_true rfl) (q_dm dm_X12_tried 8 rfl) (fun r3 m4 => ?_)
    refine qr_if_ne (tgt := 43) o (q_dm dm_X12_tried 9 rfl) (by decide) ?_ ?_
    · exact qr_loc (q_leS (q_leS (q_leS (q_leN q_le0)))) (w_X12_tried_43 n j r hj hr o a1 a2 m4)
    · refine qr_iload_n o (q_dm dm_X12_tried 10 rfl) rfl ?_
      refine qr_bipush o (q_dm dm_X12_tried 11 rfl) bi_10 ?_
      refine qr_bipush o (q_dm dm_X12_tried 12 rfl) bi_17 ?_
      refine qr_calls_i (As := [.inl a2, .inl (10 : Int32), .inl (17 : Int32)]) (S := []) o (a_X12_in g k.2.1 n j r hj hr a2 (10 : Int32) (17 : Int32) m4) (Nat.le_of_ble_eq_true rfl) zs_X12_in rfl ml_X12_153 (Nat.le_of_ble_eq_true rfl) (q_dm dm_X12_tried 13 rfl) (fun r5 m6 => ?_)
      refine qr_if_eq (tgt := 41) o (q_dm dm_X12_tried 14 rfl) (by decide) ?_ ?_
      · refine qr_iconst o (q_dm dm_X12_tried 21 rfl) ic_m1 ?_
        exact qr_iret o rfl rfl (q_dm dm_X12_tried 22 rfl)
      · refine qr_aload_n o (q_dm dm_X12_tried 15 rfl) rfl ?_
        refine qr_iload_n o (q_dm dm_X12_tried 16 rfl) rfl ?_
        refine qr_bipush o (q_dm dm_X12_tried 17 rfl) bi_10 ?_
        refine qr_isub o (q_dm dm_X12_tried 18 rfl) ?_
        refine qr_callv_i (As := [.inl (a2 - (10 : Int32))]) (S := []) o (a_X12_isPerson g k.2.1 n j r hj hr (a2 - (10 : Int32)) m6) (Nat.le_of_ble_eq_true rfl) zv_X12_isPerson rfl cf_X12 (sh77 j r) ml_X12_310 (Nat.le_of_ble_eq_true rfl) (q_dm dm_X12_tried 19 rfl) (fun r7 m8 => ?_)
        refine qr_if_ne (tgt := 43) o (q_dm dm_X12_tried 20 rfl) (by decide) ?_ ?_
        · exact qr_loc (q_leS (q_leS (q_leS (q_leN q_le0)))) (w_X12_tried_43 n j r hj hr o a1 a2 m8)
        · refine qr_iconst o (q_dm dm_X12_tried 21 rfl) ic_m1 ?_
          exact qr_iret o rfl rfl (q_dm dm_X12_tried 22 rfl)

theorem a_X12_tried (g : qG) (l : Launch) (n : Nat) (j r : Nat) (hj : q_isLaw j) (hr : q_isLaw r) (a1 a2 : Int32) (M : qM) : qAM g l 7 zX12_tried (qL j r) [.inr (some 77), .inl a1, .inl a2] (qL j r, M) (f_X12_tried n a1 a2 M) :=
  qAM.of zv_X12_tried.1 (by show 3 ≤ 4; decide) (fun k hk o => w_X12_tried n j r hj hr o a1 a2 M)
def tb_X12_tries : List (Nat × Instr × Nat) := [(0, (.aload_n 0, 1)), (1, (.iload_n 1, 1)), (2, (.invokevirtual 310, 3)), (5, (.ifCond .eq 29, 3)), (8, (.aload_n 0, 1)), (9, (.iload_n 2, 1)), (10, (.invokevirtual 157, 3)), (13, (.ifCond .eq 21, 3)), (16, (.iload_n 3, 1)), (17, (.iconst (-1), 1)), (18, (.if_icmp .eq 18, 3)), (21, (.aload_n 0, 1)), (22, (.iload_n 3, 1)), (23, (.invokevirtual 310, 3)), (26, (.ifCond .eq 8, 3)), (29, (.iload_n 3, 1)), (30, (.iload_n 1, 1)), (31, (.if_icmp .ne 5, 3)), (34, (.iconst (-1), 1)), (35, (.ireturn, 1)), (36, (.aload_n 0, 1)), (37, (.iload_n 1, 1)), (38, (.iload_n 2, 1)), (39, (.iload_n 3, 1)), (40, (.iconst (-1), 1)), (41, (.if_icmp .ne 8, 3)), (44, (.bipush 8, 2)), (46, (.goto 4, 3)), (49, (.iload_n 3, 1)), (50, (.invokevirtual 313, 3)), (53, (.ireturn, 1))]
theorem dm_X12_tries : ∀ q ∈ tb_X12_tries, decode zX12_tries.2.1 q.1 = .ok q.2 := by decide +kernel
def f_X12_tries_50 (n : Nat) (s1 s2 s3 : Int32) (M : qM) : qR :=
  qc (f_X12_triesNow n s1 s2 s3 M) (fun r1 m2 => some (r1, m2))
set_option maxRecDepth 4000 in
theorem w_X12_tries_50 {g : qG} {k : qK} (n : Nat) (j r : Nat) (hj : q_isLaw j) (hr : q_isLaw r) (o : qOk g 5 zX12_tries k) (s1 s2 s3 : Int32) (M : qM) : qAE g k zX12_tries (qL j r) 50 [none, none, none, none] [.inl s3, .inl s2, .inl s1, .inr (some 77)] (qL j r, M) (f_X12_tries_50 n s1 s2 s3 M) := by
  unfold f_X12_tries_50
  refine qr_callv_i (As := [.inl s1, .inl s2, .inl s3]) (S := []) o (a_X12_triesNow g k.2.1 n j r hj hr s1 s2 s3 M) (Nat.le_of_ble_eq_true rfl) zv_X12_triesNow rfl cf_X12 (sh77 j r) ml_X12_313 (Nat.le_of_ble_eq_true rfl) (q_dm dm_X12_tries 29 rfl) (fun r1 m2 => ?_)
  exact qr_iret o rfl rfl (q_dm dm_X12_tries 30 rfl)

def f_X12_tries_36 (n : Nat) (a1 a2 a3 : Int32) (M : qM) : qR :=
  (if a3 = (-1 : Int32) then f_X12_tries_50 n a1 a2 (8 : Int32) M else f_X12_tries_50 n a1 a2 a3 M)
set_option maxRecDepth 4000 in
theorem w_X12_tries_36 {g : qG} {k : qK} (n : Nat) (j r : Nat) (hj : q_isLaw j) (hr : q_isLaw r) (o : qOk g 5 zX12_tries k) (a1 a2 a3 : Int32) (M : qM) : qAE g k zX12_tries (qL j r) 36 [some (.inr (some 77)), some (.inl a1), some (.inl a2), some (.inl a3)] [] (qL j r, M) (f_X12_tries_36 n a1 a2 a3 M) := by
  unfold f_X12_tries_36
  refine qr_aload_n o (q_dm dm_X12_tries 20 rfl) rfl ?_
  refine qr_iload_n o (q_dm dm_X12_tries 21 rfl) rfl ?_
  refine qr_iload_n o (q_dm dm_X12_tries 22 rfl) rfl ?_
  refine qr_iload_n o (q_dm dm_X12_tries 23 rfl) rfl ?_
  refine qr_iconst o (q_dm dm_X12_tries 24 rfl) ic_m1 ?_
  refine qr_icmp_ne (tgt := 49) o (q_dm dm_X12_tries 25 rfl) (by decide) ?_ ?_
  · refine qr_iload_n o (q_dm dm_X12_tries 28 rfl) rfl ?_
    exact qr_loc (q_leN (q_leN (q_leN (q_leN q_le0)))) (w_X12_tries_50 n j r hj hr o a1 a2 a3 M)
  · refine qr_bipush o (q_dm dm_X12_tries 26 rfl) bi_8 ?_
    refine qr_goto (tgt := 50) o (q_dm dm_X12_tries 27 rfl) (by decide) ?_
    exact qr_loc (q_leN (q_leN (q_leN (q_leN q_le0)))) (w_X12_tries_50 n j r hj hr o a1 a2 (8 : Int32) M)

def f_X12_tries (n : Nat) (a1 a2 a3 : Int32) (M : qM) : qR :=
  qc (f_X12_isPerson n a1 M) (fun r1 m2 => (if r1 = (0 : Int32) then some ((-1 : Int32), m2) else qc (f_X12_isKind n a2 m2) (fun r3 m4 => (if r3 = (0 : Int32) then some ((-1 : Int32), m4) else (if a3 = (-1 : Int32) then f_X12_tries_36 n a1 a2 a3 m4 else qc (f_X12_isPerson n a3 m4) (fun r5 m6 => (if r5 = (0 : Int32) then some ((-1 : Int32), m6) else (if a3 = a1 then some ((-1 : Int32), m6) else f_X12_tries_36 n a1 a2 a3 m6))))))))
set_option maxRecDepth 4000 in
theorem w_X12_tries {g : qG} {k : qK} (n : Nat) (j r : Nat) (hj : q_isLaw j) (hr : q_isLaw r) (o : qOk g 5 zX12_tries k) (a1 a2 a3 : Int32) (M : qM) : qAE g k zX12_tries (qL j r) 0 [some (.inr (some 77)), some (.inl a1), some (.inl a2), some (.inl a3)] [] (qL j r, M) (f_X12_tries n a1 a2 a3 M) := by
  unfold f_X12_tries
  refine qr_aload_n o (q_dm dm_X12_tries 0 rfl) rfl ?_
  refine qr_iload_n o (q_dm dm_X12_tries 1 rfl) rfl ?_
  refine qr_callv_i (As := [.inl a1]) (S := []) o (a_X12_isPerson g k.2.1 n j r hj hr a1 M) (Nat.le_of_ble_eq_true rfl) zv_X12_isPerson rfl cf_X12 (sh77 j r) ml_X12_310 (Nat.le_of_ble_eq_true rfl) (q_dm dm_X12_tries 2 rfl) (fun r1 m2 => ?_)
  refine qr_if_eq (tgt := 34) o (q_dm dm_X12_tries 3 rfl) (by decide) ?_ ?_
  · refine qr_iconst o (q_dm dm_X12_tries 18 rfl) ic_m1 ?_
    exact qr_iret o rfl rfl (q_dm dm_X12_tries 19 rfl)
  · refine qr_aload_n o (q_dm dm_X12_tries 4 rfl) rfl ?_
    refine qr_iload_n o (q_dm dm_X12_tries 5 rfl) rfl ?_
    refine qr_callv_i (As := [.inl a2]) (S := []) o (a_X12_isKind g k.2.1 n j r hj hr a2 m2) (Nat.le_of_ble_eq_true rfl) zv_X12_isKind rfl cf_X12 (sh77 j r) ml_X12_157 (Nat.le_of_ble_eq_true rfl) (q_dm dm_X12_tries 6 rfl) (fun r3 m4 => ?_)
    refine qr_if_eq (tgt := 34) o (q_dm dm_X12_tries 7 rfl) (by decide) ?_ ?_
    · refine qr_iconst o (q_dm dm_X12_tries 18 rfl) ic_m1 ?_
      exact qr_iret o rfl rfl (q_dm dm_X12_tries 19 rfl)
    · refine qr_iload_n o (q_dm dm_X12_tries 8 rfl) rfl ?_
      refine qr_iconst o (q_dm dm_X12_tries 9 rfl) ic_m1 ?_
      refine qr_icmp_eq (tgt := 36) o (q_dm dm_X12_tries 10 rfl) (by decide) ?_ ?_
      · exact qr_loc (q_leS (q_leS (q_leS (q_leS q_le0)))) (w_X12_tries_36 n j r hj hr o a1 a2 a3 m4)
      · refine qr_aload_n o (q_dm dm_X12_tries 11 rfl) rfl ?_
        refine qr_iload_n o (q_dm dm_X12_tries 12 rfl) rfl ?_
        refine qr_callv_i (As := [.inl a3]) (S := []) o (a_X12_isPerson g k.2.1 n j r hj hr a3 m4) (Nat.le_of_ble_eq_true rfl) zv_X12_isPerson rfl cf_X12 (sh77 j r) ml_X12_310 (Nat.le_of_ble_eq_true rfl) (q_dm dm_X12_tries 13 rfl) (fun r5 m6 => ?_)
        refine qr_if_eq (tgt := 34) o (q_dm dm_X12_tries 14 rfl) (by decide) ?_ ?_
        · refine qr_iconst o (q_dm dm_X12_tries 18 rfl) ic_m1 ?_
          exact qr_iret o rfl rfl (q_dm dm_X12_tries 19 rfl)
        · refine qr_iload_n o (q_dm dm_X12_tries 15 rfl) rfl ?_
          refine qr_iload_n o (q_dm dm_X12_tries 16 rfl) rfl ?_
          refine qr_icmp_ne (tgt := 36) o (q_dm dm_X12_tries 17 rfl) (by decide) ?_ ?_
          · exact qr_loc (q_leS (q_leS (q_leS (q_leS q_le0)))) (w_X12_tries_36 n j r hj hr o a1 a2 a3 m6)
          · refine qr_iconst o (q_dm dm_X12_tries 18 rfl) ic_m1 ?_
            exact qr_iret o rfl rfl (q_dm dm_X12_tries 19 rfl)

theorem a_X12_tries (g : qG) (l : Launch) (n : Nat) (j r : Nat) (hj : q_isLaw j) (hr : q_isLaw r) (a1 a2 a3 : Int32) (M : qM) : qAM g l 5 zX12_tries (qL j r) [.inr (some 77), .inl a1, .inl a2, .inl a3] (qL j r, M) (f_X12_tries n a1 a2 a3 M) :=
  qAM.of zv_X12_tries.1 (by show 4 ≤ 4; decide) (fun k hk o => w_X12_tries n j r hj hr o a1 a2 a3 M)
def tb_X12_undo : List (Nat × Instr × Nat) := [(0, (.aload_n 0, 1)), (1, (.getfield 489, 3)), (4, (.ifCond .ne 5, 3)), (7, (.iconst 0, 1)), (8, (.ireturn, 1)), (9, (.aload_n 0, 1)), (10, (.getfield 16, 3)), (13, (.aload_n 0, 1)), (14, (.getfield 7, 3)), (17, (.invokestatic 319, 3)), (20, (.iconst 1, 1)), (21, (.ireturn, 1))]
theorem dm_X12_undo : ∀ q ∈ tb_X12_undo, decode zX12_undo.2.1 q.1 = .ok q.2 := by decide +kernel
def f_X12_undo (n : Nat) (M : qM) : qR :=
  (if (M 77 67) = (0 : Int32) then some ((0 : Int32), M) else qc (f_X12_copies n 80 78 M) (fun _ m1 => some ((1 : Int32), m1)))
set_option maxRecDepth 4000 in
theorem w_X12_undo {g : qG} {k : qK} (n : Nat) (j r : Nat) (hj : q_isLaw j) (hr : q_isLaw r) (o : qOk g 1 zX12_undo k) (M : qM) : qAE g k zX12_undo (qL j r) 0 [some (.inr (some 77))] [] (qL j r, M) (f_X12_undo n  M) := by
  unfold f_X12_undo
  refine qr_aload_n o (q_dm dm_X12_undo 0 rfl) rfl ?_
  refine qr_getf (kf := 67) o cf_X12 (sh77 j r) rfl (Nat.le_of_ble_eq_true rfl) fl_X12_489 (q_dm dm_X12_undo 1 rfl) ?_
  refine qr_if_ne (tgt := 9) o (q_dm dm_X12_undo 2 rfl) (by decide) ?_ ?_
  · refine qr_aload_n o (q_dm dm_X12_undo 5 rfl) rfl ?_
    refine qr_getr (kf := 2) o cf_X12 (sh77 j r) rfl (Nat.le_of_ble_eq_true rfl) fl_X12_16 (q_dm dm_X12_undo 6 rfl) ?_
    refine qr_aload_n o (q_dm dm_X12_undo 7 rfl) rfl ?_
    refine qr_getr (kf := 0) o cf_X12 (sh77 j r) rfl (Nat.le_of_ble_eq_true rfl) fl_X12_7 (q_dm dm_X12_undo 8 rfl) ?_
    refine qr_calls_v (As := [.inr (some 80), .inr (some 78)]) (S := []) o (a_X12_copies g k.2.1 n j r hj hr (sh80 j r) (sh78 j r) M) (Nat.le_of_ble_eq_true rfl) zs_X12_copies rfl ml_X12_319 (Nat.le_of_ble_eq_true rfl) (q_dm dm_X12_undo 9 rfl) (fun _ m1 => ?_)
    refine qr_iconst o (q_dm dm_X12_undo 10 rfl) ic_1 ?_
    exact qr_iret o rfl (by decide) (q_dm dm_X12_undo 11 rfl)
  · refine qr_iconst o (q_dm dm_X12_undo 3 rfl) ic_0 ?_
    exact qr_iret o rfl (by decide) (q_dm dm_X12_undo 4 rfl)

theorem a_X12_undo (g : qG) (l : Launch) (n : Nat) (j r : Nat) (hj : q_isLaw j) (hr : q_isLaw r) (M : qM) : qAM g l 1 zX12_undo (qL j r) [.inr (some 77)] (qL j r, M) (f_X12_undo n  M) :=
  qAM.of zv_X12_undo.1 (by show 1 ≤ 1; decide) (fun k hk o => w_X12_undo n j r hj hr o  M)

