def tb_X12_readsFactor : List (Nat × Instr × Nat) := [(0, (.aload_n 0, 1)), (1, (.invokevirtual 175, 3)), (4, (.bipush 91, 2)), (6, (.if_icmp .ne 14, 3)), (9, (.aload_n 0, 1)), (10, (.bipush 14, 2)), (12, (.invokevirtual 209, 3)), (15, (.ifCond .ne (-15), 3)), (18, (.iconst 0, 1)), (19, (.ireturn, 1)), (20, (.aload_n 0, 1)), (21, (.invokevirtual 188, 3)), (24, (.ifCond .eq 23, 3)), (27, (.aload_n 0, 1)), (28, (.invokevirtual 212, 3)), (31, (.ifCond .ne 5, 3)), (34, (.iconst 0, 1)), (35, (.ireturn, 1)), (36, (.aload_n 0, 1)), (37, (.iconst 0, 1)), (38, (.aload_n 0, 1)), (39, (.getfield 185, 3)), (42, (.invokevirtual 205, 3)), (45, (.iconst 1, 1)), (46, (.ireturn, 1)), (47, (.aload_n 0, 1)), (48, (.invokevirtual 175, 3)), (51, (.invokestatic 215, 3)), (54, (.istore_n 1, 1)), (55, (.iload_n 1, 1)), (56, (.iconst (-1), 1)), (57, (.if_icmp .ne 13, 3)), (60, (.aload_n 0, 1)), (61, (.iconst 1, 1)), (62, (.aload_n 0, 1)), (63, (.getfield 169, 3)), (66, (.invokevirtual 182, 3)), (69, (.ireturn, 1)), (70, (.aload_n 0, 1)), (71, (.iconst 1, 1)), (72, (.iload_n 1, 1)), (73, (.invokevirtual 205, 3)), (76, (.aload_n 0, 1)), (77, (.aload_n 0, 1)), (78, (.getfield 169, 3)), (81, (.iconst 1, 1)), (82, (.iadd, 1)), (83, (.putfield 169, 3)), (86, (.iconst 1, 1)), (87, (.ireturn, 1))]
theorem dm_X12_readsFactor : ∀ q ∈ tb_X12_readsFactor, decode zX12_readsFactor.2.1 q.1 = .ok q.2 := by decide +kernel
def b_X12_readsFactor_0 (n : Nat) (K0 : qM → qR) (M : qM) : qR :=
  qc (f_X12_here n  M) (fun r1 m2 => (if r1 = (91 : Int32) then qc (f_X12_opens n (14 : Int32) m2) (fun r16 m17 => (if r16 = (0 : Int32) then some ((0 : Int32), m17) else K0  m17)) else qc (f_X12_isDigit n  m2) (fun r3 m4 => (if r3 = (0 : Int32) then qc (f_X12_here n  m4) (fun r5 m6 => qc (f_X12_factOf n r5 m6) (fun r7 m8 => (if r7 = (-1 : Int32) then qc (f_X12_wrongAt n (1 : Int32) (m8 77 9) m8) (fun r11 m12 => qb r11 (some (r11, m12))) else qc (f_X12_notes n (1 : Int32) r7 m8) (fun _ m9 => qlm (mu m9 77 9 ((m9 77 9) + (1 : Int32))) (fun m10 => some ((1 : Int32), m10)))))) else qc (f_X12_readsNumber n  m4) (fun r13 m14 => (if r13 = (0 : Int32) then some ((0 : Int32), m14) else qc (f_X12_notes n (0 : Int32) (m14 77 12) m14) (fun _ m15 => some ((1 : Int32), m15))))))))
set_option maxRecDepth 4000 in
theorem wb_X12_readsFactor_0 {g : qG} {k : qK} (n : Nat) (j r : Nat) (hj : q_isLaw j) (hr : q_isLaw r) (o : qOk g 3 zX12_readsFactor k) (K0 : qM → qR) (hK0 : ∀ (M : qM), qAE g k zX12_readsFactor (qL j r) 0 [some (.inr (some 77)), none] [] (qL j r, M) (K0  M)) (M : qM) : qAE g k zX12_readsFactor (qL j r) 0 [some (.inr (some 77)), none] [] (qL j r, M) (b_X12_readsFactor_0 n K0  M) := by
  unfold b_X12_readsFactor_0
  refine qr_aload_n o (q_dm dm_X12_readsFactor 0 rfl) rfl ?_
  refine qr_callv_i (As := []) (S := []) o (a_X12_here g k.2.1 n j r hj hr  M) (Nat.le_of_ble_eq_true rfl) zv_X12_here rfl cf_X12 (sh77 j r) ml_X12_175 (Nat.le_of_ble_eq_true rfl) (q_dm dm_X12_readsFactor 1 rfl) (fun r1 m2 => ?_)
  refine qr_bipush o (q_dm dm_X12_readsFactor 2 rfl) bi_91 ?_
  refine qr_icmp_ne (tgt := 20) o (q_dm dm_X12_readsFactor 3 rfl) (by decide) ?_ ?_
  · refine qr_aload_n o (q_dm dm_X12_readsFactor 10 rfl) rfl ?_
    refine qr_callv_i (As := []) (S := []) o (a_X12_isDigit g k.2.1 n j r hj hr  m2) (Nat.le_of_ble_eq_true rfl) zv_X12_isDigit rfl cf_X12 (sh77 j r) ml_X12_188 (Nat.le_of_ble_eq_true rfl) (q_dm dm_X12_readsFactor 11 rfl) (fun r3 m4 => ?_)
    refine qr_if_eq (tgt := 47) o (q_dm dm_X12_readsFactor 12 rfl) (by decide) ?_ ?_
    · refine qr_aload_n o (q_dm dm_X12_readsFactor 25 rfl) rfl ?_
      refine qr_callv_i (As := []) (S := []) o (a_X12_here g k.2.1 n j r hj hr  m4) (Nat.le_of_ble_eq_true rfl) zv_X12_here rfl cf_X12 (sh77 j r) ml_X12_175 (Nat.le_of_ble_eq_true rfl) (q_dm dm_X12_readsFactor 26 rfl) (fun r5 m6 => ?_)
      refine qr_calls_i (As := [.inl r5]) (S := []) o (a_X12_factOf g k.2.1 n j r hj hr r5 m6) (Nat.le_of_ble_eq_true rfl) zs_X12_factOf rfl ml_X12_215 (Nat.le_of_ble_eq_true rfl) (q_dm dm_X12_readsFactor 27 rfl) (fun r7 m8 => ?_)
      refine qs_istore_n (L' := [some (.inr (some 77)), some (.inl r7)]) o (q_dm dm_X12_readsFactor 28 rfl) (Nat.le_of_ble_eq_true rfl) rfl ?_
      refine qr_iload_n o (q_dm dm_X12_readsFactor 29 rfl) rfl ?_
      refine qr_iconst o (q_dm dm_X12_readsFactor 30 rfl) ic_m1 ?_
      refine qr_icmp_ne (tgt := 70) o (q_dm dm_X12_readsFactor 31 rfl) (by decide) ?_ ?_
      · refine qr_aload_n o (q_dm dm_X12_readsFactor 38 rfl) rfl ?_
        refine qr_iconst o (q_dm dm_X12_readsFactor 39 rfl) ic_1 ?_
        refine qr_iload_n o (q_dm dm_X12_readsFactor 40 rfl) rfl ?_
        refine qr_callv_v (As := [.inl (1 : Int32), .inl r7]) (S := []) o (a_X12_notes g k.2.1 n j r hj hr (1 : Int32) r7 m8) (Nat.le_of_ble_eq_true rfl) zv_X12_notes rfl cf_X12 (sh77 j r) ml_X12_205 (Nat.le_of_ble_eq_true rfl) (q_dm dm_X12_readsFactor 41 rfl) (fun _ m9 => ?_)
        refine qr_aload_n o (q_dm dm_X12_readsFactor 42 rfl) rfl ?_
        refine qr_aload_n o (q_dm dm_X12_readsFactor 43 rfl) rfl ?_
        refine qr_getf (kf := 9) o cf_X12 (sh77 j r) rfl (Nat.le_of_ble_eq_true rfl) fl_X12_169 (q_dm dm_X12_readsFactor 44 rfl) ?_
        refine qr_iconst o (q_dm dm_X12_readsFactor 45 rfl) ic_1 ?_
        refine qr_iadd o (q_dm dm_X12_readsFactor 46 rfl) ?_
        refine qr_putf (kf := 9) o cf_X12 (sh77 j r) rfl (Nat.le_of_ble_eq_true rfl) fl_X12_169 rfl (by decide +kernel) (q_dm dm_X12_readsFactor 47 rfl) ?_
        refine qr_letm (fun m10 => ?_)
        refine qr_iconst o (q_dm dm_X12_readsFactor 48 rfl) ic_1 ?_
        exact qr_iret o rfl (by decide) (q_dm dm_X12_readsFactor 49 rfl)
      · refine qr_aload_n o (q_dm dm_X12_readsFactor 32 rfl) rfl ?_
        refine qr_iconst o (q_dm dm_X12_readsFactor 33 rfl) ic_1 ?_
        refine qr_aload_n o (q_dm dm_X12_readsFactor 34 rfl) rfl ?_
        refine qr_getf (kf := 9) o cf_X12 (sh77 j r) rfl (Nat.le_of_ble_eq_true rfl) fl_X12_169 (q_dm dm_X12_readsFactor 35 rfl) ?_
        refine qr_callv_i (As := [.inl (1 : Int32), .inl (m8 77 9)]) (S := []) o (a_X12_wrongAt g k.2.1 n j r hj hr (1 : Int32) (m8 77 9) m8) (Nat.le_of_ble_eq_true rfl) zv_X12_wrongAt rfl cf_X12 (sh77 j r) ml_X12_182 (Nat.le_of_ble_eq_true rfl) (q_dm dm_X12_readsFactor 36 rfl) (fun r11 m12 => ?_)
        exact qr_zret o rfl (q_dm dm_X12_readsFactor 37 rfl)
    · refine qr_aload_n o (q_dm dm_X12_readsFactor 13 rfl) rfl ?_
      refine qr_callv_i (As := []) (S := []) o (a_X12_readsNumber g k.2.1 n j r hj hr  m4) (Nat.le_of_ble_eq_true rfl) zv_X12_readsNumber rfl cf_X12 (sh77 j r) ml_X12_212 (Nat.le_of_ble_eq_true rfl) (q_dm dm_X12_readsFactor 14 rfl) (fun r13 m14 => ?_)
      refine qr_if_ne (tgt := 36) o (q_dm dm_X12_readsFactor 15 rfl) (by decide) ?_ ?_
      · refine qr_aload_n o (q_dm dm_X12_readsFactor 18 rfl) rfl ?_
        refine qr_iconst o (q_dm dm_X12_readsFactor 19 rfl) ic_0 ?_
        refine qr_aload_n o (q_dm dm_X12_readsFactor 20 rfl) rfl ?_
        refine qr_getf (kf := 12) o cf_X12 (sh77 j r) rfl (Nat.le_of_ble_eq_true rfl) fl_X12_185 (q_dm dm_X12_readsFactor 21 rfl) ?_
        refine qr_callv_v (As := [.inl (0 : Int32), .inl (m14 77 12)]) (S := []) o (a_X12_notes g k.2.1 n j r hj hr (0 : Int32) (m14 77 12) m14) (Nat.le_of_ble_eq_true rfl) zv_X12_notes rfl cf_X12 (sh77 j r) ml_X12_205 (Nat.le_of_ble_eq_true rfl) (q_dm dm_X12_readsFactor 22 rfl) (fun _ m15 => ?_)
        refine qr_iconst o (q_dm dm_X12_readsFactor 23 rfl) ic_1 ?_
        exact qr_iret o rfl (by decide) (q_dm dm_X12_readsFactor 24 rfl)
      · refine qr_iconst o (q_dm dm_X12_readsFactor 16 rfl) ic_0 ?_
        exact qr_iret o rfl (by decide) (q_dm dm_X12_readsFactor 17 rfl)
  · refine qr_aload_n o (q_dm dm_X12_readsFactor 4 rfl) rfl ?_
    refine qr_bipush o (q_dm dm_X12_readsFactor 5 rfl) bi_14 ?_
    refine qr_callv_i (As := [.inl (14 : Int32)]) (S := []) o (a_X12_opens g k.2.1 n j r hj hr (14 : Int32) m2) (Nat.le_of_ble_eq_true rfl) zv_X12_opens rfl cf_X12 (sh77 j r) ml_X12_209 (Nat.le_of_ble_eq_true rfl) (q_dm dm_X12_readsFactor 6 rfl) (fun r16 m17 => ?_)
    refine qr_if_ne (tgt := 0) o (q_dm dm_X12_readsFactor 7 rfl) (by decide) ?_ ?_
    · exact qr_loc (q_leS (q_leN q_le0)) (hK0  m17)
    · refine qr_iconst o (q_dm dm_X12_readsFactor 8 rfl) ic_0 ?_
      exact qr_iret o rfl (by decide) (q_dm dm_X12_readsFactor 9 rfl)

def f_X12_readsFactor_0 (n : Nat) : Nat → qM → qR
  | 0, _ => none
  | m + 1, M => b_X12_readsFactor_0 n (f_X12_readsFactor_0 n m)  M
theorem w_X12_readsFactor_0 {g : qG} {k : qK} (n : Nat) (j r : Nat) (hj : q_isLaw j) (hr : q_isLaw r) (o : qOk g 3 zX12_readsFactor k) : ∀ (m : Nat) (M : qM), qAE g k zX12_readsFactor (qL j r) 0 [some (.inr (some 77)), none] [] (qL j r, M) (f_X12_readsFactor_0 n m  M) := by
  intro m
  induction m with
  | zero =>
    intro  M
    exact qr_none
  | succ m ih =>
    intro  M
    exact wb_X12_readsFactor_0 n j r hj hr o (f_X12_readsFactor_0 n m) ih  M
def f_X12_readsFactor (n : Nat) (M : qM) : qR :=
  f_X12_readsFactor_0 n n  M
set_option maxRecDepth 4000 in
theorem w_X12_readsFactor {g : qG} {k : qK} (n : Nat) (j r : Nat) (hj : q_isLaw j) (hr : q_isLaw r) (o : qOk g 3 zX12_readsFactor k) (M : qM) : qAE g k zX12_readsFactor (qL j r) 0 [some (.inr (some 77)), none] [] (qL j r, M) (f_X12_readsFactor n  M) := by
  unfold f_X12_readsFactor
  exact qr_loc (q_leS (q_leN q_le0)) (w_X12_readsFactor_0 n j r hj hr o n  M)

theorem a_X12_readsFactor (g : qG) (l : Launch) (n : Nat) (j r : Nat) (hj : q_isLaw j) (hr : q_isLaw r) (M : qM) : qAM g l 3 zX12_readsFactor (qL j r) [.inr (some 77)] (qL j r, M) (f_X12_readsFactor n  M) :=
  qAM.of zv_X12_readsFactor.1 (by show 1 ≤ 2; decide) (fun k hk o => w_X12_readsFactor n j r hj hr o  M)
def tb_X12_sumSign : List (Nat × Instr × Nat) := [(0, (.iload_n 0, 1)), (1, (.bipush 43, 2)), (3, (.if_icmp .ne 7, 3)), (6, (.iconst 2, 1)), (7, (.goto 45, 3)), (10, (.iload_n 0, 1)), (11, (.bipush 45, 2)), (13, (.if_icmp .ne 7, 3)), (16, (.iconst 3, 1)), (17, (.goto 35, 3)), (20, (.iload_n 0, 1)), (21, (.bipush 42, 2)), (23, (.if_icmp .ne 7, 3)), (26, (.iconst 4, 1)), (27, (.goto 25, 3)), (30, (.iload_n 0, 1)), (31, (.bipush 47, 2)), (33, (.if_icmp .ne 7, 3)), (36, (.iconst 5, 1)), (37, (.goto 15, 3)), (40, (.iload_n 0, 1)), (41, (.bipush 37, 2)), (43, (.if_icmp .ne 8, 3)), (46, (.bipush 6, 2)), (48, (.goto 4, 3)), (51, (.iconst (-1), 1)), (52, (.ireturn, 1))]
theorem dm_X12_sumSign : ∀ q ∈ tb_X12_sumSign, decode zX12_sumSign.2.1 q.1 = .ok q.2 := by decide +kernel
def f_X12_sumSign (n : Nat) (a0 : Int32) (M : qM) : qR :=
  (if a0 = (43 : Int32) then some ((2 : Int32), M) else (if a0 = (45 : Int32) then some ((3 : Int32), M) else (if a0 = (42 : Int32) then some ((4 : Int32), M) else (if a0 = (47 : Int32) then some ((5 : Int32), M) else (if a0 = (37 : Int32) then some ((6 : Int32), M) else some ((-1 : Int32), M))))))
set_option maxRecDepth 4000 in
theorem w_X12_sumSign {g : qG} {k : qK} (n : Nat) (j r : Nat) (hj : q_isLaw j) (hr : q_isLaw r) (o : qOk g 0 zX12_sumSign k) (a0 : Int32) (M : qM) : qAE g k zX12_sumSign (qL j r) 0 [some (.inl a0)] [] (qL j r, M) (f_X12_sumSign n a0 M) := by
  unfold f_X12_sumSign
  refine qr_iload_n o (q_dm dm_X12_sumSign 0 rfl) rfl ?_
  refine qr_bipush o (q_dm dm_X12_sumSign 1 rfl) bi_43 ?_
  refine qr_icmp_ne (tgt := 10) o (q_dm dm_X12_sumSign 2 rfl) (by decide) ?_ ?_
  · refine qr_iload_n o (q_dm dm_X12_sumSign 5 rfl) rfl ?_
    refine qr_bipush o (q_dm dm_X12_sumSign 6 rfl) bi_45 ?_
    refine qr_icmp_ne (tgt := 20) o (q_dm dm_X12_sumSign 7 rfl) (by decide) ?_ ?_
    · refine qr_iload_n o (q_dm dm_X12_sumSign 10 rfl) rfl ?_
      refine qr_bipush o (q_dm dm_X12_sumSign 11 rfl) bi_42 ?_
      refine qr_icmp_ne (tgt := 30) o (q_dm dm_X12_sumSign 12 rfl) (by decide) ?_ ?_
      · refine qr_iload_n o (q_dm dm_X12_sumSign 15 rfl) rfl ?_
        refine qr_bipush o (q_dm dm_X12_sumSign 16 rfl) bi_47 ?_
        refine qr_icmp_ne (tgt := 40) o (q_dm dm_X12_sumSign 17 rfl) (by decide) ?_ ?_
        · refine qr_iload_n o (q_dm dm_X12_sumSign 20 rfl) rfl ?_
          refine qr_bipush o (q_dm dm_X12_sumSign 21 rfl) bi_37 ?_
          refine qr_icmp_ne (tgt := 51) o (q_dm dm_X12_sumSign 22 rfl) (by decide) ?_ ?_
          · refine qr_iconst o (q_dm dm_X12_sumSign 25 rfl) ic_m1 ?_
            exact qr_iret o rfl rfl (q_dm dm_X12_sumSign 26 rfl)
          · refine qr_bipush o (q_dm dm_X12_sumSign 23 rfl) bi_6 ?_
            refine qr_goto (tgt := 52) o (q_dm dm_X12_sumSign 24 rfl) (by decide) ?_
            exact qr_iret o rfl rfl (q_dm dm_X12_sumSign 26 rfl)
        · refine qr_iconst o (q_dm dm_X12_sumSign 18 rfl) ic_5 ?_
          refine qr_goto (tgt := 52) o (q_dm dm_X12_sumSign 19 rfl) (by decide) ?_
          exact qr_iret o rfl rfl (q_dm dm_X12_sumSign 26 rfl)
      · refine qr_iconst o (q_dm dm_X12_sumSign 13 rfl) ic_4 ?_
        refine qr_goto (tgt := 52) o (q_dm dm_X12_sumSign 14 rfl) (by decide) ?_
        exact qr_iret o rfl rfl (q_dm dm_X12_sumSign 26 rfl)
    · refine qr_iconst o (q_dm dm_X12_sumSign 8 rfl) ic_3 ?_
      refine qr_goto (tgt := 52) o (q_dm dm_X12_sumSign 9 rfl) (by decide) ?_
      exact qr_iret o rfl rfl (q_dm dm_X12_sumSign 26 rfl)
  · refine qr_iconst o (q_dm dm_X12_sumSign 3 rfl) ic_2 ?_
    refine qr_goto (tgt := 52) o (q_dm dm_X12_sumSign 4 rfl) (by decide) ?_
    exact qr_iret o rfl rfl (q_dm dm_X12_sumSign 26 rfl)

theorem a_X12_sumSign (g : qG) (l : Launch) (n : Nat) (j r : Nat) (hj : q_isLaw j) (hr : q_isLaw r) (a0 : Int32) (M : qM) : qAM g l 0 zX12_sumSign (qL j r) [.inl a0] (qL j r, M) (f_X12_sumSign n a0 M) :=
  qAM.of zs_X12_sumSign.1 (by show 1 ≤ 1; decide) (fun k hk o => w_X12_sumSign n j r hj hr o a0 M)
def tb_X12_readsSum : List (Nat × Instr × Nat) := [(0, (.aload_n 0, 1)), (1, (.getfield 199, 3)), (4, (.istore_n 1, 1)), (5, (.aload_n 0, 1)), (6, (.invokevirtual 219, 3)), (9, (.ifCond .ne 5, 3)), (12, (.iconst 0, 1)), (13, (.ireturn, 1)), (14, (.aload_n 0, 1)), (15, (.invokevirtual 175, 3)), (18, (.invokestatic 222, 3)), (21, (.istore_n 2, 1)), (22, (.iload_n 2, 1)), (23, (.iconst (-1), 1)), (24, (.if_icmp .eq 59, 3)), (27, (.aload_n 0, 1)), (28, (.iload_n 2, 1)), (29, (.iconst 4, 1)), (30, (.if_icmp .ge 7, 3)), (33, (.iconst 1, 1)), (34, (.goto 4, 3)), (37, (.iconst 0, 1)), (38, (.invokevirtual 225, 3)), (41, (.aload_n 0, 1)), (42, (.getfield 35, 3)), (45, (.aload_n 0, 1)), (46, (.getfield 199, 3)), (49, (.ldc 195, 2)), (51, (.iload_n 2, 1)), (52, (.imul, 1)), (53, (.iastore, 1)), (54, (.aload_n 0, 1)), (55, (.aload_n 0, 1)), (56, (.getfield 199, 3)), (59, (.iconst 1, 1)), (60, (.iadd, 1)), (61, (.putfield 199, 3)), (64, (.aload_n 0, 1)), (65, (.aload_n 0, 1)), (66, (.getfield 169, 3)), (69, (.iconst 1, 1)), (70, (.iadd, 1)), (71, (.putfield 169, 3)), (74, (.aload_n 0, 1)), (75, (.invokevirtual 219, 3)), (78, (.ifCond .ne 85, 3)), (81, (.iconst 0, 1)), (82, (.ireturn, 1)), (83, (.aload_n 0, 1)), (84, (.invokevirtual 175, 3)), (87, (.bipush 93, 2)), (89, (.if_icmp .ne 49, 3)), (92, (.aload_n 0, 1)), (93, (.iload_n 1, 1)), (94, (.invokevirtual 229, 3)), (97, (.ifCond .eq 41, 3)), (100, (.aload_n 0, 1)), (101, (.iconst 1, 1)), (102, (.invokevirtual 225, 3)), (105, (.aload_n 0, 1)), (106, (.aload_n 0, 1)), (107, (.getfield 199, 3)), (110, (.iconst 1, 1)), (111, (.isub, 1)), (112, (.putfield 199, 3)), (115, (.aload_n 0, 1)), (116, (.aload_n 0, 1)), (117, (.getfield 196, 3)), (120, (.iconst 1, 1)), (121, (.isub, 1)), (122, (.putfield 196, 3)), (125, (.aload_n 0, 1)), (126, (.aload_n 0, 1)), (127, (.getfield 169, 3)), (130, (.iconst 1, 1)), (131, (.iadd, 1)), (132, (.putfield 169, 3)), (135, (.goto 28, 3)), (138, (.aload_n 0, 1)), (139, (.iload_n 1, 1)), (140, (.invokevirtual 229, 3)), (143, (.ifCond .eq 13, 3)), (146, (.aload_n 0, 1)), (147, (.iconst 1, 1)), (148, (.aload_n 0, 1)), (149, (.getfield 169, 3)), (152, (.invokevirtual 182, 3)), (155, (.ireturn, 1)), (156, (.aload_n 0, 1)), (157, (.iconst 1, 1)), (158, (.invokevirtual 225, 3)), (161, (.iconst 1, 1)), (162, (.ireturn, 1)), (163, (.goto (-149), 3))]
theorem dm_X12_readsSum : ∀ q ∈ tb_X12_readsSum, decode zX12_readsSum.2.1 q.1 = .ok q.2 := by decide +kernel
def f_X12_readsSum_138 (n : Nat) (a1 : Int32) (M : qM) : qR :=
  qc (f_X12_hasOpenSum n a1 M) (fun r1 m2 => (if r1 = (0 : Int32) then qc (f_X12_closesSums n (1 : Int32) m2) (fun _ m3 => some ((1 : Int32), m3)) else qc (f_X12_wrongAt n (1 : Int32) (m2 77 9) m2) (fun r4 m5 => qb r4 (some (r4, m5)))))
set_option maxRecDepth 4000 in
theorem w_X12_readsSum_138 {g : qG} {k : qK} (n : Nat) (j r : Nat) (hj : q_isLaw j) (hr : q_isLaw r) (o : qOk g 4 zX12_readsSum k) (a1 : Int32) (M : qM) : qAE g k zX12_readsSum (qL j r) 138 [some (.inr (some 77)), some (.inl a1), none] [] (qL j r, M) (f_X12_readsSum_138 n a1 M) := by
  unfold f_X12_readsSum_138
  refine qr_aload_n o (q_dm dm_X12_readsSum 78 rfl) rfl ?_
  refine qr_iload_n o (q_dm dm_X12_readsSum 79 rfl) rfl ?_
  refine qr_callv_i (As := [.inl a1]) (S := []) o (a_X12_hasOpenSum g k.2.1 n j r hj hr a1 M) (Nat.le_of_ble_eq_true rfl) zv_X12_hasOpenSum rfl cf_X12 (sh77 j r) ml_X12_229 (Nat.le_of_ble_eq_true rfl) (q_dm dm_X12_readsSum 80 rfl) (fun r1 m2 => ?_)
  refine qr_if_eq (tgt := 156) o (q_dm dm_X12_readsSum 81 rfl) (by decide) ?_ ?_
  · refine qr_aload_n o (q_dm dm_X12_readsSum 88 rfl) rfl ?_
    refine qr_iconst o (q_dm dm_X12_readsSum 89 rfl) ic_1 ?_
    refine qr_callv_v (As := [.inl (1 : Int32)]) (S := []) o (a_X12_closesSums g k.2.1 n j r hj hr (1 : Int32) m2) (Nat.le_of_ble_eq_true rfl) zv_X12_closesSums rfl cf_X12 (sh77 j r) ml_X12_225 (Nat.le_of_ble_eq_true rfl) (q_dm dm_X12_readsSum 90 rfl) (fun _ m3 => ?_)
    refine qr_iconst o (q_dm dm_X12_readsSum 91 rfl) ic_1 ?_
    exact qr_iret o rfl (by decide) (q_dm dm_X12_readsSum 92 rfl)
  · refine qr_aload_n o (q_dm dm_X12_readsSum 82 rfl) rfl ?_
    refine qr_iconst o (q_dm dm_X12_readsSum 83 rfl) ic_1 ?_
    refine qr_aload_n o (q_dm dm_X12_readsSum 84 rfl) rfl ?_
    refine qr_getf (kf := 9) o cf_X12 (sh77 j r) rfl (Nat.le_of_ble_eq_true rfl) fl_X12_169 (q_dm dm_X12_readsSum 85 rfl) ?_
    refine qr_callv_i (As := [.inl (1 : Int32), .inl (m2 77 9)]) (S := []) o (a_X12_wrongAt g k.2.1 n j r hj hr (1 : Int32) (m2 77 9) m2) (Nat.le_of_ble_eq_true rfl) zv_X12_wrongAt rfl cf_X12 (sh77 j r) ml_X12_182 (Nat.le_of_ble_eq_true rfl) (q_dm dm_X12_readsSum 86 rfl) (fun r4 m5 => ?_)
    exact qr_zret o rfl (q_dm dm_X12_readsSum 87 rfl)

def f_X12_readsSum_38 (n : Nat) (K14 : Int32 → qM → qR) (a1 a2 s1 : Int32) (M : qM) : qR :=
  qc (f_X12_closesSums n s1 M) (fun _ m1 => qg (m1 77 15) 260 (qlm (mu m1 86 (m1 77 15).toNatClampNeg ((1048576 : Int32) * a2)) (fun m2 => qlm (mu m2 77 15 ((m2 77 15) + (1 : Int32))) (fun m3 => qlm (mu m3 77 9 ((m3 77 9) + (1 : Int32))) (fun m4 => qc (f_X12_readsFactor n  m4) (fun r5 m6 => (if r5 = (0 : Int32) then some ((0 : Int32), m6) else K14 a1 m6)))))))
set_option maxRecDepth 4000 in
theorem w_X12_readsSum_38 {g : qG} {k : qK} (n : Nat) (j r : Nat) (hj : q_isLaw j) (hr : q_isLaw r) (o : qOk g 4 zX12_readsSum k) (K14 : Int32 → qM → qR) (hK14 : ∀ (a1 : Int32) (M : qM), qAE g k zX12_readsSum (qL j r) 14 [some (.inr (some 77)), some (.inl a1), none] [] (qL j r, M) (K14 a1 M)) (a1 a2 s1 : Int32) (M : qM) : qAE g k zX12_readsSum (qL j r) 38 [some (.inr (some 77)), some (.inl a1), some (.inl a2)] [.inl s1, .inr (some 77)] (qL j r, M) (f_X12_readsSum_38 n K14 a1 a2 s1 M) := by
  unfold f_X12_readsSum_38
  refine qr_callv_v (As := [.inl s1]) (S := []) o (a_X12_closesSums g k.2.1 n j r hj hr s1 M) (Nat.le_of_ble_eq_true rfl) zv_X12_closesSums rfl cf_X12 (sh77 j r) ml_X12_225 (Nat.le_of_ble_eq_true rfl) (q_dm dm_X12_readsSum 22 rfl) (fun _ m1 => ?_)
  refine qr_aload_n o (q_dm dm_X12_readsSum 23 rfl) rfl ?_
  refine qr_getr (kf := 19) o cf_X12 (sh77 j r) rfl (Nat.le_of_ble_eq_true rfl) fl_X12_35 (q_dm dm_X12_readsSum 24 rfl) ?_
  refine qr_aload_n o (q_dm dm_X12_readsSum 25 rfl) rfl ?_
  refine qr_getf (kf := 15) o cf_X12 (sh77 j r) rfl (Nat.le_of_ble_eq_true rfl) fl_X12_199 (q_dm dm_X12_readsSum 26 rfl) ?_
  refine qr_ldc o (q_dm dm_X12_readsSum 27 rfl) kc_X12_195 ?_
  refine qr_iload_n o (q_dm dm_X12_readsSum 28 rfl) rfl ?_
  refine qr_imul o (q_dm dm_X12_readsSum 29 rfl) ?_
  refine qr_iast o (sh86 j r) (q_dm dm_X12_readsSum 30 rfl) ?_
  refine qr_letm (fun m2 => ?_)
  refine qr_aload_n o (q_dm dm_X12_readsSum 31 rfl) rfl ?_
  refine qr_aload_n o (q_dm dm_X12_readsSum 32 rfl) rfl ?_
  refine qr_getf (kf := 15) o cf_X12 (sh77 j r) rfl (Nat.le_of_ble_eq_true rfl) fl_X12_199 (q_dm dm_X12_readsSum 33 rfl) ?_
  refine qr_iconst o (q_dm dm_X12_readsSum 34 rfl) ic_1 ?_
  refine qr_iadd o (q_dm dm_X12_readsSum 35 rfl) ?_
  refine qr_putf (kf := 15) o cf_X12 (sh77 j r) rfl (Nat.le_of_ble_eq_true rfl) fl_X12_199 rfl (by decide +kernel) (q_dm dm_X12_readsSum 36 rfl) ?_
  refine qr_letm (fun m3 => ?_)
  refine qr_aload_n o (q_dm dm_X12_readsSum 37 rfl) rfl ?_
  refine qr_aload_n o (q_dm dm_X12_readsSum 38 rfl) rfl ?_
  refine qr_getf (kf := 9) o cf_X12 (sh77 j r) rfl (Nat.le_of_ble_eq_true rfl) fl_X12_169 (q_dm dm_X12_readsSum 39 rfl) ?_
  refine qr_iconst o (q_dm dm_X12_readsSum 40 rfl) ic_1 ?_
  refine qr_iadd o (q_dm dm_X12_readsSum 41 rfl) ?_
  refine qr_putf (kf := 9) o cf_X12 (sh77 j r) rfl (Nat.le_of_ble_eq_true rfl) fl_X12_169 rfl (by decide +kernel) (q_dm dm_X12_readsSum 42 rfl) ?_
  refine qr_letm (fun m4 => ?_)
  refine qr_aload_n o (q_dm dm_X12_readsSum 43 rfl) rfl ?_
  refine qr_callv_i (As := []) (S := []) o (a_X12_readsFactor g k.2.1 n j r hj hr  m4) (Nat.le_of_ble_eq_true rfl) zv_X12_readsFactor rfl cf_X12 (sh77 j r) ml_X12_219 (Nat.le_of_ble_eq_true rfl) (q_dm dm_X12_readsSum 44 rfl) (fun r5 m6 => ?_)
  refine qr_if_ne (tgt := 163) o (q_dm dm_X12_readsSum 45 rfl) (by decide) ?_ ?_
  · refine qr_goto (tgt := 14) o (q_dm dm_X12_readsSum 93 rfl) (by decide) ?_
    exact qr_loc (q_leS (q_leS (q_leN q_le0))) (hK14 a1 m6)
  · refine qr_iconst o (q_dm dm_X12_readsSum 46 rfl) ic_0 ?_
    exact qr_iret o rfl (by decide) (q_dm dm_X12_readsSum 47 rfl)

def b_X12_readsSum_14 (n : Nat) (K14 : Int32 → qM → qR) (a1 : Int32) (M : qM) : qR :=
  qc (f_X12_here n  M) (fun r1 m2 => qc (f_X12_sumSign n r1 m2) (fun r3 m4 => (if r3 = (-1 : Int32) then qc (f_X12_here n  m4) (fun r5 m6 => (if r5 = (93 : Int32) then qc (f_X12_hasOpenSum n a1 m6) (fun r7 m8 => (if r7 = (0 : Int32) then f_X12_readsSum_138 n a1 m8 else qc (f_X12_closesSums n (1 : Int32) m8) (fun _ m9 => qlm (mu m9 77 15 ((m9 77 15) - (1 : Int32))) (fun m10 => qlm (mu m10 77 13 ((m10 77 13) - (1 : Int32))) (fun m11 => qlm (mu m11 77 9 ((m11 77 9) + (1 : Int32))) (fun m12 => K14 a1 m12)))))) else f_X12_readsSum_138 n a1 m6)) else (if (4 : Int32) ≤ r3 then f_X12_readsSum_38 n K14 a1 r3 (0 : Int32) m4 else f_X12_readsSum_38 n K14 a1 r3 (1 : Int32) m4))))
set_option maxRecDepth 4000 in
theorem wb_X12_readsSum_14 {g : qG} {k : qK} (n : Nat) (j r : Nat) (hj : q_isLaw j) (hr : q_isLaw r) (o : qOk g 4 zX12_readsSum k) (K14 : Int32 → qM → qR) (hK14 : ∀ (a1 : Int32) (M : qM), qAE g k zX12_readsSum (qL j r) 14 [some (.inr (some 77)), some (.inl a1), none] [] (qL j r, M) (K14 a1 M)) (a1 : Int32) (M : qM) : qAE g k zX12_readsSum (qL j r) 14 [some (.inr (some 77)), some (.inl a1), none] [] (qL j r, M) (b_X12_readsSum_14 n K14 a1 M) := by
  unfold b_X12_readsSum_14
  refine qr_aload_n o (q_dm dm_X12_readsSum 8 rfl) rfl ?_
  refine qr_callv_i (As := []) (S := []) o (a_X12_here g k.2.1 n j r hj hr  M) (Nat.le_of_ble_eq_true rfl) zv_X12_here rfl cf_X12 (sh77 j r) ml_X12_175 (Nat.le_of_ble_eq_true rfl) (q_dm dm_X12_readsSum 9 rfl) (fun r1 m2 => ?_)
  refine qr_calls_i (As := [.inl r1]) (S := []) o (a_X12_sumSign g k.2.1 n j r hj hr r1 m2) (Nat.le_of_ble_eq_true rfl) zs_X12_sumSign rfl ml_X12_222 (Nat.le_of_ble_eq_true rfl) (q_dm dm_X12_readsSum 10 rfl) (fun r3 m4 => ?_)
  refine qs_istore_n (L' := [some (.inr (some 77)), some (.inl a1), some (.inl r3)]) o (q_dm dm_X12_readsSum 11 rfl) (Nat.le_of_ble_eq_true rfl) rfl ?_
  refine qr_iload_n o (q_dm dm_X12_readsSum 12 rfl) rfl ?_
  refine qr_iconst o (q_dm dm_X12_readsSum 13 rfl) ic_m1 ?_
  refine qr_icmp_eq (tgt := 83) o (q_dm dm_X12_readsSum 14 rfl) (by decide) ?_ ?_
  · refine qr_aload_n o (q_dm dm_X12_readsSum 48 rfl) rfl ?_
    refine qr_callv_i (As := []) (S := []) o (a_X12_here g k.2.1 n j r hj hr  m4) (Nat.le_of_ble_eq_true rfl) zv_X12_here rfl cf_X12 (sh77 j r) ml_X12_175 (Nat.le_of_ble_eq_true rfl) (q_dm dm_X12_readsSum 49 rfl) (fun r5 m6 => ?_)
    refine qr_bipush o (q_dm dm_X12_readsSum 50 rfl) bi_93 ?_
    refine qr_icmp_ne (tgt := 138) o (q_dm dm_X12_readsSum 51 rfl) (by decide) ?_ ?_
    · exact qr_loc (q_leS (q_leS (q_leN q_le0))) (w_X12_readsSum_138 n j r hj hr o a1 m6)
    · refine qr_aload_n o (q_dm dm_X12_readsSum 52 rfl) rfl ?_
      refine qr_iload_n o (q_dm dm_X12_readsSum 53 rfl) rfl ?_
      refine qr_callv_i (As := [.inl a1]) (S := []) o (a_X12_hasOpenSum g k.2.1 n j r hj hr a1 m6) (Nat.le_of_ble_eq_true rfl) zv_X12_hasOpenSum rfl cf_X12 (sh77 j r) ml_X12_229 (Nat.le_of_ble_eq_true rfl) (q_dm dm_X12_readsSum 54 rfl) (fun r7 m8 => ?_)
      refine qr_if_eq (tgt := 138) o (q_dm dm_X12_readsSum 55 rfl) (by decide) ?_ ?_
      · exact qr_loc (q_leS (q_leS (q_leN q_le0))) (w_X12_readsSum_138 n j r hj hr o a1 m8)
      · refine qr_aload_n o (q_dm dm_X12_readsSum 56 rfl) rfl ?_
        refine qr_iconst o (q_dm dm_X12_readsSum 57 rfl) ic_1 ?_
        refine qr_callv_v (As := [.inl (1 : Int32)]) (S := []) o (a_X12_closesSums g k.2.1 n j r hj hr (1 : Int32) m8) (Nat.le_of_ble_eq_true rfl) zv_X12_closesSums rfl cf_X12 (sh77 j r) ml_X12_225 (Nat.le_of_ble_eq_true rfl) (q_dm dm_X12_readsSum 58 rfl) (fun _ m9 => ?_)
        refine qr_aload_n o (q_dm dm_X12_readsSum 59 rfl) rfl ?_
        refine qr_aload_n o (q_dm dm_X12_readsSum 60 rfl) rfl ?_
        refine qr_getf (kf := 15) o cf_X12 (sh77 j r) rfl (Nat.le_of_ble_eq_true rfl) fl_X12_199 (q_dm dm_X12_readsSum 61 rfl) ?_
        refine qr_iconst o (q_dm dm_X12_readsSum 62 rfl) ic_1 ?_
        refine qr_isub o (q_dm dm_X12_readsSum 63 rfl) ?_
        refine qr_putf (kf := 15) o cf_X12 (sh77 j r) rfl (Nat.le_of_ble_eq_true rfl) fl_X12_199 rfl (by decide +kernel) (q_dm dm_X12_readsSum 64 rfl) ?_
        refine qr_letm (fun m10 => ?_)
        refine qr_aload_n o (q_dm dm_X12_readsSum 65 rfl) rfl ?_
        refine qr_aload_n o (q_dm dm_X12_readsSum 66 rfl) rfl ?_
        refine qr_getf (kf := 13) o cf_X12 (sh77 j r) rfl (Nat.le_of_ble_eq_true rfl) fl_X12_196 (q_dm dm_X12_readsSum 67 rfl) ?_
        refine qr_iconst o (q_dm dm_X12_readsSum 68 rfl) ic_1 ?_
        refine qr_isub o (q_dm dm_X12_readsSum 69 rfl) ?_
        refine qr_putf (kf := 13) o cf_X12 (sh77 j r) rfl (Nat.le_of_ble_eq_true rfl) fl_X12_196 rfl (by decide +kernel) (q_dm dm_X12_readsSum 70 rfl) ?_
        refine qr_letm (fun m11 => ?_)
        refine qr_aload_n o (q_dm dm_X12_readsSum 71 rfl) rfl ?_
        refine qr_aload_n o (q_dm dm_X12_readsSum 72 rfl) rfl ?_
        refine qr_getf (kf := 9) o cf_X12 (sh77 j r) rfl (Nat.le_of_ble_eq_true rfl) fl_X12_169 (q_dm dm_X12_readsSum 73 rfl) ?_
        refine qr_iconst o (q_dm dm_X12_readsSum 74 rfl) ic_1 ?_
        refine qr_iadd o (q_dm dm_X12_readsSum 75 rfl) ?_
        refine qr_putf (kf := 9) o cf_X12 (sh77 j r) rfl (Nat.le_of_ble_eq_true rfl) fl_X12_169 rfl (by decide +kernel) (q_dm dm_X12_readsSum 76 rfl) ?_
        refine qr_letm (fun m12 => ?_)
        refine qr_goto (tgt := 163) o (q_dm dm_X12_readsSum 77 rfl) (by decide) ?_
        refine qr_goto (tgt := 14) o (q_dm dm_X12_readsSum 93 rfl) (by decide) ?_
        exact qr_loc (q_leS (q_leS (q_leN q_le0))) (hK14 a1 m12)
  · refine qr_aload_n o (q_dm dm_X12_readsSum 15 rfl) rfl ?_
    refine qr_iload_n o (q_dm dm_X12_readsSum 16 rfl) rfl ?_
    refine qr_iconst o (q_dm dm_X12_readsSum 17 rfl) ic_4 ?_
    refine qr_icmp_ge (tgt := 37) o (q_dm dm_X12_readsSum 18 rfl) (by decide) ?_ ?_
    · refine qr_iconst o (q_dm dm_X12_readsSum 21 rfl) ic_0 ?_
      exact qr_loc (q_leS (q_leS (q_leS q_le0))) (w_X12_readsSum_38 n j r hj hr o K14 hK14 a1 r3 (0 : Int32) m4)
    · refine qr_iconst o (q_dm dm_X12_readsSum 19 rfl) ic_1 ?_
      refine qr_goto (tgt := 38) o (q_dm dm_X12_readsSum 20 rfl) (by decide) ?_
      exact qr_loc (q_leS (q_leS (q_leS q_le0))) (w_X12_readsSum_38 n j r hj hr o K14 hK14 a1 r3 (1 : Int32) m4)

def f_X12_readsSum_14 (n : Nat) : Nat → Int32 → qM → qR
  | 0, _, _ => none
  | m + 1, a1, M => b_X12_readsSum_14 n (f_X12_readsSum_14 n m) a1 M
theorem w_X12_readsSum_14 {g : qG} {k : qK} (n : Nat) (j r : Nat) (hj : q_isLaw j) (hr : q_isLaw r) (o : qOk g 4 zX12_readsSum k) : ∀ (m : Nat) (a1 : Int32) (M : qM), qAE g k zX12_readsSum (qL j r) 14 [some (.inr (some 77)), some (.inl a1), none] [] (qL j r, M) (f_X12_readsSum_14 n m a1 M) := by
  intro m
  induction m with
  | zero =>
    intro a1 M
    exact qr_none
  | succ m ih =>
    intro a1 M
    exact wb_X12_readsSum_14 n j r hj hr o (f_X12_readsSum_14 n m) ih a1 M
def f_X12_readsSum (n : Nat) (M : qM) : qR :=
  ql (M 77 15) (fun x1 => qc (f_X12_readsFactor n  M) (fun r2 m3 => (if r2 = (0 : Int32) then some ((0 : Int32), m3) else f_X12_readsSum_14 n n x1 m3)))
set_option maxRecDepth 4000 in
theorem w_X12_readsSum {g : qG} {k : qK} (n : Nat) (j r : Nat) (hj : q_isLaw j) (hr : q_isLaw r) (o : qOk g 4 zX12_readsSum k) (M : qM) : qAE g k zX12_readsSum (qL j r) 0 [some (.inr (some 77)), none, none] [] (qL j r, M) (f_X12_readsSum n  M) := by
  unfold f_X12_readsSum
  refine qr_aload_n o (q_dm dm_X12_readsSum 0 rfl) rfl ?_
  refine qr_getf (kf := 15) o cf_X12 (sh77 j r) rfl (Nat.le_of_ble_eq_true rfl) fl_X12_199 (q_dm dm_X12_readsSum 1 rfl) ?_
  refine qr_lt (fun x1 => ?_)
  refine qs_istore_n (L' := [some (.inr (some 77)), some (.inl x1), none]) o (q_dm dm_X12_readsSum 2 rfl) (Nat.le_of_ble_eq_true rfl) rfl ?_
  refine qr_aload_n o (q_dm dm_X12_readsSum 3 rfl) rfl ?_
  refine qr_callv_i (As := []) (S := []) o (a_X12_readsFactor g k.2.1 n j r hj hr  M) (Nat.le_of_ble_eq_true rfl) zv_X12_readsFactor rfl cf_X12 (sh77 j r) ml_X12_219 (Nat.le_of_ble_eq_true rfl) (q_dm dm_X12_readsSum 4 rfl) (fun r2 m3 => ?_)
  refine qr_if_ne (tgt := 14) o (q_dm dm_X12_readsSum 5 rfl) (by decide) ?_ ?_
  · exact qr_loc (q_leS (q_leS (q_leN q_le0))) (w_X12_readsSum_14 n j r hj hr o n x1 m3)
  · refine qr_iconst o (q_dm dm_X12_readsSum 6 rfl) ic_0 ?_
    exact qr_iret o rfl (by decide) (q_dm dm_X12_readsSum 7 rfl)

theorem a_X12_readsSum (g : qG) (l : Launch) (n : Nat) (j r : Nat) (hj : q_isLaw j) (hr : q_isLaw r) (M : qM) : qAM g l 4 zX12_readsSum (qL j r) [.inr (some 77)] (qL j r, M) (f_X12_readsSum n  M) :=
  qAM.of zv_X12_readsSum.1 (by show 1 ≤ 3; decide) (fun k hk o => w_X12_readsSum n j r hj hr o  M)
def tb_X12_readsCompared : List (Nat × Instr × Nat) := [(0, (.aload_n 0, 1)), (1, (.invokevirtual 232, 3)), (4, (.ifCond .ne 5, 3)), (7, (.iconst 0, 1)), (8, (.ireturn, 1)), (9, (.aload_n 0, 1)), (10, (.invokevirtual 175, 3)), (13, (.bipush 60, 2)), (15, (.if_icmp .ne 8, 3)), (18, (.bipush 7, 2)), (20, (.goto 32, 3)), (23, (.aload_n 0, 1)), (24, (.invokevirtual 175, 3)), (27, (.bipush 62, 2)), (29, (.if_icmp .ne 8, 3)), (32, (.bipush 8, 2)), (34, (.goto 18, 3)), (37, (.aload_n 0, 1)), (38, (.invokevirtual 175, 3)), (41, (.bipush 61, 2)), (43, (.if_icmp .ne 8, 3)), (46, (.bipush 9, 2)), (48, (.goto 4, 3)), (51, (.iconst (-1), 1)), (52, (.istore_n 1, 1)), (53, (.iload_n 1, 1)), (54, (.iconst (-1), 1)), (55, (.if_icmp .ne 13, 3)), (58, (.aload_n 0, 1)), (59, (.iconst 1, 1)), (60, (.aload_n 0, 1)), (61, (.getfield 169, 3)), (64, (.invokevirtual 182, 3)), (67, (.ireturn, 1)), (68, (.aload_n 0, 1)), (69, (.aload_n 0, 1)), (70, (.getfield 169, 3)), (73, (.iconst 1, 1)), (74, (.iadd, 1)), (75, (.putfield 169, 3)), (78, (.aload_n 0, 1)), (79, (.invokevirtual 232, 3)), (82, (.ifCond .ne 5, 3)), (85, (.iconst 0, 1)), (86, (.ireturn, 1)), (87, (.aload_n 0, 1)), (88, (.iload_n 1, 1)), (89, (.iconst 0, 1)), (90, (.invokevirtual 205, 3)), (93, (.aload_n 0, 1)), (94, (.invokevirtual 235, 3)), (97, (.iconst 1, 1)), (98, (.ireturn, 1))]
theorem dm_X12_readsCompared : ∀ q ∈ tb_X12_readsCompared, decode zX12_readsCompared.2.1 q.1 = .ok q.2 := by decide +kernel
def f_X12_readsCompared_52 (n : Nat) (s0 : Int32) (M : qM) : qR :=
  (if s0 = (-1 : Int32) then qc (f_X12_wrongAt n (1 : Int32) (M 77 9) M) (fun r6 m7 => qb r6 (some (r6, m7))) else qlm (mu M 77 9 ((M 77 9) + (1 : Int32))) (fun m1 => qc (f_X12_readsSum n  m1) (fun r2 m3 => (if r2 = (0 : Int32) then some ((0 : Int32), m3) else qc (f_X12_notes n s0 (0 : Int32) m3) (fun _ m4 => qc (f_X12_endsPiece n  m4) (fun _ m5 => some ((1 : Int32), m5)))))))
set_option maxRecDepth 4000 in
theorem w_X12_readsCompared_52 {g : qG} {k : qK} (n : Nat) (j r : Nat) (hj : q_isLaw j) (hr : q_isLaw r) (o : qOk g 5 zX12_readsCompared k) (s0 : Int32) (M : qM) : qAE g k zX12_readsCompared (qL j r) 52 [some (.inr (some 77)), none] [.inl s0] (qL j r, M) (f_X12_readsCompared_52 n s0 M) := by
  unfold f_X12_readsCompared_52
  refine qs_istore_n (L' := [some (.inr (some 77)), some (.inl s0)]) o (q_dm dm_X12_readsCompared 24 rfl) (Nat.le_of_ble_eq_true rfl) rfl ?_
  refine qr_iload_n o (q_dm dm_X12_readsCompared 25 rfl) rfl ?_
  refine qr_iconst o (q_dm dm_X12_readsCompared 26 rfl) ic_m1 ?_
  refine qr_icmp_ne (tgt := 68) o (q_dm dm_X12_readsCompared 27 rfl) (by decide) ?_ ?_
  · refine qr_aload_n o (q_dm dm_X12_readsCompared 34 rfl) rfl ?_
    refine qr_aload_n o (q_dm dm_X12_readsCompared 35 rfl) rfl ?_
    refine qr_getf (kf := 9) o cf_X12 (sh77 j r) rfl (Nat.le_of_ble_eq_true rfl) fl_X12_169 (q_dm dm_X12_readsCompared 36 rfl) ?_
    refine qr_iconst o (q_dm dm_X12_readsCompared 37 rfl) ic_1 ?_
    refine qr_iadd o (q_dm dm_X12_readsCompared 38 rfl) ?_
    refine qr_putf (kf := 9) o cf_X12 (sh77 j r) rfl (Nat.le_of_ble_eq_true rfl) fl_X12_169 rfl (by decide +kernel) (q_dm dm_X12_readsCompared 39 rfl) ?_
    refine qr_letm (fun m1 => ?_)
    refine qr_aload_n o (q_dm dm_X12_readsCompared 40 rfl) rfl ?_
    refine qr_callv_i (As := []) (S := []) o (a_X12_readsSum g k.2.1 n j r hj hr  m1) (Nat.le_of_ble_eq_true rfl) zv_X12_readsSum rfl cf_X12 (sh77 j r) ml_X12_232 (Nat.le_of_ble_eq_true rfl) (q_dm dm_X12_readsCompared 41 rfl) (fun r2 m3 => ?_)
    refine qr_if_ne (tgt := 87) o (q_dm dm_X12_readsCompared 42 rfl) (by decide) ?_ ?_
    · refine qr_aload_n o (q_dm dm_X12_readsCompared 45 rfl) rfl ?_
      refine qr_iload_n o (q_dm dm_X12_readsCompared 46 rfl) rfl ?_
      refine qr_iconst o (q_dm dm_X12_readsCompared 47 rfl) ic_0 ?_
      refine qr_callv_v (As := [.inl s0, .inl (0 : Int32)]) (S := []) o (a_X12_notes g k.2.1 n j r hj hr s0 (0 : Int32) m3) (Nat.le_of_ble_eq_true rfl) zv_X12_notes rfl cf_X12 (sh77 j r) ml_X12_205 (Nat.le_of_ble_eq_true rfl) (q_dm dm_X12_readsCompared 48 rfl) (fun _ m4 => ?_)
      refine qr_aload_n o (q_dm dm_X12_readsCompared 49 rfl) rfl ?_
      refine qr_callv_v (As := []) (S := []) o (a_X12_endsPiece g k.2.1 n j r hj hr  m4) (Nat.le_of_ble_eq_true rfl) zv_X12_endsPiece rfl cf_X12 (sh77 j r) ml_X12_235 (Nat.le_of_ble_eq_true rfl) (q_dm dm_X12_readsCompared 50 rfl) (fun _ m5 => ?_)
      refine qr_iconst o (q_dm dm_X12_readsCompared 51 rfl) ic_1 ?_
      exact qr_iret o rfl (by decide) (q_dm dm_X12_readsCompared 52 rfl)
    · refine qr_iconst o (q_dm dm_X12_readsCompared 43 rfl) ic_0 ?_
      exact qr_iret o rfl (by decide) (q_dm dm_X12_readsCompared 44 rfl)
  · refine qr_aload_n o (q_dm dm_X12_readsCompared 28 rfl) rfl ?_
    refine qr_iconst o (q_dm dm_X12_readsCompared 29 rfl) ic_1 ?_
    refine qr_aload_n o (q_dm dm_X12_readsCompared 30 rfl) rfl ?_
    refine qr_getf (kf := 9) o cf_X12 (sh77 j r) rfl (Nat.le_of_ble_eq_true rfl) fl_X12_169 (q_dm dm_X12_readsCompared 31 rfl) ?_
    refine qr_callv_i (As := [.inl (1 : Int32), .inl (M 77 9)]) (S := []) o (a_X12_wrongAt g k.2.1 n j r hj hr (1 : Int32) (M 77 9) M) (Nat.le_of_ble_eq_true rfl) zv_X12_wrongAt rfl cf_X12 (sh77 j r) ml_X12_182 (Nat.le_of_ble_eq_true rfl) (q_dm dm_X12_readsCompared 32 rfl) (fun r6 m7 => ?_)
    exact qr_zret o rfl (q_dm dm_X12_readsCompared 33 rfl)

def f_X12_readsCompared (n : Nat) (M : qM) : qR :=
  qc (f_X12_readsSum n  M) (fun r1 m2 => (if r1 = (0 : Int32) then some ((0 : Int32), m2) else qc (f_X12_here n  m2) (fun r3 m4 => (if r3 = (60 : Int32) then f_X12_readsCompared_52 n (7 : Int32) m4 else qc (f_X12_here n  m4) (fun r5 m6 => (if r5 = (62 : Int32) then f_X12_readsCompared_52 n (8 : Int32) m6 else qc (f_X12_here n  m6) (fun r7 m8 => (if r7 = (61 : Int32) then f_X12_readsCompared_52 n (9 : Int32) m8 else f_X12_readsCompared_52 n (-1 : Int32) m8))))))))
set_option maxRecDepth 4000 in
theorem w_X12_readsCompared {g : qG} {k : qK} (n : Nat) (j r : Nat) (hj : q_isLaw j) (hr : q_isLaw r) (o : qOk g 5 zX12_readsCompared k) (M : qM) : qAE g k zX12_readsCompared (qL j r) 0 [some (.inr (some 77)), none] [] (qL j r, M) (f_X12_readsCompared n  M) := by
  unfold f_X12_readsCompared
  refine qr_aload_n o (q_dm dm_X12_readsCompared 0 rfl) rfl ?_
  refine qr_callv_i (As := []) (S := []) o (a_X12_readsSum g k.2.1 n j r hj hr  M) (Nat.le_of_ble_eq_true rfl) zv_X12_readsSum rfl cf_X12 (sh77 j r) ml_X12_232 (Nat.le_of_ble_eq_true rfl) (q_dm dm_X12_readsCompared 1 rfl) (fun r1 m2 => ?_)
  refine qr_if_ne (tgt := 9) o (q_dm dm_X12_readsCompared 2 rfl) (by decide) ?_ ?_
  · refine qr_aload_n o (q_dm dm_X12_readsCompared 5 rfl) rfl ?_
    refine qr_callv_i (As := []) (S := []) o (a_X12_here g k.2.1 n j r hj hr  m2) (Nat.le_of_ble_eq_true rfl) zv_X12_here rfl cf_X12 (sh77 j r) ml_X12_175 (Nat.le_of_ble_eq_true rfl) (q_dm dm_X12_readsCompared 6 rfl) (fun r3 m4 => ?_)
    refine qr_bipush o (q_dm dm_X12_readsCompared 7 rfl) bi_60 ?_
    refine qr_icmp_ne (tgt := 23) o (q_dm dm_X12_readsCompared 8 rfl) (by decide) ?_ ?_
    · refine qr_aload_n o (q_dm dm_X12_readsCompared 11 rfl) rfl ?_
      refine qr_callv_i (As := []) (S := []) o (a_X12_here g k.2.1 n j r hj hr  m4) (Nat.le_of_ble_eq_true rfl) zv_X12_here rfl cf_X12 (sh77 j r) ml_X12_175 (Nat.le_of_ble_eq_true rfl) (q_dm dm_X12_readsCompared 12 rfl) (fun r5 m6 => ?_)
      refine qr_bipush o (q_dm dm_X12_readsCompared 13 rfl) bi_62 ?_
      refine qr_icmp_ne (tgt := 37) o (q_dm dm_X12_readsCompared 14 rfl) (by decide) ?_ ?_
      · refine qr_aload_n o (q_dm dm_X12_readsCompared 17 rfl) rfl ?_
        refine qr_callv_i (As := []) (S := []) o (a_X12_here g k.2.1 n j r hj hr  m6) (Nat.le_of_ble_eq_true rfl) zv_X12_here rfl cf_X12 (sh77 j r) ml_X12_175 (Nat.le_of_ble_eq_true rfl) (q_dm dm_X12_readsCompared 18 rfl) (fun r7 m8 => ?_)
        refine qr_bipush o (q_dm dm_X12_readsCompared 19 rfl) bi_61 ?_
        refine qr_icmp_ne (tgt := 51) o (q_dm dm_X12_readsCompared 20 rfl) (by decide) ?_ ?_
        · refine qr_iconst o (q_dm dm_X12_readsCompared 23 rfl) ic_m1 ?_
          exact qr_loc (q_leS (q_leN q_le0)) (w_X12_readsCompared_52 n j r hj hr o (-1 : Int32) m8)
        · refine qr_bipush o (q_dm dm_X12_readsCompared 21 rfl) bi_9 ?_
          refine qr_goto (tgt := 52) o (q_dm dm_X12_readsCompared 22 rfl) (by decide) ?_
          exact qr_loc (q_leS (q_leN q_le0)) (w_X12_readsCompared_52 n j r hj hr o (9 : Int32) m8)
      · refine qr_bipush o (q_dm dm_X12_readsCompared 15 rfl) bi_8 ?_
        refine qr_goto (tgt := 52) o (q_dm dm_X12_readsCompared 16 rfl) (by decide) ?_
        exact qr_loc (q_leS (q_leN q_le0)) (w_X12_readsCompared_52 n j r hj hr o (8 : Int32) m6)
    · refine qr_bipush o (q_dm dm_X12_readsCompared 9 rfl) bi_7 ?_
      refine qr_goto (tgt := 52) o (q_dm dm_X12_readsCompared 10 rfl) (by decide) ?_
      exact qr_loc (q_leS (q_leN q_le0)) (w_X12_readsCompared_52 n j r hj hr o (7 : Int32) m4)
  · refine qr_iconst o (q_dm dm_X12_readsCompared 3 rfl) ic_0 ?_
    exact qr_iret o rfl (by decide) (q_dm dm_X12_readsCompared 4 rfl)

theorem a_X12_readsCompared (g : qG) (l : Launch) (n : Nat) (j r : Nat) (hj : q_isLaw j) (hr : q_isLaw r) (M : qM) : qAM g l 5 zX12_readsCompared (qL j r) [.inr (some 77)] (qL j r, M) (f_X12_readsCompared n  M) :=
  qAM.of zv_X12_readsCompared.1 (by show 1 ≤ 2; decide) (fun k hk o => w_X12_readsCompared n j r hj hr o  M)
def tb_X12_readsCondition : List (Nat × Instr × Nat) := [(0, (.aload_n 0, 1)), (1, (.invokevirtual 175, 3)), (4, (.bipush 40, 2)), (6, (.if_icmp .eq 13, 3)), (9, (.aload_n 0, 1)), (10, (.iconst 1, 1)), (11, (.aload_n 0, 1)), (12, (.getfield 169, 3)), (15, (.invokevirtual 182, 3)), (18, (.ireturn, 1)), (19, (.aload_n 0, 1)), (20, (.iconst 0, 1)), (21, (.putfield 196, 3)), (24, (.aload_n 0, 1)), (25, (.iconst 0, 1)), (26, (.putfield 199, 3)), (29, (.aload_n 0, 1)), (30, (.bipush 13, 2)), (32, (.invokevirtual 209, 3)), (35, (.ifCond .ne 5, 3)), (38, (.iconst 0, 1)), (39, (.ireturn, 1)), (40, (.aload_n 0, 1)), (41, (.invokevirtual 175, 3)), (44, (.bipush 33, 2)), (46, (.if_icmp .eq 12, 3)), (49, (.aload_n 0, 1)), (50, (.invokevirtual 175, 3)), (53, (.bipush 40, 2)), (55, (.if_icmp .ne 28, 3)), (58, (.aload_n 0, 1)), (59, (.aload_n 0, 1)), (60, (.invokevirtual 175, 3)), (63, (.bipush 33, 2)), (65, (.if_icmp .ne 8, 3)), (68, (.bipush 10, 2)), (70, (.goto 5, 3)), (73, (.bipush 13, 2)), (75, (.invokevirtual 209, 3)), (78, (.ifCond .ne (-38), 3)), (81, (.iconst 0, 1)), (82, (.ireturn, 1)), (83, (.aload_n 0, 1)), (84, (.invokevirtual 238, 3)), (87, (.ifCond .ne 5, 3)), (90, (.iconst 0, 1)), (91, (.ireturn, 1)), (92, (.aload_n 0, 1)), (93, (.invokevirtual 175, 3)), (96, (.bipush 41, 2)), (98, (.if_icmp .ne 54, 3)), (101, (.aload_n 0, 1)), (102, (.iconst 1, 1)), (103, (.invokevirtual 241, 3)), (106, (.aload_n 0, 1)), (107, (.aload_n 0, 1)), (108, (.getfield 199, 3)), (111, (.iconst 1, 1)), (112, (.isub, 1)), (113, (.putfield 199, 3)), (116, (.aload_n 0, 1)), (117, (.aload_n 0, 1)), (118, (.getfield 196, 3)), (121, (.iconst 1, 1)), (122, (.isub, 1)), (123, (.putfield 196, 3)), (126, (.aload_n 0, 1)), (127, (.aload_n 0, 1)), (128, (.getfield 169, 3)), (131, (.iconst 1, 1)), (132, (.iadd, 1)), (133, (.putfield 169, 3)), (136, (.aload_n 0, 1)), (137, (.getfield 199, 3)), (140, (.ifCond .ne 5, 3)), (143, (.iconst 1, 1)), (144, (.ireturn, 1)), (145, (.aload_n 0, 1)), (146, (.invokevirtual 235, 3)), (149, (.goto (-57), 3)), (152, (.aload_n 0, 1)), (153, (.invokevirtual 175, 3)), (156, (.bipush 38, 2)), (158, (.if_icmp .eq 22, 3)), (161, (.aload_n 0, 1)), (162, (.invokevirtual 175, 3)), (165, (.bipush 124, 2)), (167, (.if_icmp .eq 13, 3)), (170, (.aload_n 0, 1)), (171, (.iconst 1, 1)), (172, (.aload_n 0, 1)), (173, (.getfield 169, 3)), (176, (.invokevirtual 182, 3)), (179, (.ireturn, 1)), (180, (.aload_n 0, 1)), (181, (.aload_n 0, 1)), (182, (.invokevirtual 175, 3)), (185, (.bipush 124, 2)), (187, (.if_icmp .ne 7, 3)), (190, (.iconst 1, 1)), (191, (.goto 4, 3)), (194, (.iconst 0, 1)), (195, (.invokevirtual 241, 3)), (198, (.aload_n 0, 1)), (199, (.aload_n 0, 1)), (200, (.invokevirtual 175, 3)), (203, (.bipush 38, 2)), (205, (.if_icmp .ne 8, 3)), (208, (.bipush 11, 2)), (210, (.goto 5, 3)), (213, (.bipush 12, 2)), (215, (.invokevirtual 244, 3)), (218, (.goto (-178), 3))]
theorem dm_X12_readsCondition : ∀ q ∈ tb_X12_readsCondition, decode zX12_readsCondition.2.1 q.1 = .ok q.2 := by decide +kernel
def f_X12_readsCondition_215 (n : Nat) (K40 : qM → qR) (s1 : Int32) (M : qM) : qR :=
  qc (f_X12_jumps n s1 M) (fun _ m1 => K40  m1)
set_option maxRecDepth 4000 in
theorem w_X12_readsCondition_215 {g : qG} {k : qK} (n : Nat) (j r : Nat) (hj : q_isLaw j) (hr : q_isLaw r) (o : qOk g 6 zX12_readsCondition k) (K40 : qM → qR) (hK40 : ∀ (M : qM), qAE g k zX12_readsCondition (qL j r) 40 [some (.inr (some 77))] [] (qL j r, M) (K40  M)) (s1 : Int32) (M : qM) : qAE g k zX12_readsCondition (qL j r) 215 [some (.inr (some 77))] [.inl s1, .inr (some 77)] (qL j r, M) (f_X12_readsCondition_215 n K40 s1 M) := by
  unfold f_X12_readsCondition_215
  refine qr_callv_v (As := [.inl s1]) (S := []) o (a_X12_jumps g k.2.1 n j r hj hr s1 M) (Nat.le_of_ble_eq_true rfl) zv_X12_jumps rfl cf_X12 (sh77 j r) ml_X12_244 (Nat.le_of_ble_eq_true rfl) (q_dm dm_X12_readsCondition 111 rfl) (fun _ m1 => ?_)
  refine qr_goto (tgt := 40) o (q_dm dm_X12_readsCondition 112 rfl) (by decide) ?_
  exact qr_loc (q_leS q_le0) (hK40  m1)

def f_X12_readsCondition_195 (n : Nat) (K40 : qM → qR) (s1 : Int32) (M : qM) : qR :=
  qc (f_X12_lands n s1 M) (fun _ m1 => qc (f_X12_here n  m1) (fun r2 m3 => (if r2 = (38 : Int32) then f_X12_readsCondition_215 n K40 (11 : Int32) m3 else f_X12_readsCondition_215 n K40 (12 : Int32) m3)))
set_option maxRecDepth 4000 in
theorem w_X12_readsCondition_195 {g : qG} {k : qK} (n : Nat) (j r : Nat) (hj : q_isLaw j) (hr : q_isLaw r) (o : qOk g 6 zX12_readsCondition k) (K40 : qM → qR) (hK40 : ∀ (M : qM), qAE g k zX12_readsCondition (qL j r) 40 [some (.inr (some 77))] [] (qL j r, M) (K40  M)) (s1 : Int32) (M : qM) : qAE g k zX12_readsCondition (qL j r) 195 [some (.inr (some 77))] [.inl s1, .inr (some 77)] (qL j r, M) (f_X12_readsCondition_195 n K40 s1 M) := by
  unfold f_X12_readsCondition_195
  refine qr_callv_v (As := [.inl s1]) (S := []) o (a_X12_lands g k.2.1 n j r hj hr s1 M) (Nat.le_of_ble_eq_true rfl) zv_X12_lands rfl cf_X12 (sh77 j r) ml_X12_241 (Nat.le_of_ble_eq_true rfl) (q_dm dm_X12_readsCondition 102 rfl) (fun _ m1 => ?_)
  refine qr_aload_n o (q_dm dm_X12_readsCondition 103 rfl) rfl ?_
  refine qr_aload_n o (q_dm dm_X12_readsCondition 104 rfl) rfl ?_
  refine qr_callv_i (As := []) (S := [.inr (some 77)]) o (a_X12_here g k.2.1 n j r hj hr  m1) (Nat.le_of_ble_eq_true rfl) zv_X12_here rfl cf_X12 (sh77 j r) ml_X12_175 (Nat.le_of_ble_eq_true rfl) (q_dm dm_X12_readsCondition 105 rfl) (fun r2 m3 => ?_)
  refine qr_bipush o (q_dm dm_X12_readsCondition 106 rfl) bi_38 ?_
  refine qr_icmp_ne (tgt := 213) o (q_dm dm_X12_readsCondition 107 rfl) (by decide) ?_ ?_
  · refine qr_bipush o (q_dm dm_X12_readsCondition 110 rfl) bi_12 ?_
    exact qr_loc (q_leS q_le0) (w_X12_readsCondition_215 n j r hj hr o K40 hK40 (12 : Int32) m3)
  · refine qr_bipush o (q_dm dm_X12_readsCondition 108 rfl) bi_11 ?_
    refine qr_goto (tgt := 215) o (q_dm dm_X12_readsCondition 109 rfl) (by decide) ?_
    exact qr_loc (q_leS q_le0) (w_X12_readsCondition_215 n j r hj hr o K40 hK40 (11 : Int32) m3)

def f_X12_readsCondition_180 (n : Nat) (K40 : qM → qR) (M : qM) : qR :=
  qc (f_X12_here n  M) (fun r1 m2 => (if r1 = (124 : Int32) then f_X12_readsCondition_195 n K40 (1 : Int32) m2 else f_X12_readsCondition_195 n K40 (0 : Int32) m2))
set_option maxRecDepth 4000 in
theorem w_X12_readsCondition_180 {g : qG} {k : qK} (n : Nat) (j r : Nat) (hj : q_isLaw j) (hr : q_isLaw r) (o : qOk g 6 zX12_readsCondition k) (K40 : qM → qR) (hK40 : ∀ (M : qM), qAE g k zX12_readsCondition (qL j r) 40 [some (.inr (some 77))] [] (qL j r, M) (K40  M)) (M : qM) : qAE g k zX12_readsCondition (qL j r) 180 [some (.inr (some 77))] [] (qL j r, M) (f_X12_readsCondition_180 n K40  M) := by
  unfold f_X12_readsCondition_180
  refine qr_aload_n o (q_dm dm_X12_readsCondition 94 rfl) rfl ?_
  refine qr_aload_n o (q_dm dm_X12_readsCondition 95 rfl) rfl ?_
  refine qr_callv_i (As := []) (S := [.inr (some 77)]) o (a_X12_here g k.2.1 n j r hj hr  M) (Nat.le_of_ble_eq_true rfl) zv_X12_here rfl cf_X12 (sh77 j r) ml_X12_175 (Nat.le_of_ble_eq_true rfl) (q_dm dm_X12_readsCondition 96 rfl) (fun r1 m2 => ?_)
  refine qr_bipush o (q_dm dm_X12_readsCondition 97 rfl) bi_124 ?_
  refine qr_icmp_ne (tgt := 194) o (q_dm dm_X12_readsCondition 98 rfl) (by decide) ?_ ?_
  · refine qr_iconst o (q_dm dm_X12_readsCondition 101 rfl) ic_0 ?_
    exact qr_loc (q_leS q_le0) (w_X12_readsCondition_195 n j r hj hr o K40 hK40 (0 : Int32) m2)
  · refine qr_iconst o (q_dm dm_X12_readsCondition 99 rfl) ic_1 ?_
    refine qr_goto (tgt := 195) o (q_dm dm_X12_readsCondition 100 rfl) (by decide) ?_
    exact qr_loc (q_leS q_le0) (w_X12_readsCondition_195 n j r hj hr o K40 hK40 (1 : Int32) m2)

def b_X12_readsCondition_92 (n : Nat) (K40 : qM → qR) (K92 : qM → qR) (M : qM) : qR :=
  qc (f_X12_here n  M) (fun r1 m2 => (if r1 = (41 : Int32) then qc (f_X12_lands n (1 : Int32) m2) (fun _ m9 => qlm (mu m9 77 15 ((m9 77 15) - (1 : Int32))) (fun m10 => qlm (mu m10 77 13 ((m10 77 13) - (1 : Int32))) (fun m11 => qlm (mu m11 77 9 ((m11 77 9) + (1 : Int32))) (fun m12 => (if (m12 77 15) = (0 : Int32) then some ((1 : Int32), m12) else qc (f_X12_endsPiece n  m12) (fun _ m13 => K92  m13)))))) else qc (f_X12_here n  m2) (fun r3 m4 => (if r3 = (38 : Int32) then f_X12_readsCondition_180 n K40  m4 else qc (f_X12_here n  m4) (fun r5 m6 => (if r5 = (124 : Int32) then f_X12_readsCondition_180 n K40  m6 else qc (f_X12_wrongAt n (1 : Int32) (m6 77 9) m6) (fun r7 m8 => qb r7 (some (r7, m8)))))))))
set_option maxRecDepth 4000 in
theorem wb_X12_readsCondition_92 {g : qG} {k : qK} (n : Nat) (j r : Nat) (hj : q_isLaw j) (hr : q_isLaw r) (o : qOk g 6 zX12_readsCondition k) (K40 : qM → qR) (hK40 : ∀ (M : qM), qAE g k zX12_readsCondition (qL j r) 40 [some (.inr (some 77))] [] (qL j r, M) (K40  M)) (K92 : qM → qR) (hK92 : ∀ (M : qM), qAE g k zX12_readsCondition (qL j r) 92 [some (.inr (some 77))] [] (qL j r, M) (K92  M)) (M : qM) : qAE g k zX12_readsCondition (qL j r) 92 [some (.inr (some 77))] [] (qL j r, M) (b_X12_readsCondition_92 n K40 K92  M) := by
  unfold b_X12_readsCondition_92
  refine qr_aload_n o (q_dm dm_X12_readsCondition 47 rfl) rfl ?_
  refine qr_callv_i (As := []) (S := []) o (a_X12_here g k.2.1 n j r hj hr  M) (Nat.le_of_ble_eq_true rfl) zv_X12_here rfl cf_X12 (sh77 j r) ml_X12_175 (Nat.le_of_ble_eq_true rfl) (q_dm dm_X12_readsCondition 48 rfl) (fun r1 m2 => ?_)
  refine qr_bipush o (q_dm dm_X12_readsCondition 49 rfl) bi_41 ?_
  refine qr_icmp_ne (tgt := 152) o (q_dm dm_X12_readsCondition 50 rfl) (by decide) ?_ ?_
  · refine qr_aload_n o (q_dm dm_X12_readsCondition 80 rfl) rfl ?_
    refine qr_callv_i (As := []) (S := []) o (a_X12_here g k.2.1 n j r hj hr  m2) (Nat.le_of_ble_eq_true rfl) zv_X12_here rfl cf_X12 (sh77 j r) ml_X12_175 (Nat.le_of_ble_eq_true rfl) (q_dm dm_X12_readsCondition 81 rfl) (fun r3 m4 => ?_)
    refine qr_bipush o (q_dm dm_X12_readsCondition 82 rfl) bi_38 ?_
    refine qr_icmp_eq (tgt := 180) o (q_dm dm_X12_readsCondition 83 rfl) (by decide) ?_ ?_
    · exact qr_loc (q_leS q_le0) (w_X12_readsCondition_180 n j r hj hr o K40 hK40  m4)
    · refine qr_aload_n o (q_dm dm_X12_readsCondition 84 rfl) rfl ?_
      refine qr_callv_i (As := []) (S := []) o (a_X12_here g k.2.1 n j r hj hr  m4) (Nat.le_of_ble_eq_true rfl) zv_X12_here rfl cf_X12 (sh77 j r) ml_X12_175 (Nat.le_of_ble_eq_true rfl) (q_dm dm_X12_readsCondition 85 rfl) (fun r5 m6 => ?_)
      refine qr_bipush o (q_dm dm_X12_readsCondition 86 rfl) bi_124 ?_
      refine qr_icmp_eq (tgt := 180) o (q_dm dm_X12_readsCondition 87 rfl) (by decide) ?_ ?_
      · exact qr_loc (q_leS q_le0) (w_X12_readsCondition_180 n j r hj hr o K40 hK40  m6)
      · refine qr_aload_n o (q_dm dm_X12_readsCondition 88 rfl) rfl ?_
        refine qr_iconst o (q_dm dm_X12_readsCondition 89 rfl) ic_1 ?_
        refine qr_aload_n o (q_dm dm_X12_readsCondition 90 rfl) rfl ?_
        refine qr_getf (kf := 9) o cf_X12 (sh77 j r) rfl (Nat.le_of_ble_eq_true rfl) fl_X12_169 (q_dm dm_X12_readsCondition 91 rfl) ?_
        refine qr_callv_i (As := [.inl (1 : Int32), .inl (m6 77 9)]) (S := []) o (a_X12_wrongAt g k.2.1 n j r hj hr (1 : Int32) (m6 77 9) m6) (Nat.le_of_ble_eq_true rfl) zv_X12_wrongAt rfl cf_X12 (sh77 j r) ml_X12_182 (Nat.le_of_ble_eq_true rfl) (q_dm dm_X12_readsCondition 92 rfl) (fun r7 m8 => ?_)
        exact qr_zret o rfl (q_dm dm_X12_readsCondition 93 rfl)
  · refine qr_aload_n o (q_dm dm_X12_readsCondition 51 rfl) rfl ?_
    refine qr_iconst o (q_dm dm_X12_readsCondition 52 rfl) ic_1 ?_
    refine qr_callv_v (As := [.inl (1 : Int32)]) (S := []) o (a_X12_lands g k.2.1 n j r hj hr (1 : Int32) m2) (Nat.le_of_ble_eq_true rfl) zv_X12_lands rfl cf_X12 (sh77 j r) ml_X12_241 (Nat.le_of_ble_eq_true rfl) (q_dm dm_X12_readsCondition 53 rfl) (fun _ m9 => ?_)
    refine qr_aload_n o (q_dm dm_X12_readsCondition 54 rfl) rfl ?_
    refine qr_aload_n o (q_dm dm_X12_readsCondition 55 rfl) rfl ?_
    refine qr_getf (kf := 15) o cf_X12 (sh77 j r) rfl (Nat.le_of_ble_eq_true rfl) fl_X12_199 (q_dm dm_X12_readsCondition 56 rfl) ?_
    refine qr_iconst o (q_dm dm_X12_readsCondition 57 rfl) ic_1 ?_
    refine qr_isub o (q_dm dm_X12_readsCondition 58 rfl) ?_
    refine qr_putf (kf := 15) o cf_X12 (sh77 j r) rfl (Nat.le_of_ble_eq_true rfl) fl_X12_199 rfl (by decide +kernel) (q_dm dm_X12_readsCondition 59 rfl) ?_
    refine qr_letm (fun m10 => ?_)
    refine qr_aload_n o (q_dm dm_X12_readsCondition 60 rfl) rfl ?_
    refine qr_aload_n o (q_dm dm_X12_readsCondition 61 rfl) rfl ?_
    refine qr_getf (kf := 13) o cf_X12 (sh77 j r) rfl (Nat.le_of_ble_eq_true rfl) fl_X12_196 (q_dm dm_X12_readsCondition 62 rfl) ?_
    refine qr_iconst o (q_dm dm_X12_readsCondition 63 rfl) ic_1 ?_
    refine qr_isub o (q_dm dm_X12_readsCondition 64 rfl) ?_
    refine qr_putf (kf := 13) o cf_X12 (sh77 j r) rfl (Nat.le_of_ble_eq_true rfl) fl_X12_196 rfl (by decide +kernel) (q_dm dm_X12_readsCondition 65 rfl) ?_
    refine qr_letm (fun m11 => ?_)
    refine qr_aload_n o (q_dm dm_X12_readsCondition 66 rfl) rfl ?_
    refine qr_aload_n o (q_dm dm_X12_readsCondition 67 rfl) rfl ?_
    refine qr_getf (kf := 9) o cf_X12 (sh77 j r) rfl (Nat.le_of_ble_eq_true rfl) fl_X12_169 (q_dm dm_X12_readsCondition 68 rfl) ?_
    refine qr_iconst o (q_dm dm_X12_readsCondition 69 rfl) ic_1 ?_
    refine qr_iadd o (q_dm dm_X12_readsCondition 70 rfl) ?_
    refine qr_putf (kf := 9) o cf_X12 (sh77 j r) rfl (Nat.le_of_ble_eq_true rfl) fl_X12_169 rfl (by decide +kernel) (q_dm dm_X12_readsCondition 71 rfl) ?_
    refine qr_letm (fun m12 => ?_)
    refine qr_aload_n o (q_dm dm_X12_readsCondition 72 rfl) rfl ?_
    refine qr_getf (kf := 15) o cf_X12 (sh77 j r) rfl (Nat.le_of_ble_eq_true rfl) fl_X12_199 (q_dm dm_X12_readsCondition 73 rfl) ?_
    refine qr_if_ne (tgt := 145) o (q_dm dm_X12_readsCondition 74 rfl) (by decide) ?_ ?_
    · refine qr_aload_n o (q_dm dm_X12_readsCondition 77 rfl) rfl ?_
      refine qr_callv_v (As := []) (S := []) o (a_X12_endsPiece g k.2.1 n j r hj hr  m12) (Nat.le_of_ble_eq_true rfl) zv_X12_endsPiece rfl cf_X12 (sh77 j r) ml_X12_235 (Nat.le_of_ble_eq_true rfl) (q_dm dm_X12_readsCondition 78 rfl) (fun _ m13 => ?_)
      refine qr_goto (tgt := 92) o (q_dm dm_X12_readsCondition 79 rfl) (by decide) ?_
      exact qr_loc (q_leS q_le0) (hK92  m13)
    · refine qr_iconst o (q_dm dm_X12_readsCondition 75 rfl) ic_1 ?_
      exact qr_iret o rfl (by decide) (q_dm dm_X12_readsCondition 76 rfl)

def f_X12_readsCondition_92 (n : Nat) (K40 : qM → qR) : Nat → qM → qR
  | 0, _ => none
  | m + 1, M => b_X12_readsCondition_92 n K40 (f_X12_readsCondition_92 n K40 m)  M
theorem w_X12_readsCondition_92 {g : qG} {k : qK} (n : Nat) (j r : Nat) (hj : q_isLaw j) (hr : q_isLaw r) (o : qOk g 6 zX12_readsCondition k) (K40 : qM → qR) (hK40 : ∀ (M : qM), qAE g k zX12_readsCondition (qL j r) 40 [some (.inr (some 77))] [] (qL j r, M) (K40  M)) : ∀ (m : Nat) (M : qM), qAE g k zX12_readsCondition (qL j r) 92 [some (.inr (some 77))] [] (qL j r, M) (f_X12_readsCondition_92 n K40 m  M) := by
  intro m
  induction m with
  | zero =>
    intro  M
    exact qr_none
  | succ m ih =>
    intro  M
    exact wb_X12_readsCondition_92 n j r hj hr o K40 hK40 (f_X12_readsCondition_92 n K40 m) ih  M
def f_X12_readsCondition_75 (n : Nat) (K40 : qM → qR) (s1 : Int32) (M : qM) : qR :=
  qc (f_X12_opens n s1 M) (fun r1 m2 => (if r1 = (0 : Int32) then some ((0 : Int32), m2) else K40  m2))
set_option maxRecDepth 4000 in
theorem w_X12_readsCondition_75 {g : qG} {k : qK} (n : Nat) (j r : Nat) (hj : q_isLaw j) (hr : q_isLaw r) (o : qOk g 6 zX12_readsCondition k) (K40 : qM → qR) (hK40 : ∀ (M : qM), qAE g k zX12_readsCondition (qL j r) 40 [some (.inr (some 77))] [] (qL j r, M) (K40  M)) (s1 : Int32) (M : qM) : qAE g k zX12_readsCondition (qL j r) 75 [some (.inr (some 77))] [.inl s1, .inr (some 77)] (qL j r, M) (f_X12_readsCondition_75 n K40 s1 M) := by
  unfold f_X12_readsCondition_75
  refine qr_callv_i (As := [.inl s1]) (S := []) o (a_X12_opens g k.2.1 n j r hj hr s1 M) (Nat.le_of_ble_eq_true rfl) zv_X12_opens rfl cf_X12 (sh77 j r) ml_X12_209 (Nat.le_of_ble_eq_true rfl) (q_dm dm_X12_readsCondition 38 rfl) (fun r1 m2 => ?_)
  refine qr_if_ne (tgt := 40) o (q_dm dm_X12_readsCondition 39 rfl) (by decide) ?_ ?_
  · exact qr_loc (q_leS q_le0) (hK40  m2)
  · refine qr_iconst o (q_dm dm_X12_readsCondition 40 rfl) ic_0 ?_
    exact qr_iret o rfl (by decide) (q_dm dm_X12_readsCondition 41 rfl)

def f_X12_readsCondition_58 (n : Nat) (K40 : qM → qR) (M : qM) : qR :=
  qc (f_X12_here n  M) (fun r1 m2 => (if r1 = (33 : Int32) then f_X12_readsCondition_75 n K40 (10 : Int32) m2 else f_X12_readsCondition_75 n K40 (13 : Int32) m2))
set_option maxRecDepth 4000 in
theorem w_X12_readsCondition_58 {g : qG} {k : qK} (n : Nat) (j r : Nat) (hj : q_isLaw j) (hr : q_isLaw r) (o : qOk g 6 zX12_readsCondition k) (K40 : qM → qR) (hK40 : ∀ (M : qM), qAE g k zX12_readsCondition (qL j r) 40 [some (.inr (some 77))] [] (qL j r, M) (K40  M)) (M : qM) : qAE g k zX12_readsCondition (qL j r) 58 [some (.inr (some 77))] [] (qL j r, M) (f_X12_readsCondition_58 n K40  M) := by
  unfold f_X12_readsCondition_58
  refine qr_aload_n o (q_dm dm_X12_readsCondition 30 rfl) rfl ?_
  refine qr_aload_n o (q_dm dm_X12_readsCondition 31 rfl) rfl ?_
  refine qr_callv_i (As := []) (S := [.inr (some 77)]) o (a_X12_here g k.2.1 n j r hj hr  M) (Nat.le_of_ble_eq_true rfl) zv_X12_here rfl cf_X12 (sh77 j r) ml_X12_175 (Nat.le_of_ble_eq_true rfl) (q_dm dm_X12_readsCondition 32 rfl) (fun r1 m2 => ?_)
  refine qr_bipush o (q_dm dm_X12_readsCondition 33 rfl) bi_33 ?_
  refine qr_icmp_ne (tgt := 73) o (q_dm dm_X12_readsCondition 34 rfl) (by decide) ?_ ?_
  · refine qr_bipush o (q_dm dm_X12_readsCondition 37 rfl) bi_13 ?_
    exact qr_loc (q_leS q_le0) (w_X12_readsCondition_75 n j r hj hr o K40 hK40 (13 : Int32) m2)
  · refine qr_bipush o (q_dm dm_X12_readsCondition 35 rfl) bi_10 ?_
    refine qr_goto (tgt := 75) o (q_dm dm_X12_readsCondition 36 rfl) (by decide) ?_
    exact qr_loc (q_leS q_le0) (w_X12_readsCondition_75 n j r hj hr o K40 hK40 (10 : Int32) m2)

def b_X12_readsCondition_40 (n : Nat) (K40 : qM → qR) (M : qM) : qR :=
  qc (f_X12_here n  M) (fun r1 m2 => (if r1 = (33 : Int32) then f_X12_readsCondition_58 n K40  m2 else qc (f_X12_here n  m2) (fun r3 m4 => (if r3 = (40 : Int32) then f_X12_readsCondition_58 n K40  m4 else qc (f_X12_readsCompared n  m4) (fun r5 m6 => (if r5 = (0 : Int32) then some ((0 : Int32), m6) else f_X12_readsCondition_92 n K40 n  m6))))))
set_option maxRecDepth 4000 in
theorem wb_X12_readsCondition_40 {g : qG} {k : qK} (n : Nat) (j r : Nat) (hj : q_isLaw j) (hr : q_isLaw r) (o : qOk g 6 zX12_readsCondition k) (K40 : qM → qR) (hK40 : ∀ (M : qM), qAE g k zX12_readsCondition (qL j r) 40 [some (.inr (some 77))] [] (qL j r, M) (K40  M)) (M : qM) : qAE g k zX12_readsCondition (qL j r) 40 [some (.inr (some 77))] [] (qL j r, M) (b_X12_readsCondition_40 n K40  M) := by
  unfold b_X12_readsCondition_40
  refine qr_aload_n o (q_dm dm_X12_readsCondition 22 rfl) rfl ?_
  refine qr_callv_i (As := []) (S := []) o (a_X12_here g k.2.1 n j r hj hr  M) (Nat.le_of_ble_eq_true rfl) zv_X12_here rfl cf_X12 (sh77 j r) ml_X12_175 (Nat.le_of_ble_eq_true rfl) (q_dm dm_X12_readsCondition 23 rfl) (fun r1 m2 => ?_)
  refine qr_bipush o (q_dm dm_X12_readsCondition 24 rfl) bi_33 ?_
  refine qr_icmp_eq (tgt := 58) o (q_dm dm_X12_readsCondition 25 rfl) (by decide) ?_ ?_
  · exact qr_loc (q_leS q_le0) (w_X12_readsCondition_58 n j r hj hr o K40 hK40  m2)
  · refine qr_aload_n o (q_dm dm_X12_readsCondition 26 rfl) rfl ?_
    refine qr_callv_i (As := []) (S := []) o (a_X12_here g k.2.1 n j r hj hr  m2) (Nat.le_of_ble_eq_true rfl) zv_X12_here rfl cf_X12 (sh77 j r) ml_X12_175 (Nat.le_of_ble_eq_true rfl) (q_dm dm_X12_readsCondition 27 rfl) (fun r3 m4 => ?_)
    refine qr_bipush o (q_dm dm_X12_readsCondition 28 rfl) bi_40 ?_
    refine qr_icmp_ne (tgt := 83) o (q_dm dm_X12_readsCondition 29 rfl) (by decide) ?_ ?_
    · refine qr_aload_n o (q_dm dm_X12_readsCondition 42 rfl) rfl ?_
      refine qr_callv_i (As := []) (S := []) o (a_X12_readsCompared g k.2.1 n j r hj hr  m4) (Nat.le_of_ble_eq_true rfl) zv_X12_readsCompared rfl cf_X12 (sh77 j r) ml_X12_238 (Nat.le_of_ble_eq_true rfl) (q_dm dm_X12_readsCondition 43 rfl) (fun r5 m6 => ?_)
      refine qr_if_ne (tgt := 92) o (q_dm dm_X12_readsCondition 44 rfl) (by decide) ?_ ?_
      · exact qr_loc (q_leS q_le0) (w_X12_readsCondition_92 n j r hj hr o K40 hK40 n  m6)
      · refine qr_iconst o (q_dm dm_X12_readsCondition 45 rfl) ic_0 ?_
        exact qr_iret o rfl (by decide) (q_dm dm_X12_readsCondition 46 rfl)
    · exact qr_loc (q_leS q_le0) (w_X12_readsCondition_58 n j r hj hr o K40 hK40  m4)

def f_X12_readsCondition_40 (n : Nat) : Nat → qM → qR
  | 0, _ => none
  | m + 1, M => b_X12_readsCondition_40 n (f_X12_readsCondition_40 n m)  M
theorem w_X12_readsCondition_40 {g : qG} {k : qK} (n : Nat) (j r : Nat) (hj : q_isLaw j) (hr : q_isLaw r) (o : qOk g 6 zX12_readsCondition k) : ∀ (m : Nat) (M : qM), qAE g k zX12_readsCondition (qL j r) 40 [some (.inr (some 77))] [] (qL j r, M) (f_X12_readsCondition_40 n m  M) := by
  intro m
  induction m with
  | zero =>
    intro  M
    exact qr_none
  | succ m ih =>
    intro  M
    exact wb_X12_readsCondition_40 n j r hj hr o (f_X12_readsCondition_40 n m) ih  M
def f_X12_readsCondition (n : Nat) (M : qM) : qR :=
  qc (f_X12_here n  M) (fun r1 m2 => (if r1 = (40 : Int32) then qlm (mu m2 77 13 (0 : Int32)) (fun m3 => qlm (mu m3 77 15 (0 : Int32)) (fun m4 => qc (f_X12_opens n (13 : Int32) m4) (fun r5 m6 => (if r5 = (0 : Int32) then some ((0 : Int32), m6) else f_X12_readsCondition_40 n n  m6)))) else qc (f_X12_wrongAt n (1 : Int32) (m2 77 9) m2) (fun r7 m8 => qb r7 (some (r7, m8)))))
set_option maxRecDepth 4000 in
theorem w_X12_readsCondition {g : qG} {k : qK} (n : Nat) (j r : Nat) (hj : q_isLaw j) (hr : q_isLaw r) (o : qOk g 6 zX12_readsCondition k) (M : qM) : qAE g k zX12_readsCondition (qL j r) 0 [some (.inr (some 77))] [] (qL j r, M) (f_X12_readsCondition n  M) := by
  unfold f_X12_readsCondition
  refine qr_aload_n o (q_dm dm_X12_readsCondition 0 rfl) rfl ?_
  refine qr_callv_i (As := []) (S := []) o (a_X12_here g k.2.1 n j r hj hr  M) (Nat.le_of_ble_eq_true rfl) zv_X12_here rfl cf_X12 (sh77 j r) ml_X12_175 (Nat.le_of_ble_eq_true rfl) (q_dm dm_X12_readsCondition 1 rfl) (fun r1 m2 => ?_)
  refine qr_bipush o (q_dm dm_X12_readsCondition 2 rfl) bi_40 ?_
  refine qr_icmp_eq (tgt := 19) o (q_dm dm_X12_readsCondition 3 rfl) (by decide) ?_ ?_
  · refine qr_aload_n o (q_dm dm_X12_readsCondition 10 rfl) rfl ?_
    refine qr_iconst o (q_dm dm_X12_readsCondition 11 rfl) ic_0 ?_
    refine qr_putf (kf := 13) o cf_X12 (sh77 j r) rfl (Nat.le_of_ble_eq_true rfl) fl_X12_196 rfl (by decide +kernel) (q_dm dm_X12_readsCondition 12 rfl) ?_
    refine qr_letm (fun m3 => ?_)
    refine qr_aload_n o (q_dm dm_X12_readsCondition 13 rfl) rfl ?_
    refine qr_iconst o (q_dm dm_X12_readsCondition 14 rfl) ic_0 ?_
    refine qr_putf (kf := 15) o cf_X12 (sh77 j r) rfl (Nat.le_of_ble_eq_true rfl) fl_X12_199 rfl (by decide +kernel) (q_dm dm_X12_readsCondition 15 rfl) ?_
    refine qr_letm (fun m4 => ?_)
    refine qr_aload_n o (q_dm dm_X12_readsCondition 16 rfl) rfl ?_
    refine qr_bipush o (q_dm dm_X12_readsCondition 17 rfl) bi_13 ?_
    refine qr_callv_i (As := [.inl (13 : Int32)]) (S := []) o (a_X12_opens g k.2.1 n j r hj hr (13 : Int32) m4) (Nat.le_of_ble_eq_true rfl) zv_X12_opens rfl cf_X12 (sh77 j r) ml_X12_209 (Nat.le_of_ble_eq_true rfl) (q_dm dm_X12_readsCondition 18 rfl) (fun r5 m6 => ?_)
    refine qr_if_ne (tgt := 40) o (q_dm dm_X12_readsCondition 19 rfl) (by decide) ?_ ?_
    · exact qr_loc (q_leS q_le0) (w_X12_readsCondition_40 n j r hj hr o n  m6)
    · refine qr_iconst o (q_dm dm_X12_readsCondition 20 rfl) ic_0 ?_
      exact qr_iret o rfl (by decide) (q_dm dm_X12_readsCondition 21 rfl)
  · refine qr_aload_n o (q_dm dm_X12_readsCondition 4 rfl) rfl ?_
    refine qr_iconst o (q_dm dm_X12_readsCondition 5 rfl) ic_1 ?_
    refine qr_aload_n o (q_dm dm_X12_readsCondition 6 rfl) rfl ?_
    refine qr_getf (kf := 9) o cf_X12 (sh77 j r) rfl (Nat.le_of_ble_eq_true rfl) fl_X12_169 (q_dm dm_X12_readsCondition 7 rfl) ?_
    refine qr_callv_i (As := [.inl (1 : Int32), .inl (m2 77 9)]) (S := []) o (a_X12_wrongAt g k.2.1 n j r hj hr (1 : Int32) (m2 77 9) m2) (Nat.le_of_ble_eq_true rfl) zv_X12_wrongAt rfl cf_X12 (sh77 j r) ml_X12_182 (Nat.le_of_ble_eq_true rfl) (q_dm dm_X12_readsCondition 8 rfl) (fun r7 m8 => ?_)
    exact qr_zret o rfl (q_dm dm_X12_readsCondition 9 rfl)

theorem a_X12_readsCondition (g : qG) (l : Launch) (n : Nat) (j r : Nat) (hj : q_isLaw j) (hr : q_isLaw r) (M : qM) : qAM g l 6 zX12_readsCondition (qL j r) [.inr (some 77)] (qL j r, M) (f_X12_readsCondition n  M) :=
  qAM.of zv_X12_readsCondition.1 (by show 1 ≤ 1; decide) (fun k hk o => w_X12_readsCondition n j r hj hr o  M)
def tb_X12_readsClause : List (Nat × Instr × Nat) := [(0, (.aload_n 0, 1)), (1, (.invokevirtual 175, 3)), (4, (.istore_n 1, 1)), (5, (.iload_n 1, 1)), (6, (.invokestatic 247, 3)), (9, (.ifCond .ne 13, 3)), (12, (.aload_n 0, 1)), (13, (.iconst 1, 1)), (14, (.aload_n 0, 1)), (15, (.getfield 169, 3)), (18, (.invokevirtual 182, 3)), (21, (.ireturn, 1)), (22, (.aload_n 0, 1)), (23, (.getfield 250, 3)), (26, (.bipush 16, 2)), (28, (.if_icmp .ne 13, 3)), (31, (.aload_n 0, 1)), (32, (.iconst 4, 1)), (33, (.aload_n 0, 1)), (34, (.getfield 169, 3)), (37, (.invokevirtual 182, 3)), (40, (.ireturn, 1)), (41, (.aload_n 0, 1)), (42, (.getfield 38, 3)), (45, (.aload_n 0, 1)), (46, (.getfield 250, 3)), (49, (.iload_n 1, 1)), (50, (.iastore, 1)), (51, (.aload_n 0, 1)), (52, (.aload_n 0, 1)), (53, (.getfield 169, 3)), (56, (.iconst 1, 1)), (57, (.iadd, 1)), (58, (.putfield 169, 3)), (61, (.aload_n 0, 1)), (62, (.getfield 41, 3)), (65, (.aload_n 0, 1)), (66, (.getfield 250, 3)), (69, (.aload_n 0, 1)), (70, (.getfield 192, 3)), (73, (.iastore, 1)), (74, (.aload_n 0, 1)), (75, (.iconst 0, 1)), (76, (.putfield 196, 3)), (79, (.aload_n 0, 1)), (80, (.iconst 0, 1)), (81, (.putfield 199, 3)), (84, (.iload_n 1, 1)), (85, (.bipush 97, 2)), (87, (.if_icmp .eq 12, 3)), (90, (.aload_n 0, 1)), (91, (.invokevirtual 232, 3)), (94, (.ifCond .ne 5, 3)), (97, (.iconst 0, 1)), (98, (.ireturn, 1)), (99, (.aload_n 0, 1)), (100, (.getfield 44, 3)), (103, (.aload_n 0, 1)), (104, (.getfield 250, 3)), (107, (.aload_n 0, 1)), (108, (.getfield 192, 3)), (111, (.iastore, 1)), (112, (.aload_n 0, 1)), (113, (.invokevirtual 253, 3)), (116, (.ifCond .ne 5, 3)), (119, (.iconst 0, 1)), (120, (.ireturn, 1)), (121, (.aload_n 0, 1)), (122, (.getfield 47, 3)), (125, (.aload_n 0, 1)), (126, (.getfield 250, 3)), (129, (.aload_n 0, 1)), (130, (.getfield 192, 3)), (133, (.iastore, 1)), (134, (.aload_n 0, 1)), (135, (.aload_n 0, 1)), (136, (.getfield 250, 3)), (139, (.iconst 1, 1)), (140, (.iadd, 1)), (141, (.putfield 250, 3)), (144, (.iconst 1, 1)), (145, (.ireturn, 1))]
theorem dm_X12_readsClause : ∀ q ∈ tb_X12_readsClause, decode zX12_readsClause.2.1 q.1 = .ok q.2 := by decide +kernel
def f_X12_readsClause_99 (n : Nat) (M : qM) : qR :=
  qg (M 77 16) 16 (qlm (mu M 89 (M 77 16).toNatClampNeg (M 77 14)) (fun m1 => qc (f_X12_readsCondition n  m1) (fun r2 m3 => (if r2 = (0 : Int32) then some ((0 : Int32), m3) else qg (m3 77 16) 16 (qlm (mu m3 90 (m3 77 16).toNatClampNeg (m3 77 14)) (fun m4 => qlm (mu m4 77 16 ((m4 77 16) + (1 : Int32))) (fun m5 => some ((1 : Int32), m5))))))))
set_option maxRecDepth 4000 in
theorem w_X12_readsClause_99 {g : qG} {k : qK} (n : Nat) (j r : Nat) (hj : q_isLaw j) (hr : q_isLaw r) (o : qOk g 7 zX12_readsClause k) (M : qM) : qAE g k zX12_readsClause (qL j r) 99 [some (.inr (some 77)), none] [] (qL j r, M) (f_X12_readsClause_99 n  M) := by
  unfold f_X12_readsClause_99
  refine qr_aload_n o (q_dm dm_X12_readsClause 55 rfl) rfl ?_
  refine qr_getr (kf := 22) o cf_X12 (sh77 j r) rfl (Nat.le_of_ble_eq_true rfl) fl_X12_44 (q_dm dm_X12_readsClause 56 rfl) ?_
  refine qr_aload_n o (q_dm dm_X12_readsClause 57 rfl) rfl ?_
  refine qr_getf (kf := 16) o cf_X12 (sh77 j r) rfl (Nat.le_of_ble_eq_true rfl) fl_X12_250 (q_dm dm_X12_readsClause 58 rfl) ?_
  refine qr_aload_n o (q_dm dm_X12_readsClause 59 rfl) rfl ?_
  refine qr_getf (kf := 14) o cf_X12 (sh77 j r) rfl (Nat.le_of_ble_eq_true rfl) fl_X12_192 (q_dm dm_X12_readsClause 60 rfl) ?_
  refine qr_iast o (sh89 j r) (q_dm dm_X12_readsClause 61 rfl) ?_
  refine qr_letm (fun m1 => ?_)
  refine qr_aload_n o (q_dm dm_X12_readsClause 62 rfl) rfl ?_
  refine qr_callv_i (As := []) (S := []) o (a_X12_readsCondition g k.2.1 n j r hj hr  m1) (Nat.le_of_ble_eq_true rfl) zv_X12_readsCondition rfl cf_X12 (sh77 j r) ml_X12_253 (Nat.le_of_ble_eq_true rfl) (q_dm dm_X12_readsClause 63 rfl) (fun r2 m3 => ?_)
  refine qr_if_ne (tgt := 121) o (q_dm dm_X12_readsClause 64 rfl) (by decide) ?_ ?_
  · refine qr_aload_n o (q_dm dm_X12_readsClause 67 rfl) rfl ?_
    refine qr_getr (kf := 23) o cf_X12 (sh77 j r) rfl (Nat.le_of_ble_eq_true rfl) fl_X12_47 (q_dm dm_X12_readsClause 68 rfl) ?_
    refine qr_aload_n o (q_dm dm_X12_readsClause 69 rfl) rfl ?_
    refine qr_getf (kf := 16) o cf_X12 (sh77 j r) rfl (Nat.le_of_ble_eq_true rfl) fl_X12_250 (q_dm dm_X12_readsClause 70 rfl) ?_
    refine qr_aload_n o (q_dm dm_X12_readsClause 71 rfl) rfl ?_
    refine qr_getf (kf := 14) o cf_X12 (sh77 j r) rfl (Nat.le_of_ble_eq_true rfl) fl_X12_192 (q_dm dm_X12_readsClause 72 rfl) ?_
    refine qr_iast o (sh90 j r) (q_dm dm_X12_readsClause 73 rfl) ?_
    refine qr_letm (fun m4 => ?_)
    refine qr_aload_n o (q_dm dm_X12_readsClause 74 rfl) rfl ?_
    refine qr_aload_n o (q_dm dm_X12_readsClause 75 rfl) rfl ?_
    refine qr_getf (kf := 16) o cf_X12 (sh77 j r) rfl (Nat.le_of_ble_eq_true rfl) fl_X12_250 (q_dm dm_X12_readsClause 76 rfl) ?_
    refine qr_iconst o (q_dm dm_X12_readsClause 77 rfl) ic_1 ?_
    refine qr_iadd o (q_dm dm_X12_readsClause 78 rfl) ?_
    refine qr_putf (kf := 16) o cf_X12 (sh77 j r) rfl (Nat.le_of_ble_eq_true rfl) fl_X12_250 rfl (by decide +kernel) (q_dm dm_X12_readsClause 79 rfl) ?_
    refine qr_letm (fun m5 => ?_)
    refine qr_iconst o (q_dm dm_X12_readsClause 80 rfl) ic_1 ?_
    exact qr_iret o rfl (by decide) (q_dm dm_X12_readsClause 81 rfl)
  · refine qr_iconst o (q_dm dm_X12_readsClause 65 rfl) ic_0 ?_
    exact qr_iret o rfl (by decide) (q_dm dm_X12_readsClause 66 rfl)

def f_X12_readsClause (n : Nat) (M : qM) : qR :=
  qc (f_X12_here n  M) (fun r1 m2 => qc (f_X12_isClause n r1 m2) (fun r3 m4 => (if r3 = (0 : Int32) then qc (f_X12_wrongAt n (1 : Int32) (m4 77 9) m4) (fun r14 m15 => qb r14 (some (r14, m15))) else (if (m4 77 16) = (16 : Int32) then qc (f_X12_wrongAt n (4 : Int32) (m4 77 9) m4) (fun r12 m13 => qb r12 (some (r12, m13))) else qg (m4 77 16) 16 (qlm (mu m4 87 (m4 77 16).toNatClampNeg r1) (fun m5 => qlm (mu m5 77 9 ((m5 77 9) + (1 : Int32))) (fun m6 => qg (m6 77 16) 16 (qlm (mu m6 88 (m6 77 16).toNatClampNeg (m6 77 14)) (fun m7 => qlm (mu m7 77 13 (0 : Int32)) (fun m8 => qlm (mu m8 77 15 (0 : Int32)) (fun m9 => (if r1 = (97 : Int32) then f_X12_readsClause_99 n  m9 else qc (f_X12_readsSum n  m9) (fun r10 m11 => (if r10 = (0 : Int32) then some ((0 : Int32), m11) else f_X12_readsClause_99 n  m11))))))))))))))
set_option maxRecDepth 4000 in
theorem w_X12_readsClause {g : qG} {k : qK} (n : Nat) (j r : Nat) (hj : q_isLaw j) (hr : q_isLaw r) (o : qOk g 7 zX12_readsClause k) (M : qM) : qAE g k zX12_readsClause (qL j r) 0 [some (.inr (some 77)), none] [] (qL j r, M) (f_X12_readsClause n  M) := by
  unfold f_X12_readsClause
  refine qr_aload_n o (q_dm dm_X12_readsClause 0 rfl) rfl ?_
  refine qr_callv_i (As := []) (S := []) o (a_X12_here g k.2.1 n j r hj hr  M) (Nat.le_of_ble_eq_true rfl) zv_X12_here rfl cf_X12 (sh77 j r) ml_X12_175 (Nat.le_of_ble_eq_true rfl) (q_dm dm_X12_readsClause 1 rfl) (fun r1 m2 => ?_)
  refine qs_istore_n (L' := [some (.inr (some 77)), some (.inl r1)]) o (q_dm dm_X12_readsClause 2 rfl) (Nat.le_of_ble_eq_true rfl) rfl ?_
  refine qr_iload_n o (q_dm dm_X12_readsClause 3 rfl) rfl ?_
  refine qr_calls_i (As := [.inl r1]) (S := []) o (a_X12_isClause g k.2.1 n j r hj hr r1 m2) (Nat.le_of_ble_eq_true rfl) zs_X12_isClause rfl ml_X12_247 (Nat.le_of_ble_eq_true rfl) (q_dm dm_X12_readsClause 4 rfl) (fun r3 m4 => ?_)
  refine qr_if_ne (tgt := 22) o (q_dm dm_X12_readsClause 5 rfl) (by decide) ?_ ?_
  · refine qr_aload_n o (q_dm dm_X12_readsClause 12 rfl) rfl ?_
    refine qr_getf (kf := 16) o cf_X12 (sh77 j r) rfl (Nat.le_of_ble_eq_true rfl) fl_X12_250 (q_dm dm_X12_readsClause 13 rfl) ?_
    refine qr_bipush o (q_dm dm_X12_readsClause 14 rfl) bi_16 ?_
    refine qr_icmp_ne (tgt := 41) o (q_dm dm_X12_readsClause 15 rfl) (by decide) ?_ ?_
    · refine qr_aload_n o (q_dm dm_X12_readsClause 22 rfl) rfl ?_
      refine qr_getr (kf := 20) o cf_X12 (sh77 j r) rfl (Nat.le_of_ble_eq_true rfl) fl_X12_38 (q_dm dm_X12_readsClause 23 rfl) ?_
      refine qr_aload_n o (q_dm dm_X12_readsClause 24 rfl) rfl ?_
      refine qr_getf (kf := 16) o cf_X12 (sh77 j r) rfl (Nat.le_of_ble_eq_true rfl) fl_X12_250 (q_dm dm_X12_readsClause 25 rfl) ?_
      refine qr_iload_n o (q_dm dm_X12_readsClause 26 rfl) rfl ?_
      refine qr_iast o (sh87 j r) (q_dm dm_X12_readsClause 27 rfl) ?_
      refine qr_letm (fun m5 => ?_)
      refine qr_aload_n o (q_dm dm_X12_readsClause 28 rfl) rfl ?_
      refine qr_aload_n o (q_dm dm_X12_readsClause 29 rfl) rfl ?_
      refine qr_getf (kf := 9) o cf_X12 (sh77 j r) rfl (Nat.le_of_ble_eq_true rfl) fl_X12_169 (q_dm dm_X12_readsClause 30 rfl) ?_
      refine qr_iconst o (q_dm dm_X12_readsClause 31 rfl) ic_1 ?_
      refine qr_iadd o (q_dm dm_X12_readsClause 32 rfl) ?_
      refine qr_putf (kf := 9) o cf_X12 (sh77 j r) rfl (Nat.le_of_ble_eq_true rfl) fl_X12_169 rfl (by decide +kernel) (q_dm dm_X12_readsClause 33 rfl) ?_
      refine qr_letm (fun m6 => ?_)
      refine qr_aload_n o (q_dm dm_X12_readsClause 34 rfl) rfl ?_
      refine qr_getr (kf := 21) o cf_X12 (sh77 j r) rfl (Nat.le_of_ble_eq_true rfl) fl_X12_41 (q_dm dm_X12_readsClause 35 rfl) ?_
      refine qr_aload_n o (q_dm dm_X12_readsClause 36 rfl) rfl ?_
      refine qr_getf (kf := 16) o cf_X12 (sh77 j r) rfl (Nat.le_of_ble_eq_true rfl) fl_X12_250 (q_dm dm_X12_readsClause 37 rfl) ?_
      refine qr_aload_n o (q_dm dm_X12_readsClause 38 rfl) rfl ?_
      refine qr_getf (kf := 14) o cf_X12 (sh77 j r) rfl (Nat.le_of_ble_eq_true rfl) fl_X12_192 (q_dm dm_X12_readsClause 39 rfl) ?_
      refine qr_iast o (sh88 j r) (q_dm dm_X12_readsClause 40 rfl) ?_
      refine qr_letm (fun m7 => ?_)
      refine qr_aload_n o (q_dm dm_X12_readsClause 41 rfl) rfl ?_
      refine qr_iconst o (q_dm dm_X12_readsClause 42 rfl) ic_0 ?_
      refine qr_putf (kf := 13) o cf_X12 (sh77 j r) rfl (Nat.le_of_ble_eq_true rfl) fl_X12_196 rfl (by decide +kernel) (q_dm dm_X12_readsClause 43 rfl) ?_
      refine qr_letm (fun m8 => ?_)
      refine qr_aload_n o (q_dm dm_X12_readsClause 44 rfl) rfl ?_
      refine qr_iconst o (q_dm dm_X12_readsClause 45 rfl) ic_0 ?_
      refine qr_putf (kf := 15) o cf_X12 (sh77 j r) rfl (Nat.le_of_ble_eq_true rfl) fl_X12_199 rfl (by decide +kernel) (q_dm dm_X12_readsClause 46 rfl) ?_
      refine qr_letm (fun m9 => ?_)
      refine qr_iload_n o (q_dm dm_X12_readsClause 47 rfl) rfl ?_
      refine qr_bipush o (q_dm dm_X12_readsClause 48 rfl) bi_97 ?_
      refine qr_icmp_eq (tgt := 99) o (q_dm dm_X12_readsClause 49 rfl) (by decide) ?_ ?_
      · exact qr_loc (q_leS (q_leN q_le0)) (w_X12_readsClause_99 n j r hj hr o  m9)
      · refine qr_aload_n o (q_dm dm_X12_readsClause 50 rfl) rfl ?_
        refine qr_callv_i (As := []) (S := []) o (a_X12_readsSum g k.2.1 n j r hj hr  m9) (Nat.le_of_ble_eq_true rfl) zv_X12_readsSum rfl cf_X12 (sh77 j r) ml_X12_232 (Nat.le_of_ble_eq_true rfl) (q_dm dm_X12_readsClause 51 rfl) (fun r10 m11 => ?_)
        refine qr_if_ne (tgt := 99) o (q_dm dm_X12_readsClause 52 rfl) (by decide) ?_ ?_
        · exact qr_loc (q_leS (q_leN q_le0)) (w_X12_readsClause_99 n j r hj hr o  m11)
        · refine qr_iconst o (q_dm dm_X12_readsClause 53 rfl) ic_0 ?_
          exact qr_iret o rfl (by decide) (q_dm dm_X12_readsClause 54 rfl)
    · refine qr_aload_n o (q_dm dm_X12_readsClause 16 rfl) rfl ?_
      refine qr_iconst o (q_dm dm_X12_readsClause 17 rfl) ic_4 ?_
      refine qr_aload_n o (q_dm dm_X12_readsClause 18 rfl) rfl ?_
      refine qr_getf (kf := 9) o cf_X12 (sh77 j r) rfl (Nat.le_of_ble_eq_true rfl) fl_X12_169 (q_dm dm_X12_readsClause 19 rfl) ?_
      refine qr_callv_i (As := [.inl (4 : Int32), .inl (m4 77 9)]) (S := []) o (a_X12_wrongAt g k.2.1 n j r hj hr (4 : Int32) (m4 77 9) m4) (Nat.le_of_ble_eq_true rfl) zv_X12_wrongAt rfl cf_X12 (sh77 j r) ml_X12_182 (Nat.le_of_ble_eq_true rfl) (q_dm dm_X12_readsClause 20 rfl) (fun r12 m13 => ?_)
      exact qr_zret o rfl (q_dm dm_X12_readsClause 21 rfl)
  · refine qr_aload_n o (q_dm dm_X12_readsClause 6 rfl) rfl ?_
    refine qr_iconst o (q_dm dm_X12_readsClause 7 rfl) ic_1 ?_
    refine qr_aload_n o (q_dm dm_X12_readsClause 8 rfl) rfl ?_
    refine qr_getf (kf := 9) o cf_X12 (sh77 j r) rfl (Nat.le_of_ble_eq_true rfl) fl_X12_169 (q_dm dm_X12_readsClause 9 rfl) ?_
    refine qr_callv_i (As := [.inl (1 : Int32), .inl (m4 77 9)]) (S := []) o (a_X12_wrongAt g k.2.1 n j r hj hr (1 : Int32) (m4 77 9) m4) (Nat.le_of_ble_eq_true rfl) zv_X12_wrongAt rfl cf_X12 (sh77 j r) ml_X12_182 (Nat.le_of_ble_eq_true rfl) (q_dm dm_X12_readsClause 10 rfl) (fun r14 m15 => ?_)
    exact qr_zret o rfl (q_dm dm_X12_readsClause 11 rfl)

theorem a_X12_readsClause (g : qG) (l : Launch) (n : Nat) (j r : Nat) (hj : q_isLaw j) (hr : q_isLaw r) (M : qM) : qAM g l 7 zX12_readsClause (qL j r) [.inr (some 77)] (qL j r, M) (f_X12_readsClause n  M) :=
  qAM.of zv_X12_readsClause.1 (by show 1 ≤ 2; decide) (fun k hk o => w_X12_readsClause n j r hj hr o  M)
def tb_X12_takes : List (Nat × Instr × Nat) := [(0, (.aload_n 0, 1)), (1, (.invokevirtual 175, 3)), (4, (.iload_n 1, 1)), (5, (.if_icmp .eq 13, 3)), (8, (.aload_n 0, 1)), (9, (.iconst 1, 1)), (10, (.aload_n 0, 1)), (11, (.getfield 169, 3)), (14, (.invokevirtual 182, 3)), (17, (.ireturn, 1)), (18, (.aload_n 0, 1)), (19, (.aload_n 0, 1)), (20, (.getfield 169, 3)), (23, (.iconst 1, 1)), (24, (.iadd, 1)), (25, (.putfield 169, 3)), (28, (.iconst 1, 1)), (29, (.ireturn, 1))]
theorem dm_X12_takes : ∀ q ∈ tb_X12_takes, decode zX12_takes.2.1 q.1 = .ok q.2 := by decide +kernel
def f_X12_takes (n : Nat) (a1 : Int32) (M : qM) : qR :=
  qc (f_X12_here n  M) (fun r1 m2 => (if r1 = a1 then qlm (mu m2 77 9 ((m2 77 9) + (1 : Int32))) (fun m3 => some ((1 : Int32), m3)) else qc (f_X12_wrongAt n (1 : Int32) (m2 77 9) m2) (fun r4 m5 => qb r4 (some (r4, m5)))))
set_option maxRecDepth 4000 in
theorem w_X12_takes {g : qG} {k : qK} (n : Nat) (j r : Nat) (hj : q_isLaw j) (hr : q_isLaw r) (o : qOk g 1 zX12_takes k) (a1 : Int32) (M : qM) : qAE g k zX12_takes (qL j r) 0 [some (.inr (some 77)), some (.inl a1)] [] (qL j r, M) (f_X12_takes n a1 M) := by
  unfold f_X12_takes
  refine qr_aload_n o (q_dm dm_X12_takes 0 rfl) rfl ?_
  refine qr_callv_i (As := []) (S := []) o (a_X12_here g k.2.1 n j r hj hr  M) (Nat.le_of_ble_eq_true rfl) zv_X12_here rfl cf_X12 (sh77 j r) ml_X12_175 (Nat.le_of_ble_eq_true rfl) (q_dm dm_X12_takes 1 rfl) (fun r1 m2 => ?_)
  refine qr_iload_n o (q_dm dm_X12_takes 2 rfl) rfl ?_
  refine qr_icmp_eq (tgt := 18) o (q_dm dm_X12_takes 3 rfl) (by decide) ?_ ?_
  · refine qr_aload_n o (q_dm dm_X12_takes 10 rfl) rfl ?_
    refine qr_aload_n o (q_dm dm_X12_takes 11 rfl) rfl ?_
    refine qr_getf (kf := 9) o cf_X12 (sh77 j r) rfl (Nat.le_of_ble_eq_true rfl) fl_X12_169 (q_dm dm_X12_takes 12 rfl) ?_
    refine qr_iconst o (q_dm dm_X12_takes 13 rfl) ic_1 ?_
    refine qr_iadd o (q_dm dm_X12_takes 14 rfl) ?_
    refine qr_putf (kf := 9) o cf_X12 (sh77 j r) rfl (Nat.le_of_ble_eq_true rfl) fl_X12_169 rfl (by decide +kernel) (q_dm dm_X12_takes 15 rfl) ?_
    refine qr_letm (fun m3 => ?_)
    refine qr_iconst o (q_dm dm_X12_takes 16 rfl) ic_1 ?_
    exact qr_iret o rfl (by decide) (q_dm dm_X12_takes 17 rfl)
  · refine qr_aload_n o (q_dm dm_X12_takes 4 rfl) rfl ?_
    refine qr_iconst o (q_dm dm_X12_takes 5 rfl) ic_1 ?_
    refine qr_aload_n o (q_dm dm_X12_takes 6 rfl) rfl ?_
    refine qr_getf (kf := 9) o cf_X12 (sh77 j r) rfl (Nat.le_of_ble_eq_true rfl) fl_X12_169 (q_dm dm_X12_takes 7 rfl) ?_
    refine qr_callv_i (As := [.inl (1 : Int32), .inl (m2 77 9)]) (S := []) o (a_X12_wrongAt g k.2.1 n j r hj hr (1 : Int32) (m2 77 9) m2) (Nat.le_of_ble_eq_true rfl) zv_X12_wrongAt rfl cf_X12 (sh77 j r) ml_X12_182 (Nat.le_of_ble_eq_true rfl) (q_dm dm_X12_takes 8 rfl) (fun r4 m5 => ?_)
    exact qr_zret o rfl (q_dm dm_X12_takes 9 rfl)

theorem a_X12_takes (g : qG) (l : Launch) (n : Nat) (j r : Nat) (hj : q_isLaw j) (hr : q_isLaw r) (a1 : Int32) (M : qM) : qAM g l 1 zX12_takes (qL j r) [.inr (some 77), .inl a1] (qL j r, M) (f_X12_takes n a1 M) :=
  qAM.of zv_X12_takes.1 (by show 2 ≤ 2; decide) (fun k hk o => w_X12_takes n j r hj hr o a1 M)
