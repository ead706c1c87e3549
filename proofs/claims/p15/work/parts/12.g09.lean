def tb_X4_readPart : List (Nat × Instr × Nat) := [(0, (.aload_n 0, 1)), (1, (.iload_n 1, 1)), (2, (.invokevirtual 86, 3)), (5, (.ifCond .ne 5, 3)), (8, (.iconst 0, 1)), (9, (.ireturn, 1)), (10, (.iconst 0, 1)), (11, (.istore_n 2, 1)), (12, (.iload_n 2, 1)), (13, (.sipush 240, 3)), (16, (.if_icmp .ge 49, 3)), (19, (.aload_n 0, 1)), (20, (.getfield 18, 3)), (23, (.bipush 38, 2)), (25, (.invokevirtual 35, 3)), (28, (.ifCond .eq 37, 3)), (31, (.aload_n 0, 1)), (32, (.getfield 12, 3)), (35, (.iconst 3, 1)), (36, (.iconst 0, 1)), (37, (.invokevirtual 79, 3)), (40, (.istore_n 3, 1)), (41, (.aload_n 0, 1)), (42, (.iload_n 1, 1)), (43, (.invokevirtual 86, 3)), (46, (.ifCond .ne 5, 3)), (49, (.iconst 0, 1)), (50, (.ireturn, 1)), (51, (.aload_n 0, 1)), (52, (.getfield 12, 3)), (55, (.iload_n 3, 1)), (56, (.invokevirtual 83, 3)), (59, (.iinc 2 1, 3)), (62, (.goto (-50), 3)), (65, (.iconst 1, 1)), (66, (.ireturn, 1))]
theorem dm_X4_readPart : ∀ q ∈ tb_X4_readPart, decode zX4_readPart.2.1 q.1 = .ok q.2 := by decide +kernel
def b_X4_readPart_12 (n : Nat) (r : Nat) (F_X4_readPiece : Int32 → qM → qR) (K12 : Int32 → Int32 → qM → qR) (a1 a2 : Int32) (M : qM) : qR :=
  (if (240 : Int32) ≤ a2 then some ((1 : Int32), M) else qc (f_X9_takes n (38 : Int32) M) (fun r1 m2 => (if r1 = (0 : Int32) then some ((1 : Int32), m2) else qc (f_X3_add n r (3 : Int32) (0 : Int32) m2) (fun r3 m4 => qc (F_X4_readPiece a1 m4) (fun r5 m6 => (if r5 = (0 : Int32) then some ((0 : Int32), m6) else qc (f_X3_skipToHere n r r3 m6) (fun _ m7 => ql (a2 + (1 : Int32)) (fun x8 => K12 a1 x8 m7))))))))
set_option maxRecDepth 4000 in
theorem wb_X4_readPart_12 {g : qG} {k : qK} (n : Nat) (j r : Nat) (hj : q_isLaw j) (hr : q_isLaw r) {d1 d : Nat} (hd1 : d1 + 1 ≤ d) (hdn : 34 ≤ d) (F_X4_readPiece : Int32 → qM → qR) (hF_X4_readPiece : ∀ (b1 : Int32) (M : qM), qAM g k.2.1 d1 zX4_readPiece (qL j r) [.inr (some 45), .inl b1] (qL j r, M) (F_X4_readPiece b1 M)) (o : qOk g d zX4_readPart k) (K12 : Int32 → Int32 → qM → qR) (hK12 : ∀ (a1 a2 : Int32) (M : qM), qAE g k zX4_readPart (qL j r) 12 [some (.inr (some 45)), some (.inl a1), some (.inl a2), none] [] (qL j r, M) (K12 a1 a2 M)) (a1 a2 : Int32) (M : qM) : qAE g k zX4_readPart (qL j r) 12 [some (.inr (some 45)), some (.inl a1), some (.inl a2), none] [] (qL j r, M) (b_X4_readPart_12 n r F_X4_readPiece K12 a1 a2 M) := by
  unfold b_X4_readPart_12
  refine qr_iload_n o (q_dm dm_X4_readPart 8 rfl) rfl ?_
  refine qr_sipush o (q_dm dm_X4_readPart 9 rfl) si_240 ?_
  refine qr_icmp_ge (tgt := 65) o (q_dm dm_X4_readPart 10 rfl) (by decide) ?_ ?_
  · refine qr_iconst o (q_dm dm_X4_readPart 34 rfl) ic_1 ?_
    exact qr_iret o rfl (by decide) (q_dm dm_X4_readPart 35 rfl)
  · refine qr_aload_n o (q_dm dm_X4_readPart 11 rfl) rfl ?_
    refine qr_getr (kf := 0) o cf_X4 (sh45 j r) rfl (Nat.le_of_ble_eq_true rfl) fl_X4_18 (q_dm dm_X4_readPart 12 rfl) ?_
    refine qr_bipush o (q_dm dm_X4_readPart 13 rfl) bi_38 ?_
    refine qr_callv_i (As := [.inl (38 : Int32)]) (S := []) o (a_X9_takes g k.2.1 n j r hj hr (38 : Int32) M) (by omega) zv_X9_takes rfl cf_X9 (sh1 j r) ml_X4_35 (Nat.le_of_ble_eq_true rfl) (q_dm dm_X4_readPart 14 rfl) (fun r1 m2 => ?_)
    refine qr_if_eq (tgt := 65) o (q_dm dm_X4_readPart 15 rfl) (by decide) ?_ ?_
    · refine qr_iconst o (q_dm dm_X4_readPart 34 rfl) ic_1 ?_
      exact qr_iret o rfl (by decide) (q_dm dm_X4_readPart 35 rfl)
    · refine qr_aload_n o (q_dm dm_X4_readPart 16 rfl) rfl ?_
      refine qr_getr (kf := 1) o cf_X4 (sh45 j r) rfl (Nat.le_of_ble_eq_true rfl) fl_X4_12 (q_dm dm_X4_readPart 17 rfl) ?_
      refine qr_iconst o (q_dm dm_X4_readPart 18 rfl) ic_3 ?_
      refine qr_iconst o (q_dm dm_X4_readPart 19 rfl) ic_0 ?_
      refine qr_callv_i (As := [.inl (3 : Int32), .inl (0 : Int32)]) (S := []) o (a_X3_add g k.2.1 n j r hj hr hr (3 : Int32) (0 : Int32) m2) (by omega) zv_X3_add rfl cf_X3 (shW0 j r hr) ml_X4_79 (Nat.le_of_ble_eq_true rfl) (q_dm dm_X4_readPart 20 rfl) (fun r3 m4 => ?_)
      refine qs_istore_n (L' := [some (.inr (some 45)), some (.inl a1), some (.inl a2), some (.inl r3)]) o (q_dm dm_X4_readPart 21 rfl) (Nat.le_of_ble_eq_true rfl) rfl ?_
      refine qr_aload_n o (q_dm dm_X4_readPart 22 rfl) rfl ?_
      refine qr_iload_n o (q_dm dm_X4_readPart 23 rfl) rfl ?_
      refine qr_callv_i (As := [.inl a1]) (S := []) o (hF_X4_readPiece a1 m4) (by omega) zv_X4_readPiece rfl cf_X4 (sh45 j r) ml_X4_86 (Nat.le_of_ble_eq_true rfl) (q_dm dm_X4_readPart 24 rfl) (fun r5 m6 => ?_)
      refine qr_if_ne (tgt := 51) o (q_dm dm_X4_readPart 25 rfl) (by decide) ?_ ?_
      · refine qr_aload_n o (q_dm dm_X4_readPart 28 rfl) rfl ?_
        refine qr_getr (kf := 1) o cf_X4 (sh45 j r) rfl (Nat.le_of_ble_eq_true rfl) fl_X4_12 (q_dm dm_X4_readPart 29 rfl) ?_
        refine qr_iload_n o (q_dm dm_X4_readPart 30 rfl) rfl ?_
        refine qr_callv_v (As := [.inl r3]) (S := []) o (a_X3_skipToHere g k.2.1 n j r hj hr hr r3 m6) (by omega) zv_X3_skipToHere rfl cf_X3 (shW0 j r hr) ml_X4_83 (Nat.le_of_ble_eq_true rfl) (q_dm dm_X4_readPart 31 rfl) (fun _ m7 => ?_)
        refine qs_iincl2 (L' := fun x8 => [some (.inr (some 45)), some (.inl a1), some (.inl x8), some (.inl r3)]) o (q_dm dm_X4_readPart 32 rfl) rfl ic_1 (Nat.le_of_ble_eq_true rfl) (fun _ => rfl) (fun x8 => ?_)
        refine qr_goto (tgt := 12) o (q_dm dm_X4_readPart 33 rfl) (by decide) ?_
        exact qr_loc (q_leS (q_leS (q_leS (q_leN q_le0)))) (hK12 a1 x8 m7)
      · refine qr_iconst o (q_dm dm_X4_readPart 26 rfl) ic_0 ?_
        exact qr_iret o rfl (by decide) (q_dm dm_X4_readPart 27 rfl)

def f_X4_readPart_12 (n : Nat) (r : Nat) (F_X4_readPiece : Int32 → qM → qR) : Nat → Int32 → Int32 → qM → qR
  | 0, _, _, _ => none
  | m + 1, a1, a2, M => b_X4_readPart_12 n r F_X4_readPiece (f_X4_readPart_12 n r F_X4_readPiece m) a1 a2 M
theorem w_X4_readPart_12 {g : qG} {k : qK} (n : Nat) (j r : Nat) (hj : q_isLaw j) (hr : q_isLaw r) {d1 d : Nat} (hd1 : d1 + 1 ≤ d) (hdn : 34 ≤ d) (F_X4_readPiece : Int32 → qM → qR) (hF_X4_readPiece : ∀ (b1 : Int32) (M : qM), qAM g k.2.1 d1 zX4_readPiece (qL j r) [.inr (some 45), .inl b1] (qL j r, M) (F_X4_readPiece b1 M)) (o : qOk g d zX4_readPart k) : ∀ (m : Nat) (a1 a2 : Int32) (M : qM), qAE g k zX4_readPart (qL j r) 12 [some (.inr (some 45)), some (.inl a1), some (.inl a2), none] [] (qL j r, M) (f_X4_readPart_12 n r F_X4_readPiece m a1 a2 M) := by
  intro m
  induction m with
  | zero =>
    intro a1 a2 M
    exact qr_none
  | succ m ih =>
    intro a1 a2 M
    exact wb_X4_readPart_12 n j r hj hr hd1 hdn F_X4_readPiece hF_X4_readPiece o (f_X4_readPart_12 n r F_X4_readPiece m) ih a1 a2 M
def fo_X4_readPart (n : Nat) (r : Nat) (F_X4_readPiece : Int32 → qM → qR) (a1 : Int32) (M : qM) : qR :=
  qc (F_X4_readPiece a1 M) (fun r1 m2 => (if r1 = (0 : Int32) then some ((0 : Int32), m2) else f_X4_readPart_12 n r F_X4_readPiece n a1 (0 : Int32) m2))
set_option maxRecDepth 4000 in
theorem w_X4_readPart {g : qG} {k : qK} (n : Nat) (j r : Nat) (hj : q_isLaw j) (hr : q_isLaw r) {d1 d : Nat} (hd1 : d1 + 1 ≤ d) (hdn : 34 ≤ d) (F_X4_readPiece : Int32 → qM → qR) (hF_X4_readPiece : ∀ (b1 : Int32) (M : qM), qAM g k.2.1 d1 zX4_readPiece (qL j r) [.inr (some 45), .inl b1] (qL j r, M) (F_X4_readPiece b1 M)) (o : qOk g d zX4_readPart k) (a1 : Int32) (M : qM) : qAE g k zX4_readPart (qL j r) 0 [some (.inr (some 45)), some (.inl a1), none, none] [] (qL j r, M) (fo_X4_readPart n r F_X4_readPiece a1 M) := by
  unfold fo_X4_readPart
  refine qr_aload_n o (q_dm dm_X4_readPart 0 rfl) rfl ?_
  refine qr_iload_n o (q_dm dm_X4_readPart 1 rfl) rfl ?_
  refine qr_callv_i (As := [.inl a1]) (S := []) o (hF_X4_readPiece a1 M) (by omega) zv_X4_readPiece rfl cf_X4 (sh45 j r) ml_X4_86 (Nat.le_of_ble_eq_true rfl) (q_dm dm_X4_readPart 2 rfl) (fun r1 m2 => ?_)
  refine qr_if_ne (tgt := 10) o (q_dm dm_X4_readPart 3 rfl) (by decide) ?_ ?_
  · refine qr_iconst o (q_dm dm_X4_readPart 6 rfl) ic_0 ?_
    refine qs_istore_n (L' := [some (.inr (some 45)), some (.inl a1), some (.inl (0 : Int32)), none]) o (q_dm dm_X4_readPart 7 rfl) (Nat.le_of_ble_eq_true rfl) rfl ?_
    exact qr_loc (q_leS (q_leS (q_leS (q_leN q_le0)))) (w_X4_readPart_12 n j r hj hr hd1 hdn F_X4_readPiece hF_X4_readPiece o n a1 (0 : Int32) m2)
  · refine qr_iconst o (q_dm dm_X4_readPart 4 rfl) ic_0 ?_
    exact qr_iret o rfl (by decide) (q_dm dm_X4_readPart 5 rfl)

theorem ao_X4_readPart (g : qG) (l : Launch) (n : Nat) (j r : Nat) (hj : q_isLaw j) (hr : q_isLaw r) {d1 d : Nat} (hd1 : d1 + 1 ≤ d) (hdn : 34 ≤ d) (F_X4_readPiece : Int32 → qM → qR) (hF_X4_readPiece : ∀ (b1 : Int32) (M : qM), qAM g l d1 zX4_readPiece (qL j r) [.inr (some 45), .inl b1] (qL j r, M) (F_X4_readPiece b1 M)) (a1 : Int32) (M : qM) : qAM g l d zX4_readPart (qL j r) [.inr (some 45), .inl a1] (qL j r, M) (fo_X4_readPart n r F_X4_readPiece a1 M) :=
  qAM.of zv_X4_readPart.1 (by show 2 ≤ 4; decide) (fun k hk o => by subst hk; exact w_X4_readPart n j r hj hr hd1 hdn F_X4_readPiece hF_X4_readPiece o a1 M)
def tb_X4_readCondition : List (Nat × Instr × Nat) := [(0, (.aload_n 0, 1)), (1, (.iload_n 1, 1)), (2, (.invokevirtual 76, 3)), (5, (.ifCond .ne 5, 3)), (8, (.iconst 0, 1)), (9, (.ireturn, 1)), (10, (.iconst 0, 1)), (11, (.istore_n 2, 1)), (12, (.iload_n 2, 1)), (13, (.sipush 240, 3)), (16, (.if_icmp .ge 49, 3)), (19, (.aload_n 0, 1)), (20, (.getfield 18, 3)), (23, (.bipush 124, 2)), (25, (.invokevirtual 35, 3)), (28, (.ifCond .eq 37, 3)), (31, (.aload_n 0, 1)), (32, (.getfield 12, 3)), (35, (.iconst 4, 1)), (36, (.iconst 0, 1)), (37, (.invokevirtual 79, 3)), (40, (.istore_n 3, 1)), (41, (.aload_n 0, 1)), (42, (.iload_n 1, 1)), (43, (.invokevirtual 76, 3)), (46, (.ifCond .ne 5, 3)), (49, (.iconst 0, 1)), (50, (.ireturn, 1)), (51, (.aload_n 0, 1)), (52, (.getfield 12, 3)), (55, (.iload_n 3, 1)), (56, (.invokevirtual 83, 3)), (59, (.iinc 2 1, 3)), (62, (.goto (-50), 3)), (65, (.iconst 1, 1)), (66, (.ireturn, 1))]
theorem dm_X4_readCondition : ∀ q ∈ tb_X4_readCondition, decode zX4_readCondition.2.1 q.1 = .ok q.2 := by decide +kernel
def b_X4_readCondition_12 (n : Nat) (r : Nat) (F_X4_readPart : Int32 → qM → qR) (K12 : Int32 → Int32 → qM → qR) (a1 a2 : Int32) (M : qM) : qR :=
  (if (240 : Int32) ≤ a2 then some ((1 : Int32), M) else qc (f_X9_takes n (124 : Int32) M) (fun r1 m2 => (if r1 = (0 : Int32) then some ((1 : Int32), m2) else qc (f_X3_add n r (4 : Int32) (0 : Int32) m2) (fun r3 m4 => qc (F_X4_readPart a1 m4) (fun r5 m6 => (if r5 = (0 : Int32) then some ((0 : Int32), m6) else qc (f_X3_skipToHere n r r3 m6) (fun _ m7 => ql (a2 + (1 : Int32)) (fun x8 => K12 a1 x8 m7))))))))
set_option maxRecDepth 4000 in
theorem wb_X4_readCondition_12 {g : qG} {k : qK} (n : Nat) (j r : Nat) (hj : q_isLaw j) (hr : q_isLaw r) {d1 d : Nat} (hd1 : d1 + 1 ≤ d) (hdn : 34 ≤ d) (F_X4_readPart : Int32 → qM → qR) (hF_X4_readPart : ∀ (b1 : Int32) (M : qM), qAM g k.2.1 d1 zX4_readPart (qL j r) [.inr (some 45), .inl b1] (qL j r, M) (F_X4_readPart b1 M)) (o : qOk g d zX4_readCondition k) (K12 : Int32 → Int32 → qM → qR) (hK12 : ∀ (a1 a2 : Int32) (M : qM), qAE g k zX4_readCondition (qL j r) 12 [some (.inr (some 45)), some (.inl a1), some (.inl a2), none] [] (qL j r, M) (K12 a1 a2 M)) (a1 a2 : Int32) (M : qM) : qAE g k zX4_readCondition (qL j r) 12 [some (.inr (some 45)), some (.inl a1), some (.inl a2), none] [] (qL j r, M) (b_X4_readCondition_12 n r F_X4_readPart K12 a1 a2 M) := by
  unfold b_X4_readCondition_12
  refine qr_iload_n o (q_dm dm_X4_readCondition 8 rfl) rfl ?_
  refine qr_sipush o (q_dm dm_X4_readCondition 9 rfl) si_240 ?_
  refine qr_icmp_ge (tgt := 65) o (q_dm dm_X4_readCondition 10 rfl) (by decide) ?_ ?_
  · refine qr_iconst o (q_dm dm_X4_readCondition 34 rfl) ic_1 ?_
    exact qr_iret o rfl (by decide) (q_dm dm_X4_readCondition 35 rfl)
  · refine qr_aload_n o (q_dm dm_X4_readCondition 11 rfl) rfl ?_
    refine qr_getr (kf := 0) o cf_X4 (sh45 j r) rfl (Nat.le_of_ble_eq_true rfl) fl_X4_18 (q_dm dm_X4_readCondition 12 rfl) ?_
    refine qr_bipush o (q_dm dm_X4_readCondition 13 rfl) bi_124 ?_
    refine qr_callv_i (As := [.inl (124 : Int32)]) (S := []) o (a_X9_takes g k.2.1 n j r hj hr (124 : Int32) M) (by omega) zv_X9_takes rfl cf_X9 (sh1 j r) ml_X4_35 (Nat.le_of_ble_eq_true rfl) (q_dm dm_X4_readCondition 14 rfl) (fun r1 m2 => ?_)
    refine qr_if_eq (tgt := 65) o (q_dm dm_X4_readCondition 15 rfl) (by decide) ?_ ?_
    · refine qr_iconst o (q_dm dm_X4_readCondition 34 rfl) ic_1 ?_
      exact qr_iret o rfl (by decide) (q_dm dm_X4_readCondition 35 rfl)
    · refine qr_aload_n o (q_dm dm_X4_readCondition 16 rfl) rfl ?_
      refine qr_getr (kf := 1) o cf_X4 (sh45 j r) rfl (Nat.le_of_ble_eq_true rfl) fl_X4_12 (q_dm dm_X4_readCondition 17 rfl) ?_
      refine qr_iconst o (q_dm dm_X4_readCondition 18 rfl) ic_4 ?_
      refine qr_iconst o (q_dm dm_X4_readCondition 19 rfl) ic_0 ?_
      refine qr_callv_i (As := [.inl (4 : Int32), .inl (0 : Int32)]) (S := []) o (a_X3_add g k.2.1 n j r hj hr hr (4 : Int32) (0 : Int32) m2) (by omega) zv_X3_add rfl cf_X3 (shW0 j r hr) ml_X4_79 (Nat.le_of_ble_eq_true rfl) (q_dm dm_X4_readCondition 20 rfl) (fun r3 m4 => ?_)
      refine qs_istore_n (L' := [some (.inr (some 45)), some (.inl a1), some (.inl a2), some (.inl r3)]) o (q_dm dm_X4_readCondition 21 rfl) (Nat.le_of_ble_eq_true rfl) rfl ?_
      refine qr_aload_n o (q_dm dm_X4_readCondition 22 rfl) rfl ?_
      refine qr_iload_n o (q_dm dm_X4_readCondition 23 rfl) rfl ?_
      refine qr_callv_i (As := [.inl a1]) (S := []) o (hF_X4_readPart a1 m4) (by omega) zv_X4_readPart rfl cf_X4 (sh45 j r) ml_X4_76 (Nat.le_of_ble_eq_true rfl) (q_dm dm_X4_readCondition 24 rfl) (fun r5 m6 => ?_)
      refine qr_if_ne (tgt := 51) o (q_dm dm_X4_readCondition 25 rfl) (by decide) ?_ ?_
      · refine qr_aload_n o (q_dm dm_X4_readCondition 28 rfl) rfl ?_
        refine qr_getr (kf := 1) o cf_X4 (sh45 j r) rfl (Nat.le_of_ble_eq_true rfl) fl_X4_12 (q_dm dm_X4_readCondition 29 rfl) ?_
        refine qr_iload_n o (q_dm dm_X4_readCondition 30 rfl) rfl ?_
        refine qr_callv_v (As := [.inl r3]) (S := []) o (a_X3_skipToHere g k.2.1 n j r hj hr hr r3 m6) (by omega) zv_X3_skipToHere rfl cf_X3 (shW0 j r hr) ml_X4_83 (Nat.le_of_ble_eq_true rfl) (q_dm dm_X4_readCondition 31 rfl) (fun _ m7 => ?_)
        refine qs_iincl2 (L' := fun x8 => [some (.inr (some 45)), some (.inl a1), some (.inl x8), some (.inl r3)]) o (q_dm dm_X4_readCondition 32 rfl) rfl ic_1 (Nat.le_of_ble_eq_true rfl) (fun _ => rfl) (fun x8 => ?_)
        refine qr_goto (tgt := 12) o (q_dm dm_X4_readCondition 33 rfl) (by decide) ?_
        exact qr_loc (q_leS (q_leS (q_leS (q_leN q_le0)))) (hK12 a1 x8 m7)
      · refine qr_iconst o (q_dm dm_X4_readCondition 26 rfl) ic_0 ?_
        exact qr_iret o rfl (by decide) (q_dm dm_X4_readCondition 27 rfl)

def f_X4_readCondition_12 (n : Nat) (r : Nat) (F_X4_readPart : Int32 → qM → qR) : Nat → Int32 → Int32 → qM → qR
  | 0, _, _, _ => none
  | m + 1, a1, a2, M => b_X4_readCondition_12 n r F_X4_readPart (f_X4_readCondition_12 n r F_X4_readPart m) a1 a2 M
theorem w_X4_readCondition_12 {g : qG} {k : qK} (n : Nat) (j r : Nat) (hj : q_isLaw j) (hr : q_isLaw r) {d1 d : Nat} (hd1 : d1 + 1 ≤ d) (hdn : 34 ≤ d) (F_X4_readPart : Int32 → qM → qR) (hF_X4_readPart : ∀ (b1 : Int32) (M : qM), qAM g k.2.1 d1 zX4_readPart (qL j r) [.inr (some 45), .inl b1] (qL j r, M) (F_X4_readPart b1 M)) (o : qOk g d zX4_readCondition k) : ∀ (m : Nat) (a1 a2 : Int32) (M : qM), qAE g k zX4_readCondition (qL j r) 12 [some (.inr (some 45)), some (.inl a1), some (.inl a2), none] [] (qL j r, M) (f_X4_readCondition_12 n r F_X4_readPart m a1 a2 M) := by
  intro m
  induction m with
  | zero =>
    intro a1 a2 M
    exact qr_none
  | succ m ih =>
    intro a1 a2 M
    exact wb_X4_readCondition_12 n j r hj hr hd1 hdn F_X4_readPart hF_X4_readPart o (f_X4_readCondition_12 n r F_X4_readPart m) ih a1 a2 M
def fo_X4_readCondition (n : Nat) (r : Nat) (F_X4_readPart : Int32 → qM → qR) (a1 : Int32) (M : qM) : qR :=
  qc (F_X4_readPart a1 M) (fun r1 m2 => (if r1 = (0 : Int32) then some ((0 : Int32), m2) else f_X4_readCondition_12 n r F_X4_readPart n a1 (0 : Int32) m2))
set_option maxRecDepth 4000 in
theorem w_X4_readCondition {g : qG} {k : qK} (n : Nat) (j r : Nat) (hj : q_isLaw j) (hr : q_isLaw r) {d1 d : Nat} (hd1 : d1 + 1 ≤ d) (hdn : 34 ≤ d) (F_X4_readPart : Int32 → qM → qR) (hF_X4_readPart : ∀ (b1 : Int32) (M : qM), qAM g k.2.1 d1 zX4_readPart (qL j r) [.inr (some 45), .inl b1] (qL j r, M) (F_X4_readPart b1 M)) (o : qOk g d zX4_readCondition k) (a1 : Int32) (M : qM) : qAE g k zX4_readCondition (qL j r) 0 [some (.inr (some 45)), some (.inl a1), none, none] [] (qL j r, M) (fo_X4_readCondition n r F_X4_readPart a1 M) := by
  unfold fo_X4_readCondition
  refine qr_aload_n o (q_dm dm_X4_readCondition 0 rfl) rfl ?_
  refine qr_iload_n o (q_dm dm_X4_readCondition 1 rfl) rfl ?_
  refine qr_callv_i (As := [.inl a1]) (S := []) o (hF_X4_readPart a1 M) (by omega) zv_X4_readPart rfl cf_X4 (sh45 j r) ml_X4_76 (Nat.le_of_ble_eq_true rfl) (q_dm dm_X4_readCondition 2 rfl) (fun r1 m2 => ?_)
  refine qr_if_ne (tgt := 10) o (q_dm dm_X4_readCondition 3 rfl) (by decide) ?_ ?_
  · refine qr_iconst o (q_dm dm_X4_readCondition 6 rfl) ic_0 ?_
    refine qs_istore_n (L' := [some (.inr (some 45)), some (.inl a1), some (.inl (0 : Int32)), none]) o (q_dm dm_X4_readCondition 7 rfl) (Nat.le_of_ble_eq_true rfl) rfl ?_
    exact qr_loc (q_leS (q_leS (q_leS (q_leN q_le0)))) (w_X4_readCondition_12 n j r hj hr hd1 hdn F_X4_readPart hF_X4_readPart o n a1 (0 : Int32) m2)
  · refine qr_iconst o (q_dm dm_X4_readCondition 4 rfl) ic_0 ?_
    exact qr_iret o rfl (by decide) (q_dm dm_X4_readCondition 5 rfl)

theorem ao_X4_readCondition (g : qG) (l : Launch) (n : Nat) (j r : Nat) (hj : q_isLaw j) (hr : q_isLaw r) {d1 d : Nat} (hd1 : d1 + 1 ≤ d) (hdn : 34 ≤ d) (F_X4_readPart : Int32 → qM → qR) (hF_X4_readPart : ∀ (b1 : Int32) (M : qM), qAM g l d1 zX4_readPart (qL j r) [.inr (some 45), .inl b1] (qL j r, M) (F_X4_readPart b1 M)) (a1 : Int32) (M : qM) : qAM g l d zX4_readCondition (qL j r) [.inr (some 45), .inl a1] (qL j r, M) (fo_X4_readCondition n r F_X4_readPart a1 M) :=
  qAM.of zv_X4_readCondition.1 (by show 2 ≤ 4; decide) (fun k hk o => by subst hk; exact w_X4_readCondition n j r hj hr hd1 hdn F_X4_readPart hF_X4_readPart o a1 M)
def rc_X4_readPiece (n : Nat) (r : Nat) : Nat → Nat → Int32 → qM → qR
  | 0, _, _, _ => none
  | m + 1, 0, a1, M => fo_X4_readPiece n r (rc_X4_readPiece n r m 2) (rc_X4_readPiece n r m 0) a1 M
  | m + 1, 1, a1, M => fo_X4_readPart n r (rc_X4_readPiece n r m 0) a1 M
  | m + 1, _, a1, M => fo_X4_readCondition n r (rc_X4_readPiece n r m 1) a1 M

theorem rc_X4_readPiece_ok (g : qG) (l : Launch) (n : Nat) (j r : Nat) (hj : q_isLaw j) (hr : q_isLaw r) : ∀ m : Nat, (∀ (a1 : Int32) (M : qM), qAM g l (34 + m) zX4_readPiece (qL j r) [.inr (some 45), .inl a1] (qL j r, M) (rc_X4_readPiece n r m 0 a1 M)) ∧ (∀ (a1 : Int32) (M : qM), qAM g l (34 + m) zX4_readPart (qL j r) [.inr (some 45), .inl a1] (qL j r, M) (rc_X4_readPiece n r m 1 a1 M)) ∧ (∀ (a1 : Int32) (M : qM), qAM g l (34 + m) zX4_readCondition (qL j r) [.inr (some 45), .inl a1] (qL j r, M) (rc_X4_readPiece n r m 2 a1 M)) := by
  intro m
  induction m with
  | zero => exact ⟨(fun _ _ _ _ h => by cases h), (fun _ _ _ _ h => by cases h), (fun _ _ _ _ h => by cases h)⟩
  | succ m ih =>
    exact ⟨(fun a1 M => ao_X4_readPiece g l n j r hj hr (d1 := 34 + m) (d := 34 + (m + 1)) (Nat.le_refl _) (Nat.le_add_right _ _) (rc_X4_readPiece n r m 2) (rc_X4_readPiece n r m 0) ih.2.2 ih.1 a1 M),
      (fun a1 M => ao_X4_readPart g l n j r hj hr (d1 := 34 + m) (d := 34 + (m + 1)) (Nat.le_refl _) (Nat.le_add_right _ _) (rc_X4_readPiece n r m 0) ih.1 a1 M),
      (fun a1 M => ao_X4_readCondition g l n j r hj hr (d1 := 34 + m) (d := 34 + (m + 1)) (Nat.le_refl _) (Nat.le_add_right _ _) (rc_X4_readPiece n r m 1) ih.2.1 a1 M)⟩

def f_X4_readPiece (n : Nat) (r : Nat) (a1 : Int32) (M : qM) : qR := rc_X4_readPiece n r 30 0 a1 M
theorem a_X4_readPiece (g : qG) (l : Launch) (n : Nat) (j r : Nat) (hj : q_isLaw j) (hr : q_isLaw r) (a1 : Int32) (M : qM) : qAM g l 64 zX4_readPiece (qL j r) [.inr (some 45), .inl a1] (qL j r, M) (f_X4_readPiece n r a1 M) := (rc_X4_readPiece_ok g l n j r hj hr 30).1 a1 M
def f_X4_readPart (n : Nat) (r : Nat) (a1 : Int32) (M : qM) : qR := rc_X4_readPiece n r 30 1 a1 M
theorem a_X4_readPart (g : qG) (l : Launch) (n : Nat) (j r : Nat) (hj : q_isLaw j) (hr : q_isLaw r) (a1 : Int32) (M : qM) : qAM g l 64 zX4_readPart (qL j r) [.inr (some 45), .inl a1] (qL j r, M) (f_X4_readPart n r a1 M) := (rc_X4_readPiece_ok g l n j r hj hr 30).2.1 a1 M
def f_X4_readCondition (n : Nat) (r : Nat) (a1 : Int32) (M : qM) : qR := rc_X4_readPiece n r 30 2 a1 M
theorem a_X4_readCondition (g : qG) (l : Launch) (n : Nat) (j r : Nat) (hj : q_isLaw j) (hr : q_isLaw r) (a1 : Int32) (M : qM) : qAM g l 64 zX4_readCondition (qL j r) [.inr (some 45), .inl a1] (qL j r, M) (f_X4_readCondition n r a1 M) := (rc_X4_readPiece_ok g l n j r hj hr 30).2.2 a1 M
def tb_X4_readClause : List (Nat × Instr × Nat) := [(0, (.aload_n 0, 1)), (1, (.getfield 18, 3)), (4, (.invokevirtual 49, 3)), (7, (.istore_n 1, 1)), (8, (.iload_n 1, 1)), (9, (.bipush 97, 2)), (11, (.if_icmp .eq 37, 3)), (14, (.iload_n 1, 1)), (15, (.bipush 118, 2)), (17, (.if_icmp .eq 31, 3)), (20, (.iload_n 1, 1)), (21, (.bipush 102, 2)), (23, (.if_icmp .eq 25, 3)), (26, (.iload_n 1, 1)), (27, (.bipush 99, 2)), (29, (.if_icmp .eq 19, 3)), (32, (.aload_n 0, 1)), (33, (.getfield 18, 3)), (36, (.iconst 1, 1)), (37, (.aload_n 0, 1)), (38, (.getfield 18, 3)), (41, (.getfield 53, 3)), (44, (.invokevirtual 56, 3)), (47, (.ireturn, 1)), (48, (.aload_n 0, 1)), (49, (.getfield 12, 3)), (52, (.getfield 42, 3)), (55, (.bipush 16, 2)), (57, (.if_icmp .lt 19, 3)), (60, (.aload_n 0, 1)), (61, (.getfield 18, 3)), (64, (.iconst 4, 1)), (65, (.aload_n 0, 1)), (66, (.getfield 18, 3)), (69, (.getfield 53, 3)), (72, (.invokevirtual 56, 3)), (75, (.ireturn, 1)), (76, (.aload_n 0, 1)), (77, (.getfield 18, 3)), (80, (.dup, 1)), (81, (.getfield 53, 3)), (84, (.iconst 1, 1)), (85, (.iadd, 1)), (86, (.putfield 53, 3)), (89, (.aload_n 0, 1)), (90, (.getfield 12, 3)), (93, (.getfield 60, 3)), (96, (.istore_n 2, 1)), (97, (.iload_n 1, 1)), (98, (.bipush 97, 2)), (100, (.if_icmp .eq 13, 3)), (103, (.aload_n 0, 1)), (104, (.iconst 0, 1)), (105, (.invokevirtual 63, 3)), (108, (.ifCond .ne 5, 3)), (111, (.iconst 0, 1)), (112, (.ireturn, 1)), (113, (.aload_n 0, 1)), (114, (.getfield 12, 3)), (117, (.getfield 60, 3)), (120, (.istore_n 3, 1)), (121, (.aload_n 0, 1)), (122, (.getfield 18, 3)), (125, (.bipush 40, 2)), (127, (.invokevirtual 66, 3)), (130, (.ifCond .eq 23, 3)), (133, (.aload_n 0, 1)), (134, (.iconst 1, 1)), (135, (.invokevirtual 69, 3)), (138, (.ifCond .eq 15, 3)), (141, (.aload_n 0, 1)), (142, (.getfield 18, 3)), (145, (.bipush 41, 2)), (147, (.invokevirtual 66, 3)), (150, (.ifCond .ne 5, 3)), (153, (.iconst 0, 1)), (154, (.ireturn, 1)), (155, (.aload_n 0, 1)), (156, (.getfield 12, 3)), (159, (.iload_n 1, 1)), (160, (.iload_n 2, 1)), (161, (.iload_n 3, 1)), (162, (.invokevirtual 72, 3)), (165, (.iconst 1, 1)), (166, (.ireturn, 1))]
theorem dm_X4_readClause : ∀ q ∈ tb_X4_readClause, decode zX4_readClause.2.1 q.1 = .ok q.2 := by decide +kernel
def f_X4_readClause_113 (n : Nat) (r : Nat) (a1 a2 : Int32) (M : qM) : qR :=
  ql (M r 6) (fun x1 => qc (f_X9_mustTake n (40 : Int32) M) (fun r2 m3 => (if r2 = (0 : Int32) then some ((0 : Int32), m3) else qc (f_X4_readCondition n r (1 : Int32) m3) (fun r4 m5 => (if r4 = (0 : Int32) then some ((0 : Int32), m5) else qc (f_X9_mustTake n (41 : Int32) m5) (fun r6 m7 => (if r6 = (0 : Int32) then some ((0 : Int32), m7) else qc (f_X3_addClause n r a1 a2 x1 m7) (fun _ m8 => some ((1 : Int32), m8)))))))))
set_option maxRecDepth 4000 in
theorem w_X4_readClause_113 {g : qG} {k : qK} (n : Nat) (j r : Nat) (hj : q_isLaw j) (hr : q_isLaw r) (o : qOk g 65 zX4_readClause k) (a1 a2 : Int32) (M : qM) : qAE g k zX4_readClause (qL j r) 113 [some (.inr (some 45)), some (.inl a1), some (.inl a2), none] [] (qL j r, M) (f_X4_readClause_113 n r a1 a2 M) := by
  unfold f_X4_readClause_113
  refine qr_aload_n o (q_dm dm_X4_readClause 57 rfl) rfl ?_
  refine qr_getr (kf := 1) o cf_X4 (sh45 j r) rfl (Nat.le_of_ble_eq_true rfl) fl_X4_12 (q_dm dm_X4_readClause 58 rfl) ?_
  refine qr_getf (kf := 6) o cf_X3 (shW0 j r hr) rfl (Nat.le_of_ble_eq_true rfl) fl_X4_60 (q_dm dm_X4_readClause 59 rfl) ?_
  refine qr_lt (fun x1 => ?_)
  refine qs_istore_n (L' := [some (.inr (some 45)), some (.inl a1), some (.inl a2), some (.inl x1)]) o (q_dm dm_X4_readClause 60 rfl) (Nat.le_of_ble_eq_true rfl) rfl ?_
  refine qr_aload_n o (q_dm dm_X4_readClause 61 rfl) rfl ?_
  refine qr_getr (kf := 0) o cf_X4 (sh45 j r) rfl (Nat.le_of_ble_eq_true rfl) fl_X4_18 (q_dm dm_X4_readClause 62 rfl) ?_
  refine qr_bipush o (q_dm dm_X4_readClause 63 rfl) bi_40 ?_
  refine qr_callv_i (As := [.inl (40 : Int32)]) (S := []) o (a_X9_mustTake g k.2.1 n j r hj hr (40 : Int32) M) (Nat.le_of_ble_eq_true rfl) zv_X9_mustTake rfl cf_X9 (sh1 j r) ml_X4_66 (Nat.le_of_ble_eq_true rfl) (q_dm dm_X4_readClause 64 rfl) (fun r2 m3 => ?_)
  refine qr_if_eq (tgt := 153) o (q_dm dm_X4_readClause 65 rfl) (by decide) ?_ ?_
  · refine qr_iconst o (q_dm dm_X4_readClause 75 rfl) ic_0 ?_
    exact qr_iret o rfl (by decide) (q_dm dm_X4_readClause 76 rfl)
  · refine qr_aload_n o (q_dm dm_X4_readClause 66 rfl) rfl ?_
    refine qr_iconst o (q_dm dm_X4_readClause 67 rfl) ic_1 ?_
    refine qr_callv_i (As := [.inl (1 : Int32)]) (S := []) o (a_X4_readCondition g k.2.1 n j r hj hr (1 : Int32) m3) (Nat.le_of_ble_eq_true rfl) zv_X4_readCondition rfl cf_X4 (sh45 j r) ml_X4_69 (Nat.le_of_ble_eq_true rfl) (q_dm dm_X4_readClause 68 rfl) (fun r4 m5 => ?_)
    refine qr_if_eq (tgt := 153) o (q_dm dm_X4_readClause 69 rfl) (by decide) ?_ ?_
    · refine qr_iconst o (q_dm dm_X4_readClause 75 rfl) ic_0 ?_
      exact qr_iret o rfl (by decide) (q_dm dm_X4_readClause 76 rfl)
    · refine qr_aload_n o (q_dm dm_X4_readClause 70 rfl) rfl ?_
      refine qr_getr (kf := 0) o cf_X4 (sh45 j r) rfl (Nat.le_of_ble_eq_true rfl) fl_X4_18 (q_dm dm_X4_readClause 71 rfl) ?_
      refine qr_bipush o (q_dm dm_X4_readClause 72 rfl) bi_41 ?_
      refine qr_callv_i (As := [.inl (41 : Int32)]) (S := []) o (a_X9_mustTake g k.2.1 n j r hj hr (41 : Int32) m5) (Nat.le_of_ble_eq_true rfl) zv_X9_mustTake rfl cf_X9 (sh1 j r) ml_X4_66 (Nat.le_of_ble_eq_true rfl) (q_dm dm_X4_readClause 73 rfl) (fun r6 m7 => ?_)
      refine qr_if_ne (tgt := 155) o (q_dm dm_X4_readClause 74 rfl) (by decide) ?_ ?_
      · refine qr_aload_n o (q_dm dm_X4_readClause 77 rfl) rfl ?_
        refine qr_getr (kf := 1) o cf_X4 (sh45 j r) rfl (Nat.le_of_ble_eq_true rfl) fl_X4_12 (q_dm dm_X4_readClause 78 rfl) ?_
        refine qr_iload_n o (q_dm dm_X4_readClause 79 rfl) rfl ?_
        refine qr_iload_n o (q_dm dm_X4_readClause 80 rfl) rfl ?_
        refine qr_iload_n o (q_dm dm_X4_readClause 81 rfl) rfl ?_
        refine qr_callv_v (As := [.inl a1, .inl a2, .inl x1]) (S := []) o (a_X3_addClause g k.2.1 n j r hj hr hr a1 a2 x1 m7) (Nat.le_of_ble_eq_true rfl) zv_X3_addClause rfl cf_X3 (shW0 j r hr) ml_X4_72 (Nat.le_of_ble_eq_true rfl) (q_dm dm_X4_readClause 82 rfl) (fun _ m8 => ?_)
        refine qr_iconst o (q_dm dm_X4_readClause 83 rfl) ic_1 ?_
        exact qr_iret o rfl (by decide) (q_dm dm_X4_readClause 84 rfl)
      · refine qr_iconst o (q_dm dm_X4_readClause 75 rfl) ic_0 ?_
        exact qr_iret o rfl (by decide) (q_dm dm_X4_readClause 76 rfl)

def f_X4_readClause_48 (n : Nat) (r : Nat) (a1 : Int32) (M : qM) : qR :=
  (if (M r 7) < (16 : Int32) then qlm (mu M 1 3 ((M 1 3) + (1 : Int32))) (fun m1 => ql (m1 r 6) (fun x2 => (if a1 = (97 : Int32) then f_X4_readClause_113 n r a1 x2 m1 else qc (f_X4_readSum n r (0 : Int32) m1) (fun r3 m4 => (if r3 = (0 : Int32) then some ((0 : Int32), m4) else f_X4_readClause_113 n r a1 x2 m4))))) else qc (f_X9_fails n (4 : Int32) (M 1 3) M) (fun r5 m6 => qb r5 (some (r5, m6))))
set_option maxRecDepth 4000 in
theorem w_X4_readClause_48 {g : qG} {k : qK} (n : Nat) (j r : Nat) (hj : q_isLaw j) (hr : q_isLaw r) (o : qOk g 65 zX4_readClause k) (a1 : Int32) (M : qM) : qAE g k zX4_readClause (qL j r) 48 [some (.inr (some 45)), some (.inl a1), none, none] [] (qL j r, M) (f_X4_readClause_48 n r a1 M) := by
  unfold f_X4_readClause_48
  refine qr_aload_n o (q_dm dm_X4_readClause 24 rfl) rfl ?_
  refine qr_getr (kf := 1) o cf_X4 (sh45 j r) rfl (Nat.le_of_ble_eq_true rfl) fl_X4_12 (q_dm dm_X4_readClause 25 rfl) ?_
  refine qr_getf (kf := 7) o cf_X3 (shW0 j r hr) rfl (Nat.le_of_ble_eq_true rfl) fl_X4_42 (q_dm dm_X4_readClause 26 rfl) ?_
  refine qr_bipush o (q_dm dm_X4_readClause 27 rfl) bi_16 ?_
  refine qr_icmp_lt (tgt := 76) o (q_dm dm_X4_readClause 28 rfl) (by decide) ?_ ?_
  · refine qr_aload_n o (q_dm dm_X4_readClause 37 rfl) rfl ?_
    refine qr_getr (kf := 0) o cf_X4 (sh45 j r) rfl (Nat.le_of_ble_eq_true rfl) fl_X4_18 (q_dm dm_X4_readClause 38 rfl) ?_
    refine qr_dup o (q_dm dm_X4_readClause 39 rfl) ?_
    refine qr_getf (kf := 3) o cf_X9 (sh1 j r) rfl (Nat.le_of_ble_eq_true rfl) fl_X4_53 (q_dm dm_X4_readClause 40 rfl) ?_
    refine qr_iconst o (q_dm dm_X4_readClause 41 rfl) ic_1 ?_
    refine qr_iadd o (q_dm dm_X4_readClause 42 rfl) ?_
    refine qr_putf (kf := 3) o cf_X9 (sh1 j r) rfl (Nat.le_of_ble_eq_true rfl) fl_X4_53 rfl (by decide +kernel) (q_dm dm_X4_readClause 43 rfl) ?_
    refine qr_letm (fun m1 => ?_)
    refine qr_aload_n o (q_dm dm_X4_readClause 44 rfl) rfl ?_
    refine qr_getr (kf := 1) o cf_X4 (sh45 j r) rfl (Nat.le_of_ble_eq_true rfl) fl_X4_12 (q_dm dm_X4_readClause 45 rfl) ?_
    refine qr_getf (kf := 6) o cf_X3 (shW0 j r hr) rfl (Nat.le_of_ble_eq_true rfl) fl_X4_60 (q_dm dm_X4_readClause 46 rfl) ?_
    refine qr_lt (fun x2 => ?_)
    refine qs_istore_n (L' := [some (.inr (some 45)), some (.inl a1), some (.inl x2), none]) o (q_dm dm_X4_readClause 47 rfl) (Nat.le_of_ble_eq_true rfl) rfl ?_
    refine qr_iload_n o (q_dm dm_X4_readClause 48 rfl) rfl ?_
    refine qr_bipush o (q_dm dm_X4_readClause 49 rfl) bi_97 ?_
    refine qr_icmp_eq (tgt := 113) o (q_dm dm_X4_readClause 50 rfl) (by decide) ?_ ?_
    · exact qr_loc (q_leS (q_leS (q_leS (q_leN q_le0)))) (w_X4_readClause_113 n j r hj hr o a1 x2 m1)
    · refine qr_aload_n o (q_dm dm_X4_readClause 51 rfl) rfl ?_
      refine qr_iconst o (q_dm dm_X4_readClause 52 rfl) ic_0 ?_
      refine qr_callv_i (As := [.inl (0 : Int32)]) (S := []) o (a_X4_readSum g k.2.1 n j r hj hr (0 : Int32) m1) (Nat.le_of_ble_eq_true rfl) zv_X4_readSum rfl cf_X4 (sh45 j r) ml_X4_63 (Nat.le_of_ble_eq_true rfl) (q_dm dm_X4_readClause 53 rfl) (fun r3 m4 => ?_)
      refine qr_if_ne (tgt := 113) o (q_dm dm_X4_readClause 54 rfl) (by decide) ?_ ?_
      · exact qr_loc (q_leS (q_leS (q_leS (q_leN q_le0)))) (w_X4_readClause_113 n j r hj hr o a1 x2 m4)
      · refine qr_iconst o (q_dm dm_X4_readClause 55 rfl) ic_0 ?_
        exact qr_iret o rfl (by decide) (q_dm dm_X4_readClause 56 rfl)
  · refine qr_aload_n o (q_dm dm_X4_readClause 29 rfl) rfl ?_
    refine qr_getr (kf := 0) o cf_X4 (sh45 j r) rfl (Nat.le_of_ble_eq_true rfl) fl_X4_18 (q_dm dm_X4_readClause 30 rfl) ?_
    refine qr_iconst o (q_dm dm_X4_readClause 31 rfl) ic_4 ?_
    refine qr_aload_n o (q_dm dm_X4_readClause 32 rfl) rfl ?_
    refine qr_getr (kf := 0) o cf_X4 (sh45 j r) rfl (Nat.le_of_ble_eq_true rfl) fl_X4_18 (q_dm dm_X4_readClause 33 rfl) ?_
    refine qr_getf (kf := 3) o cf_X9 (sh1 j r) rfl (Nat.le_of_ble_eq_true rfl) fl_X4_53 (q_dm dm_X4_readClause 34 rfl) ?_
    refine qr_callv_i (As := [.inl (4 : Int32), .inl (M 1 3)]) (S := []) o (a_X9_fails g k.2.1 n j r hj hr (4 : Int32) (M 1 3) M) (Nat.le_of_ble_eq_true rfl) zv_X9_fails rfl cf_X9 (sh1 j r) ml_X4_56 (Nat.le_of_ble_eq_true rfl) (q_dm dm_X4_readClause 35 rfl) (fun r5 m6 => ?_)
    exact qr_zret o rfl (q_dm dm_X4_readClause 36 rfl)

def f_X4_readClause (n : Nat) (r : Nat) (M : qM) : qR :=
  qc (f_X9_sign n  M) (fun r1 m2 => (if r1 = (97 : Int32) then f_X4_readClause_48 n r r1 m2 else (if r1 = (118 : Int32) then f_X4_readClause_48 n r r1 m2 else (if r1 = (102 : Int32) then f_X4_readClause_48 n r r1 m2 else (if r1 = (99 : Int32) then f_X4_readClause_48 n r r1 m2 else qc (f_X9_fails n (1 : Int32) (m2 1 3) m2) (fun r3 m4 => qb r3 (some (r3, m4))))))))
set_option maxRecDepth 4000 in
theorem w_X4_readClause {g : qG} {k : qK} (n : Nat) (j r : Nat) (hj : q_isLaw j) (hr : q_isLaw r) (o : qOk g 65 zX4_readClause k) (M : qM) : qAE g k zX4_readClause (qL j r) 0 [some (.inr (some 45)), none, none, none] [] (qL j r, M) (f_X4_readClause n r  M) := by
  unfold f_X4_readClause
  refine qr_aload_n o (q_dm dm_X4_readClause 0 rfl) rfl ?_
  refine qr_getr (kf := 0) o cf_X4 (sh45 j r) rfl (Nat.le_of_ble_eq_true rfl) fl_X4_18 (q_dm dm_X4_readClause 1 rfl) ?_
  refine qr_callv_i (As := []) (S := []) o (a_X9_sign g k.2.1 n j r hj hr  M) (Nat.le_of_ble_eq_true rfl) zv_X9_sign rfl cf_X9 (sh1 j r) ml_X4_49 (Nat.le_of_ble_eq_true rfl) (q_dm dm_X4_readClause 2 rfl) (fun r1 m2 => ?_)
  refine qs_istore_n (L' := [some (.inr (some 45)), some (.inl r1), none, none]) o (q_dm dm_X4_readClause 3 rfl) (Nat.le_of_ble_eq_true rfl) rfl ?_
  refine qr_iload_n o (q_dm dm_X4_readClause 4 rfl) rfl ?_
  refine qr_bipush o (q_dm dm_X4_readClause 5 rfl) bi_97 ?_
  refine qr_icmp_eq (tgt := 48) o (q_dm dm_X4_readClause 6 rfl) (by decide) ?_ ?_
  · exact qr_loc (q_leS (q_leS (q_leN (q_leN q_le0)))) (w_X4_readClause_48 n j r hj hr o r1 m2)
  · refine qr_iload_n o (q_dm dm_X4_readClause 7 rfl) rfl ?_
    refine qr_bipush o (q_dm dm_X4_readClause 8 rfl) bi_118 ?_
    refine qr_icmp_eq (tgt := 48) o (q_dm dm_X4_readClause 9 rfl) (by decide) ?_ ?_
    · exact qr_loc (q_leS (q_leS (q_leN (q_leN q_le0)))) (w_X4_readClause_48 n j r hj hr o r1 m2)
    · refine qr_iload_n o (q_dm dm_X4_readClause 10 rfl) rfl ?_
      refine qr_bipush o (q_dm dm_X4_readClause 11 rfl) bi_102 ?_
      refine qr_icmp_eq (tgt := 48) o (q_dm dm_X4_readClause 12 rfl) (by decide) ?_ ?_
      · exact qr_loc (q_leS (q_leS (q_leN (q_leN q_le0)))) (w_X4_readClause_48 n j r hj hr o r1 m2)
      · refine qr_iload_n o (q_dm dm_X4_readClause 13 rfl) rfl ?_
        refine qr_bipush o (q_dm dm_X4_readClause 14 rfl) bi_99 ?_
        refine qr_icmp_eq (tgt := 48) o (q_dm dm_X4_readClause 15 rfl) (by decide) ?_ ?_
        · exact qr_loc (q_leS (q_leS (q_leN (q_leN q_le0)))) (w_X4_readClause_48 n j r hj hr o r1 m2)
        · refine qr_aload_n o (q_dm dm_X4_readClause 16 rfl) rfl ?_
          refine qr_getr (kf := 0) o cf_X4 (sh45 j r) rfl (Nat.le_of_ble_eq_true rfl) fl_X4_18 (q_dm dm_X4_readClause 17 rfl) ?_
          refine qr_iconst o (q_dm dm_X4_readClause 18 rfl) ic_1 ?_
          refine qr_aload_n o (q_dm dm_X4_readClause 19 rfl) rfl ?_
          refine qr_getr (kf := 0) o cf_X4 (sh45 j r) rfl (Nat.le_of_ble_eq_true rfl) fl_X4_18 (q_dm dm_X4_readClause 20 rfl) ?_
          refine qr_getf (kf := 3) o cf_X9 (sh1 j r) rfl (Nat.le_of_ble_eq_true rfl) fl_X4_53 (q_dm dm_X4_readClause 21 rfl) ?_
          refine qr_callv_i (As := [.inl (1 : Int32), .inl (m2 1 3)]) (S := []) o (a_X9_fails g k.2.1 n j r hj hr (1 : Int32) (m2 1 3) m2) (Nat.le_of_ble_eq_true rfl) zv_X9_fails rfl cf_X9 (sh1 j r) ml_X4_56 (Nat.le_of_ble_eq_true rfl) (q_dm dm_X4_readClause 22 rfl) (fun r3 m4 => ?_)
          exact qr_zret o rfl (q_dm dm_X4_readClause 23 rfl)

theorem a_X4_readClause (g : qG) (l : Launch) (n : Nat) (j r : Nat) (hj : q_isLaw j) (hr : q_isLaw r) (M : qM) : qAM g l 65 zX4_readClause (qL j r) [.inr (some 45)] (qL j r, M) (f_X4_readClause n r  M) :=
  qAM.of zv_X4_readClause.1 (by show 1 ≤ 4; decide) (fun k hk o => w_X4_readClause n j r hj hr o  M)
def tb_X9_mustEnd : List (Nat × Instr × Nat) := [(0, (.aload_n 0, 1)), (1, (.getfield 32, 3)), (4, (.aload_n 0, 1)), (5, (.getfield 29, 3)), (8, (.if_icmp .ge 15, 3)), (11, (.aload_n 0, 1)), (12, (.iconst 1, 1)), (13, (.aload_n 0, 1)), (14, (.getfield 32, 3)), (17, (.invokevirtual 46, 3)), (20, (.ifCond .eq 7, 3)), (23, (.iconst 1, 1)), (24, (.goto 4, 3)), (27, (.iconst 0, 1)), (28, (.ireturn, 1))]
theorem dm_X9_mustEnd : ∀ q ∈ tb_X9_mustEnd, decode zX9_mustEnd.2.1 q.1 = .ok q.2 := by decide +kernel
def f_X9_mustEnd (n : Nat) (M : qM) : qR :=
  (if (M 1 2) ≤ (M 1 3) then some ((1 : Int32), M) else qc (f_X9_fails n (1 : Int32) (M 1 3) M) (fun r1 m2 => (if r1 = (0 : Int32) then some ((0 : Int32), m2) else some ((1 : Int32), m2))))
set_option maxRecDepth 4000 in
theorem w_X9_mustEnd {g : qG} {k : qK} (n : Nat) (j r : Nat) (hj : q_isLaw j) (hr : q_isLaw r) (o : qOk g 1 zX9_mustEnd k) (M : qM) : qAE g k zX9_mustEnd (qL j r) 0 [some (.inr (some 1))] [] (qL j r, M) (f_X9_mustEnd n  M) := by
  unfold f_X9_mustEnd
  refine qr_aload_n o (q_dm dm_X9_mustEnd 0 rfl) rfl ?_
  refine qr_getf (kf := 3) o cf_X9 (sh1 j r) rfl (Nat.le_of_ble_eq_true rfl) fl_X9_32 (q_dm dm_X9_mustEnd 1 rfl) ?_
  refine qr_aload_n o (q_dm dm_X9_mustEnd 2 rfl) rfl ?_
  refine qr_getf (kf := 2) o cf_X9 (sh1 j r) rfl (Nat.le_of_ble_eq_true rfl) fl_X9_29 (q_dm dm_X9_mustEnd 3 rfl) ?_
  refine qr_icmp_ge (tgt := 23) o (q_dm dm_X9_mustEnd 4 rfl) (by decide) ?_ ?_
  · refine qr_iconst o (q_dm dm_X9_mustEnd 11 rfl) ic_1 ?_
    refine qr_goto (tgt := 28) o (q_dm dm_X9_mustEnd 12 rfl) (by decide) ?_
    exact qr_iret o rfl (by decide) (q_dm dm_X9_mustEnd 14 rfl)
  · refine qr_aload_n o (q_dm dm_X9_mustEnd 5 rfl) rfl ?_
    refine qr_iconst o (q_dm dm_X9_mustEnd 6 rfl) ic_1 ?_
    refine qr_aload_n o (q_dm dm_X9_mustEnd 7 rfl) rfl ?_
    refine qr_getf (kf := 3) o cf_X9 (sh1 j r) rfl (Nat.le_of_ble_eq_true rfl) fl_X9_32 (q_dm dm_X9_mustEnd 8 rfl) ?_
    refine qr_callv_i (As := [.inl (1 : Int32), .inl (M 1 3)]) (S := []) o (a_X9_fails g k.2.1 n j r hj hr (1 : Int32) (M 1 3) M) (Nat.le_of_ble_eq_true rfl) zv_X9_fails rfl cf_X9 (sh1 j r) ml_X9_46 (Nat.le_of_ble_eq_true rfl) (q_dm dm_X9_mustEnd 9 rfl) (fun r1 m2 => ?_)
    refine qr_if_eq (tgt := 27) o (q_dm dm_X9_mustEnd 10 rfl) (by decide) ?_ ?_
    · refine qr_iconst o (q_dm dm_X9_mustEnd 13 rfl) ic_0 ?_
      exact qr_iret o rfl (by decide) (q_dm dm_X9_mustEnd 14 rfl)
    · refine qr_iconst o (q_dm dm_X9_mustEnd 11 rfl) ic_1 ?_
      refine qr_goto (tgt := 28) o (q_dm dm_X9_mustEnd 12 rfl) (by decide) ?_
      exact qr_iret o rfl (by decide) (q_dm dm_X9_mustEnd 14 rfl)

theorem a_X9_mustEnd (g : qG) (l : Launch) (n : Nat) (j r : Nat) (hj : q_isLaw j) (hr : q_isLaw r) (M : qM) : qAM g l 1 zX9_mustEnd (qL j r) [.inr (some 1)] (qL j r, M) (f_X9_mustEnd n  M) :=
  qAM.of zv_X9_mustEnd.1 (by show 1 ≤ 1; decide) (fun k hk o => w_X9_mustEnd n j r hj hr o  M)
def tb_X9_openText : List (Nat × Instr × Nat) := [(0, (.aload_n 0, 1)), (1, (.iload_n 1, 1)), (2, (.aload_n 0, 1)), (3, (.getfield 15, 3)), (6, (.invokestatic 23, 3)), (9, (.putfield 29, 3)), (12, (.aload_n 0, 1)), (13, (.iconst 0, 1)), (14, (.putfield 32, 3)), (17, (.aload_n 0, 1)), (18, (.iconst 0, 1)), (19, (.putfield 35, 3)), (22, (.return_, 1))]
theorem dm_X9_openText : ∀ q ∈ tb_X9_openText, decode zX9_openText.2.1 q.1 = .ok q.2 := by decide +kernel
def f_X9_openText (n : Nat) (a1 : Int32) (M : qM) : qR :=
  qlm (mu M 1 2 (qmin a1 (M 1 1))) (fun m1 => qlm (mu m1 1 3 (0 : Int32)) (fun m2 => qlm (mu m2 1 4 (0 : Int32)) (fun m3 => some (0, m3))))
set_option maxRecDepth 4000 in
theorem w_X9_openText {g : qG} {k : qK} (n : Nat) (j r : Nat) (hj : q_isLaw j) (hr : q_isLaw r) (o : qOk g 1 zX9_openText k) (a1 : Int32) (M : qM) : qAE g k zX9_openText (qL j r) 0 [some (.inr (some 1)), some (.inl a1)] [] (qL j r, M) (f_X9_openText n a1 M) := by
  unfold f_X9_openText
  refine qr_aload_n o (q_dm dm_X9_openText 0 rfl) rfl ?_
  refine qr_iload_n o (q_dm dm_X9_openText 1 rfl) rfl ?_
  refine qr_aload_n o (q_dm dm_X9_openText 2 rfl) rfl ?_
  refine qr_getf (kf := 1) o cf_X9 (sh1 j r) rfl (Nat.le_of_ble_eq_true rfl) fl_X9_15 (q_dm dm_X9_openText 3 rfl) ?_
  refine qr_min o ml_X9_23 (by omega) (Nat.le_of_ble_eq_true rfl) (q_dm dm_X9_openText 4 rfl) ?_
  refine qr_putf (kf := 2) o cf_X9 (sh1 j r) rfl (Nat.le_of_ble_eq_true rfl) fl_X9_29 rfl (by decide +kernel) (q_dm dm_X9_openText 5 rfl) ?_
  refine qr_letm (fun m1 => ?_)
  refine qr_aload_n o (q_dm dm_X9_openText 6 rfl) rfl ?_
  refine qr_iconst o (q_dm dm_X9_openText 7 rfl) ic_0 ?_
  refine qr_putf (kf := 3) o cf_X9 (sh1 j r) rfl (Nat.le_of_ble_eq_true rfl) fl_X9_32 rfl (by decide +kernel) (q_dm dm_X9_openText 8 rfl) ?_
  refine qr_letm (fun m2 => ?_)
  refine qr_aload_n o (q_dm dm_X9_openText 9 rfl) rfl ?_
  refine qr_iconst o (q_dm dm_X9_openText 10 rfl) ic_0 ?_
  refine qr_putf (kf := 4) o cf_X9 (sh1 j r) rfl (Nat.le_of_ble_eq_true rfl) fl_X9_35 rfl (by decide +kernel) (q_dm dm_X9_openText 11 rfl) ?_
  refine qr_letm (fun m3 => ?_)
  exact qr_vret o rfl (q_dm dm_X9_openText 12 rfl)

theorem a_X9_openText (g : qG) (l : Launch) (n : Nat) (j r : Nat) (hj : q_isLaw j) (hr : q_isLaw r) (a1 : Int32) (M : qM) : qAM g l 1 zX9_openText (qL j r) [.inr (some 1), .inl a1] (qL j r, M) (f_X9_openText n a1 M) :=
  qAM.of zv_X9_openText.1 (by show 2 ≤ 2; decide) (fun k hk o => w_X9_openText n j r hj hr o a1 M)
def tb_X4_read : List (Nat × Instr × Nat) := [(0, (.aload_n 0, 1)), (1, (.getfield 12, 3)), (4, (.invokevirtual 22, 3)), (7, (.aload_n 0, 1)), (8, (.getfield 18, 3)), (11, (.iload_n 1, 1)), (12, (.invokevirtual 25, 3)), (15, (.iconst 0, 1)), (16, (.istore_n 2, 1)), (17, (.iload_n 2, 1)), (18, (.bipush 16, 2)), (20, (.if_icmp .gt 56, 3)), (23, (.aload_n 0, 1)), (24, (.invokevirtual 31, 3)), (27, (.ifCond .eq 49, 3)), (30, (.aload_n 0, 1)), (31, (.getfield 18, 3)), (34, (.bipush 59, 2)), (36, (.invokevirtual 35, 3)), (39, (.ifCond .ne 31, 3)), (42, (.aload_n 0, 1)), (43, (.getfield 18, 3)), (46, (.invokevirtual 39, 3)), (49, (.ifCond .eq 13, 3)), (52, (.aload_n 0, 1)), (53, (.getfield 12, 3)), (56, (.getfield 42, 3)), (59, (.goto 10, 3)), (62, (.aload_n 0, 1)), (63, (.getfield 18, 3)), (66, (.getfield 46, 3)), (69, (.ireturn, 1)), (70, (.iinc 2 1, 3)), (73, (.goto (-56), 3)), (76, (.aload_n 0, 1)), (77, (.getfield 18, 3)), (80, (.getfield 46, 3)), (83, (.ireturn, 1))]
theorem dm_X4_read : ∀ q ∈ tb_X4_read, decode zX4_read.2.1 q.1 = .ok q.2 := by decide +kernel
def b_X4_read_17 (n : Nat) (r : Nat) (K17 : Int32 → qM → qR) (a2 : Int32) (M : qM) : qR :=
  (if (16 : Int32) < a2 then some ((M 1 4), M) else qc (f_X4_readClause n r M) (fun r1 m2 => (if r1 = (0 : Int32) then some ((m2 1 4), m2) else qc (f_X9_takes n (59 : Int32) m2) (fun r3 m4 => (if r3 = (0 : Int32) then qc (f_X9_mustEnd n  m4) (fun r6 m7 => (if r6 = (0 : Int32) then some ((m7 1 4), m7) else some ((m7 r 7), m7))) else ql (a2 + (1 : Int32)) (fun x5 => K17 x5 m4))))))
set_option maxRecDepth 4000 in
theorem wb_X4_read_17 {g : qG} {k : qK} (n : Nat) (j r : Nat) (hj : q_isLaw j) (hr : q_isLaw r) (o : qOk g 66 zX4_read k) (K17 : Int32 → qM → qR) (hK17 : ∀ (a2 : Int32) (M : qM), qAE g k zX4_read (qL j r) 17 [some (.inr (some 45)), none, some (.inl a2)] [] (qL j r, M) (K17 a2 M)) (a2 : Int32) (M : qM) : qAE g k zX4_read (qL j r) 17 [some (.inr (some 45)), none, some (.inl a2)] [] (qL j r, M) (b_X4_read_17 n r K17 a2 M) := by
  unfold b_X4_read_17
  refine qr_iload_n o (q_dm dm_X4_read 9 rfl) rfl ?_
  refine qr_bipush o (q_dm dm_X4_read 10 rfl) bi_16 ?_
  refine qr_icmp_gt (tgt := 76) o (q_dm dm_X4_read 11 rfl) (by decide) ?_ ?_
  · refine qr_aload_n o (q_dm dm_X4_read 34 rfl) rfl ?_
    refine qr_getr (kf := 0) o cf_X4 (sh45 j r) rfl (Nat.le_of_ble_eq_true rfl) fl_X4_18 (q_dm dm_X4_read 35 rfl) ?_
    refine qr_getf (kf := 4) o cf_X9 (sh1 j r) rfl (Nat.le_of_ble_eq_true rfl) fl_X4_46 (q_dm dm_X4_read 36 rfl) ?_
    exact qr_iret o rfl rfl (q_dm dm_X4_read 37 rfl)
  · refine qr_aload_n o (q_dm dm_X4_read 12 rfl) rfl ?_
    refine qr_callv_i (As := []) (S := []) o (a_X4_readClause g k.2.1 n j r hj hr  M) (Nat.le_of_ble_eq_true rfl) zv_X4_readClause rfl cf_X4 (sh45 j r) ml_X4_31 (Nat.le_of_ble_eq_true rfl) (q_dm dm_X4_read 13 rfl) (fun r1 m2 => ?_)
    refine qr_if_eq (tgt := 76) o (q_dm dm_X4_read 14 rfl) (by decide) ?_ ?_
    · refine qr_aload_n o (q_dm dm_X4_read 34 rfl) rfl ?_
      refine qr_getr (kf := 0) o cf_X4 (sh45 j r) rfl (Nat.le_of_ble_eq_true rfl) fl_X4_18 (q_dm dm_X4_read 35 rfl) ?_
      refine qr_getf (kf := 4) o cf_X9 (sh1 j r) rfl (Nat.le_of_ble_eq_true rfl) fl_X4_46 (q_dm dm_X4_read 36 rfl) ?_
      exact qr_iret o rfl rfl (q_dm dm_X4_read 37 rfl)
    · refine qr_aload_n o (q_dm dm_X4_read 15 rfl) rfl ?_
      refine qr_getr (kf := 0) o cf_X4 (sh45 j r) rfl (Nat.le_of_ble_eq_true rfl) fl_X4_18 (q_dm dm_X4_read 16 rfl) ?_
      refine qr_bipush o (q_dm dm_X4_read 17 rfl) bi_59 ?_
      refine qr_callv_i (As := [.inl (59 : Int32)]) (S := []) o (a_X9_takes g k.2.1 n j r hj hr (59 : Int32) m2) (Nat.le_of_ble_eq_true rfl) zv_X9_takes rfl cf_X9 (sh1 j r) ml_X4_35 (Nat.le_of_ble_eq_true rfl) (q_dm dm_X4_read 18 rfl) (fun r3 m4 => ?_)
      refine qr_if_ne (tgt := 70) o (q_dm dm_X4_read 19 rfl) (by decide) ?_ ?_
      · refine qs_iincl2 (L' := fun x5 => [some (.inr (some 45)), none, some (.inl x5)]) o (q_dm dm_X4_read 32 rfl) rfl ic_1 (Nat.le_of_ble_eq_true rfl) (fun _ => rfl) (fun x5 => ?_)
        refine qr_goto (tgt := 17) o (q_dm dm_X4_read 33 rfl) (by decide) ?_
        exact qr_loc (q_leS (q_leN (q_leS q_le0))) (hK17 x5 m4)
      · refine qr_aload_n o (q_dm dm_X4_read 20 rfl) rfl ?_
        refine qr_getr (kf := 0) o cf_X4 (sh45 j r) rfl (Nat.le_of_ble_eq_true rfl) fl_X4_18 (q_dm dm_X4_read 21 rfl) ?_
        refine qr_callv_i (As := []) (S := []) o (a_X9_mustEnd g k.2.1 n j r hj hr  m4) (Nat.le_of_ble_eq_true rfl) zv_X9_mustEnd rfl cf_X9 (sh1 j r) ml_X4_39 (Nat.le_of_ble_eq_true rfl) (q_dm dm_X4_read 22 rfl) (fun r6 m7 => ?_)
        refine qr_if_eq (tgt := 62) o (q_dm dm_X4_read 23 rfl) (by decide) ?_ ?_
        · refine qr_aload_n o (q_dm dm_X4_read 28 rfl) rfl ?_
          refine qr_getr (kf := 0) o cf_X4 (sh45 j r) rfl (Nat.le_of_ble_eq_true rfl) fl_X4_18 (q_dm dm_X4_read 29 rfl) ?_
          refine qr_getf (kf := 4) o cf_X9 (sh1 j r) rfl (Nat.le_of_ble_eq_true rfl) fl_X4_46 (q_dm dm_X4_read 30 rfl) ?_
          exact qr_iret o rfl rfl (q_dm dm_X4_read 31 rfl)
        · refine qr_aload_n o (q_dm dm_X4_read 24 rfl) rfl ?_
          refine qr_getr (kf := 1) o cf_X4 (sh45 j r) rfl (Nat.le_of_ble_eq_true rfl) fl_X4_12 (q_dm dm_X4_read 25 rfl) ?_
          refine qr_getf (kf := 7) o cf_X3 (shW0 j r hr) rfl (Nat.le_of_ble_eq_true rfl) fl_X4_42 (q_dm dm_X4_read 26 rfl) ?_
          refine qr_goto (tgt := 69) o (q_dm dm_X4_read 27 rfl) (by decide) ?_
          exact qr_iret o rfl rfl (q_dm dm_X4_read 31 rfl)

def f_X4_read_17 (n : Nat) (r : Nat) : Nat → Int32 → qM → qR
  | 0, _, _ => none
  | m + 1, a2, M => b_X4_read_17 n r (f_X4_read_17 n r m) a2 M
theorem w_X4_read_17 {g : qG} {k : qK} (n : Nat) (j r : Nat) (hj : q_isLaw j) (hr : q_isLaw r) (o : qOk g 66 zX4_read k) : ∀ (m : Nat) (a2 : Int32) (M : qM), qAE g k zX4_read (qL j r) 17 [some (.inr (some 45)), none, some (.inl a2)] [] (qL j r, M) (f_X4_read_17 n r m a2 M) := by
  intro m
  induction m with
  | zero =>
    intro a2 M
    exact qr_none
  | succ m ih =>
    intro a2 M
    exact wb_X4_read_17 n j r hj hr o (f_X4_read_17 n r m) ih a2 M
def f_X4_read (n : Nat) (r : Nat) (a1 : Int32) (M : qM) : qR :=
  qc (f_X3_clear n r M) (fun _ m1 => qc (f_X9_openText n a1 m1) (fun _ m2 => f_X4_read_17 n r n (0 : Int32) m2))
set_option maxRecDepth 4000 in
theorem w_X4_read {g : qG} {k : qK} (n : Nat) (j r : Nat) (hj : q_isLaw j) (hr : q_isLaw r) (o : qOk g 66 zX4_read k) (a1 : Int32) (M : qM) : qAE g k zX4_read (qL j r) 0 [some (.inr (some 45)), some (.inl a1), none] [] (qL j r, M) (f_X4_read n r a1 M) := by
  unfold f_X4_read
  refine qr_aload_n o (q_dm dm_X4_read 0 rfl) rfl ?_
  refine qr_getr (kf := 1) o cf_X4 (sh45 j r) rfl (Nat.le_of_ble_eq_true rfl) fl_X4_12 (q_dm dm_X4_read 1 rfl) ?_
  refine qr_callv_v (As := []) (S := []) o (a_X3_clear g k.2.1 n j r hj hr hr M) (Nat.le_of_ble_eq_true rfl) zv_X3_clear rfl cf_X3 (shW0 j r hr) ml_X4_22 (Nat.le_of_ble_eq_true rfl) (q_dm dm_X4_read 2 rfl) (fun _ m1 => ?_)
  refine qr_aload_n o (q_dm dm_X4_read 3 rfl) rfl ?_
  refine qr_getr (kf := 0) o cf_X4 (sh45 j r) rfl (Nat.le_of_ble_eq_true rfl) fl_X4_18 (q_dm dm_X4_read 4 rfl) ?_
  refine qr_iload_n o (q_dm dm_X4_read 5 rfl) rfl ?_
  refine qr_callv_v (As := [.inl a1]) (S := []) o (a_X9_openText g k.2.1 n j r hj hr a1 m1) (Nat.le_of_ble_eq_true rfl) zv_X9_openText rfl cf_X9 (sh1 j r) ml_X4_25 (Nat.le_of_ble_eq_true rfl) (q_dm dm_X4_read 6 rfl) (fun _ m2 => ?_)
  refine qr_iconst o (q_dm dm_X4_read 7 rfl) ic_0 ?_
  refine qs_istore_n (L' := [some (.inr (some 45)), some (.inl a1), some (.inl (0 : Int32))]) o (q_dm dm_X4_read 8 rfl) (Nat.le_of_ble_eq_true rfl) rfl ?_
  exact qr_loc (q_leS (q_leN (q_leS q_le0))) (w_X4_read_17 n j r hj hr o n (0 : Int32) m2)

theorem a_X4_read (g : qG) (l : Launch) (n : Nat) (j r : Nat) (hj : q_isLaw j) (hr : q_isLaw r) (a1 : Int32) (M : qM) : qAM g l 66 zX4_read (qL j r) [.inr (some 45), .inl a1] (qL j r, M) (f_X4_read n r a1 M) :=
  qAM.of zv_X4_read.1 (by show 2 ≤ 3; decide) (fun k hk o => w_X4_read n j r hj hr o a1 M)
def tb_X11_law : List (Nat × Instr × Nat) := [(0, (.iload_n 1, 1)), (1, (.iconst 1, 1)), (2, (.if_icmp .lt 21, 3)), (5, (.iload_n 1, 1)), (6, (.sipush 240, 3)), (9, (.if_icmp .gt 14, 3)), (12, (.iload_n 1, 1)), (13, (.aload_n 0, 1)), (14, (.getfield 10, 3)), (17, (.getfield 112, 3)), (20, (.if_icmp .le 5, 3)), (23, (.iconst (-1), 1)), (24, (.ireturn, 1)), (25, (.aload_n 0, 1)), (26, (.getfield 59, 3)), (29, (.iload_n 1, 1)), (30, (.invokevirtual 119, 3)), (33, (.istore_n 2, 1)), (34, (.aload_n 0, 1)), (35, (.getfield 10, 3)), (38, (.invokevirtual 123, 3)), (41, (.iload_n 2, 1)), (42, (.ifCond .le 33, 3)), (45, (.aload_n 0, 1)), (46, (.getfield 41, 3)), (49, (.getfield 126, 3)), (52, (.astore_n 3, 1)), (53, (.aload_n 0, 1)), (54, (.getfield 41, 3)), (57, (.aload_n 0, 1)), (58, (.getfield 59, 3)), (61, (.getfield 130, 3)), (64, (.putfield 126, 3)), (67, (.aload_n 0, 1)), (68, (.getfield 59, 3)), (71, (.aload_n 3, 1)), (72, (.putfield 130, 3)), (75, (.iload_n 2, 1)), (76, (.ireturn, 1))]
theorem dm_X11_law : ∀ q ∈ tb_X11_law, decode zX11_law.2.1 q.1 = .ok q.2 := by decide +kernel
def f_X11_law (n : Nat) (j r : Nat) (a1 : Int32) (M : qM) : qR :=
  (if a1 < (1 : Int32) then some ((-1 : Int32), M) else (if (240 : Int32) < a1 then some ((-1 : Int32), M) else (if a1 ≤ (M 1 1) then qc (f_X4_read n r a1 M) (fun r1 m2 => qc (f_X9_clear n  m2) (fun _ m3 => (if r1 ≤ (0 : Int32) then some (r1, m3) else none))) else some ((-1 : Int32), M))))
set_option maxRecDepth 4000 in
theorem w_X11_law {g : qG} {k : qK} (n : Nat) (j r : Nat) (hj : q_isLaw j) (hr : q_isLaw r) (o : qOk g 67 zX11_law k) (a1 : Int32) (M : qM) : qAE g k zX11_law (qL j r) 0 [some (.inr (some 0)), some (.inl a1), none, none] [] (qL j r, M) (f_X11_law n j r a1 M) := by
  unfold f_X11_law
  refine qr_iload_n o (q_dm dm_X11_law 0 rfl) rfl ?_
  refine qr_iconst o (q_dm dm_X11_law 1 rfl) ic_1 ?_
  refine qr_icmp_lt (tgt := 23) o (q_dm dm_X11_law 2 rfl) (by decide) ?_ ?_
  · refine qr_iconst o (q_dm dm_X11_law 11 rfl) ic_m1 ?_
    exact qr_iret o rfl rfl (q_dm dm_X11_law 12 rfl)
  · refine qr_iload_n o (q_dm dm_X11_law 3 rfl) rfl ?_
    refine qr_sipush o (q_dm dm_X11_law 4 rfl) si_240 ?_
    refine qr_icmp_gt (tgt := 23) o (q_dm dm_X11_law 5 rfl) (by decide) ?_ ?_
    · refine qr_iconst o (q_dm dm_X11_law 11 rfl) ic_m1 ?_
      exact qr_iret o rfl rfl (q_dm dm_X11_law 12 rfl)
    · refine qr_iload_n o (q_dm dm_X11_law 6 rfl) rfl ?_
      refine qr_aload_n o (q_dm dm_X11_law 7 rfl) rfl ?_
      refine qr_getr (kf := 0) o cf_X11 (sh0 j r) rfl (Nat.le_of_ble_eq_true rfl) fl_X11_10 (q_dm dm_X11_law 8 rfl) ?_
      refine qr_getf (kf := 1) o cf_X9 (sh1 j r) rfl (Nat.le_of_ble_eq_true rfl) fl_X11_112 (q_dm dm_X11_law 9 rfl) ?_
      refine qr_icmp_le (tgt := 25) o (q_dm dm_X11_law 10 rfl) (by decide) ?_ ?_
      · refine qr_aload_n o (q_dm dm_X11_law 13 rfl) rfl ?_
        refine qr_getr (kf := 7) o cf_X11 (sh0 j r) rfl (Nat.le_of_ble_eq_true rfl) fl_X11_59 (q_dm dm_X11_law 14 rfl) ?_
        refine qr_iload_n o (q_dm dm_X11_law 15 rfl) rfl ?_
        refine qr_callv_i (As := [.inl a1]) (S := []) o (a_X4_read g k.2.1 n j r hj hr a1 M) (Nat.le_of_ble_eq_true rfl) zv_X4_read rfl cf_X4 (sh45 j r) ml_X11_119 (Nat.le_of_ble_eq_true rfl) (q_dm dm_X11_law 16 rfl) (fun r1 m2 => ?_)
        refine qs_istore_n (L' := [some (.inr (some 0)), some (.inl a1), some (.inl r1), none]) o (q_dm dm_X11_law 17 rfl) (Nat.le_of_ble_eq_true rfl) rfl ?_
        refine qr_aload_n o (q_dm dm_X11_law 18 rfl) rfl ?_
        refine qr_getr (kf := 0) o cf_X11 (sh0 j r) rfl (Nat.le_of_ble_eq_true rfl) fl_X11_10 (q_dm dm_X11_law 19 rfl) ?_
        refine qr_callv_v (As := []) (S := []) o (a_X9_clear g k.2.1 n j r hj hr  m2) (Nat.le_of_ble_eq_true rfl) zv_X9_clear rfl cf_X9 (sh1 j r) ml_X11_123 (Nat.le_of_ble_eq_true rfl) (q_dm dm_X11_law 20 rfl) (fun _ m3 => ?_)
        refine qr_iload_n o (q_dm dm_X11_law 21 rfl) rfl ?_
        refine qr_if_le (tgt := 75) o (q_dm dm_X11_law 22 rfl) (by decide) ?_ ?_
        · refine qr_iload_n o (q_dm dm_X11_law 37 rfl) rfl ?_
          exact qr_iret o rfl rfl (q_dm dm_X11_law 38 rfl)
        · refine qr_aload_n o (q_dm dm_X11_law 23 rfl) rfl ?_
          refine qr_getr (kf := 5) o cf_X11 (sh0 j r) rfl (Nat.le_of_ble_eq_true rfl) fl_X11_41 (q_dm dm_X11_law 24 rfl) ?_
          refine qr_getr (kf := 3) o cf_X1 (sh34 j r) rfl (Nat.le_of_ble_eq_true rfl) fl_X11_126 (q_dm dm_X11_law 25 rfl) ?_
          refine qs_astore_n (L' := [some (.inr (some 0)), some (.inl a1), some (.inl r1), some (.inr (some j))]) o (q_dm dm_X11_law 26 rfl) (Nat.le_of_ble_eq_true rfl) rfl ?_
          refine qr_aload_n o (q_dm dm_X11_law 27 rfl) rfl ?_
          refine qr_getr (kf := 5) o cf_X11 (sh0 j r) rfl (Nat.le_of_ble_eq_true rfl) fl_X11_41 (q_dm dm_X11_law 28 rfl) ?_
          refine qr_aload_n o (q_dm dm_X11_law 29 rfl) rfl ?_
          refine qr_getr (kf := 7) o cf_X11 (sh0 j r) rfl (Nat.le_of_ble_eq_true rfl) fl_X11_59 (q_dm dm_X11_law 30 rfl) ?_
          refine qr_getr (kf := 1) o cf_X4 (sh45 j r) rfl (Nat.le_of_ble_eq_true rfl) fl_X11_130 (q_dm dm_X11_law 31 rfl) ?_
          exact qr_none
      · refine qr_iconst o (q_dm dm_X11_law 11 rfl) ic_m1 ?_
        exact qr_iret o rfl rfl (q_dm dm_X11_law 12 rfl)

theorem a_X11_law (g : qG) (l : Launch) (n : Nat) (j r : Nat) (hj : q_isLaw j) (hr : q_isLaw r) (a1 : Int32) (M : qM) : qAM g l 67 zX11_law (qL j r) [.inr (some 0), .inl a1] (qL j r, M) (f_X11_law n j r a1 M) :=
  qAM.of zv_X11_law.1 (by show 2 ≤ 4; decide) (fun k hk o => w_X11_law n j r hj hr o a1 M)
def f_X11_lawS (n : Nat) (j r : Nat) (a1 : Int32) (M : qM) : qR :=
  (if a1 < (1 : Int32) then none else (if (240 : Int32) < a1 then none else (if a1 ≤ (M 1 1) then qc (f_X4_read n r a1 M) (fun r1 m2 => qc (f_X9_clear n  m2) (fun _ m3 => (if r1 ≤ (0 : Int32) then none else some (r1, m3)))) else none)))
set_option maxRecDepth 4000 in
theorem w_X11_lawS {g : qG} {k : qK} (n : Nat) (j r : Nat) (hj : q_isLaw j) (hr : q_isLaw r) (o : qOk g 67 zX11_law k) (a1 : Int32) (M : qM) : qAE g k zX11_law (qL r j) 0 [some (.inr (some 0)), some (.inl a1), none, none] [] (qL j r, M) (f_X11_lawS n j r a1 M) := by
  unfold f_X11_lawS
  refine qr_iload_n o (q_dm dm_X11_law 0 rfl) rfl ?_
  refine qr_iconst o (q_dm dm_X11_law 1 rfl) ic_1 ?_
  refine qr_icmp_lt (tgt := 23) o (q_dm dm_X11_law 2 rfl) (by decide) ?_ ?_
  · refine qr_iconst o (q_dm dm_X11_law 11 rfl) ic_m1 ?_
    exact qr_none
  · refine qr_iload_n o (q_dm dm_X11_law 3 rfl) rfl ?_
    refine qr_sipush o (q_dm dm_X11_law 4 rfl) si_240 ?_
    refine qr_icmp_gt (tgt := 23) o (q_dm dm_X11_law 5 rfl) (by decide) ?_ ?_
    · refine qr_iconst o (q_dm dm_X11_law 11 rfl) ic_m1 ?_
      exact qr_none
    · refine qr_iload_n o (q_dm dm_X11_law 6 rfl) rfl ?_
      refine qr_aload_n o (q_dm dm_X11_law 7 rfl) rfl ?_
      refine qr_getr (kf := 0) o cf_X11 (sh0 j r) rfl (Nat.le_of_ble_eq_true rfl) fl_X11_10 (q_dm dm_X11_law 8 rfl) ?_
      refine qr_getf (kf := 1) o cf_X9 (sh1 j r) rfl (Nat.le_of_ble_eq_true rfl) fl_X11_112 (q_dm dm_X11_law 9 rfl) ?_
      refine qr_icmp_le (tgt := 25) o (q_dm dm_X11_law 10 rfl) (by decide) ?_ ?_
      · refine qr_aload_n o (q_dm dm_X11_law 13 rfl) rfl ?_
        refine qr_getr (kf := 7) o cf_X11 (sh0 j r) rfl (Nat.le_of_ble_eq_true rfl) fl_X11_59 (q_dm dm_X11_law 14 rfl) ?_
        refine qr_iload_n o (q_dm dm_X11_law 15 rfl) rfl ?_
        refine qr_callv_i (As := [.inl a1]) (S := []) o (a_X4_read g k.2.1 n j r hj hr a1 M) (Nat.le_of_ble_eq_true rfl) zv_X4_read rfl cf_X4 (sh45 j r) ml_X11_119 (Nat.le_of_ble_eq_true rfl) (q_dm dm_X11_law 16 rfl) (fun r1 m2 => ?_)
        refine qs_istore_n (L' := [some (.inr (some 0)), some (.inl a1), some (.inl r1), none]) o (q_dm dm_X11_law 17 rfl) (Nat.le_of_ble_eq_true rfl) rfl ?_
        refine qr_aload_n o (q_dm dm_X11_law 18 rfl) rfl ?_
        refine qr_getr (kf := 0) o cf_X11 (sh0 j r) rfl (Nat.le_of_ble_eq_true rfl) fl_X11_10 (q_dm dm_X11_law 19 rfl) ?_
        refine qr_callv_v (As := []) (S := []) o (a_X9_clear g k.2.1 n j r hj hr  m2) (Nat.le_of_ble_eq_true rfl) zv_X9_clear rfl cf_X9 (sh1 j r) ml_X11_123 (Nat.le_of_ble_eq_true rfl) (q_dm dm_X11_law 20 rfl) (fun _ m3 => ?_)
        refine qr_iload_n o (q_dm dm_X11_law 21 rfl) rfl ?_
        refine qr_if_le (tgt := 75) o (q_dm dm_X11_law 22 rfl) (by decide) ?_ ?_
        · refine qr_iload_n o (q_dm dm_X11_law 37 rfl) rfl ?_
          exact qr_none
        · refine qr_aload_n o (q_dm dm_X11_law 23 rfl) rfl ?_
          refine qr_getr (kf := 5) o cf_X11 (sh0 j r) rfl (Nat.le_of_ble_eq_true rfl) fl_X11_41 (q_dm dm_X11_law 24 rfl) ?_
          refine qr_getr (kf := 3) o cf_X1 (sh34 j r) rfl (Nat.le_of_ble_eq_true rfl) fl_X11_126 (q_dm dm_X11_law 25 rfl) ?_
          refine qs_astore_n (L' := [some (.inr (some 0)), some (.inl a1), some (.inl r1), some (.inr (some j))]) o (q_dm dm_X11_law 26 rfl) (Nat.le_of_ble_eq_true rfl) rfl ?_
          refine qr_aload_n o (q_dm dm_X11_law 27 rfl) rfl ?_
          refine qr_getr (kf := 5) o cf_X11 (sh0 j r) rfl (Nat.le_of_ble_eq_true rfl) fl_X11_41 (q_dm dm_X11_law 28 rfl) ?_
          refine qr_aload_n o (q_dm dm_X11_law 29 rfl) rfl ?_
          refine qr_getr (kf := 7) o cf_X11 (sh0 j r) rfl (Nat.le_of_ble_eq_true rfl) fl_X11_59 (q_dm dm_X11_law 30 rfl) ?_
          refine qr_getr (kf := 1) o cf_X4 (sh45 j r) rfl (Nat.le_of_ble_eq_true rfl) fl_X11_130 (q_dm dm_X11_law 31 rfl) ?_
          refine qr_putr (j := r) (C2 := "SecondTry$Law") (kf := 3) o cf_X1 (sh34 j r) rfl (Nat.le_of_ble_eq_true rfl) fl_X11_126 rfl (by decide +kernel) (q_dm dm_X11_law 32 rfl) ?_
          show qAE g k zX11_law _ _ _ _ (qL r r, m3) _
          refine qr_aload_n o (q_dm dm_X11_law 33 rfl) rfl ?_
          refine qr_getr (kf := 7) o cf_X11 (sh0 r r) rfl (Nat.le_of_ble_eq_true rfl) fl_X11_59 (q_dm dm_X11_law 34 rfl) ?_
          refine qr_aload_n o (q_dm dm_X11_law 35 rfl) rfl ?_
          refine qr_putr (j := j) (C2 := "SecondTry$Law") (kf := 1) o cf_X4 (sh45 r r) rfl (Nat.le_of_ble_eq_true rfl) fl_X11_130 rfl (by decide +kernel) (q_dm dm_X11_law 36 rfl) ?_
          show qAE g k zX11_law _ _ _ _ (qL r j, m3) _
          refine qr_iload_n o (q_dm dm_X11_law 37 rfl) rfl ?_
          exact qr_iret o rfl rfl (q_dm dm_X11_law 38 rfl)
      · refine qr_iconst o (q_dm dm_X11_law 11 rfl) ic_m1 ?_
        exact qr_none

theorem a_X11_lawS (g : qG) (l : Launch) (n : Nat) (j r : Nat) (hj : q_isLaw j) (hr : q_isLaw r) (a1 : Int32) (M : qM) : qAM g l 67 zX11_law (qL r j) [.inr (some 0), .inl a1] (qL j r, M) (f_X11_lawS n j r a1 M) :=
  qAM.of zv_X11_law.1 (by show 2 ≤ 4; decide) (fun k hk o => w_X11_lawS n j r hj hr o a1 M)

def tb_X1_isLoophole : List (Nat × Instr × Nat) := [(0, (.aload_n 0, 1)), (1, (.bipush 12, 2)), (3, (.iconst 1, 1)), (4, (.iload_n 1, 1)), (5, (.iload 4, 2)), (7, (.invokevirtual 40, 3)), (10, (.iconst 0, 1)), (11, (.istore 5, 2)), (13, (.iload 5, 2)), (15, (.bipush 12, 2)), (17, (.if_icmp .ge 49, 3)), (20, (.iconst 1, 1)), (21, (.iload 5, 2)), (23, (.ishl, 1)), (24, (.istore 6, 2)), (26, (.iload_n 2, 1)), (27, (.iload 6, 2)), (29, (.iand, 1)), (30, (.ifCond .eq 12, 3)), (33, (.aload_n 0, 1)), (34, (.iload 5, 2)), (36, (.invokevirtual 44, 3)), (39, (.ifCond .eq 19, 3)), (42, (.iload_n 3, 1)), (43, (.iload 6, 2)), (45, (.iand, 1)), (46, (.ifCond .eq 14, 3)), (49, (.aload_n 0, 1)), (50, (.iload 5, 2)), (52, (.invokevirtual 44, 3)), (55, (.ifCond .eq 5, 3)), (58, (.iconst 0, 1)), (59, (.ireturn, 1)), (60, (.iinc 5 1, 3)), (63, (.goto (-50), 3)), (66, (.iconst 1, 1)), (67, (.ireturn, 1))]
theorem dm_X1_isLoophole : ∀ q ∈ tb_X1_isLoophole, decode zX1_isLoophole.2.1 q.1 = .ok q.2 := by decide +kernel
def f_X1_isLoophole_42 (n : Nat) (j : Nat) (K13 : Int32 → Int32 → Int32 → qM → qR) (a2 a3 a5 a6 : Int32) (M : qM) : qR :=
  (if (a3 &&& a6) = (0 : Int32) then ql (a5 + (1 : Int32)) (fun x1 => K13 a2 a3 x1 M) else qc (f_X1_isAlike n j a5 M) (fun r2 m3 => (if r2 = (0 : Int32) then ql (a5 + (1 : Int32)) (fun x4 => K13 a2 a3 x4 m3) else some ((0 : Int32), m3))))
set_option maxRecDepth 4000 in
theorem w_X1_isLoophole_42 {g : qG} {k : qK} (n : Nat) (j r : Nat) (hj : q_isLaw j) (hr : q_isLaw r) (o : qOk g 3 zX1_isLoophole k) (K13 : Int32 → Int32 → Int32 → qM → qR) (hK13 : ∀ (a2 a3 a5 : Int32) (M : qM), qAE g k zX1_isLoophole (qL j r) 13 [some (.inr (some 34)), none, some (.inl a2), some (.inl a3), none, some (.inl a5), none] [] (qL j r, M) (K13 a2 a3 a5 M)) (a2 a3 a5 a6 : Int32) (M : qM) : qAE g k zX1_isLoophole (qL j r) 42 [some (.inr (some 34)), none, some (.inl a2), some (.inl a3), none, some (.inl a5), some (.inl a6)] [] (qL j r, M) (f_X1_isLoophole_42 n j K13 a2 a3 a5 a6 M) := by
  unfold f_X1_isLoophole_42
  refine qr_iload_n o (q_dm dm_X1_isLoophole 23 rfl) rfl ?_
  refine qr_iload o (q_dm dm_X1_isLoophole 24 rfl) rfl ?_
  refine qr_iand o (q_dm dm_X1_isLoophole 25 rfl) ?_
  refine qr_if_eq (tgt := 60) o (q_dm dm_X1_isLoophole 26 rfl) (by decide) ?_ ?_
  · refine qs_iincl2 (L' := fun x1 => [some (.inr (some 34)), none, some (.inl a2), some (.inl a3), none, some (.inl x1), some (.inl a6)]) o (q_dm dm_X1_isLoophole 33 rfl) rfl ic_1 (Nat.le_of_ble_eq_true rfl) (fun _ => rfl) (fun x1 => ?_)
    refine qr_goto (tgt := 13) o (q_dm dm_X1_isLoophole 34 rfl) (by decide) ?_
    exact qr_loc (q_leS (q_leN (q_leS (q_leS (q_leN (q_leS (q_leN q_le0))))))) (hK13 a2 a3 x1 M)
  · refine qr_aload_n o (q_dm dm_X1_isLoophole 27 rfl) rfl ?_
    refine qr_iload o (q_dm dm_X1_isLoophole 28 rfl) rfl ?_
    refine qr_callv_i (As := [.inl a5]) (S := []) o (a_X1_isAlike g k.2.1 n j r hj hr a5 M) (Nat.le_of_ble_eq_true rfl) zv_X1_isAlike rfl cf_X1 (sh34 j r) ml_X1_44 (Nat.le_of_ble_eq_true rfl) (q_dm dm_X1_isLoophole 29 rfl) (fun r2 m3 => ?_)
    refine qr_if_eq (tgt := 60) o (q_dm dm_X1_isLoophole 30 rfl) (by decide) ?_ ?_
    · refine qs_iincl2 (L' := fun x4 => [some (.inr (some 34)), none, some (.inl a2), some (.inl a3), none, some (.inl x4), some (.inl a6)]) o (q_dm dm_X1_isLoophole 33 rfl) rfl ic_1 (Nat.le_of_ble_eq_true rfl) (fun _ => rfl) (fun x4 => ?_)
      refine qr_goto (tgt := 13) o (q_dm dm_X1_isLoophole 34 rfl) (by decide) ?_
      exact qr_loc (q_leS (q_leN (q_leS (q_leS (q_leN (q_leS (q_leN q_le0))))))) (hK13 a2 a3 x4 m3)
    · refine qr_iconst o (q_dm dm_X1_isLoophole 31 rfl) ic_0 ?_
      exact qr_iret o rfl (by decide) (q_dm dm_X1_isLoophole 32 rfl)

def b_X1_isLoophole_13 (n : Nat) (j : Nat) (K13 : Int32 → Int32 → Int32 → qM → qR) (a2 a3 a5 : Int32) (M : qM) : qR :=
  (if (12 : Int32) ≤ a5 then some ((1 : Int32), M) else ql ((1 : Int32) <<< (a5 &&& 31)) (fun x1 => (if (a2 &&& x1) = (0 : Int32) then f_X1_isLoophole_42 n j K13 a2 a3 a5 x1 M else qc (f_X1_isAlike n j a5 M) (fun r2 m3 => (if r2 = (0 : Int32) then some ((0 : Int32), m3) else f_X1_isLoophole_42 n j K13 a2 a3 a5 x1 m3)))))
set_option maxRecDepth 4000 in
theorem wb_X1_isLoophole_13 {g : qG} {k : qK} (n : Nat) (j r : Nat) (hj : q_isLaw j) (hr : q_isLaw r) (o : qOk g 3 zX1_isLoophole k) (K13 : Int32 → Int32 → Int32 → qM → qR) (hK13 : ∀ (a2 a3 a5 : Int32) (M : qM), qAE g k zX1_isLoophole (qL j r) 13 [some (.inr (some 34)), none, some (.inl a2), some (.inl a3), none, some (.inl a5), none] [] (qL j r, M) (K13 a2 a3 a5 M)) (a2 a3 a5 : Int32) (M : qM) : qAE g k zX1_isLoophole (qL j r) 13 [some (.inr (some 34)), none, some (.inl a2), some (.inl a3), none, some (.inl a5), none] [] (qL j r, M) (b_X1_isLoophole_13 n j K13 a2 a3 a5 M) := by
  unfold b_X1_isLoophole_13
  refine qr_iload o (q_dm dm_X1_isLoophole 8 rfl) rfl ?_
  refine qr_bipush o (q_dm dm_X1_isLoophole 9 rfl) bi_12 ?_
  refine qr_icmp_ge (tgt := 66) o (q_dm dm_X1_isLoophole 10 rfl) (by decide) ?_ ?_
  · refine qr_iconst o (q_dm dm_X1_isLoophole 35 rfl) ic_1 ?_
    exact qr_iret o rfl (by decide) (q_dm dm_X1_isLoophole 36 rfl)
  · refine qr_iconst o (q_dm dm_X1_isLoophole 11 rfl) ic_1 ?_
    refine qr_iload o (q_dm dm_X1_isLoophole 12 rfl) rfl ?_
    refine qr_ishl o (q_dm dm_X1_isLoophole 13 rfl) ?_
    refine qr_lt (fun x1 => ?_)
    refine qs_istore (L' := [some (.inr (some 34)), none, some (.inl a2), some (.inl a3), none, some (.inl a5), some (.inl x1)]) o (q_dm dm_X1_isLoophole 14 rfl) (Nat.le_of_ble_eq_true rfl) rfl ?_
    refine qr_iload_n o (q_dm dm_X1_isLoophole 15 rfl) rfl ?_
    refine qr_iload o (q_dm dm_X1_isLoophole 16 rfl) rfl ?_
    refine qr_iand o (q_dm dm_X1_isLoophole 17 rfl) ?_
    refine qr_if_eq (tgt := 42) o (q_dm dm_X1_isLoophole 18 rfl) (by decide) ?_ ?_
    · exact qr_loc (q_leS (q_leN (q_leS (q_leS (q_leN (q_leS (q_leS q_le0))))))) (w_X1_isLoophole_42 n j r hj hr o K13 hK13 a2 a3 a5 x1 M)
    · refine qr_aload_n o (q_dm dm_X1_isLoophole 19 rfl) rfl ?_
      refine qr_iload o (q_dm dm_X1_isLoophole 20 rfl) rfl ?_
      refine qr_callv_i (As := [.inl a5]) (S := []) o (a_X1_isAlike g k.2.1 n j r hj hr a5 M) (Nat.le_of_ble_eq_true rfl) zv_X1_isAlike rfl cf_X1 (sh34 j r) ml_X1_44 (Nat.le_of_ble_eq_true rfl) (q_dm dm_X1_isLoophole 21 rfl) (fun r2 m3 => ?_)
      refine qr_if_eq (tgt := 58) o (q_dm dm_X1_isLoophole 22 rfl) (by decide) ?_ ?_
      · refine qr_iconst o (q_dm dm_X1_isLoophole 31 rfl) ic_0 ?_
        exact qr_iret o rfl (by decide) (q_dm dm_X1_isLoophole 32 rfl)
      · exact qr_loc (q_leS (q_leN (q_leS (q_leS (q_leN (q_leS (q_leS q_le0))))))) (w_X1_isLoophole_42 n j r hj hr o K13 hK13 a2 a3 a5 x1 m3)

def f_X1_isLoophole_13 (n : Nat) (j : Nat) : Nat → Int32 → Int32 → Int32 → qM → qR
  | 0, _, _, _, _ => none
  | m + 1, a2, a3, a5, M => b_X1_isLoophole_13 n j (f_X1_isLoophole_13 n j m) a2 a3 a5 M
theorem w_X1_isLoophole_13 {g : qG} {k : qK} (n : Nat) (j r : Nat) (hj : q_isLaw j) (hr : q_isLaw r) (o : qOk g 3 zX1_isLoophole k) : ∀ (m : Nat) (a2 a3 a5 : Int32) (M : qM), qAE g k zX1_isLoophole (qL j r) 13 [some (.inr (some 34)), none, some (.inl a2), some (.inl a3), none, some (.inl a5), none] [] (qL j r, M) (f_X1_isLoophole_13 n j m a2 a3 a5 M) := by
  intro m
  induction m with
  | zero =>
    intro a2 a3 a5 M
    exact qr_none
  | succ m ih =>
    intro a2 a3 a5 M
    exact wb_X1_isLoophole_13 n j r hj hr o (f_X1_isLoophole_13 n j m) ih a2 a3 a5 M
def f_X1_isLoophole (n : Nat) (j : Nat) (a1 a2 a3 a4 : Int32) (M : qM) : qR :=
  qc (f_X1_tellDeed n (12 : Int32) (1 : Int32) a1 a4 M) (fun _ m1 => f_X1_isLoophole_13 n j n a2 a3 (0 : Int32) m1)
set_option maxRecDepth 4000 in
theorem w_X1_isLoophole {g : qG} {k : qK} (n : Nat) (j r : Nat) (hj : q_isLaw j) (hr : q_isLaw r) (o : qOk g 3 zX1_isLoophole k) (a1 a2 a3 a4 : Int32) (M : qM) : qAE g k zX1_isLoophole (qL j r) 0 [some (.inr (some 34)), some (.inl a1), some (.inl a2), some (.inl a3), some (.inl a4), none, none] [] (qL j r, M) (f_X1_isLoophole n j a1 a2 a3 a4 M) := by
  unfold f_X1_isLoophole
  refine qr_aload_n o (q_dm dm_X1_isLoophole 0 rfl) rfl ?_
  refine qr_bipush o (q_dm dm_X1_isLoophole 1 rfl) bi_12 ?_
  refine qr_iconst o (q_dm dm_X1_isLoophole 2 rfl) ic_1 ?_
  refine qr_iload_n o (q_dm dm_X1_isLoophole 3 rfl) rfl ?_
  refine qr_iload o (q_dm dm_X1_isLoophole 4 rfl) rfl ?_
  refine qr_callv_v (As := [.inl (12 : Int32), .inl (1 : Int32), .inl a1, .inl a4]) (S := []) o (a_X1_tellDeed g k.2.1 n j r hj hr (12 : Int32) (1 : Int32) a1 a4 M) (Nat.le_of_ble_eq_true rfl) zv_X1_tellDeed rfl cf_X1 (sh34 j r) ml_X1_40 (Nat.le_of_ble_eq_true rfl) (q_dm dm_X1_isLoophole 5 rfl) (fun _ m1 => ?_)
  refine qr_iconst o (q_dm dm_X1_isLoophole 6 rfl) ic_0 ?_
  refine qs_istore (L' := [some (.inr (some 34)), some (.inl a1), some (.inl a2), some (.inl a3), some (.inl a4), some (.inl (0 : Int32)), none]) o (q_dm dm_X1_isLoophole 7 rfl) (Nat.le_of_ble_eq_true rfl) rfl ?_
  exact qr_loc (q_leS (q_leN (q_leS (q_leS (q_leN (q_leS (q_leN q_le0))))))) (w_X1_isLoophole_13 n j r hj hr o n a2 a3 (0 : Int32) m1)

theorem a_X1_isLoophole (g : qG) (l : Launch) (n : Nat) (j r : Nat) (hj : q_isLaw j) (hr : q_isLaw r) (a1 a2 a3 a4 : Int32) (M : qM) : qAM g l 3 zX1_isLoophole (qL j r) [.inr (some 34), .inl a1, .inl a2, .inl a3, .inl a4] (qL j r, M) (f_X1_isLoophole n j a1 a2 a3 a4 M) :=
  qAM.of zv_X1_isLoophole.1 (by show 5 ≤ 7; decide) (fun k hk o => w_X1_isLoophole n j r hj hr o a1 a2 a3 a4 M)
def tb_X11_loophole : List (Nat × Instr × Nat) := [(0, (.aload_n 0, 1)), (1, (.getfield 19, 3)), (4, (.iload_n 1, 1)), (5, (.invokevirtual 214, 3)), (8, (.ifCond .eq 29, 3)), (11, (.aload_n 0, 1)), (12, (.getfield 19, 3)), (15, (.iload_n 2, 1)), (16, (.invokevirtual 214, 3)), (19, (.ifCond .eq 18, 3)), (22, (.iload_n 1, 1)), (23, (.iload_n 2, 1)), (24, (.iand, 1)), (25, (.ifCond .ne 12, 3)), (28, (.iload_n 3, 1)), (29, (.ifCond .lt 8, 3)), (32, (.iload_n 3, 1)), (33, (.iconst 1, 1)), (34, (.if_icmp .le 5, 3)), (37, (.iconst (-1), 1)), (38, (.ireturn, 1)), (39, (.bipush (-2), 2)), (41, (.istore 4, 2)), (43, (.iconst 0, 1)), (44, (.istore 5, 2)), (46, (.iconst 0, 1)), (47, (.istore 6, 2)), (49, (.iload 6, 2)), (51, (.sipush 255, 3)), (54, (.if_icmp .gt 57, 3)), (57, (.aload_n 0, 1)), (58, (.getfield 41, 3)), (61, (.iload 6, 2)), (63, (.iload_n 1, 1)), (64, (.iload_n 2, 1)), (65, (.aload_n 0, 1)), (66, (.getfield 26, 3)), (69, (.getfield 184, 3)), (72, (.invokevirtual 217, 3)), (75, (.ifCond .eq 30, 3)), (78, (.iinc 5 1, 3)), (81, (.iload 4, 2)), (83, (.bipush (-2), 2)), (85, (.if_icmp .eq 16, 3)), (88, (.iload 6, 2)), (90, (.invokestatic 220, 3)), (93, (.iload 4, 2)), (95, (.invokestatic 220, 3)), (98, (.if_icmp .ge 7, 3)), (101, (.iload 6, 2)), (103, (.istore 4, 2)), (105, (.iinc 6 1, 3)), (108, (.goto (-59), 3)), (111, (.iload_n 3, 1)), (112, (.ifCond .ne 8, 3)), (115, (.iload 4, 2)), (117, (.goto 5, 3)), (120, (.iload 5, 2)), (122, (.ireturn, 1))]
theorem dm_X11_loophole : ∀ q ∈ tb_X11_loophole, decode zX11_loophole.2.1 q.1 = .ok q.2 := by decide +kernel
def f_X11_loophole_101 (n : Nat) (j : Nat) (K49 : Int32 → Int32 → Int32 → Int32 → Int32 → Int32 → qM → qR) (a1 a2 a3 a5 a6 : Int32) (M : qM) : qR :=
  ql (a6 + (1 : Int32)) (fun x1 => K49 a1 a2 a3 a6 a5 x1 M)
set_option maxRecDepth 4000 in
theorem w_X11_loophole_101 {g : qG} {k : qK} (n : Nat) (j r : Nat) (hj : q_isLaw j) (hr : q_isLaw r) (o : qOk g 4 zX11_loophole k) (K49 : Int32 → Int32 → Int32 → Int32 → Int32 → Int32 → qM → qR) (hK49 : ∀ (a1 a2 a3 a4 a5 a6 : Int32) (M : qM), qAE g k zX11_loophole (qL j r) 49 [some (.inr (some 0)), some (.inl a1), some (.inl a2), some (.inl a3), some (.inl a4), some (.inl a5), some (.inl a6)] [] (qL j r, M) (K49 a1 a2 a3 a4 a5 a6 M)) (a1 a2 a3 a5 a6 : Int32) (M : qM) : qAE g k zX11_loophole (qL j r) 101 [some (.inr (some 0)), some (.inl a1), some (.inl a2), some (.inl a3), none, some (.inl a5), some (.inl a6)] [] (qL j r, M) (f_X11_loophole_101 n j K49 a1 a2 a3 a5 a6 M) := by
  unfold f_X11_loophole_101
  refine qr_iload o (q_dm dm_X11_loophole 49 rfl) rfl ?_
  refine qs_istore (L' := [some (.inr (some 0)), some (.inl a1), some (.inl a2), some (.inl a3), some (.inl a6), some (.inl a5), some (.inl a6)]) o (q_dm dm_X11_loophole 50 rfl) (Nat.le_of_ble_eq_true rfl) rfl ?_
  refine qs_iincl2 (L' := fun x1 => [some (.inr (some 0)), some (.inl a1), some (.inl a2), some (.inl a3), some (.inl a6), some (.inl a5), some (.inl x1)]) o (q_dm dm_X11_loophole 51 rfl) rfl ic_1 (Nat.le_of_ble_eq_true rfl) (fun _ => rfl) (fun x1 => ?_)
  refine qr_goto (tgt := 49) o (q_dm dm_X11_loophole 52 rfl) (by decide) ?_
  exact qr_loc (q_leS (q_leS (q_leS (q_leS (q_leS (q_leS (q_leS q_le0))))))) (hK49 a1 a2 a3 a6 a5 x1 M)

def b_X11_loophole_49 (n : Nat) (j : Nat) (K49 : Int32 → Int32 → Int32 → Int32 → Int32 → Int32 → qM → qR) (a1 a2 a3 a4 a5 a6 : Int32) (M : qM) : qR :=
  (if (255 : Int32) < a6 then (if a3 = (0 : Int32) then some (a4, M) else some (a5, M)) else qc (f_X1_isLoophole n j a6 a1 a2 (M 7 9) M) (fun r1 m2 => (if r1 = (0 : Int32) then ql (a6 + (1 : Int32)) (fun x3 => K49 a1 a2 a3 a4 a5 x3 m2) else ql (a5 + (1 : Int32)) (fun x4 => (if a4 = (-2 : Int32) then f_X11_loophole_101 n j K49 a1 a2 a3 x4 a6 m2 else qc (f_J6_bitCount_0f7a4 n a6 m2) (fun r5 m6 => qc (f_J6_bitCount_0f7a4 n a4 m6) (fun r7 m8 => (if r7 ≤ r5 then ql (a6 + (1 : Int32)) (fun x9 => K49 a1 a2 a3 a4 x4 x9 m8) else f_X11_loophole_101 n j K49 a1 a2 a3 x4 a6 m8))))))))
set_option maxRecDepth 4000 in
theorem wb_X11_loophole_49 {g : qG} {k : qK} (n : Nat) (j r : Nat) (hj : q_isLaw j) (hr : q_isLaw r) (o : qOk g 4 zX11_loophole k) (K49 : Int32 → Int32 → Int32 → Int32 → Int32 → Int32 → qM → qR) (hK49 : ∀ (a1 a2 a3 a4 a5 a6 : Int32) (M : qM), qAE g k zX11_loophole (qL j r) 49 [some (.inr (some 0)), some (.inl a1), some (.inl a2), some (.inl a3), some (.inl a4), some (.inl a5), some (.inl a6)] [] (qL j r, M) (K49 a1 a2 a3 a4 a5 a6 M)) (a1 a2 a3 a4 a5 a6 : Int32) (M : qM) : qAE g k zX11_loophole (qL j r) 49 [some (.inr (some 0)), some (.inl a1), some (.inl a2), some (.inl a3), some (.inl a4), some (.inl a5), some (.inl a6)] [] (qL j r, M) (b_X11_loophole_49 n j K49 a1 a2 a3 a4 a5 a6 M) := by
  unfold b_X11_loophole_49
  refine qr_iload o (q_dm dm_X11_loophole 27 rfl) rfl ?_
  refine qr_sipush o (q_dm dm_X11_loophole 28 rfl) si_255 ?_
  refine qr_icmp_gt (tgt := 111) o (q_dm dm_X11_loophole 29 rfl) (by decide) ?_ ?_
  · refine qr_iload_n o (q_dm dm_X11_loophole 53 rfl) rfl ?_
    refine qr_if_ne (tgt := 120) o (q_dm dm_X11_loophole 54 rfl) (by decide) ?_ ?_
    · refine qr_iload o (q_dm dm_X11_loophole 57 rfl) rfl ?_
      exact qr_iret o rfl rfl (q_dm dm_X11_loophole 58 rfl)
    · refine qr_iload o (q_dm dm_X11_loophole 55 rfl) rfl ?_
      refine qr_goto (tgt := 122) o (q_dm dm_X11_loophole 56 rfl) (by decide) ?_
      exact qr_iret o rfl rfl (q_dm dm_X11_loophole 58 rfl)
  · refine qr_aload_n o (q_dm dm_X11_loophole 30 rfl) rfl ?_
    refine qr_getr (kf := 5) o cf_X11 (sh0 j r) rfl (Nat.le_of_ble_eq_true rfl) fl_X11_41 (q_dm dm_X11_loophole 31 rfl) ?_
    refine qr_iload o (q_dm dm_X11_loophole 32 rfl) rfl ?_
    refine qr_iload_n o (q_dm dm_X11_loophole 33 rfl) rfl ?_
    refine qr_iload_n o (q_dm dm_X11_loophole 34 rfl) rfl ?_
    refine qr_aload_n o (q_dm dm_X11_loophole 35 rfl) rfl ?_
    refine qr_getr (kf := 2) o cf_X11 (sh0 j r) rfl (Nat.le_of_ble_eq_true rfl) fl_X11_26 (q_dm dm_X11_loophole 36 rfl) ?_
    refine qr_getf (kf := 9) o cf_X10 (sh7 j r) rfl (Nat.le_of_ble_eq_true rfl) fl_X11_184 (q_dm dm_X11_loophole 37 rfl) ?_
    refine qr_callv_i (As := [.inl a6, .inl a1, .inl a2, .inl (M 7 9)]) (S := []) o (a_X1_isLoophole g k.2.1 n j r hj hr a6 a1 a2 (M 7 9) M) (Nat.le_of_ble_eq_true rfl) zv_X1_isLoophole rfl cf_X1 (sh34 j r) ml_X11_217 (Nat.le_of_ble_eq_true rfl) (q_dm dm_X11_loophole 38 rfl) (fun r1 m2 => ?_)
    refine qr_if_eq (tgt := 105) o (q_dm dm_X11_loophole 39 rfl) (by decide) ?_ ?_
    · refine qs_iincl2 (L' := fun x3 => [some (.inr (some 0)), some (.inl a1), some (.inl a2), some (.inl a3), some (.inl a4), some (.inl a5), some (.inl x3)]) o (q_dm dm_X11_loophole 51 rfl) rfl ic_1 (Nat.le_of_ble_eq_true rfl) (fun _ => rfl) (fun x3 => ?_)
      refine qr_goto (tgt := 49) o (q_dm dm_X11_loophole 52 rfl) (by decide) ?_
      exact qr_loc (q_leS (q_leS (q_leS (q_leS (q_leS (q_leS (q_leS q_le0))))))) (hK49 a1 a2 a3 a4 a5 x3 m2)
    · refine qs_iincl2 (L' := fun x4 => [some (.inr (some 0)), some (.inl a1), some (.inl a2), some (.inl a3), some (.inl a4), some (.inl x4), some (.inl a6)]) o (q_dm dm_X11_loophole 40 rfl) rfl ic_1 (Nat.le_of_ble_eq_true rfl) (fun _ => rfl) (fun x4 => ?_)
      refine qr_iload o (q_dm dm_X11_loophole 41 rfl) rfl ?_
      refine qr_bipush o (q_dm dm_X11_loophole 42 rfl) bi_m2 ?_
      refine qr_icmp_eq (tgt := 101) o (q_dm dm_X11_loophole 43 rfl) (by decide) ?_ ?_
      · exact qr_loc (q_leS (q_leS (q_leS (q_leS (q_leN (q_leS (q_leS q_le0))))))) (w_X11_loophole_101 n j r hj hr o K49 hK49 a1 a2 a3 x4 a6 m2)
      · refine qr_iload o (q_dm dm_X11_loophole 44 rfl) rfl ?_
        refine qr_calls_i (As := [.inl a6]) (S := []) o (a_J6_bitCount_0f7a4 g k.2.1 n j r hj hr a6 m2) (Nat.le_of_ble_eq_true rfl) zs_J6_bitCount_0f7a4 rfl ml_X11_220 (Nat.le_of_ble_eq_true rfl) (q_dm dm_X11_loophole 45 rfl) (fun r5 m6 => ?_)
        refine qr_iload o (q_dm dm_X11_loophole 46 rfl) rfl ?_
        refine qr_calls_i (As := [.inl a4]) (S := [.inl r5]) o (a_J6_bitCount_0f7a4 g k.2.1 n j r hj hr a4 m6) (Nat.le_of_ble_eq_true rfl) zs_J6_bitCount_0f7a4 rfl ml_X11_220 (Nat.le_of_ble_eq_true rfl) (q_dm dm_X11_loophole 47 rfl) (fun r7 m8 => ?_)
        refine qr_icmp_ge (tgt := 105) o (q_dm dm_X11_loophole 48 rfl) (by decide) ?_ ?_
        · refine qs_iincl2 (L' := fun x9 => [some (.inr (some 0)), some (.inl a1), some (.inl a2), some (.inl a3), some (.inl a4), some (.inl x4), some (.inl x9)]) o (q_dm dm_X11_loophole 51 rfl) rfl ic_1 (Nat.le_of_ble_eq_true rfl) (fun _ => rfl) (fun x9 => ?_)
          refine qr_goto (tgt := 49) o (q_dm dm_X11_loophole 52 rfl) (by decide) ?_
          exact qr_loc (q_leS (q_leS (q_leS (q_leS (q_leS (q_leS (q_leS q_le0))))))) (hK49 a1 a2 a3 a4 x4 x9 m8)
        · exact qr_loc (q_leS (q_leS (q_leS (q_leS (q_leN (q_leS (q_leS q_le0))))))) (w_X11_loophole_101 n j r hj hr o K49 hK49 a1 a2 a3 x4 a6 m8)

def f_X11_loophole_49 (n : Nat) (j : Nat) : Nat → Int32 → Int32 → Int32 → Int32 → Int32 → Int32 → qM → qR
  | 0, _, _, _, _, _, _, _ => none
  | m + 1, a1, a2, a3, a4, a5, a6, M => b_X11_loophole_49 n j (f_X11_loophole_49 n j m) a1 a2 a3 a4 a5 a6 M
theorem w_X11_loophole_49 {g : qG} {k : qK} (n : Nat) (j r : Nat) (hj : q_isLaw j) (hr : q_isLaw r) (o : qOk g 4 zX11_loophole k) : ∀ (m : Nat) (a1 a2 a3 a4 a5 a6 : Int32) (M : qM), qAE g k zX11_loophole (qL j r) 49 [some (.inr (some 0)), some (.inl a1), some (.inl a2), some (.inl a3), some (.inl a4), some (.inl a5), some (.inl a6)] [] (qL j r, M) (f_X11_loophole_49 n j m a1 a2 a3 a4 a5 a6 M) := by
  intro m
  induction m with
  | zero =>
    intro a1 a2 a3 a4 a5 a6 M
    exact qr_none
  | succ m ih =>
    intro a1 a2 a3 a4 a5 a6 M
    exact wb_X11_loophole_49 n j r hj hr o (f_X11_loophole_49 n j m) ih a1 a2 a3 a4 a5 a6 M
def f_X11_loophole (n : Nat) (j : Nat) (a1 a2 a3 : Int32) (M : qM) : qR :=
  qc (f_X2_knowsAll n a1 M) (fun r1 m2 => (if r1 = (0 : Int32) then some ((-1 : Int32), m2) else qc (f_X2_knowsAll n a2 m2) (fun r3 m4 => (if r3 = (0 : Int32) then some ((-1 : Int32), m4) else (if (a1 &&& a2) = (0 : Int32) then (if a3 < (0 : Int32) then some ((-1 : Int32), m4) else (if a3 ≤ (1 : Int32) then f_X11_loophole_49 n j n a1 a2 a3 (-2 : Int32) (0 : Int32) (0 : Int32) m4 else some ((-1 : Int32), m4))) else some ((-1 : Int32), m4))))))
set_option maxRecDepth 4000 in
theorem w_X11_loophole {g : qG} {k : qK} (n : Nat) (j r : Nat) (hj : q_isLaw j) (hr : q_isLaw r) (o : qOk g 4 zX11_loophole k) (a1 a2 a3 : Int32) (M : qM) : qAE g k zX11_loophole (qL j r) 0 [some (.inr (some 0)), some (.inl a1), some (.inl a2), some (.inl a3), none, none, none] [] (qL j r, M) (f_X11_loophole n j a1 a2 a3 M) := by
  unfold f_X11_loophole
  refine qr_aload_n o (q_dm dm_X11_loophole 0 rfl) rfl ?_
  refine qr_getr (kf := 1) o cf_X11 (sh0 j r) rfl (Nat.le_of_ble_eq_true rfl) fl_X11_19 (q_dm dm_X11_loophole 1 rfl) ?_
  refine qr_iload_n o (q_dm dm_X11_loophole 2 rfl) rfl ?_
  refine qr_callv_i (As := [.inl a1]) (S := []) o (a_X2_knowsAll g k.2.1 n j r hj hr a1 M) (Nat.le_of_ble_eq_true rfl) zv_X2_knowsAll rfl cf_X2 (sh3 j r) ml_X11_214 (Nat.le_of_ble_eq_true rfl) (q_dm dm_X11_loophole 3 rfl) (fun r1 m2 => ?_)
  refine qr_if_eq (tgt := 37) o (q_dm dm_X11_loophole 4 rfl) (by decide) ?_ ?_
  · refine qr_iconst o (q_dm dm_X11_loophole 19 rfl) ic_m1 ?_
    exact qr_iret o rfl rfl (q_dm dm_X11_loophole 20 rfl)
  · refine qr_aload_n o (q_dm dm_X11_loophole 5 rfl) rfl ?_
    refine qr_getr (kf := 1) o cf_X11 (sh0 j r) rfl (Nat.le_of_ble_eq_true rfl) fl_X11_19 (q_dm dm_X11_loophole 6 rfl) ?_
    refine qr_iload_n o (q_dm dm_X11_loophole 7 rfl) rfl ?_
    refine qr_callv_i (As := [.inl a2]) (S := []) o (a_X2_knowsAll g k.2.1 n j r hj hr a2 m2) (Nat.le_of_ble_eq_true rfl) zv_X2_knowsAll rfl cf_X2 (sh3 j r) ml_X11_214 (Nat.le_of_ble_eq_true rfl) (q_dm dm_X11_loophole 8 rfl) (fun r3 m4 => ?_)
    refine qr_if_eq (tgt := 37) o (q_dm dm_X11_loophole 9 rfl) (by decide) ?_ ?_
    · refine qr_iconst o (q_dm dm_X11_loophole 19 rfl) ic_m1 ?_
      exact qr_iret o rfl rfl (q_dm dm_X11_loophole 20 rfl)
    · refine qr_iload_n o (q_dm dm_X11_loophole 10 rfl) rfl ?_
      refine qr_iload_n o (q_dm dm_X11_loophole 11 rfl) rfl ?_
      refine qr_iand o (q_dm dm_X11_loophole 12 rfl) ?_
      refine qr_if_ne (tgt := 37) o (q_dm dm_X11_loophole 13 rfl) (by decide) ?_ ?_
      · refine qr_iconst o (q_dm dm_X11_loophole 19 rfl) ic_m1 ?_
        exact qr_iret o rfl rfl (q_dm dm_X11_loophole 20 rfl)
      · refine qr_iload_n o (q_dm dm_X11_loophole 14 rfl) rfl ?_
        refine qr_if_lt (tgt := 37) o (q_dm dm_X11_loophole 15 rfl) (by decide) ?_ ?_
        · refine qr_iconst o (q_dm dm_X11_loophole 19 rfl) ic_m1 ?_
          exact qr_iret o rfl rfl (q_dm dm_X11_loophole 20 rfl)
        · refine qr_iload_n o (q_dm dm_X11_loophole 16 rfl) rfl ?_
          refine qr_iconst o (q_dm dm_X11_loophole 17 rfl) ic_1 ?_
          refine qr_icmp_le (tgt := 39) o (q_dm dm_X11_loophole 18 rfl) (by decide) ?_ ?_
          · refine qr_bipush o (q_dm dm_X11_loophole 21 rfl) bi_m2 ?_
            refine qs_istore (L' := [some (.inr (some 0)), some (.inl a1), some (.inl a2), some (.inl a3), some (.inl (-2 : Int32)), none, none]) o (q_dm dm_X11_loophole 22 rfl) (Nat.le_of_ble_eq_true rfl) rfl ?_
            refine qr_iconst o (q_dm dm_X11_loophole 23 rfl) ic_0 ?_
            refine qs_istore (L' := [some (.inr (some 0)), some (.inl a1), some (.inl a2), some (.inl a3), some (.inl (-2 : Int32)), some (.inl (0 : Int32)), none]) o (q_dm dm_X11_loophole 24 rfl) (Nat.le_of_ble_eq_true rfl) rfl ?_
            refine qr_iconst o (q_dm dm_X11_loophole 25 rfl) ic_0 ?_
            refine qs_istore (L' := [some (.inr (some 0)), some (.inl a1), some (.inl a2), some (.inl a3), some (.inl (-2 : Int32)), some (.inl (0 : Int32)), some (.inl (0 : Int32))]) o (q_dm dm_X11_loophole 26 rfl) (Nat.le_of_ble_eq_true rfl) rfl ?_
            exact qr_loc (q_leS (q_leS (q_leS (q_leS (q_leS (q_leS (q_leS q_le0))))))) (w_X11_loophole_49 n j r hj hr o n a1 a2 a3 (-2 : Int32) (0 : Int32) (0 : Int32) m4)
          · refine qr_iconst o (q_dm dm_X11_loophole 19 rfl) ic_m1 ?_
            exact qr_iret o rfl rfl (q_dm dm_X11_loophole 20 rfl)

theorem a_X11_loophole (g : qG) (l : Launch) (n : Nat) (j r : Nat) (hj : q_isLaw j) (hr : q_isLaw r) (a1 a2 a3 : Int32) (M : qM) : qAM g l 4 zX11_loophole (qL j r) [.inr (some 0), .inl a1, .inl a2, .inl a3] (qL j r, M) (f_X11_loophole n j a1 a2 a3 M) :=
  qAM.of zv_X11_loophole.1 (by show 4 ≤ 7; decide) (fun k hk o => w_X11_loophole n j r hj hr o a1 a2 a3 M)
def tb_X11_person : List (Nat × Instr × Nat) := [(0, (.iload_n 1, 1)), (1, (.ifCond .lt 19, 3)), (4, (.iload_n 1, 1)), (5, (.bipush 8, 2)), (7, (.if_icmp .ge 13, 3)), (10, (.iload_n 2, 1)), (11, (.ifCond .lt 9, 3)), (14, (.iload_n 2, 1)), (15, (.ldc 103, 2)), (17, (.if_icmp .le 5, 3)), (20, (.iconst 0, 1)), (21, (.ireturn, 1)), (22, (.aload_n 0, 1)), (23, (.getfield 26, 3)), (26, (.dup, 1)), (27, (.getfield 104, 3)), (30, (.iconst 1, 1)), (31, (.iload_n 1, 1)), (32, (.ishl, 1)), (33, (.ior, 1)), (34, (.putfield 104, 3)), (37, (.aload_n 0, 1)), (38, (.getfield 26, 3)), (41, (.getfield 108, 3)), (44, (.iload_n 1, 1)), (45, (.iload_n 2, 1)), (46, (.iastore, 1)), (47, (.iconst 1, 1)), (48, (.ireturn, 1))]
theorem dm_X11_person : ∀ q ∈ tb_X11_person, decode zX11_person.2.1 q.1 = .ok q.2 := by decide +kernel
def f_X11_person (n : Nat) (a1 a2 : Int32) (M : qM) : qR :=
  (if a1 < (0 : Int32) then some ((0 : Int32), M) else (if (8 : Int32) ≤ a1 then some ((0 : Int32), M) else (if a2 < (0 : Int32) then some ((0 : Int32), M) else (if a2 ≤ (99999 : Int32) then qlm (mu M 7 8 ((M 7 8) ||| ((1 : Int32) <<< (a1 &&& 31)))) (fun m1 => qg a1 8 (qlm (mu m1 8 a1.toNatClampNeg a2) (fun m2 => some ((1 : Int32), m2)))) else some ((0 : Int32), M)))))
set_option maxRecDepth 4000 in
theorem w_X11_person {g : qG} {k : qK} (n : Nat) (j r : Nat) (hj : q_isLaw j) (hr : q_isLaw r) (o : qOk g 0 zX11_person k) (a1 a2 : Int32) (M : qM) : qAE g k zX11_person (qL j r) 0 [some (.inr (some 0)), some (.inl a1), some (.inl a2)] [] (qL j r, M) (f_X11_person n a1 a2 M) := by
  unfold f_X11_person
  refine qr_iload_n o (q_dm dm_X11_person 0 rfl) rfl ?_
  refine qr_if_lt (tgt := 20) o (q_dm dm_X11_person 1 rfl) (by decide) ?_ ?_
  · refine qr_iconst o (q_dm dm_X11_person 10 rfl) ic_0 ?_
    exact qr_iret o rfl (by decide) (q_dm dm_X11_person 11 rfl)
  · refine qr_iload_n o (q_dm dm_X11_person 2 rfl) rfl ?_
    refine qr_bipush o (q_dm dm_X11_person 3 rfl) bi_8 ?_
    refine qr_icmp_ge (tgt := 20) o (q_dm dm_X11_person 4 rfl) (by decide) ?_ ?_
    · refine qr_iconst o (q_dm dm_X11_person 10 rfl) ic_0 ?_
      exact qr_iret o rfl (by decide) (q_dm dm_X11_person 11 rfl)
    · refine qr_iload_n o (q_dm dm_X11_person 5 rfl) rfl ?_
      refine qr_if_lt (tgt := 20) o (q_dm dm_X11_person 6 rfl) (by decide) ?_ ?_
      · refine qr_iconst o (q_dm dm_X11_person 10 rfl) ic_0 ?_
        exact qr_iret o rfl (by decide) (q_dm dm_X11_person 11 rfl)
      · refine qr_iload_n o (q_dm dm_X11_person 7 rfl) rfl ?_
        refine qr_ldc o (q_dm dm_X11_person 8 rfl) kc_X11_103 ?_
        refine qr_icmp_le (tgt := 22) o (q_dm dm_X11_person 9 rfl) (by decide) ?_ ?_
        · refine qr_aload_n o (q_dm dm_X11_person 12 rfl) rfl ?_
          refine qr_getr (kf := 2) o cf_X11 (sh0 j r) rfl (Nat.le_of_ble_eq_true rfl) fl_X11_26 (q_dm dm_X11_person 13 rfl) ?_
          refine qr_dup o (q_dm dm_X11_person 14 rfl) ?_
          refine qr_getf (kf := 8) o cf_X10 (sh7 j r) rfl (Nat.le_of_ble_eq_true rfl) fl_X11_104 (q_dm dm_X11_person 15 rfl) ?_
          refine qr_iconst o (q_dm dm_X11_person 16 rfl) ic_1 ?_
          refine qr_iload_n o (q_dm dm_X11_person 17 rfl) rfl ?_
          refine qr_ishl o (q_dm dm_X11_person 18 rfl) ?_
          refine qr_ior o (q_dm dm_X11_person 19 rfl) ?_
          refine qr_putf (kf := 8) o cf_X10 (sh7 j r) rfl (Nat.le_of_ble_eq_true rfl) fl_X11_104 rfl (by decide +kernel) (q_dm dm_X11_person 20 rfl) ?_
          refine qr_letm (fun m1 => ?_)
          refine qr_aload_n o (q_dm dm_X11_person 21 rfl) rfl ?_
          refine qr_getr (kf := 2) o cf_X11 (sh0 j r) rfl (Nat.le_of_ble_eq_true rfl) fl_X11_26 (q_dm dm_X11_person 22 rfl) ?_
          refine qr_getr (kf := 0) o cf_X10 (sh7 j r) rfl (Nat.le_of_ble_eq_true rfl) fl_X11_108 (q_dm dm_X11_person 23 rfl) ?_
          refine qr_iload_n o (q_dm dm_X11_person 24 rfl) rfl ?_
          refine qr_iload_n o (q_dm dm_X11_person 25 rfl) rfl ?_
          refine qr_iast o (sh8 j r) (q_dm dm_X11_person 26 rfl) ?_
          refine qr_letm (fun m2 => ?_)
          refine qr_iconst o (q_dm dm_X11_person 27 rfl) ic_1 ?_
          exact qr_iret o rfl (by decide) (q_dm dm_X11_person 28 rfl)
        · refine qr_iconst o (q_dm dm_X11_person 10 rfl) ic_0 ?_
          exact qr_iret o rfl (by decide) (q_dm dm_X11_person 11 rfl)

theorem a_X11_person (g : qG) (l : Launch) (n : Nat) (j r : Nat) (hj : q_isLaw j) (hr : q_isLaw r) (a1 a2 : Int32) (M : qM) : qAM g l 0 zX11_person (qL j r) [.inr (some 0), .inl a1, .inl a2] (qL j r, M) (f_X11_person n a1 a2 M) :=
  qAM.of zv_X11_person.1 (by show 3 ≤ 3; decide) (fun k hk o => w_X11_person n j r hj hr o a1 a2 M)
def tb_X6_addStep : List (Nat × Instr × Nat) := [(0, (.aload_n 0, 1)), (1, (.getfield 28, 3)), (4, (.bipush 40, 2)), (6, (.if_icmp .lt 5, 3)), (9, (.iconst 0, 1)), (10, (.ireturn, 1)), (11, (.aload_n 0, 1)), (12, (.getfield 9, 3)), (15, (.aload_n 0, 1)), (16, (.getfield 28, 3)), (19, (.iload_n 1, 1)), (20, (.iastore, 1)), (21, (.aload_n 0, 1)), (22, (.getfield 15, 3)), (25, (.aload_n 0, 1)), (26, (.getfield 28, 3)), (29, (.iload_n 2, 1)), (30, (.iastore, 1)), (31, (.aload_n 0, 1)), (32, (.dup, 1)), (33, (.getfield 28, 3)), (36, (.iconst 1, 1)), (37, (.iadd, 1)), (38, (.putfield 28, 3)), (41, (.iconst 1, 1)), (42, (.ireturn, 1))]
theorem dm_X6_addStep : ∀ q ∈ tb_X6_addStep, decode zX6_addStep.2.1 q.1 = .ok q.2 := by decide +kernel
def f_X6_addStep (n : Nat) (a1 a2 : Int32) (M : qM) : qR :=
  (if (M 53 3) < (40 : Int32) then qg (M 53 3) 40 (qlm (mu M 54 (M 53 3).toNatClampNeg a1) (fun m1 => qg (m1 53 3) 40 (qlm (mu m1 55 (m1 53 3).toNatClampNeg a2) (fun m2 => qlm (mu m2 53 3 ((m2 53 3) + (1 : Int32))) (fun m3 => some ((1 : Int32), m3)))))) else some ((0 : Int32), M))
set_option maxRecDepth 4000 in
theorem w_X6_addStep {g : qG} {k : qK} (n : Nat) (j r : Nat) (hj : q_isLaw j) (hr : q_isLaw r) (o : qOk g 0 zX6_addStep k) (a1 a2 : Int32) (M : qM) : qAE g k zX6_addStep (qL j r) 0 [some (.inr (some 53)), some (.inl a1), some (.inl a2)] [] (qL j r, M) (f_X6_addStep n a1 a2 M) := by
  unfold f_X6_addStep
  refine qr_aload_n o (q_dm dm_X6_addStep 0 rfl) rfl ?_
  refine qr_getf (kf := 3) o cf_X6 (sh53 j r) rfl (Nat.le_of_ble_eq_true rfl) fl_X6_28 (q_dm dm_X6_addStep 1 rfl) ?_
  refine qr_bipush o (q_dm dm_X6_addStep 2 rfl) bi_40 ?_
  refine qr_icmp_lt (tgt := 11) o (q_dm dm_X6_addStep 3 rfl) (by decide) ?_ ?_
  · refine qr_aload_n o (q_dm dm_X6_addStep 6 rfl) rfl ?_
    refine qr_getr (kf := 1) o cf_X6 (sh53 j r) rfl (Nat.le_of_ble_eq_true rfl) fl_X6_9 (q_dm dm_X6_addStep 7 rfl) ?_
    refine qr_aload_n o (q_dm dm_X6_addStep 8 rfl) rfl ?_
    refine qr_getf (kf := 3) o cf_X6 (sh53 j r) rfl (Nat.le_of_ble_eq_true rfl) fl_X6_28 (q_dm dm_X6_addStep 9 rfl) ?_
    refine qr_iload_n o (q_dm dm_X6_addStep 10 rfl) rfl ?_
    refine qr_iast o (sh54 j r) (q_dm dm_X6_addStep 11 rfl) ?_
    refine qr_letm (fun m1 => ?_)
    refine qr_aload_n o (q_dm dm_X6_addStep 12 rfl) rfl ?_
    refine qr_getr (kf := 2) o cf_X6 (sh53 j r) rfl (Nat.le_of_ble_eq_true rfl) fl_X6_15 (q_dm dm_X6_addStep 13 rfl) ?_
    refine qr_aload_n o (q_dm dm_X6_addStep 14 rfl) rfl ?_
    refine qr_getf (kf := 3) o cf_X6 (sh53 j r) rfl (Nat.le_of_ble_eq_true rfl) fl_X6_28 (q_dm dm_X6_addStep 15 rfl) ?_
    refine qr_iload_n o (q_dm dm_X6_addStep 16 rfl) rfl ?_
    refine qr_iast o (sh55 j r) (q_dm dm_X6_addStep 17 rfl) ?_
    refine qr_letm (fun m2 => ?_)
    refine qr_aload_n o (q_dm dm_X6_addStep 18 rfl) rfl ?_
    refine qr_dup o (q_dm dm_X6_addStep 19 rfl) ?_
    refine qr_getf (kf := 3) o cf_X6 (sh53 j r) rfl (Nat.le_of_ble_eq_true rfl) fl_X6_28 (q_dm dm_X6_addStep 20 rfl) ?_
    refine qr_iconst o (q_dm dm_X6_addStep 21 rfl) ic_1 ?_
    refine qr_iadd o (q_dm dm_X6_addStep 22 rfl) ?_
    refine qr_putf (kf := 3) o cf_X6 (sh53 j r) rfl (Nat.le_of_ble_eq_true rfl) fl_X6_28 rfl (by decide +kernel) (q_dm dm_X6_addStep 23 rfl) ?_
    refine qr_letm (fun m3 => ?_)
    refine qr_iconst o (q_dm dm_X6_addStep 24 rfl) ic_1 ?_
    exact qr_iret o rfl (by decide) (q_dm dm_X6_addStep 25 rfl)
  · refine qr_iconst o (q_dm dm_X6_addStep 4 rfl) ic_0 ?_
    exact qr_iret o rfl (by decide) (q_dm dm_X6_addStep 5 rfl)

theorem a_X6_addStep (g : qG) (l : Launch) (n : Nat) (j r : Nat) (hj : q_isLaw j) (hr : q_isLaw r) (a1 a2 : Int32) (M : qM) : qAM g l 0 zX6_addStep (qL j r) [.inr (some 53), .inl a1, .inl a2] (qL j r, M) (f_X6_addStep n a1 a2 M) :=
  qAM.of zv_X6_addStep.1 (by show 3 ≤ 3; decide) (fun k hk o => w_X6_addStep n j r hj hr o a1 a2 M)
