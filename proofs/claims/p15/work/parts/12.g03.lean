def tb_X11_canChoose : List (Nat × Instr × Nat) := [(0, (.iload_n 2, 1)), (1, (.invokestatic 220, 3)), (4, (.istore 4, 2)), (6, (.aload_n 0, 1)), (7, (.getfield 26, 3)), (10, (.iload_n 1, 1)), (11, (.invokevirtual 131, 3)), (14, (.ifCond .eq 50, 3)), (17, (.aload_n 0, 1)), (18, (.getfield 19, 3)), (21, (.iload_n 2, 1)), (22, (.invokevirtual 214, 3)), (25, (.ifCond .eq 39, 3)), (28, (.iload 4, 2)), (30, (.iconst 1, 1)), (31, (.if_icmp .lt 33, 3)), (34, (.iload 4, 2)), (36, (.iconst 4, 1)), (37, (.if_icmp .gt 27, 3)), (40, (.aload_n 0, 1)), (41, (.getfield 19, 3)), (44, (.iload_n 3, 1)), (45, (.invokevirtual 140, 3)), (48, (.ifCond .eq 16, 3)), (51, (.iload_n 2, 1)), (52, (.iload_n 3, 1)), (53, (.ishr, 1)), (54, (.iconst 1, 1)), (55, (.iand, 1)), (56, (.iconst 1, 1)), (57, (.if_icmp .ne 7, 3)), (60, (.iconst 1, 1)), (61, (.goto 4, 3)), (64, (.iconst 0, 1)), (65, (.ireturn, 1))]
theorem dm_X11_canChoose : ∀ q ∈ tb_X11_canChoose, decode zX11_canChoose.2.1 q.1 = .ok q.2 := by decide +kernel
def f_X11_canChoose (n : Nat) (a1 a2 a3 : Int32) (M : qM) : qR :=
  qc (f_J6_bitCount_0f7a4 n a2 M) (fun r1 m2 => qc (f_X10_knows n 7 a1 m2) (fun r3 m4 => (if r3 = (0 : Int32) then some ((0 : Int32), m4) else qc (f_X2_knowsAll n a2 m4) (fun r5 m6 => (if r5 = (0 : Int32) then some ((0 : Int32), m6) else (if r1 < (1 : Int32) then some ((0 : Int32), m6) else (if (4 : Int32) < r1 then some ((0 : Int32), m6) else qc (f_X2_knows n a3 m6) (fun r7 m8 => (if r7 = (0 : Int32) then some ((0 : Int32), m8) else (if ((a2 >>> (a3 &&& 31)) &&& (1 : Int32)) = (1 : Int32) then some ((1 : Int32), m8) else some ((0 : Int32), m8)))))))))))
set_option maxRecDepth 4000 in
theorem w_X11_canChoose {g : qG} {k : qK} (n : Nat) (j r : Nat) (hj : q_isLaw j) (hr : q_isLaw r) (o : qOk g 1 zX11_canChoose k) (a1 a2 a3 : Int32) (M : qM) : qAE g k zX11_canChoose (qL j r) 0 [some (.inr (some 0)), some (.inl a1), some (.inl a2), some (.inl a3), none] [] (qL j r, M) (f_X11_canChoose n a1 a2 a3 M) := by
  unfold f_X11_canChoose
  refine qr_iload_n o (q_dm dm_X11_canChoose 0 rfl) rfl ?_
  refine qr_calls_i (As := [.inl a2]) (S := []) o (a_J6_bitCount_0f7a4 g k.2.1 n j r hj hr a2 M) (Nat.le_of_ble_eq_true rfl) zs_J6_bitCount_0f7a4 rfl ml_X11_220 (Nat.le_of_ble_eq_true rfl) (q_dm dm_X11_canChoose 1 rfl) (fun r1 m2 => ?_)
  refine qs_istore (L' := [some (.inr (some 0)), some (.inl a1), some (.inl a2), some (.inl a3), some (.inl r1)]) o (q_dm dm_X11_canChoose 2 rfl) (Nat.le_of_ble_eq_true rfl) rfl ?_
  refine qr_aload_n o (q_dm dm_X11_canChoose 3 rfl) rfl ?_
  refine qr_getr (kf := 2) o cf_X11 (sh0 j r) rfl (Nat.le_of_ble_eq_true rfl) fl_X11_26 (q_dm dm_X11_canChoose 4 rfl) ?_
  refine qr_iload_n o (q_dm dm_X11_canChoose 5 rfl) rfl ?_
  refine qr_callv_i (As := [.inl a1]) (S := []) o (a_X10_knows g k.2.1 n j r hj hr (Or.inl rfl) a1 m2) (Nat.le_of_ble_eq_true rfl) zv_X10_knows rfl cf_X10 (sh7 j r) ml_X11_131 (Nat.le_of_ble_eq_true rfl) (q_dm dm_X11_canChoose 6 rfl) (fun r3 m4 => ?_)
  refine qr_if_eq (tgt := 64) o (q_dm dm_X11_canChoose 7 rfl) (by decide) ?_ ?_
  · refine qr_iconst o (q_dm dm_X11_canChoose 33 rfl) ic_0 ?_
    exact qr_iret o rfl (by decide) (q_dm dm_X11_canChoose 34 rfl)
  · refine qr_aload_n o (q_dm dm_X11_canChoose 8 rfl) rfl ?_
    refine qr_getr (kf := 1) o cf_X11 (sh0 j r) rfl (Nat.le_of_ble_eq_true rfl) fl_X11_19 (q_dm dm_X11_canChoose 9 rfl) ?_
    refine qr_iload_n o (q_dm dm_X11_canChoose 10 rfl) rfl ?_
    refine qr_callv_i (As := [.inl a2]) (S := []) o (a_X2_knowsAll g k.2.1 n j r hj hr a2 m4) (Nat.le_of_ble_eq_true rfl) zv_X2_knowsAll rfl cf_X2 (sh3 j r) ml_X11_214 (Nat.le_of_ble_eq_true rfl) (q_dm dm_X11_canChoose 11 rfl) (fun r5 m6 => ?_)
    refine qr_if_eq (tgt := 64) o (q_dm dm_X11_canChoose 12 rfl) (by decide) ?_ ?_
    · refine qr_iconst o (q_dm dm_X11_canChoose 33 rfl) ic_0 ?_
      exact qr_iret o rfl (by decide) (q_dm dm_X11_canChoose 34 rfl)
    · refine qr_iload o (q_dm dm_X11_canChoose 13 rfl) rfl ?_
      refine qr_iconst o (q_dm dm_X11_canChoose 14 rfl) ic_1 ?_
      refine qr_icmp_lt (tgt := 64) o (q_dm dm_X11_canChoose 15 rfl) (by decide) ?_ ?_
      · refine qr_iconst o (q_dm dm_X11_canChoose 33 rfl) ic_0 ?_
        exact qr_iret o rfl (by decide) (q_dm dm_X11_canChoose 34 rfl)
      · refine qr_iload o (q_dm dm_X11_canChoose 16 rfl) rfl ?_
        refine qr_iconst o (q_dm dm_X11_canChoose 17 rfl) ic_4 ?_
        refine qr_icmp_gt (tgt := 64) o (q_dm dm_X11_canChoose 18 rfl) (by decide) ?_ ?_
        · refine qr_iconst o (q_dm dm_X11_canChoose 33 rfl) ic_0 ?_
          exact qr_iret o rfl (by decide) (q_dm dm_X11_canChoose 34 rfl)
        · refine qr_aload_n o (q_dm dm_X11_canChoose 19 rfl) rfl ?_
          refine qr_getr (kf := 1) o cf_X11 (sh0 j r) rfl (Nat.le_of_ble_eq_true rfl) fl_X11_19 (q_dm dm_X11_canChoose 20 rfl) ?_
          refine qr_iload_n o (q_dm dm_X11_canChoose 21 rfl) rfl ?_
          refine qr_callv_i (As := [.inl a3]) (S := []) o (a_X2_knows g k.2.1 n j r hj hr a3 m6) (Nat.le_of_ble_eq_true rfl) zv_X2_knows rfl cf_X2 (sh3 j r) ml_X11_140 (Nat.le_of_ble_eq_true rfl) (q_dm dm_X11_canChoose 22 rfl) (fun r7 m8 => ?_)
          refine qr_if_eq (tgt := 64) o (q_dm dm_X11_canChoose 23 rfl) (by decide) ?_ ?_
          · refine qr_iconst o (q_dm dm_X11_canChoose 33 rfl) ic_0 ?_
            exact qr_iret o rfl (by decide) (q_dm dm_X11_canChoose 34 rfl)
          · refine qr_iload_n o (q_dm dm_X11_canChoose 24 rfl) rfl ?_
            refine qr_iload_n o (q_dm dm_X11_canChoose 25 rfl) rfl ?_
            refine qr_ishr o (q_dm dm_X11_canChoose 26 rfl) ?_
            refine qr_iconst o (q_dm dm_X11_canChoose 27 rfl) ic_1 ?_
            refine qr_iand o (q_dm dm_X11_canChoose 28 rfl) ?_
            refine qr_iconst o (q_dm dm_X11_canChoose 29 rfl) ic_1 ?_
            refine qr_icmp_ne (tgt := 64) o (q_dm dm_X11_canChoose 30 rfl) (by decide) ?_ ?_
            · refine qr_iconst o (q_dm dm_X11_canChoose 33 rfl) ic_0 ?_
              exact qr_iret o rfl (by decide) (q_dm dm_X11_canChoose 34 rfl)
            · refine qr_iconst o (q_dm dm_X11_canChoose 31 rfl) ic_1 ?_
              refine qr_goto (tgt := 65) o (q_dm dm_X11_canChoose 32 rfl) (by decide) ?_
              exact qr_iret o rfl (by decide) (q_dm dm_X11_canChoose 34 rfl)

theorem a_X11_canChoose (g : qG) (l : Launch) (n : Nat) (j r : Nat) (hj : q_isLaw j) (hr : q_isLaw r) (a1 a2 a3 : Int32) (M : qM) : qAM g l 1 zX11_canChoose (qL j r) [.inr (some 0), .inl a1, .inl a2, .inl a3] (qL j r, M) (f_X11_canChoose n a1 a2 a3 M) :=
  qAM.of zv_X11_canChoose.1 (by show 4 ≤ 5; decide) (fun k hk o => w_X11_canChoose n j r hj hr o a1 a2 a3 M)
def tb_X7_leastPrice : List (Nat × Instr × Nat) := [(0, (.ldc 95, 2)), (2, (.istore 4, 2)), (4, (.iconst 0, 1)), (5, (.istore 5, 2)), (7, (.iload 5, 2)), (9, (.bipush 8, 2)), (11, (.if_icmp .ge 58, 3)), (14, (.iload 5, 2)), (16, (.iload_n 2, 1)), (17, (.if_icmp .eq 46, 3)), (20, (.aload_n 1, 1)), (21, (.iload 5, 2)), (23, (.invokevirtual 136, 3)), (26, (.ifCond .eq 37, 3)), (29, (.aload_n 1, 1)), (30, (.getfield 119, 3)), (33, (.iload 5, 2)), (35, (.bipush 12, 2)), (37, (.imul, 1)), (38, (.iload_n 3, 1)), (39, (.iadd, 1)), (40, (.iaload, 1)), (41, (.ifCond .le 22, 3)), (44, (.iload 4, 2)), (46, (.aload_n 0, 1)), (47, (.getfield 41, 3)), (50, (.aload_n 1, 1)), (51, (.iload_n 2, 1)), (52, (.iload_n 3, 1)), (53, (.iload 5, 2)), (55, (.invokevirtual 140, 3)), (58, (.invokestatic 146, 3)), (61, (.istore 4, 2)), (63, (.iinc 5 1, 3)), (66, (.goto (-59), 3)), (69, (.iload 4, 2)), (71, (.ireturn, 1))]
theorem dm_X7_leastPrice : ∀ q ∈ tb_X7_leastPrice, decode zX7_leastPrice.2.1 q.1 = .ok q.2 := by decide +kernel
def b_X7_leastPrice_7 (n : Nat) (t j : Nat) (K7 : Int32 → Int32 → Int32 → Int32 → qM → qR) (a2 a3 a4 a5 : Int32) (M : qM) : qR :=
  (if (8 : Int32) ≤ a5 then some (a4, M) else (if a5 = a2 then ql (a5 + (1 : Int32)) (fun x1 => K7 a2 a3 a4 x1 M) else qc (f_X10_knows n t a5 M) (fun r2 m3 => (if r2 = (0 : Int32) then ql (a5 + (1 : Int32)) (fun x4 => K7 a2 a3 a4 x4 m3) else qg ((a5 * (12 : Int32)) + a3) 96 ((if (m3 (t + 2) ((a5 * (12 : Int32)) + a3).toNatClampNeg) ≤ (0 : Int32) then ql (a5 + (1 : Int32)) (fun x5 => K7 a2 a3 a4 x5 m3) else qc (f_X0_price n t j a2 a3 a5 m3) (fun r6 m7 => ql (qmin a4 r6) (fun x8 => ql (a5 + (1 : Int32)) (fun x9 => K7 a2 a3 x8 x9 m7)))))))))
set_option maxRecDepth 4000 in
theorem wb_X7_leastPrice_7 {g : qG} {k : qK} (n : Nat) (j r : Nat) (hj : q_isLaw j) (hr : q_isLaw r) {t : Nat} (ht : q_isTown t) (o : qOk g 4 zX7_leastPrice k) (K7 : Int32 → Int32 → Int32 → Int32 → qM → qR) (hK7 : ∀ (a2 a3 a4 a5 : Int32) (M : qM), qAE g k zX7_leastPrice (qL j r) 7 [some (.inr (some 56)), some (.inr (some t)), some (.inl a2), some (.inl a3), some (.inl a4), some (.inl a5)] [] (qL j r, M) (K7 a2 a3 a4 a5 M)) (a2 a3 a4 a5 : Int32) (M : qM) : qAE g k zX7_leastPrice (qL j r) 7 [some (.inr (some 56)), some (.inr (some t)), some (.inl a2), some (.inl a3), some (.inl a4), some (.inl a5)] [] (qL j r, M) (b_X7_leastPrice_7 n t j K7 a2 a3 a4 a5 M) := by
  unfold b_X7_leastPrice_7
  refine qr_iload o (q_dm dm_X7_leastPrice 4 rfl) rfl ?_
  refine qr_bipush o (q_dm dm_X7_leastPrice 5 rfl) bi_8 ?_
  refine qr_icmp_ge (tgt := 69) o (q_dm dm_X7_leastPrice 6 rfl) (by decide) ?_ ?_
  · refine qr_iload o (q_dm dm_X7_leastPrice 35 rfl) rfl ?_
    exact qr_iret o rfl rfl (q_dm dm_X7_leastPrice 36 rfl)
  · refine qr_iload o (q_dm dm_X7_leastPrice 7 rfl) rfl ?_
    refine qr_iload_n o (q_dm dm_X7_leastPrice 8 rfl) rfl ?_
    refine qr_icmp_eq (tgt := 63) o (q_dm dm_X7_leastPrice 9 rfl) (by decide) ?_ ?_
    · refine qs_iincl2 (L' := fun x1 => [some (.inr (some 56)), some (.inr (some t)), some (.inl a2), some (.inl a3), some (.inl a4), some (.inl x1)]) o (q_dm dm_X7_leastPrice 33 rfl) rfl ic_1 (Nat.le_of_ble_eq_true rfl) (fun _ => rfl) (fun x1 => ?_)
      refine qr_goto (tgt := 7) o (q_dm dm_X7_leastPrice 34 rfl) (by decide) ?_
      exact qr_loc (q_leS (q_leS (q_leS (q_leS (q_leS (q_leS q_le0)))))) (hK7 a2 a3 a4 x1 M)
    · refine qr_aload_n o (q_dm dm_X7_leastPrice 10 rfl) rfl ?_
      refine qr_iload o (q_dm dm_X7_leastPrice 11 rfl) rfl ?_
      refine qr_callv_i (As := [.inl a5]) (S := []) o (a_X10_knows g k.2.1 n j r hj hr ht a5 M) (Nat.le_of_ble_eq_true rfl) zv_X10_knows rfl cf_X10 (shT0 j r ht) ml_X7_136 (Nat.le_of_ble_eq_true rfl) (q_dm dm_X7_leastPrice 12 rfl) (fun r2 m3 => ?_)
      refine qr_if_eq (tgt := 63) o (q_dm dm_X7_leastPrice 13 rfl) (by decide) ?_ ?_
      · refine qs_iincl2 (L' := fun x4 => [some (.inr (some 56)), some (.inr (some t)), some (.inl a2), some (.inl a3), some (.inl a4), some (.inl x4)]) o (q_dm dm_X7_leastPrice 33 rfl) rfl ic_1 (Nat.le_of_ble_eq_true rfl) (fun _ => rfl) (fun x4 => ?_)
        refine qr_goto (tgt := 7) o (q_dm dm_X7_leastPrice 34 rfl) (by decide) ?_
        exact qr_loc (q_leS (q_leS (q_leS (q_leS (q_leS (q_leS q_le0)))))) (hK7 a2 a3 a4 x4 m3)
      · refine qr_aload_n o (q_dm dm_X7_leastPrice 14 rfl) rfl ?_
        refine qr_getr (kf := 1) o cf_X10 (shT0 j r ht) rfl (Nat.le_of_ble_eq_true rfl) fl_X7_119 (q_dm dm_X7_leastPrice 15 rfl) ?_
        refine qr_iload o (q_dm dm_X7_leastPrice 16 rfl) rfl ?_
        refine qr_bipush o (q_dm dm_X7_leastPrice 17 rfl) bi_12 ?_
        refine qr_imul o (q_dm dm_X7_leastPrice 18 rfl) ?_
        refine qr_iload_n o (q_dm dm_X7_leastPrice 19 rfl) rfl ?_
        refine qr_iadd o (q_dm dm_X7_leastPrice 20 rfl) ?_
        refine qr_iald o (shT2 j r ht) (q_dm dm_X7_leastPrice 21 rfl) ?_
        refine qr_if_le (tgt := 63) o (q_dm dm_X7_leastPrice 22 rfl) (by decide) ?_ ?_
        · refine qs_iincl2 (L' := fun x5 => [some (.inr (some 56)), some (.inr (some t)), some (.inl a2), some (.inl a3), some (.inl a4), some (.inl x5)]) o (q_dm dm_X7_leastPrice 33 rfl) rfl ic_1 (Nat.le_of_ble_eq_true rfl) (fun _ => rfl) (fun x5 => ?_)
          refine qr_goto (tgt := 7) o (q_dm dm_X7_leastPrice 34 rfl) (by decide) ?_
          exact qr_loc (q_leS (q_leS (q_leS (q_leS (q_leS (q_leS q_le0)))))) (hK7 a2 a3 a4 x5 m3)
        · refine qr_iload o (q_dm dm_X7_leastPrice 23 rfl) rfl ?_
          refine qr_aload_n o (q_dm dm_X7_leastPrice 24 rfl) rfl ?_
          refine qr_getr (kf := 2) o cf_X7 (sh56 j r) rfl (Nat.le_of_ble_eq_true rfl) fl_X7_41 (q_dm dm_X7_leastPrice 25 rfl) ?_
          refine qr_aload_n o (q_dm dm_X7_leastPrice 26 rfl) rfl ?_
          refine qr_iload_n o (q_dm dm_X7_leastPrice 27 rfl) rfl ?_
          refine qr_iload_n o (q_dm dm_X7_leastPrice 28 rfl) rfl ?_
          refine qr_iload o (q_dm dm_X7_leastPrice 29 rfl) rfl ?_
          refine qr_callv_i (As := [.inr (some t), .inl a2, .inl a3, .inl a5]) (S := [.inl a4]) o (a_X0_price g k.2.1 n j r hj hr ht a2 a3 a5 m3) (Nat.le_of_ble_eq_true rfl) zv_X0_price rfl cf_X0 (sh44 j r) ml_X7_140 (Nat.le_of_ble_eq_true rfl) (q_dm dm_X7_leastPrice 30 rfl) (fun r6 m7 => ?_)
          refine qr_min o ml_X7_146 (by omega) (Nat.le_of_ble_eq_true rfl) (q_dm dm_X7_leastPrice 31 rfl) ?_
          refine qr_lt (fun x8 => ?_)
          refine qs_istore (L' := [some (.inr (some 56)), some (.inr (some t)), some (.inl a2), some (.inl a3), some (.inl x8), some (.inl a5)]) o (q_dm dm_X7_leastPrice 32 rfl) (Nat.le_of_ble_eq_true rfl) rfl ?_
          refine qs_iincl2 (L' := fun x9 => [some (.inr (some 56)), some (.inr (some t)), some (.inl a2), some (.inl a3), some (.inl x8), some (.inl x9)]) o (q_dm dm_X7_leastPrice 33 rfl) rfl ic_1 (Nat.le_of_ble_eq_true rfl) (fun _ => rfl) (fun x9 => ?_)
          refine qr_goto (tgt := 7) o (q_dm dm_X7_leastPrice 34 rfl) (by decide) ?_
          exact qr_loc (q_leS (q_leS (q_leS (q_leS (q_leS (q_leS q_le0)))))) (hK7 a2 a3 x8 x9 m7)

def f_X7_leastPrice_7 (n : Nat) (t j : Nat) : Nat → Int32 → Int32 → Int32 → Int32 → qM → qR
  | 0, _, _, _, _, _ => none
  | m + 1, a2, a3, a4, a5, M => b_X7_leastPrice_7 n t j (f_X7_leastPrice_7 n t j m) a2 a3 a4 a5 M
theorem w_X7_leastPrice_7 {g : qG} {k : qK} (n : Nat) (j r : Nat) (hj : q_isLaw j) (hr : q_isLaw r) {t : Nat} (ht : q_isTown t) (o : qOk g 4 zX7_leastPrice k) : ∀ (m : Nat) (a2 a3 a4 a5 : Int32) (M : qM), qAE g k zX7_leastPrice (qL j r) 7 [some (.inr (some 56)), some (.inr (some t)), some (.inl a2), some (.inl a3), some (.inl a4), some (.inl a5)] [] (qL j r, M) (f_X7_leastPrice_7 n t j m a2 a3 a4 a5 M) := by
  intro m
  induction m with
  | zero =>
    intro a2 a3 a4 a5 M
    exact qr_none
  | succ m ih =>
    intro a2 a3 a4 a5 M
    exact wb_X7_leastPrice_7 n j r hj hr ht o (f_X7_leastPrice_7 n t j m) ih a2 a3 a4 a5 M
def f_X7_leastPrice (n : Nat) (t j : Nat) (a2 a3 : Int32) (M : qM) : qR :=
  f_X7_leastPrice_7 n t j n a2 a3 (1048576 : Int32) (0 : Int32) M
set_option maxRecDepth 4000 in
theorem w_X7_leastPrice {g : qG} {k : qK} (n : Nat) (j r : Nat) (hj : q_isLaw j) (hr : q_isLaw r) {t : Nat} (ht : q_isTown t) (o : qOk g 4 zX7_leastPrice k) (a2 a3 : Int32) (M : qM) : qAE g k zX7_leastPrice (qL j r) 0 [some (.inr (some 56)), some (.inr (some t)), some (.inl a2), some (.inl a3), none, none] [] (qL j r, M) (f_X7_leastPrice n t j a2 a3 M) := by
  unfold f_X7_leastPrice
  refine qr_ldc o (q_dm dm_X7_leastPrice 0 rfl) kc_X7_95 ?_
  refine qs_istore (L' := [some (.inr (some 56)), some (.inr (some t)), some (.inl a2), some (.inl a3), some (.inl (1048576 : Int32)), none]) o (q_dm dm_X7_leastPrice 1 rfl) (Nat.le_of_ble_eq_true rfl) rfl ?_
  refine qr_iconst o (q_dm dm_X7_leastPrice 2 rfl) ic_0 ?_
  refine qs_istore (L' := [some (.inr (some 56)), some (.inr (some t)), some (.inl a2), some (.inl a3), some (.inl (1048576 : Int32)), some (.inl (0 : Int32))]) o (q_dm dm_X7_leastPrice 3 rfl) (Nat.le_of_ble_eq_true rfl) rfl ?_
  exact qr_loc (q_leS (q_leS (q_leS (q_leS (q_leS (q_leS q_le0)))))) (w_X7_leastPrice_7 n j r hj hr ht o n a2 a3 (1048576 : Int32) (0 : Int32) M)

theorem a_X7_leastPrice (g : qG) (l : Launch) (n : Nat) (j r : Nat) (hj : q_isLaw j) (hr : q_isLaw r) {t : Nat} (ht : q_isTown t) (a2 a3 : Int32) (M : qM) : qAM g l 4 zX7_leastPrice (qL j r) [.inr (some 56), .inr (some t), .inl a2, .inl a3] (qL j r, M) (f_X7_leastPrice n t j a2 a3 M) :=
  qAM.of zv_X7_leastPrice.1 (by show 4 ≤ 6; decide) (fun k hk o => w_X7_leastPrice n j r hj hr ht o a2 a3 M)
def tb_X7_extraAt : List (Nat × Instr × Nat) := [(0, (.iload_n 0, 1)), (1, (.iconst 2, 1)), (2, (.iload_n 1, 1)), (3, (.imul, 1)), (4, (.ishr, 1)), (5, (.iconst 3, 1)), (6, (.iand, 1)), (7, (.ireturn, 1))]
theorem dm_X7_extraAt : ∀ q ∈ tb_X7_extraAt, decode zX7_extraAt.2.1 q.1 = .ok q.2 := by decide +kernel
def f_X7_extraAt (n : Nat) (a0 a1 : Int32) (M : qM) : qR :=
  some (((a0 >>> (((2 : Int32) * a1) &&& 31)) &&& (3 : Int32)), M)
set_option maxRecDepth 4000 in
theorem w_X7_extraAt {g : qG} {k : qK} (n : Nat) (j r : Nat) (hj : q_isLaw j) (hr : q_isLaw r) (o : qOk g 0 zX7_extraAt k) (a0 a1 : Int32) (M : qM) : qAE g k zX7_extraAt (qL j r) 0 [some (.inl a0), some (.inl a1)] [] (qL j r, M) (f_X7_extraAt n a0 a1 M) := by
  unfold f_X7_extraAt
  refine qr_iload_n o (q_dm dm_X7_extraAt 0 rfl) rfl ?_
  refine qr_iconst o (q_dm dm_X7_extraAt 1 rfl) ic_2 ?_
  refine qr_iload_n o (q_dm dm_X7_extraAt 2 rfl) rfl ?_
  refine qr_imul o (q_dm dm_X7_extraAt 3 rfl) ?_
  refine qr_ishr o (q_dm dm_X7_extraAt 4 rfl) ?_
  refine qr_iconst o (q_dm dm_X7_extraAt 5 rfl) ic_3 ?_
  refine qr_iand o (q_dm dm_X7_extraAt 6 rfl) ?_
  exact qr_iret o rfl rfl (q_dm dm_X7_extraAt 7 rfl)

theorem a_X7_extraAt (g : qG) (l : Launch) (n : Nat) (j r : Nat) (hj : q_isLaw j) (hr : q_isLaw r) (a0 a1 : Int32) (M : qM) : qAM g l 0 zX7_extraAt (qL j r) [.inl a0, .inl a1] (qL j r, M) (f_X7_extraAt n a0 a1 M) :=
  qAM.of zs_X7_extraAt.1 (by show 2 ≤ 2; decide) (fun k hk o => w_X7_extraAt n j r hj hr o a0 a1 M)
def tb_X7_wouldCount : List (Nat × Instr × Nat) := [(0, (.aload_n 0, 1)), (1, (.getfield 21, 3)), (4, (.iload_n 2, 1)), (5, (.iaload, 1)), (6, (.iconst (-1), 1)), (7, (.if_icmp .eq 19, 3)), (10, (.aload_n 0, 1)), (11, (.getfield 21, 3)), (14, (.iload_n 2, 1)), (15, (.iaload, 1)), (16, (.iload_n 1, 1)), (17, (.bipush 8, 2)), (19, (.ishr, 1)), (20, (.iconst (-1), 1)), (21, (.ixor, 1)), (22, (.iand, 1)), (23, (.ifCond .eq 5, 3)), (26, (.iconst 0, 1)), (27, (.ireturn, 1)), (28, (.aload_n 0, 1)), (29, (.getfield 15, 3)), (32, (.iload_n 2, 1)), (33, (.iaload, 1)), (34, (.istore_n 3, 1)), (35, (.iconst 0, 1)), (36, (.istore 4, 2)), (38, (.iload 4, 2)), (40, (.aload_n 0, 1)), (41, (.getfield 45, 3)), (44, (.if_icmp .ge 37, 3)), (47, (.iload_n 3, 1)), (48, (.aload_n 0, 1)), (49, (.getfield 18, 3)), (52, (.iload_n 2, 1)), (53, (.iaload, 1)), (54, (.iload 4, 2)), (56, (.ishr, 1)), (57, (.iconst 1, 1)), (58, (.iand, 1)), (59, (.iconst 1, 1)), (60, (.if_icmp .ne 12, 3)), (63, (.iload_n 1, 1)), (64, (.iload 4, 2)), (66, (.invokestatic 151, 3)), (69, (.goto 4, 3)), (72, (.iconst 0, 1)), (73, (.iadd, 1)), (74, (.istore_n 3, 1)), (75, (.iinc 4 1, 3)), (78, (.goto (-40), 3)), (81, (.iload_n 3, 1)), (82, (.aload_n 0, 1)), (83, (.getfield 27, 3)), (86, (.iload_n 2, 1)), (87, (.iconst 4, 1)), (88, (.imul, 1)), (89, (.iload_n 1, 1)), (90, (.iload_n 2, 1)), (91, (.invokestatic 151, 3)), (94, (.iadd, 1)), (95, (.iaload, 1)), (96, (.if_icmp .lt 7, 3)), (99, (.iconst 1, 1)), (100, (.goto 4, 3)), (103, (.iconst 0, 1)), (104, (.ireturn, 1))]
theorem dm_X7_wouldCount : ∀ q ∈ tb_X7_wouldCount, decode zX7_wouldCount.2.1 q.1 = .ok q.2 := by decide +kernel
def f_X7_wouldCount_73 (n : Nat) (K38 : Int32 → Int32 → Int32 → Int32 → qM → qR) (a1 a2 a4 s0 s1 : Int32) (M : qM) : qR :=
  ql (s0 + s1) (fun x1 => ql (a4 + (1 : Int32)) (fun x2 => K38 a1 a2 x1 x2 M))
set_option maxRecDepth 4000 in
theorem w_X7_wouldCount_73 {g : qG} {k : qK} (n : Nat) (j r : Nat) (hj : q_isLaw j) (hr : q_isLaw r) (o : qOk g 1 zX7_wouldCount k) (K38 : Int32 → Int32 → Int32 → Int32 → qM → qR) (hK38 : ∀ (a1 a2 a3 a4 : Int32) (M : qM), qAE g k zX7_wouldCount (qL j r) 38 [some (.inr (some 56)), some (.inl a1), some (.inl a2), some (.inl a3), some (.inl a4)] [] (qL j r, M) (K38 a1 a2 a3 a4 M)) (a1 a2 a4 s0 s1 : Int32) (M : qM) : qAE g k zX7_wouldCount (qL j r) 73 [some (.inr (some 56)), some (.inl a1), some (.inl a2), none, some (.inl a4)] [.inl s1, .inl s0] (qL j r, M) (f_X7_wouldCount_73 n K38 a1 a2 a4 s0 s1 M) := by
  unfold f_X7_wouldCount_73
  refine qr_iadd o (q_dm dm_X7_wouldCount 46 rfl) ?_
  refine qr_lt (fun x1 => ?_)
  refine qs_istore_n (L' := [some (.inr (some 56)), some (.inl a1), some (.inl a2), some (.inl x1), some (.inl a4)]) o (q_dm dm_X7_wouldCount 47 rfl) (Nat.le_of_ble_eq_true rfl) rfl ?_
  refine qs_iincl2 (L' := fun x2 => [some (.inr (some 56)), some (.inl a1), some (.inl a2), some (.inl x1), some (.inl x2)]) o (q_dm dm_X7_wouldCount 48 rfl) rfl ic_1 (Nat.le_of_ble_eq_true rfl) (fun _ => rfl) (fun x2 => ?_)
  refine qr_goto (tgt := 38) o (q_dm dm_X7_wouldCount 49 rfl) (by decide) ?_
  exact qr_loc (q_leS (q_leS (q_leS (q_leS (q_leS q_le0))))) (hK38 a1 a2 x1 x2 M)

def b_X7_wouldCount_38 (n : Nat) (K38 : Int32 → Int32 → Int32 → Int32 → qM → qR) (a1 a2 a3 a4 : Int32) (M : qM) : qR :=
  (if (M 56 10) ≤ a4 then qc (f_X7_extraAt n a1 a2 M) (fun r1 m2 => qg ((a2 * (4 : Int32)) + r1) 16 ((if a3 < (m2 62 ((a2 * (4 : Int32)) + r1).toNatClampNeg) then some ((0 : Int32), m2) else some ((1 : Int32), m2)))) else qg a2 4 ((if (((M 59 a2.toNatClampNeg) >>> (a4 &&& 31)) &&& (1 : Int32)) = (1 : Int32) then qc (f_X7_extraAt n a1 a4 M) (fun r3 m4 => f_X7_wouldCount_73 n K38 a1 a2 a4 a3 r3 m4) else f_X7_wouldCount_73 n K38 a1 a2 a4 a3 (0 : Int32) M)))
set_option maxRecDepth 4000 in
theorem wb_X7_wouldCount_38 {g : qG} {k : qK} (n : Nat) (j r : Nat) (hj : q_isLaw j) (hr : q_isLaw r) (o : qOk g 1 zX7_wouldCount k) (K38 : Int32 → Int32 → Int32 → Int32 → qM → qR) (hK38 : ∀ (a1 a2 a3 a4 : Int32) (M : qM), qAE g k zX7_wouldCount (qL j r) 38 [some (.inr (some 56)), some (.inl a1), some (.inl a2), some (.inl a3), some (.inl a4)] [] (qL j r, M) (K38 a1 a2 a3 a4 M)) (a1 a2 a3 a4 : Int32) (M : qM) : qAE g k zX7_wouldCount (qL j r) 38 [some (.inr (some 56)), some (.inl a1), some (.inl a2), some (.inl a3), some (.inl a4)] [] (qL j r, M) (b_X7_wouldCount_38 n K38 a1 a2 a3 a4 M) := by
  unfold b_X7_wouldCount_38
  refine qr_iload o (q_dm dm_X7_wouldCount 26 rfl) rfl ?_
  refine qr_aload_n o (q_dm dm_X7_wouldCount 27 rfl) rfl ?_
  refine qr_getf (kf := 10) o cf_X7 (sh56 j r) rfl (Nat.le_of_ble_eq_true rfl) fl_X7_45 (q_dm dm_X7_wouldCount 28 rfl) ?_
  refine qr_icmp_ge (tgt := 81) o (q_dm dm_X7_wouldCount 29 rfl) (by decide) ?_ ?_
  · refine qr_iload_n o (q_dm dm_X7_wouldCount 50 rfl) rfl ?_
    refine qr_aload_n o (q_dm dm_X7_wouldCount 51 rfl) rfl ?_
    refine qr_getr (kf := 8) o cf_X7 (sh56 j r) rfl (Nat.le_of_ble_eq_true rfl) fl_X7_27 (q_dm dm_X7_wouldCount 52 rfl) ?_
    refine qr_iload_n o (q_dm dm_X7_wouldCount 53 rfl) rfl ?_
    refine qr_iconst o (q_dm dm_X7_wouldCount 54 rfl) ic_4 ?_
    refine qr_imul o (q_dm dm_X7_wouldCount 55 rfl) ?_
    refine qr_iload_n o (q_dm dm_X7_wouldCount 56 rfl) rfl ?_
    refine qr_iload_n o (q_dm dm_X7_wouldCount 57 rfl) rfl ?_
    refine qr_calls_i (As := [.inl a1, .inl a2]) (S := [.inl (a2 * (4 : Int32)), .inr (some 62), .inl a3]) o (a_X7_extraAt g k.2.1 n j r hj hr a1 a2 M) (Nat.le_of_ble_eq_true rfl) zs_X7_extraAt rfl ml_X7_151 (Nat.le_of_ble_eq_true rfl) (q_dm dm_X7_wouldCount 58 rfl) (fun r1 m2 => ?_)
    refine qr_iadd o (q_dm dm_X7_wouldCount 59 rfl) ?_
    refine qr_iald o (sh62 j r) (q_dm dm_X7_wouldCount 60 rfl) ?_
    refine qr_icmp_lt (tgt := 103) o (q_dm dm_X7_wouldCount 61 rfl) (by decide) ?_ ?_
    · refine qr_iconst o (q_dm dm_X7_wouldCount 64 rfl) ic_0 ?_
      exact qr_iret o rfl (by decide) (q_dm dm_X7_wouldCount 65 rfl)
    · refine qr_iconst o (q_dm dm_X7_wouldCount 62 rfl) ic_1 ?_
      refine qr_goto (tgt := 104) o (q_dm dm_X7_wouldCount 63 rfl) (by decide) ?_
      exact qr_iret o rfl (by decide) (q_dm dm_X7_wouldCount 65 rfl)
  · refine qr_iload_n o (q_dm dm_X7_wouldCount 30 rfl) rfl ?_
    refine qr_aload_n o (q_dm dm_X7_wouldCount 31 rfl) rfl ?_
    refine qr_getr (kf := 5) o cf_X7 (sh56 j r) rfl (Nat.le_of_ble_eq_true rfl) fl_X7_18 (q_dm dm_X7_wouldCount 32 rfl) ?_
    refine qr_iload_n o (q_dm dm_X7_wouldCount 33 rfl) rfl ?_
    refine qr_iald o (sh59 j r) (q_dm dm_X7_wouldCount 34 rfl) ?_
    refine qr_iload o (q_dm dm_X7_wouldCount 35 rfl) rfl ?_
    refine qr_ishr o (q_dm dm_X7_wouldCount 36 rfl) ?_
    refine qr_iconst o (q_dm dm_X7_wouldCount 37 rfl) ic_1 ?_
    refine qr_iand o (q_dm dm_X7_wouldCount 38 rfl) ?_
    refine qr_iconst o (q_dm dm_X7_wouldCount 39 rfl) ic_1 ?_
    refine qr_icmp_ne (tgt := 72) o (q_dm dm_X7_wouldCount 40 rfl) (by decide) ?_ ?_
    · refine qr_iconst o (q_dm dm_X7_wouldCount 45 rfl) ic_0 ?_
      exact qr_loc (q_leS (q_leS (q_leS (q_leN (q_leS q_le0))))) (w_X7_wouldCount_73 n j r hj hr o K38 hK38 a1 a2 a4 a3 (0 : Int32) M)
    · refine qr_iload_n o (q_dm dm_X7_wouldCount 41 rfl) rfl ?_
      refine qr_iload o (q_dm dm_X7_wouldCount 42 rfl) rfl ?_
      refine qr_calls_i (As := [.inl a1, .inl a4]) (S := [.inl a3]) o (a_X7_extraAt g k.2.1 n j r hj hr a1 a4 M) (Nat.le_of_ble_eq_true rfl) zs_X7_extraAt rfl ml_X7_151 (Nat.le_of_ble_eq_true rfl) (q_dm dm_X7_wouldCount 43 rfl) (fun r3 m4 => ?_)
      refine qr_goto (tgt := 73) o (q_dm dm_X7_wouldCount 44 rfl) (by decide) ?_
      exact qr_loc (q_leS (q_leS (q_leS (q_leN (q_leS q_le0))))) (w_X7_wouldCount_73 n j r hj hr o K38 hK38 a1 a2 a4 a3 r3 m4)

def f_X7_wouldCount_38 (n : Nat) : Nat → Int32 → Int32 → Int32 → Int32 → qM → qR
  | 0, _, _, _, _, _ => none
  | m + 1, a1, a2, a3, a4, M => b_X7_wouldCount_38 n (f_X7_wouldCount_38 n m) a1 a2 a3 a4 M
theorem w_X7_wouldCount_38 {g : qG} {k : qK} (n : Nat) (j r : Nat) (hj : q_isLaw j) (hr : q_isLaw r) (o : qOk g 1 zX7_wouldCount k) : ∀ (m : Nat) (a1 a2 a3 a4 : Int32) (M : qM), qAE g k zX7_wouldCount (qL j r) 38 [some (.inr (some 56)), some (.inl a1), some (.inl a2), some (.inl a3), some (.inl a4)] [] (qL j r, M) (f_X7_wouldCount_38 n m a1 a2 a3 a4 M) := by
  intro m
  induction m with
  | zero =>
    intro a1 a2 a3 a4 M
    exact qr_none
  | succ m ih =>
    intro a1 a2 a3 a4 M
    exact wb_X7_wouldCount_38 n j r hj hr o (f_X7_wouldCount_38 n m) ih a1 a2 a3 a4 M
def f_X7_wouldCount (n : Nat) (a1 a2 : Int32) (M : qM) : qR :=
  qg a2 4 ((if (M 60 a2.toNatClampNeg) = (-1 : Int32) then some ((0 : Int32), M) else qg a2 4 ((if ((M 60 a2.toNatClampNeg) &&& ((a1 >>> ((8 : Int32) &&& 31)) ^^^ (-1 : Int32))) = (0 : Int32) then qg a2 4 (ql (M 58 a2.toNatClampNeg) (fun x1 => f_X7_wouldCount_38 n n a1 a2 x1 (0 : Int32) M)) else some ((0 : Int32), M)))))
set_option maxRecDepth 4000 in
theorem w_X7_wouldCount {g : qG} {k : qK} (n : Nat) (j r : Nat) (hj : q_isLaw j) (hr : q_isLaw r) (o : qOk g 1 zX7_wouldCount k) (a1 a2 : Int32) (M : qM) : qAE g k zX7_wouldCount (qL j r) 0 [some (.inr (some 56)), some (.inl a1), some (.inl a2), none, none] [] (qL j r, M) (f_X7_wouldCount n a1 a2 M) := by
  unfold f_X7_wouldCount
  refine qr_aload_n o (q_dm dm_X7_wouldCount 0 rfl) rfl ?_
  refine qr_getr (kf := 6) o cf_X7 (sh56 j r) rfl (Nat.le_of_ble_eq_true rfl) fl_X7_21 (q_dm dm_X7_wouldCount 1 rfl) ?_
  refine qr_iload_n o (q_dm dm_X7_wouldCount 2 rfl) rfl ?_
  refine qr_iald o (sh60 j r) (q_dm dm_X7_wouldCount 3 rfl) ?_
  refine qr_iconst o (q_dm dm_X7_wouldCount 4 rfl) ic_m1 ?_
  refine qr_icmp_eq (tgt := 26) o (q_dm dm_X7_wouldCount 5 rfl) (by decide) ?_ ?_
  · refine qr_iconst o (q_dm dm_X7_wouldCount 17 rfl) ic_0 ?_
    exact qr_iret o rfl (by decide) (q_dm dm_X7_wouldCount 18 rfl)
  · refine qr_aload_n o (q_dm dm_X7_wouldCount 6 rfl) rfl ?_
    refine qr_getr (kf := 6) o cf_X7 (sh56 j r) rfl (Nat.le_of_ble_eq_true rfl) fl_X7_21 (q_dm dm_X7_wouldCount 7 rfl) ?_
    refine qr_iload_n o (q_dm dm_X7_wouldCount 8 rfl) rfl ?_
    refine qr_iald o (sh60 j r) (q_dm dm_X7_wouldCount 9 rfl) ?_
    refine qr_iload_n o (q_dm dm_X7_wouldCount 10 rfl) rfl ?_
    refine qr_bipush o (q_dm dm_X7_wouldCount 11 rfl) bi_8 ?_
    refine qr_ishr o (q_dm dm_X7_wouldCount 12 rfl) ?_
    refine qr_iconst o (q_dm dm_X7_wouldCount 13 rfl) ic_m1 ?_
    refine qr_ixor o (q_dm dm_X7_wouldCount 14 rfl) ?_
    refine qr_iand o (q_dm dm_X7_wouldCount 15 rfl) ?_
    refine qr_if_eq (tgt := 28) o (q_dm dm_X7_wouldCount 16 rfl) (by decide) ?_ ?_
    · refine qr_aload_n o (q_dm dm_X7_wouldCount 19 rfl) rfl ?_
      refine qr_getr (kf := 4) o cf_X7 (sh56 j r) rfl (Nat.le_of_ble_eq_true rfl) fl_X7_15 (q_dm dm_X7_wouldCount 20 rfl) ?_
      refine qr_iload_n o (q_dm dm_X7_wouldCount 21 rfl) rfl ?_
      refine qr_iald o (sh58 j r) (q_dm dm_X7_wouldCount 22 rfl) ?_
      refine qr_lt (fun x1 => ?_)
      refine qs_istore_n (L' := [some (.inr (some 56)), some (.inl a1), some (.inl a2), some (.inl x1), none]) o (q_dm dm_X7_wouldCount 23 rfl) (Nat.le_of_ble_eq_true rfl) rfl ?_
      refine qr_iconst o (q_dm dm_X7_wouldCount 24 rfl) ic_0 ?_
      refine qs_istore (L' := [some (.inr (some 56)), some (.inl a1), some (.inl a2), some (.inl x1), some (.inl (0 : Int32))]) o (q_dm dm_X7_wouldCount 25 rfl) (Nat.le_of_ble_eq_true rfl) rfl ?_
      exact qr_loc (q_leS (q_leS (q_leS (q_leS (q_leS q_le0))))) (w_X7_wouldCount_38 n j r hj hr o n a1 a2 x1 (0 : Int32) M)
    · refine qr_iconst o (q_dm dm_X7_wouldCount 17 rfl) ic_0 ?_
      exact qr_iret o rfl (by decide) (q_dm dm_X7_wouldCount 18 rfl)

theorem a_X7_wouldCount (g : qG) (l : Launch) (n : Nat) (j r : Nat) (hj : q_isLaw j) (hr : q_isLaw r) (a1 a2 : Int32) (M : qM) : qAM g l 1 zX7_wouldCount (qL j r) [.inr (some 56), .inl a1, .inl a2] (qL j r, M) (f_X7_wouldCount n a1 a2 M) :=
  qAM.of zv_X7_wouldCount.1 (by show 3 ≤ 5; decide) (fun k hk o => w_X7_wouldCount n j r hj hr o a1 a2 M)
def tb_X7_bestWay : List (Nat × Instr × Nat) := [(0, (.iload_n 2, 1)), (1, (.sipush 2048, 3)), (4, (.imul, 1)), (5, (.iload_n 1, 1)), (6, (.iadd, 1)), (7, (.istore 4, 2)), (9, (.iload 4, 2)), (11, (.ifCond .lt 19, 3)), (14, (.iload 4, 2)), (16, (.aload_n 0, 1)), (17, (.getfield 30, 3)), (20, (.arraylength, 1)), (21, (.if_icmp .ge 9, 3)), (24, (.iload_n 3, 1)), (25, (.bipush 12, 2)), (27, (.if_icmp .le 6, 3)), (30, (.ldc 95, 2)), (32, (.ireturn, 1)), (33, (.aload_n 0, 1)), (34, (.getfield 30, 3)), (37, (.iload 4, 2)), (39, (.iaload, 1)), (40, (.iconst (-1), 1)), (41, (.if_icmp .eq 11, 3)), (44, (.aload_n 0, 1)), (45, (.getfield 30, 3)), (48, (.iload 4, 2)), (50, (.iaload, 1)), (51, (.ireturn, 1)), (52, (.ldc 95, 2)), (54, (.istore 5, 2)), (56, (.iconst 0, 1)), (57, (.istore 6, 2)), (59, (.iload 6, 2)), (61, (.aload_n 0, 1)), (62, (.getfield 45, 3)), (65, (.if_icmp .ge 149, 3)), (68, (.iload_n 1, 1)), (69, (.iload 6, 2)), (71, (.invokestatic 151, 3)), (74, (.iconst 3, 1)), (75, (.if_icmp .ge 133, 3)), (78, (.iload_n 1, 1)), (79, (.iconst 1, 1)), (80, (.iconst 2, 1)), (81, (.iload 6, 2)), (83, (.imul, 1)), (84, (.ishl, 1)), (85, (.iadd, 1)), (86, (.istore 7, 2)), (88, (.aload_n 0, 1)), (89, (.iload_n 1, 1)), (90, (.iload 6, 2)), (92, (.invokevirtual 154, 3)), (95, (.istore 8, 2)), (97, (.iload 8, 2)), (99, (.ifCond .eq 22, 3)), (102, (.iload 6, 2)), (104, (.iconst 3, 1)), (105, (.if_icmp .ge 16, 3)), (108, (.iload 7, 2)), (110, (.iconst 1, 1)), (111, (.bipush 8, 2)), (113, (.iload 6, 2)), (115, (.iadd, 1)), (116, (.ishl, 1)), (117, (.ior, 1)), (118, (.goto 5, 3)), (121, (.iload 7, 2)), (123, (.istore 9, 2)), (125, (.iload 8, 2)), (127, (.ifCond .eq 16, 3)), (130, (.iload 6, 2)), (132, (.aload_n 0, 1)), (133, (.getfield 49, 3)), (136, (.if_icmp .ne 7, 3)), (139, (.iconst 0, 1)), (140, (.goto 13, 3)), (143, (.aload_n 0, 1)), (144, (.iload 9, 2)), (146, (.iload_n 2, 1)), (147, (.iload_n 3, 1)), (148, (.iconst 1, 1)), (149, (.iadd, 1)), (150, (.invokevirtual 88, 3)), (153, (.istore 10, 2)), (155, (.iload 5, 2)), (157, (.bipush 16, 2)), (159, (.aload_n 0, 1)), (160, (.getfield 33, 3)), (163, (.getfield 109, 3)), (166, (.aload_n 0, 1)), (167, (.getfield 9, 3)), (170, (.iload 6, 2)), (172, (.iaload, 1)), (173, (.iaload, 1)), (174, (.imul, 1)), (175, (.iconst 1, 1)), (176, (.iadd, 1)), (177, (.iload 10, 2)), (179, (.iadd, 1)), (180, (.invokestatic 146, 3)), (183, (.istore 5, 2)), (185, (.iload_n 2, 1)), (186, (.ifCond .le 22, 3)), (189, (.iload 5, 2)), (191, (.aload_n 0, 1)), (192, (.iload 7, 2)), (194, (.iload_n 2, 1)), (195, (.iconst 1, 1)), (196, (.isub, 1)), (197, (.iload_n 3, 1)), (198, (.iconst 1, 1)), (199, (.iadd, 1)), (200, (.invokevirtual 88, 3)), (203, (.invokestatic 146, 3)), (206, (.istore 5, 2)), (208, (.iinc 6 1, 3)), (211, (.goto (-152), 3)), (214, (.aload_n 0, 1)), (215, (.getfield 30, 3)), (218, (.iload 4, 2)), (220, (.iload 5, 2)), (222, (.iastore, 1)), (223, (.iload 5, 2)), (225, (.ireturn, 1))]
theorem dm_X7_bestWay : ∀ q ∈ tb_X7_bestWay, decode zX7_bestWay.2.1 q.1 = .ok q.2 := by decide +kernel
def f_X7_bestWay_153 (n : Nat) (F_X7_bestWay : Int32 → Int32 → Int32 → qM → qR) (K59 : Int32 → Int32 → Int32 → Int32 → Int32 → Int32 → qM → qR) (a1 a2 a3 a4 a5 a6 a7 s0 : Int32) (M : qM) : qR :=
  qg a6 4 (qg (M 57 a6.toNatClampNeg) 12 (ql (qmin a5 ((((16 : Int32) * (M 4 (M 57 a6.toNatClampNeg).toNatClampNeg)) + (1 : Int32)) + s0)) (fun x1 => (if a2 ≤ (0 : Int32) then ql (a6 + (1 : Int32)) (fun x2 => K59 a1 a2 a3 a4 x1 x2 M) else qc (F_X7_bestWay a7 (a2 - (1 : Int32)) (a3 + (1 : Int32)) M) (fun r3 m4 => ql (qmin x1 r3) (fun x5 => ql (a6 + (1 : Int32)) (fun x6 => K59 a1 a2 a3 a4 x5 x6 m4)))))))
set_option maxRecDepth 4000 in
theorem w_X7_bestWay_153 {g : qG} {k : qK} (n : Nat) (j r : Nat) (hj : q_isLaw j) (hr : q_isLaw r) {d1 d : Nat} (hd1 : d1 + 1 ≤ d) (hdn : 2 ≤ d) (F_X7_bestWay : Int32 → Int32 → Int32 → qM → qR) (hF_X7_bestWay : ∀ (b1 b2 b3 : Int32) (M : qM), qAM g k.2.1 d1 zX7_bestWay (qL j r) [.inr (some 56), .inl b1, .inl b2, .inl b3] (qL j r, M) (F_X7_bestWay b1 b2 b3 M)) (o : qOk g d zX7_bestWay k) (K59 : Int32 → Int32 → Int32 → Int32 → Int32 → Int32 → qM → qR) (hK59 : ∀ (a1 a2 a3 a4 a5 a6 : Int32) (M : qM), qAE g k zX7_bestWay (qL j r) 59 [some (.inr (some 56)), some (.inl a1), some (.inl a2), some (.inl a3), some (.inl a4), some (.inl a5), some (.inl a6), none, none, none, none] [] (qL j r, M) (K59 a1 a2 a3 a4 a5 a6 M)) (a1 a2 a3 a4 a5 a6 a7 s0 : Int32) (M : qM) : qAE g k zX7_bestWay (qL j r) 153 [some (.inr (some 56)), some (.inl a1), some (.inl a2), some (.inl a3), some (.inl a4), some (.inl a5), some (.inl a6), some (.inl a7), none, none, none] [.inl s0] (qL j r, M) (f_X7_bestWay_153 n F_X7_bestWay K59 a1 a2 a3 a4 a5 a6 a7 s0 M) := by
  unfold f_X7_bestWay_153
  refine qs_istore (L' := [some (.inr (some 56)), some (.inl a1), some (.inl a2), some (.inl a3), some (.inl a4), some (.inl a5), some (.inl a6), some (.inl a7), none, none, some (.inl s0)]) o (q_dm dm_X7_bestWay 85 rfl) (Nat.le_of_ble_eq_true rfl) rfl ?_
  refine qr_iload o (q_dm dm_X7_bestWay 86 rfl) rfl ?_
  refine qr_bipush o (q_dm dm_X7_bestWay 87 rfl) bi_16 ?_
  refine qr_aload_n o (q_dm dm_X7_bestWay 88 rfl) rfl ?_
  refine qr_getr (kf := 0) o cf_X7 (sh56 j r) rfl (Nat.le_of_ble_eq_true rfl) fl_X7_33 (q_dm dm_X7_bestWay 89 rfl) ?_
  refine qr_getr (kf := 0) o cf_X2 (sh3 j r) rfl (Nat.le_of_ble_eq_true rfl) fl_X7_109 (q_dm dm_X7_bestWay 90 rfl) ?_
  refine qr_aload_n o (q_dm dm_X7_bestWay 91 rfl) rfl ?_
  refine qr_getr (kf := 3) o cf_X7 (sh56 j r) rfl (Nat.le_of_ble_eq_true rfl) fl_X7_9 (q_dm dm_X7_bestWay 92 rfl) ?_
  refine qr_iload o (q_dm dm_X7_bestWay 93 rfl) rfl ?_
  refine qr_iald o (sh57 j r) (q_dm dm_X7_bestWay 94 rfl) ?_
  refine qr_iald o (sh4 j r) (q_dm dm_X7_bestWay 95 rfl) ?_
  refine qr_imul o (q_dm dm_X7_bestWay 96 rfl) ?_
  refine qr_iconst o (q_dm dm_X7_bestWay 97 rfl) ic_1 ?_
  refine qr_iadd o (q_dm dm_X7_bestWay 98 rfl) ?_
  refine qr_iload o (q_dm dm_X7_bestWay 99 rfl) rfl ?_
  refine qr_iadd o (q_dm dm_X7_bestWay 100 rfl) ?_
  refine qr_min o ml_X7_146 (by omega) (Nat.le_of_ble_eq_true rfl) (q_dm dm_X7_bestWay 101 rfl) ?_
  refine qr_lt (fun x1 => ?_)
  refine qs_istore (L' := [some (.inr (some 56)), some (.inl a1), some (.inl a2), some (.inl a3), some (.inl a4), some (.inl x1), some (.inl a6), some (.inl a7), none, none, some (.inl s0)]) o (q_dm dm_X7_bestWay 102 rfl) (Nat.le_of_ble_eq_true rfl) rfl ?_
  refine qr_iload_n o (q_dm dm_X7_bestWay 103 rfl) rfl ?_
  refine qr_if_le (tgt := 208) o (q_dm dm_X7_bestWay 104 rfl) (by decide) ?_ ?_
  · refine qs_iincl2 (L' := fun x2 => [some (.inr (some 56)), some (.inl a1), some (.inl a2), some (.inl a3), some (.inl a4), some (.inl x1), some (.inl x2), some (.inl a7), none, none, some (.inl s0)]) o (q_dm dm_X7_bestWay 117 rfl) rfl ic_1 (Nat.le_of_ble_eq_true rfl) (fun _ => rfl) (fun x2 => ?_)
    refine qr_goto (tgt := 59) o (q_dm dm_X7_bestWay 118 rfl) (by decide) ?_
    exact qr_loc (q_leS (q_leS (q_leS (q_leS (q_leS (q_leS (q_leS (q_leN (q_leN (q_leN (q_leN q_le0))))))))))) (hK59 a1 a2 a3 a4 x1 x2 M)
  · refine qr_iload o (q_dm dm_X7_bestWay 105 rfl) rfl ?_
    refine qr_aload_n o (q_dm dm_X7_bestWay 106 rfl) rfl ?_
    refine qr_iload o (q_dm dm_X7_bestWay 107 rfl) rfl ?_
    refine qr_iload_n o (q_dm dm_X7_bestWay 108 rfl) rfl ?_
    refine qr_iconst o (q_dm dm_X7_bestWay 109 rfl) ic_1 ?_
    refine qr_isub o (q_dm dm_X7_bestWay 110 rfl) ?_
    refine qr_iload_n o (q_dm dm_X7_bestWay 111 rfl) rfl ?_
    refine qr_iconst o (q_dm dm_X7_bestWay 112 rfl) ic_1 ?_
    refine qr_iadd o (q_dm dm_X7_bestWay 113 rfl) ?_
    refine qr_callv_i (As := [.inl a7, .inl (a2 - (1 : Int32)), .inl (a3 + (1 : Int32))]) (S := [.inl x1]) o (hF_X7_bestWay a7 (a2 - (1 : Int32)) (a3 + (1 : Int32)) M) (by omega) zv_X7_bestWay rfl cf_X7 (sh56 j r) ml_X7_88 (Nat.le_of_ble_eq_true rfl) (q_dm dm_X7_bestWay 114 rfl) (fun r3 m4 => ?_)
    refine qr_min o ml_X7_146 (by omega) (Nat.le_of_ble_eq_true rfl) (q_dm dm_X7_bestWay 115 rfl) ?_
    refine qr_lt (fun x5 => ?_)
    refine qs_istore (L' := [some (.inr (some 56)), some (.inl a1), some (.inl a2), some (.inl a3), some (.inl a4), some (.inl x5), some (.inl a6), some (.inl a7), none, none, some (.inl s0)]) o (q_dm dm_X7_bestWay 116 rfl) (Nat.le_of_ble_eq_true rfl) rfl ?_
    refine qs_iincl2 (L' := fun x6 => [some (.inr (some 56)), some (.inl a1), some (.inl a2), some (.inl a3), some (.inl a4), some (.inl x5), some (.inl x6), some (.inl a7), none, none, some (.inl s0)]) o (q_dm dm_X7_bestWay 117 rfl) rfl ic_1 (Nat.le_of_ble_eq_true rfl) (fun _ => rfl) (fun x6 => ?_)
    refine qr_goto (tgt := 59) o (q_dm dm_X7_bestWay 118 rfl) (by decide) ?_
    exact qr_loc (q_leS (q_leS (q_leS (q_leS (q_leS (q_leS (q_leS (q_leN (q_leN (q_leN (q_leN q_le0))))))))))) (hK59 a1 a2 a3 a4 x5 x6 m4)

def f_X7_bestWay_143 (n : Nat) (F_X7_bestWay : Int32 → Int32 → Int32 → qM → qR) (K59 : Int32 → Int32 → Int32 → Int32 → Int32 → Int32 → qM → qR) (a1 a2 a3 a4 a5 a6 a7 a9 : Int32) (M : qM) : qR :=
  qc (F_X7_bestWay a9 a2 (a3 + (1 : Int32)) M) (fun r1 m2 => f_X7_bestWay_153 n F_X7_bestWay K59 a1 a2 a3 a4 a5 a6 a7 r1 m2)
set_option maxRecDepth 4000 in
theorem w_X7_bestWay_143 {g : qG} {k : qK} (n : Nat) (j r : Nat) (hj : q_isLaw j) (hr : q_isLaw r) {d1 d : Nat} (hd1 : d1 + 1 ≤ d) (hdn : 2 ≤ d) (F_X7_bestWay : Int32 → Int32 → Int32 → qM → qR) (hF_X7_bestWay : ∀ (b1 b2 b3 : Int32) (M : qM), qAM g k.2.1 d1 zX7_bestWay (qL j r) [.inr (some 56), .inl b1, .inl b2, .inl b3] (qL j r, M) (F_X7_bestWay b1 b2 b3 M)) (o : qOk g d zX7_bestWay k) (K59 : Int32 → Int32 → Int32 → Int32 → Int32 → Int32 → qM → qR) (hK59 : ∀ (a1 a2 a3 a4 a5 a6 : Int32) (M : qM), qAE g k zX7_bestWay (qL j r) 59 [some (.inr (some 56)), some (.inl a1), some (.inl a2), some (.inl a3), some (.inl a4), some (.inl a5), some (.inl a6), none, none, none, none] [] (qL j r, M) (K59 a1 a2 a3 a4 a5 a6 M)) (a1 a2 a3 a4 a5 a6 a7 a9 : Int32) (M : qM) : qAE g k zX7_bestWay (qL j r) 143 [some (.inr (some 56)), some (.inl a1), some (.inl a2), some (.inl a3), some (.inl a4), some (.inl a5), some (.inl a6), some (.inl a7), none, some (.inl a9), none] [] (qL j r, M) (f_X7_bestWay_143 n F_X7_bestWay K59 a1 a2 a3 a4 a5 a6 a7 a9 M) := by
  unfold f_X7_bestWay_143
  refine qr_aload_n o (q_dm dm_X7_bestWay 78 rfl) rfl ?_
  refine qr_iload o (q_dm dm_X7_bestWay 79 rfl) rfl ?_
  refine qr_iload_n o (q_dm dm_X7_bestWay 80 rfl) rfl ?_
  refine qr_iload_n o (q_dm dm_X7_bestWay 81 rfl) rfl ?_
  refine qr_iconst o (q_dm dm_X7_bestWay 82 rfl) ic_1 ?_
  refine qr_iadd o (q_dm dm_X7_bestWay 83 rfl) ?_
  refine qr_callv_i (As := [.inl a9, .inl a2, .inl (a3 + (1 : Int32))]) (S := []) o (hF_X7_bestWay a9 a2 (a3 + (1 : Int32)) M) (by omega) zv_X7_bestWay rfl cf_X7 (sh56 j r) ml_X7_88 (Nat.le_of_ble_eq_true rfl) (q_dm dm_X7_bestWay 84 rfl) (fun r1 m2 => ?_)
  exact qr_loc (q_leS (q_leS (q_leS (q_leS (q_leS (q_leS (q_leS (q_leS (q_leN (q_leN (q_leN q_le0))))))))))) (w_X7_bestWay_153 n j r hj hr hd1 hdn F_X7_bestWay hF_X7_bestWay o K59 hK59 a1 a2 a3 a4 a5 a6 a7 r1 m2)

def f_X7_bestWay_123 (n : Nat) (F_X7_bestWay : Int32 → Int32 → Int32 → qM → qR) (K59 : Int32 → Int32 → Int32 → Int32 → Int32 → Int32 → qM → qR) (a1 a2 a3 a4 a5 a6 a7 a8 s0 : Int32) (M : qM) : qR :=
  (if a8 = (0 : Int32) then f_X7_bestWay_143 n F_X7_bestWay K59 a1 a2 a3 a4 a5 a6 a7 s0 M else (if a6 = (M 56 11) then f_X7_bestWay_153 n F_X7_bestWay K59 a1 a2 a3 a4 a5 a6 a7 (0 : Int32) M else f_X7_bestWay_143 n F_X7_bestWay K59 a1 a2 a3 a4 a5 a6 a7 s0 M))
set_option maxRecDepth 4000 in
theorem w_X7_bestWay_123 {g : qG} {k : qK} (n : Nat) (j r : Nat) (hj : q_isLaw j) (hr : q_isLaw r) {d1 d : Nat} (hd1 : d1 + 1 ≤ d) (hdn : 2 ≤ d) (F_X7_bestWay : Int32 → Int32 → Int32 → qM → qR) (hF_X7_bestWay : ∀ (b1 b2 b3 : Int32) (M : qM), qAM g k.2.1 d1 zX7_bestWay (qL j r) [.inr (some 56), .inl b1, .inl b2, .inl b3] (qL j r, M) (F_X7_bestWay b1 b2 b3 M)) (o : qOk g d zX7_bestWay k) (K59 : Int32 → Int32 → Int32 → Int32 → Int32 → Int32 → qM → qR) (hK59 : ∀ (a1 a2 a3 a4 a5 a6 : Int32) (M : qM), qAE g k zX7_bestWay (qL j r) 59 [some (.inr (some 56)), some (.inl a1), some (.inl a2), some (.inl a3), some (.inl a4), some (.inl a5), some (.inl a6), none, none, none, none] [] (qL j r, M) (K59 a1 a2 a3 a4 a5 a6 M)) (a1 a2 a3 a4 a5 a6 a7 a8 s0 : Int32) (M : qM) : qAE g k zX7_bestWay (qL j r) 123 [some (.inr (some 56)), some (.inl a1), some (.inl a2), some (.inl a3), some (.inl a4), some (.inl a5), some (.inl a6), some (.inl a7), some (.inl a8), none, none] [.inl s0] (qL j r, M) (f_X7_bestWay_123 n F_X7_bestWay K59 a1 a2 a3 a4 a5 a6 a7 a8 s0 M) := by
  unfold f_X7_bestWay_123
  refine qs_istore (L' := [some (.inr (some 56)), some (.inl a1), some (.inl a2), some (.inl a3), some (.inl a4), some (.inl a5), some (.inl a6), some (.inl a7), some (.inl a8), some (.inl s0), none]) o (q_dm dm_X7_bestWay 69 rfl) (Nat.le_of_ble_eq_true rfl) rfl ?_
  refine qr_iload o (q_dm dm_X7_bestWay 70 rfl) rfl ?_
  refine qr_if_eq (tgt := 143) o (q_dm dm_X7_bestWay 71 rfl) (by decide) ?_ ?_
  · exact qr_loc (q_leS (q_leS (q_leS (q_leS (q_leS (q_leS (q_leS (q_leS (q_leN (q_leS (q_leN q_le0))))))))))) (w_X7_bestWay_143 n j r hj hr hd1 hdn F_X7_bestWay hF_X7_bestWay o K59 hK59 a1 a2 a3 a4 a5 a6 a7 s0 M)
  · refine qr_iload o (q_dm dm_X7_bestWay 72 rfl) rfl ?_
    refine qr_aload_n o (q_dm dm_X7_bestWay 73 rfl) rfl ?_
    refine qr_getf (kf := 11) o cf_X7 (sh56 j r) rfl (Nat.le_of_ble_eq_true rfl) fl_X7_49 (q_dm dm_X7_bestWay 74 rfl) ?_
    refine qr_icmp_ne (tgt := 143) o (q_dm dm_X7_bestWay 75 rfl) (by decide) ?_ ?_
    · exact qr_loc (q_leS (q_leS (q_leS (q_leS (q_leS (q_leS (q_leS (q_leS (q_leN (q_leS (q_leN q_le0))))))))))) (w_X7_bestWay_143 n j r hj hr hd1 hdn F_X7_bestWay hF_X7_bestWay o K59 hK59 a1 a2 a3 a4 a5 a6 a7 s0 M)
    · refine qr_iconst o (q_dm dm_X7_bestWay 76 rfl) ic_0 ?_
      refine qr_goto (tgt := 153) o (q_dm dm_X7_bestWay 77 rfl) (by decide) ?_
      exact qr_loc (q_leS (q_leS (q_leS (q_leS (q_leS (q_leS (q_leS (q_leS (q_leN (q_leN (q_leN q_le0))))))))))) (w_X7_bestWay_153 n j r hj hr hd1 hdn F_X7_bestWay hF_X7_bestWay o K59 hK59 a1 a2 a3 a4 a5 a6 a7 (0 : Int32) M)

def f_X7_bestWay_121 (n : Nat) (F_X7_bestWay : Int32 → Int32 → Int32 → qM → qR) (K59 : Int32 → Int32 → Int32 → Int32 → Int32 → Int32 → qM → qR) (a1 a2 a3 a4 a5 a6 a7 a8 : Int32) (M : qM) : qR :=
  f_X7_bestWay_123 n F_X7_bestWay K59 a1 a2 a3 a4 a5 a6 a7 a8 a7 M
set_option maxRecDepth 4000 in
theorem w_X7_bestWay_121 {g : qG} {k : qK} (n : Nat) (j r : Nat) (hj : q_isLaw j) (hr : q_isLaw r) {d1 d : Nat} (hd1 : d1 + 1 ≤ d) (hdn : 2 ≤ d) (F_X7_bestWay : Int32 → Int32 → Int32 → qM → qR) (hF_X7_bestWay : ∀ (b1 b2 b3 : Int32) (M : qM), qAM g k.2.1 d1 zX7_bestWay (qL j r) [.inr (some 56), .inl b1, .inl b2, .inl b3] (qL j r, M) (F_X7_bestWay b1 b2 b3 M)) (o : qOk g d zX7_bestWay k) (K59 : Int32 → Int32 → Int32 → Int32 → Int32 → Int32 → qM → qR) (hK59 : ∀ (a1 a2 a3 a4 a5 a6 : Int32) (M : qM), qAE g k zX7_bestWay (qL j r) 59 [some (.inr (some 56)), some (.inl a1), some (.inl a2), some (.inl a3), some (.inl a4), some (.inl a5), some (.inl a6), none, none, none, none] [] (qL j r, M) (K59 a1 a2 a3 a4 a5 a6 M)) (a1 a2 a3 a4 a5 a6 a7 a8 : Int32) (M : qM) : qAE g k zX7_bestWay (qL j r) 121 [some (.inr (some 56)), some (.inl a1), some (.inl a2), some (.inl a3), some (.inl a4), some (.inl a5), some (.inl a6), some (.inl a7), some (.inl a8), none, none] [] (qL j r, M) (f_X7_bestWay_121 n F_X7_bestWay K59 a1 a2 a3 a4 a5 a6 a7 a8 M) := by
  unfold f_X7_bestWay_121
  refine qr_iload o (q_dm dm_X7_bestWay 68 rfl) rfl ?_
  exact qr_loc (q_leS (q_leS (q_leS (q_leS (q_leS (q_leS (q_leS (q_leS (q_leS (q_leN (q_leN q_le0))))))))))) (w_X7_bestWay_123 n j r hj hr hd1 hdn F_X7_bestWay hF_X7_bestWay o K59 hK59 a1 a2 a3 a4 a5 a6 a7 a8 a7 M)

def b_X7_bestWay_59 (n : Nat) (F_X7_bestWay : Int32 → Int32 → Int32 → qM → qR) (K59 : Int32 → Int32 → Int32 → Int32 → Int32 → Int32 → qM → qR) (a1 a2 a3 a4 a5 a6 : Int32) (M : qM) : qR :=
  (if (M 56 10) ≤ a6 then qg a4 8192 (qlm (mu M 63 a4.toNatClampNeg a5) (fun m1 => some (a5, m1))) else qc (f_X7_extraAt n a1 a6 M) (fun r2 m3 => (if (3 : Int32) ≤ r2 then ql (a6 + (1 : Int32)) (fun x4 => K59 a1 a2 a3 a4 a5 x4 m3) else ql (a1 + ((1 : Int32) <<< (((2 : Int32) * a6) &&& 31))) (fun x5 => qc (f_X7_wouldCount n a1 a6 m3) (fun r6 m7 => (if r6 = (0 : Int32) then f_X7_bestWay_121 n F_X7_bestWay K59 a1 a2 a3 a4 a5 a6 x5 r6 m7 else (if (3 : Int32) ≤ a6 then f_X7_bestWay_121 n F_X7_bestWay K59 a1 a2 a3 a4 a5 a6 x5 r6 m7 else f_X7_bestWay_123 n F_X7_bestWay K59 a1 a2 a3 a4 a5 a6 x5 r6 (x5 ||| ((1 : Int32) <<< (((8 : Int32) + a6) &&& 31))) m7)))))))
set_option maxRecDepth 4000 in
theorem wb_X7_bestWay_59 {g : qG} {k : qK} (n : Nat) (j r : Nat) (hj : q_isLaw j) (hr : q_isLaw r) {d1 d : Nat} (hd1 : d1 + 1 ≤ d) (hdn : 2 ≤ d) (F_X7_bestWay : Int32 → Int32 → Int32 → qM → qR) (hF_X7_bestWay : ∀ (b1 b2 b3 : Int32) (M : qM), qAM g k.2.1 d1 zX7_bestWay (qL j r) [.inr (some 56), .inl b1, .inl b2, .inl b3] (qL j r, M) (F_X7_bestWay b1 b2 b3 M)) (o : qOk g d zX7_bestWay k) (K59 : Int32 → Int32 → Int32 → Int32 → Int32 → Int32 → qM → qR) (hK59 : ∀ (a1 a2 a3 a4 a5 a6 : Int32) (M : qM), qAE g k zX7_bestWay (qL j r) 59 [some (.inr (some 56)), some (.inl a1), some (.inl a2), some (.inl a3), some (.inl a4), some (.inl a5), some (.inl a6), none, none, none, none] [] (qL j r, M) (K59 a1 a2 a3 a4 a5 a6 M)) (a1 a2 a3 a4 a5 a6 : Int32) (M : qM) : qAE g k zX7_bestWay (qL j r) 59 [some (.inr (some 56)), some (.inl a1), some (.inl a2), some (.inl a3), some (.inl a4), some (.inl a5), some (.inl a6), none, none, none, none] [] (qL j r, M) (b_X7_bestWay_59 n F_X7_bestWay K59 a1 a2 a3 a4 a5 a6 M) := by
  unfold b_X7_bestWay_59
  refine qr_iload o (q_dm dm_X7_bestWay 33 rfl) rfl ?_
  refine qr_aload_n o (q_dm dm_X7_bestWay 34 rfl) rfl ?_
  refine qr_getf (kf := 10) o cf_X7 (sh56 j r) rfl (Nat.le_of_ble_eq_true rfl) fl_X7_45 (q_dm dm_X7_bestWay 35 rfl) ?_
  refine qr_icmp_ge (tgt := 214) o (q_dm dm_X7_bestWay 36 rfl) (by decide) ?_ ?_
  · refine qr_aload_n o (q_dm dm_X7_bestWay 119 rfl) rfl ?_
    refine qr_getr (kf := 9) o cf_X7 (sh56 j r) rfl (Nat.le_of_ble_eq_true rfl) fl_X7_30 (q_dm dm_X7_bestWay 120 rfl) ?_
    refine qr_iload o (q_dm dm_X7_bestWay 121 rfl) rfl ?_
    refine qr_iload o (q_dm dm_X7_bestWay 122 rfl) rfl ?_
    refine qr_iast o (sh63 j r) (q_dm dm_X7_bestWay 123 rfl) ?_
    refine qr_letm (fun m1 => ?_)
    refine qr_iload o (q_dm dm_X7_bestWay 124 rfl) rfl ?_
    exact qr_iret o rfl rfl (q_dm dm_X7_bestWay 125 rfl)
  · refine qr_iload_n o (q_dm dm_X7_bestWay 37 rfl) rfl ?_
    refine qr_iload o (q_dm dm_X7_bestWay 38 rfl) rfl ?_
    refine qr_calls_i (As := [.inl a1, .inl a6]) (S := []) o (a_X7_extraAt g k.2.1 n j r hj hr a1 a6 M) (by omega) zs_X7_extraAt rfl ml_X7_151 (Nat.le_of_ble_eq_true rfl) (q_dm dm_X7_bestWay 39 rfl) (fun r2 m3 => ?_)
    refine qr_iconst o (q_dm dm_X7_bestWay 40 rfl) ic_3 ?_
    refine qr_icmp_ge (tgt := 208) o (q_dm dm_X7_bestWay 41 rfl) (by decide) ?_ ?_
    · refine qs_iincl2 (L' := fun x4 => [some (.inr (some 56)), some (.inl a1), some (.inl a2), some (.inl a3), some (.inl a4), some (.inl a5), some (.inl x4), none, none, none, none]) o (q_dm dm_X7_bestWay 117 rfl) rfl ic_1 (Nat.le_of_ble_eq_true rfl) (fun _ => rfl) (fun x4 => ?_)
      refine qr_goto (tgt := 59) o (q_dm dm_X7_bestWay 118 rfl) (by decide) ?_
      exact qr_loc (q_leS (q_leS (q_leS (q_leS (q_leS (q_leS (q_leS (q_leN (q_leN (q_leN (q_leN q_le0))))))))))) (hK59 a1 a2 a3 a4 a5 x4 m3)
    · refine qr_iload_n o (q_dm dm_X7_bestWay 42 rfl) rfl ?_
      refine qr_iconst o (q_dm dm_X7_bestWay 43 rfl) ic_1 ?_
      refine qr_iconst o (q_dm dm_X7_bestWay 44 rfl) ic_2 ?_
      refine qr_iload o (q_dm dm_X7_bestWay 45 rfl) rfl ?_
      refine qr_imul o (q_dm dm_X7_bestWay 46 rfl) ?_
      refine qr_ishl o (q_dm dm_X7_bestWay 47 rfl) ?_
      refine qr_iadd o (q_dm dm_X7_bestWay 48 rfl) ?_
      refine qr_lt (fun x5 => ?_)
      refine qs_istore (L' := [some (.inr (some 56)), some (.inl a1), some (.inl a2), some (.inl a3), some (.inl a4), some (.inl a5), some (.inl a6), some (.inl x5), none, none, none]) o (q_dm dm_X7_bestWay 49 rfl) (Nat.le_of_ble_eq_true rfl) rfl ?_
      refine qr_aload_n o (q_dm dm_X7_bestWay 50 rfl) rfl ?_
      refine qr_iload_n o (q_dm dm_X7_bestWay 51 rfl) rfl ?_
      refine qr_iload o (q_dm dm_X7_bestWay 52 rfl) rfl ?_
      refine qr_callv_i (As := [.inl a1, .inl a6]) (S := []) o (a_X7_wouldCount g k.2.1 n j r hj hr a1 a6 m3) (by omega) zv_X7_wouldCount rfl cf_X7 (sh56 j r) ml_X7_154 (Nat.le_of_ble_eq_true rfl) (q_dm dm_X7_bestWay 53 rfl) (fun r6 m7 => ?_)
      refine qs_istore (L' := [some (.inr (some 56)), some (.inl a1), some (.inl a2), some (.inl a3), some (.inl a4), some (.inl a5), some (.inl a6), some (.inl x5), some (.inl r6), none, none]) o (q_dm dm_X7_bestWay 54 rfl) (Nat.le_of_ble_eq_true rfl) rfl ?_
      refine qr_iload o (q_dm dm_X7_bestWay 55 rfl) rfl ?_
      refine qr_if_eq (tgt := 121) o (q_dm dm_X7_bestWay 56 rfl) (by decide) ?_ ?_
      · exact qr_loc (q_leS (q_leS (q_leS (q_leS (q_leS (q_leS (q_leS (q_leS (q_leS (q_leN (q_leN q_le0))))))))))) (w_X7_bestWay_121 n j r hj hr hd1 hdn F_X7_bestWay hF_X7_bestWay o K59 hK59 a1 a2 a3 a4 a5 a6 x5 r6 m7)
      · refine qr_iload o (q_dm dm_X7_bestWay 57 rfl) rfl ?_
        refine qr_iconst o (q_dm dm_X7_bestWay 58 rfl) ic_3 ?_
        refine qr_icmp_ge (tgt := 121) o (q_dm dm_X7_bestWay 59 rfl) (by decide) ?_ ?_
        · exact qr_loc (q_leS (q_leS (q_leS (q_leS (q_leS (q_leS (q_leS (q_leS (q_leS (q_leN (q_leN q_le0))))))))))) (w_X7_bestWay_121 n j r hj hr hd1 hdn F_X7_bestWay hF_X7_bestWay o K59 hK59 a1 a2 a3 a4 a5 a6 x5 r6 m7)
        · refine qr_iload o (q_dm dm_X7_bestWay 60 rfl) rfl ?_
          refine qr_iconst o (q_dm dm_X7_bestWay 61 rfl) ic_1 ?_
          refine qr_bipush o (q_dm dm_X7_bestWay 62 rfl) bi_8 ?_
          refine qr_iload o (q_dm dm_X7_bestWay 63 rfl) rfl ?_
          refine qr_iadd o (q_dm dm_X7_bestWay 64 rfl) ?_
          refine qr_ishl o (q_dm dm_X7_bestWay 65 rfl) ?_
          refine qr_ior o (q_dm dm_X7_bestWay 66 rfl) ?_
          refine qr_goto (tgt := 123) o (q_dm dm_X7_bestWay 67 rfl) (by decide) ?_
          exact qr_loc (q_leS (q_leS (q_leS (q_leS (q_leS (q_leS (q_leS (q_leS (q_leS (q_leN (q_leN q_le0))))))))))) (w_X7_bestWay_123 n j r hj hr hd1 hdn F_X7_bestWay hF_X7_bestWay o K59 hK59 a1 a2 a3 a4 a5 a6 x5 r6 (x5 ||| ((1 : Int32) <<< (((8 : Int32) + a6) &&& 31))) m7)

def f_X7_bestWay_59 (n : Nat) (F_X7_bestWay : Int32 → Int32 → Int32 → qM → qR) : Nat → Int32 → Int32 → Int32 → Int32 → Int32 → Int32 → qM → qR
  | 0, _, _, _, _, _, _, _ => none
  | m + 1, a1, a2, a3, a4, a5, a6, M => b_X7_bestWay_59 n F_X7_bestWay (f_X7_bestWay_59 n F_X7_bestWay m) a1 a2 a3 a4 a5 a6 M
theorem w_X7_bestWay_59 {g : qG} {k : qK} (n : Nat) (j r : Nat) (hj : q_isLaw j) (hr : q_isLaw r) {d1 d : Nat} (hd1 : d1 + 1 ≤ d) (hdn : 2 ≤ d) (F_X7_bestWay : Int32 → Int32 → Int32 → qM → qR) (hF_X7_bestWay : ∀ (b1 b2 b3 : Int32) (M : qM), qAM g k.2.1 d1 zX7_bestWay (qL j r) [.inr (some 56), .inl b1, .inl b2, .inl b3] (qL j r, M) (F_X7_bestWay b1 b2 b3 M)) (o : qOk g d zX7_bestWay k) : ∀ (m : Nat) (a1 a2 a3 a4 a5 a6 : Int32) (M : qM), qAE g k zX7_bestWay (qL j r) 59 [some (.inr (some 56)), some (.inl a1), some (.inl a2), some (.inl a3), some (.inl a4), some (.inl a5), some (.inl a6), none, none, none, none] [] (qL j r, M) (f_X7_bestWay_59 n F_X7_bestWay m a1 a2 a3 a4 a5 a6 M) := by
  intro m
  induction m with
  | zero =>
    intro a1 a2 a3 a4 a5 a6 M
    exact qr_none
  | succ m ih =>
    intro a1 a2 a3 a4 a5 a6 M
    exact wb_X7_bestWay_59 n j r hj hr hd1 hdn F_X7_bestWay hF_X7_bestWay o (f_X7_bestWay_59 n F_X7_bestWay m) ih a1 a2 a3 a4 a5 a6 M
def fo_X7_bestWay (n : Nat) (F_X7_bestWay : Int32 → Int32 → Int32 → qM → qR) (a1 a2 a3 : Int32) (M : qM) : qR :=
  ql ((a2 * (2048 : Int32)) + a1) (fun x1 => (if x1 < (0 : Int32) then some ((1048576 : Int32), M) else (if (8192 : Int32) ≤ x1 then some ((1048576 : Int32), M) else (if a3 ≤ (12 : Int32) then qg x1 8192 ((if (M 63 x1.toNatClampNeg) = (-1 : Int32) then f_X7_bestWay_59 n F_X7_bestWay n a1 a2 a3 x1 (1048576 : Int32) (0 : Int32) M else qg x1 8192 (some ((M 63 x1.toNatClampNeg), M)))) else some ((1048576 : Int32), M)))))
set_option maxRecDepth 4000 in
theorem w_X7_bestWay {g : qG} {k : qK} (n : Nat) (j r : Nat) (hj : q_isLaw j) (hr : q_isLaw r) {d1 d : Nat} (hd1 : d1 + 1 ≤ d) (hdn : 2 ≤ d) (F_X7_bestWay : Int32 → Int32 → Int32 → qM → qR) (hF_X7_bestWay : ∀ (b1 b2 b3 : Int32) (M : qM), qAM g k.2.1 d1 zX7_bestWay (qL j r) [.inr (some 56), .inl b1, .inl b2, .inl b3] (qL j r, M) (F_X7_bestWay b1 b2 b3 M)) (o : qOk g d zX7_bestWay k) (a1 a2 a3 : Int32) (M : qM) : qAE g k zX7_bestWay (qL j r) 0 [some (.inr (some 56)), some (.inl a1), some (.inl a2), some (.inl a3), none, none, none, none, none, none, none] [] (qL j r, M) (fo_X7_bestWay n F_X7_bestWay a1 a2 a3 M) := by
  unfold fo_X7_bestWay
  refine qr_iload_n o (q_dm dm_X7_bestWay 0 rfl) rfl ?_
  refine qr_sipush o (q_dm dm_X7_bestWay 1 rfl) si_2048 ?_
  refine qr_imul o (q_dm dm_X7_bestWay 2 rfl) ?_
  refine qr_iload_n o (q_dm dm_X7_bestWay 3 rfl) rfl ?_
  refine qr_iadd o (q_dm dm_X7_bestWay 4 rfl) ?_
  refine qr_lt (fun x1 => ?_)
  refine qs_istore (L' := [some (.inr (some 56)), some (.inl a1), some (.inl a2), some (.inl a3), some (.inl x1), none, none, none, none, none, none]) o (q_dm dm_X7_bestWay 5 rfl) (Nat.le_of_ble_eq_true rfl) rfl ?_
  refine qr_iload o (q_dm dm_X7_bestWay 6 rfl) rfl ?_
  refine qr_if_lt (tgt := 30) o (q_dm dm_X7_bestWay 7 rfl) (by decide) ?_ ?_
  · refine qr_ldc o (q_dm dm_X7_bestWay 16 rfl) kc_X7_95 ?_
    exact qr_iret o rfl rfl (q_dm dm_X7_bestWay 17 rfl)
  · refine qr_iload o (q_dm dm_X7_bestWay 8 rfl) rfl ?_
    refine qr_aload_n o (q_dm dm_X7_bestWay 9 rfl) rfl ?_
    refine qr_getr (kf := 9) o cf_X7 (sh56 j r) rfl (Nat.le_of_ble_eq_true rfl) fl_X7_30 (q_dm dm_X7_bestWay 10 rfl) ?_
    refine qr_alen (v := (8192 : Int32)) o (sh63 j r) (by decide) (by decide) (q_dm dm_X7_bestWay 11 rfl) ?_
    refine qr_icmp_ge (tgt := 30) o (q_dm dm_X7_bestWay 12 rfl) (by decide) ?_ ?_
    · refine qr_ldc o (q_dm dm_X7_bestWay 16 rfl) kc_X7_95 ?_
      exact qr_iret o rfl rfl (q_dm dm_X7_bestWay 17 rfl)
    · refine qr_iload_n o (q_dm dm_X7_bestWay 13 rfl) rfl ?_
      refine qr_bipush o (q_dm dm_X7_bestWay 14 rfl) bi_12 ?_
      refine qr_icmp_le (tgt := 33) o (q_dm dm_X7_bestWay 15 rfl) (by decide) ?_ ?_
      · refine qr_aload_n o (q_dm dm_X7_bestWay 18 rfl) rfl ?_
        refine qr_getr (kf := 9) o cf_X7 (sh56 j r) rfl (Nat.le_of_ble_eq_true rfl) fl_X7_30 (q_dm dm_X7_bestWay 19 rfl) ?_
        refine qr_iload o (q_dm dm_X7_bestWay 20 rfl) rfl ?_
        refine qr_iald o (sh63 j r) (q_dm dm_X7_bestWay 21 rfl) ?_
        refine qr_iconst o (q_dm dm_X7_bestWay 22 rfl) ic_m1 ?_
        refine qr_icmp_eq (tgt := 52) o (q_dm dm_X7_bestWay 23 rfl) (by decide) ?_ ?_
        · refine qr_ldc o (q_dm dm_X7_bestWay 29 rfl) kc_X7_95 ?_
          refine qs_istore (L' := [some (.inr (some 56)), some (.inl a1), some (.inl a2), some (.inl a3), some (.inl x1), some (.inl (1048576 : Int32)), none, none, none, none, none]) o (q_dm dm_X7_bestWay 30 rfl) (Nat.le_of_ble_eq_true rfl) rfl ?_
          refine qr_iconst o (q_dm dm_X7_bestWay 31 rfl) ic_0 ?_
          refine qs_istore (L' := [some (.inr (some 56)), some (.inl a1), some (.inl a2), some (.inl a3), some (.inl x1), some (.inl (1048576 : Int32)), some (.inl (0 : Int32)), none, none, none, none]) o (q_dm dm_X7_bestWay 32 rfl) (Nat.le_of_ble_eq_true rfl) rfl ?_
          exact qr_loc (q_leS (q_leS (q_leS (q_leS (q_leS (q_leS (q_leS (q_leN (q_leN (q_leN (q_leN q_le0))))))))))) (w_X7_bestWay_59 n j r hj hr hd1 hdn F_X7_bestWay hF_X7_bestWay o n a1 a2 a3 x1 (1048576 : Int32) (0 : Int32) M)
        · refine qr_aload_n o (q_dm dm_X7_bestWay 24 rfl) rfl ?_
          refine qr_getr (kf := 9) o cf_X7 (sh56 j r) rfl (Nat.le_of_ble_eq_true rfl) fl_X7_30 (q_dm dm_X7_bestWay 25 rfl) ?_
          refine qr_iload o (q_dm dm_X7_bestWay 26 rfl) rfl ?_
          refine qr_iald o (sh63 j r) (q_dm dm_X7_bestWay 27 rfl) ?_
          exact qr_iret o rfl rfl (q_dm dm_X7_bestWay 28 rfl)
      · refine qr_ldc o (q_dm dm_X7_bestWay 16 rfl) kc_X7_95 ?_
        exact qr_iret o rfl rfl (q_dm dm_X7_bestWay 17 rfl)

theorem ao_X7_bestWay (g : qG) (l : Launch) (n : Nat) (j r : Nat) (hj : q_isLaw j) (hr : q_isLaw r) {d1 d : Nat} (hd1 : d1 + 1 ≤ d) (hdn : 2 ≤ d) (F_X7_bestWay : Int32 → Int32 → Int32 → qM → qR) (hF_X7_bestWay : ∀ (b1 b2 b3 : Int32) (M : qM), qAM g l d1 zX7_bestWay (qL j r) [.inr (some 56), .inl b1, .inl b2, .inl b3] (qL j r, M) (F_X7_bestWay b1 b2 b3 M)) (a1 a2 a3 : Int32) (M : qM) : qAM g l d zX7_bestWay (qL j r) [.inr (some 56), .inl a1, .inl a2, .inl a3] (qL j r, M) (fo_X7_bestWay n F_X7_bestWay a1 a2 a3 M) :=
  qAM.of zv_X7_bestWay.1 (by show 4 ≤ 11; decide) (fun k hk o => by subst hk; exact w_X7_bestWay n j r hj hr hd1 hdn F_X7_bestWay hF_X7_bestWay o a1 a2 a3 M)
def rc_X7_bestWay (n : Nat) : Nat → Int32 → Int32 → Int32 → qM → qR
  | 0, _, _, _, _ => none
  | m + 1, a1, a2, a3, M => fo_X7_bestWay n (rc_X7_bestWay n m) a1 a2 a3 M

theorem rc_X7_bestWay_ok (g : qG) (l : Launch) (n : Nat) (j r : Nat) (hj : q_isLaw j) (hr : q_isLaw r) : ∀ m : Nat, (∀ (a1 a2 a3 : Int32) (M : qM), qAM g l (2 + m) zX7_bestWay (qL j r) [.inr (some 56), .inl a1, .inl a2, .inl a3] (qL j r, M) (rc_X7_bestWay n m a1 a2 a3 M)) := by
  intro m
  induction m with
  | zero => exact fun _ _ _ _ _ _ h => by cases h
  | succ m ih =>
    exact (fun a1 a2 a3 M => ao_X7_bestWay g l n j r hj hr (d1 := 2 + m) (d := 2 + (m + 1)) (Nat.le_refl _) (Nat.le_add_right _ _) (rc_X7_bestWay n m) ih a1 a2 a3 M)

def f_X7_bestWay (n : Nat) (a1 a2 a3 : Int32) (M : qM) : qR := rc_X7_bestWay n 16 a1 a2 a3 M
theorem a_X7_bestWay (g : qG) (l : Launch) (n : Nat) (j r : Nat) (hj : q_isLaw j) (hr : q_isLaw r) (a1 a2 a3 : Int32) (M : qM) : qAM g l 18 zX7_bestWay (qL j r) [.inr (some 56), .inl a1, .inl a2, .inl a3] (qL j r, M) (f_X7_bestWay n a1 a2 a3 M) := (rc_X7_bestWay_ok g l n j r hj hr 16) a1 a2 a3 M
def tb_X7_tryGoes : List (Nat × Instr × Nat) := [(0, (.iload_n 1, 1)), (1, (.aload_n 0, 1)), (2, (.getfield 45, 3)), (5, (.if_icmp .lt 59, 3)), (8, (.aload_n 0, 1)), (9, (.iload_n 2, 1)), (10, (.iconst 0, 1)), (11, (.iconst 0, 1)), (12, (.invokevirtual 88, 3)), (15, (.bipush 16, 2)), (17, (.idiv, 1)), (18, (.istore 6, 2)), (20, (.iload 6, 2)), (22, (.iload 5, 2)), (24, (.if_icmp .gt 39, 3)), (27, (.iload_n 3, 1)), (28, (.aload_n 0, 1)), (29, (.getfield 96, 3)), (32, (.if_icmp .lt 20, 3)), (35, (.iload_n 3, 1)), (36, (.aload_n 0, 1)), (37, (.getfield 96, 3)), (40, (.if_icmp .ne 23, 3)), (43, (.iload 6, 2)), (45, (.aload_n 0, 1)), (46, (.getfield 99, 3)), (49, (.if_icmp .ge 14, 3)), (52, (.aload_n 0, 1)), (53, (.iload_n 3, 1)), (54, (.putfield 96, 3)), (57, (.aload_n 0, 1)), (58, (.iload 6, 2)), (60, (.putfield 99, 3)), (63, (.return_, 1)), (64, (.iconst 0, 1)), (65, (.istore 6, 2)), (67, (.iload 6, 2)), (69, (.iload 4, 2)), (71, (.if_icmp .gt 62, 3)), (74, (.iload 6, 2)), (76, (.ifCond .eq 14, 3)), (79, (.aload_n 0, 1)), (80, (.getfield 24, 3)), (83, (.iload_n 1, 1)), (84, (.iaload, 1)), (85, (.ldc 95, 2)), (87, (.if_icmp .ge 46, 3)), (90, (.iload 6, 2)), (92, (.iconst 2, 1)), (93, (.iload_n 1, 1)), (94, (.imul, 1)), (95, (.ishl, 1)), (96, (.istore 7, 2)), (98, (.aload_n 0, 1)), (99, (.iload_n 1, 1)), (100, (.iconst 1, 1)), (101, (.iadd, 1)), (102, (.iload_n 2, 1)), (103, (.iload 7, 2)), (105, (.iadd, 1)), (106, (.iload_n 3, 1)), (107, (.iload 6, 2)), (109, (.aload_n 0, 1)), (110, (.getfield 24, 3)), (113, (.iload_n 1, 1)), (114, (.iaload, 1)), (115, (.imul, 1)), (116, (.iadd, 1)), (117, (.iload 4, 2)), (119, (.iload 6, 2)), (121, (.isub, 1)), (122, (.iload 5, 2)), (124, (.invokevirtual 102, 3)), (127, (.iinc 6 1, 3)), (130, (.goto (-63), 3)), (133, (.return_, 1))]
theorem dm_X7_tryGoes : ∀ q ∈ tb_X7_tryGoes, decode zX7_tryGoes.2.1 q.1 = .ok q.2 := by decide +kernel
def f_X7_tryGoes_90 (n : Nat) (F_X7_tryGoes : Int32 → Int32 → Int32 → Int32 → Int32 → qM → qR) (K67 : Int32 → Int32 → Int32 → Int32 → Int32 → Int32 → qM → qR) (a1 a2 a3 a4 a5 a6 : Int32) (M : qM) : qR :=
  ql (a6 <<< (((2 : Int32) * a1) &&& 31)) (fun x1 => qg a1 4 (qc (F_X7_tryGoes (a1 + (1 : Int32)) (a2 + x1) (a3 + (a6 * (M 61 a1.toNatClampNeg))) (a4 - a6) a5 M) (fun _ m2 => ql (a6 + (1 : Int32)) (fun x3 => K67 a1 a2 a3 a4 a5 x3 m2))))
set_option maxRecDepth 4000 in
theorem w_X7_tryGoes_90 {g : qG} {k : qK} (n : Nat) (j r : Nat) (hj : q_isLaw j) (hr : q_isLaw r) {d1 d : Nat} (hd1 : d1 + 1 ≤ d) (hdn : 19 ≤ d) (F_X7_tryGoes : Int32 → Int32 → Int32 → Int32 → Int32 → qM → qR) (hF_X7_tryGoes : ∀ (b1 b2 b3 b4 b5 : Int32) (M : qM), qAM g k.2.1 d1 zX7_tryGoes (qL j r) [.inr (some 56), .inl b1, .inl b2, .inl b3, .inl b4, .inl b5] (qL j r, M) (F_X7_tryGoes b1 b2 b3 b4 b5 M)) (o : qOk g d zX7_tryGoes k) (K67 : Int32 → Int32 → Int32 → Int32 → Int32 → Int32 → qM → qR) (hK67 : ∀ (a1 a2 a3 a4 a5 a6 : Int32) (M : qM), qAE g k zX7_tryGoes (qL j r) 67 [some (.inr (some 56)), some (.inl a1), some (.inl a2), some (.inl a3), some (.inl a4), some (.inl a5), some (.inl a6), none] [] (qL j r, M) (K67 a1 a2 a3 a4 a5 a6 M)) (a1 a2 a3 a4 a5 a6 : Int32) (M : qM) : qAE g k zX7_tryGoes (qL j r) 90 [some (.inr (some 56)), some (.inl a1), some (.inl a2), some (.inl a3), some (.inl a4), some (.inl a5), some (.inl a6), none] [] (qL j r, M) (f_X7_tryGoes_90 n F_X7_tryGoes K67 a1 a2 a3 a4 a5 a6 M) := by
  unfold f_X7_tryGoes_90
  refine qr_iload o (q_dm dm_X7_tryGoes 47 rfl) rfl ?_
  refine qr_iconst o (q_dm dm_X7_tryGoes 48 rfl) ic_2 ?_
  refine qr_iload_n o (q_dm dm_X7_tryGoes 49 rfl) rfl ?_
  refine qr_imul o (q_dm dm_X7_tryGoes 50 rfl) ?_
  refine qr_ishl o (q_dm dm_X7_tryGoes 51 rfl) ?_
  refine qr_lt (fun x1 => ?_)
  refine qs_istore (L' := [some (.inr (some 56)), some (.inl a1), some (.inl a2), some (.inl a3), some (.inl a4), some (.inl a5), some (.inl a6), some (.inl x1)]) o (q_dm dm_X7_tryGoes 52 rfl) (Nat.le_of_ble_eq_true rfl) rfl ?_
  refine qr_aload_n o (q_dm dm_X7_tryGoes 53 rfl) rfl ?_
  refine qr_iload_n o (q_dm dm_X7_tryGoes 54 rfl) rfl ?_
  refine qr_iconst o (q_dm dm_X7_tryGoes 55 rfl) ic_1 ?_
  refine qr_iadd o (q_dm dm_X7_tryGoes 56 rfl) ?_
  refine qr_iload_n o (q_dm dm_X7_tryGoes 57 rfl) rfl ?_
  refine qr_iload o (q_dm dm_X7_tryGoes 58 rfl) rfl ?_
  refine qr_iadd o (q_dm dm_X7_tryGoes 59 rfl) ?_
  refine qr_iload_n o (q_dm dm_X7_tryGoes 60 rfl) rfl ?_
  refine qr_iload o (q_dm dm_X7_tryGoes 61 rfl) rfl ?_
  refine qr_aload_n o (q_dm dm_X7_tryGoes 62 rfl) rfl ?_
  refine qr_getr (kf := 7) o cf_X7 (sh56 j r) rfl (Nat.le_of_ble_eq_true rfl) fl_X7_24 (q_dm dm_X7_tryGoes 63 rfl) ?_
  refine qr_iload_n o (q_dm dm_X7_tryGoes 64 rfl) rfl ?_
  refine qr_iald o (sh61 j r) (q_dm dm_X7_tryGoes 65 rfl) ?_
  refine qr_imul o (q_dm dm_X7_tryGoes 66 rfl) ?_
  refine qr_iadd o (q_dm dm_X7_tryGoes 67 rfl) ?_
  refine qr_iload o (q_dm dm_X7_tryGoes 68 rfl) rfl ?_
  refine qr_iload o (q_dm dm_X7_tryGoes 69 rfl) rfl ?_
  refine qr_isub o (q_dm dm_X7_tryGoes 70 rfl) ?_
  refine qr_iload o (q_dm dm_X7_tryGoes 71 rfl) rfl ?_
  refine qr_callv_v (As := [.inl (a1 + (1 : Int32)), .inl (a2 + x1), .inl (a3 + (a6 * (M 61 a1.toNatClampNeg))), .inl (a4 - a6), .inl a5]) (S := []) o (hF_X7_tryGoes (a1 + (1 : Int32)) (a2 + x1) (a3 + (a6 * (M 61 a1.toNatClampNeg))) (a4 - a6) a5 M) (by omega) zv_X7_tryGoes rfl cf_X7 (sh56 j r) ml_X7_102 (Nat.le_of_ble_eq_true rfl) (q_dm dm_X7_tryGoes 72 rfl) (fun _ m2 => ?_)
  refine qs_iincl2 (L' := fun x3 => [some (.inr (some 56)), some (.inl a1), some (.inl a2), some (.inl a3), some (.inl a4), some (.inl a5), some (.inl x3), some (.inl x1)]) o (q_dm dm_X7_tryGoes 73 rfl) rfl ic_1 (Nat.le_of_ble_eq_true rfl) (fun _ => rfl) (fun x3 => ?_)
  refine qr_goto (tgt := 67) o (q_dm dm_X7_tryGoes 74 rfl) (by decide) ?_
  exact qr_loc (q_leS (q_leS (q_leS (q_leS (q_leS (q_leS (q_leS (q_leN q_le0)))))))) (hK67 a1 a2 a3 a4 a5 x3 m2)

def b_X7_tryGoes_67 (n : Nat) (F_X7_tryGoes : Int32 → Int32 → Int32 → Int32 → Int32 → qM → qR) (K67 : Int32 → Int32 → Int32 → Int32 → Int32 → Int32 → qM → qR) (a1 a2 a3 a4 a5 a6 : Int32) (M : qM) : qR :=
  (if a4 < a6 then some (0, M) else (if a6 = (0 : Int32) then f_X7_tryGoes_90 n F_X7_tryGoes K67 a1 a2 a3 a4 a5 a6 M else qg a1 4 ((if (1048576 : Int32) ≤ (M 61 a1.toNatClampNeg) then some (0, M) else f_X7_tryGoes_90 n F_X7_tryGoes K67 a1 a2 a3 a4 a5 a6 M))))
set_option maxRecDepth 4000 in
theorem wb_X7_tryGoes_67 {g : qG} {k : qK} (n : Nat) (j r : Nat) (hj : q_isLaw j) (hr : q_isLaw r) {d1 d : Nat} (hd1 : d1 + 1 ≤ d) (hdn : 19 ≤ d) (F_X7_tryGoes : Int32 → Int32 → Int32 → Int32 → Int32 → qM → qR) (hF_X7_tryGoes : ∀ (b1 b2 b3 b4 b5 : Int32) (M : qM), qAM g k.2.1 d1 zX7_tryGoes (qL j r) [.inr (some 56), .inl b1, .inl b2, .inl b3, .inl b4, .inl b5] (qL j r, M) (F_X7_tryGoes b1 b2 b3 b4 b5 M)) (o : qOk g d zX7_tryGoes k) (K67 : Int32 → Int32 → Int32 → Int32 → Int32 → Int32 → qM → qR) (hK67 : ∀ (a1 a2 a3 a4 a5 a6 : Int32) (M : qM), qAE g k zX7_tryGoes (qL j r) 67 [some (.inr (some 56)), some (.inl a1), some (.inl a2), some (.inl a3), some (.inl a4), some (.inl a5), some (.inl a6), none] [] (qL j r, M) (K67 a1 a2 a3 a4 a5 a6 M)) (a1 a2 a3 a4 a5 a6 : Int32) (M : qM) : qAE g k zX7_tryGoes (qL j r) 67 [some (.inr (some 56)), some (.inl a1), some (.inl a2), some (.inl a3), some (.inl a4), some (.inl a5), some (.inl a6), none] [] (qL j r, M) (b_X7_tryGoes_67 n F_X7_tryGoes K67 a1 a2 a3 a4 a5 a6 M) := by
  unfold b_X7_tryGoes_67
  refine qr_iload o (q_dm dm_X7_tryGoes 36 rfl) rfl ?_
  refine qr_iload o (q_dm dm_X7_tryGoes 37 rfl) rfl ?_
  refine qr_icmp_gt (tgt := 133) o (q_dm dm_X7_tryGoes 38 rfl) (by decide) ?_ ?_
  · exact qr_vret o rfl (q_dm dm_X7_tryGoes 75 rfl)
  · refine qr_iload o (q_dm dm_X7_tryGoes 39 rfl) rfl ?_
    refine qr_if_eq (tgt := 90) o (q_dm dm_X7_tryGoes 40 rfl) (by decide) ?_ ?_
    · exact qr_loc (q_leS (q_leS (q_leS (q_leS (q_leS (q_leS (q_leS (q_leN q_le0)))))))) (w_X7_tryGoes_90 n j r hj hr hd1 hdn F_X7_tryGoes hF_X7_tryGoes o K67 hK67 a1 a2 a3 a4 a5 a6 M)
    · refine qr_aload_n o (q_dm dm_X7_tryGoes 41 rfl) rfl ?_
      refine qr_getr (kf := 7) o cf_X7 (sh56 j r) rfl (Nat.le_of_ble_eq_true rfl) fl_X7_24 (q_dm dm_X7_tryGoes 42 rfl) ?_
      refine qr_iload_n o (q_dm dm_X7_tryGoes 43 rfl) rfl ?_
      refine qr_iald o (sh61 j r) (q_dm dm_X7_tryGoes 44 rfl) ?_
      refine qr_ldc o (q_dm dm_X7_tryGoes 45 rfl) kc_X7_95 ?_
      refine qr_icmp_ge (tgt := 133) o (q_dm dm_X7_tryGoes 46 rfl) (by decide) ?_ ?_
      · exact qr_vret o rfl (q_dm dm_X7_tryGoes 75 rfl)
      · exact qr_loc (q_leS (q_leS (q_leS (q_leS (q_leS (q_leS (q_leS (q_leN q_le0)))))))) (w_X7_tryGoes_90 n j r hj hr hd1 hdn F_X7_tryGoes hF_X7_tryGoes o K67 hK67 a1 a2 a3 a4 a5 a6 M)

def f_X7_tryGoes_67 (n : Nat) (F_X7_tryGoes : Int32 → Int32 → Int32 → Int32 → Int32 → qM → qR) : Nat → Int32 → Int32 → Int32 → Int32 → Int32 → Int32 → qM → qR
  | 0, _, _, _, _, _, _, _ => none
  | m + 1, a1, a2, a3, a4, a5, a6, M => b_X7_tryGoes_67 n F_X7_tryGoes (f_X7_tryGoes_67 n F_X7_tryGoes m) a1 a2 a3 a4 a5 a6 M
theorem w_X7_tryGoes_67 {g : qG} {k : qK} (n : Nat) (j r : Nat) (hj : q_isLaw j) (hr : q_isLaw r) {d1 d : Nat} (hd1 : d1 + 1 ≤ d) (hdn : 19 ≤ d) (F_X7_tryGoes : Int32 → Int32 → Int32 → Int32 → Int32 → qM → qR) (hF_X7_tryGoes : ∀ (b1 b2 b3 b4 b5 : Int32) (M : qM), qAM g k.2.1 d1 zX7_tryGoes (qL j r) [.inr (some 56), .inl b1, .inl b2, .inl b3, .inl b4, .inl b5] (qL j r, M) (F_X7_tryGoes b1 b2 b3 b4 b5 M)) (o : qOk g d zX7_tryGoes k) : ∀ (m : Nat) (a1 a2 a3 a4 a5 a6 : Int32) (M : qM), qAE g k zX7_tryGoes (qL j r) 67 [some (.inr (some 56)), some (.inl a1), some (.inl a2), some (.inl a3), some (.inl a4), some (.inl a5), some (.inl a6), none] [] (qL j r, M) (f_X7_tryGoes_67 n F_X7_tryGoes m a1 a2 a3 a4 a5 a6 M) := by
  intro m
  induction m with
  | zero =>
    intro a1 a2 a3 a4 a5 a6 M
    exact qr_none
  | succ m ih =>
    intro a1 a2 a3 a4 a5 a6 M
    exact wb_X7_tryGoes_67 n j r hj hr hd1 hdn F_X7_tryGoes hF_X7_tryGoes o (f_X7_tryGoes_67 n F_X7_tryGoes m) ih a1 a2 a3 a4 a5 a6 M
def f_X7_tryGoes_52 (n : Nat) (F_X7_tryGoes : Int32 → Int32 → Int32 → Int32 → Int32 → qM → qR) (a3 a6 : Int32) (M : qM) : qR :=
  qlm (mu M 56 12 a3) (fun m1 => qlm (mu m1 56 13 a6) (fun m2 => some (0, m2)))
set_option maxRecDepth 4000 in
theorem w_X7_tryGoes_52 {g : qG} {k : qK} (n : Nat) (j r : Nat) (hj : q_isLaw j) (hr : q_isLaw r) {d1 d : Nat} (hd1 : d1 + 1 ≤ d) (hdn : 19 ≤ d) (F_X7_tryGoes : Int32 → Int32 → Int32 → Int32 → Int32 → qM → qR) (hF_X7_tryGoes : ∀ (b1 b2 b3 b4 b5 : Int32) (M : qM), qAM g k.2.1 d1 zX7_tryGoes (qL j r) [.inr (some 56), .inl b1, .inl b2, .inl b3, .inl b4, .inl b5] (qL j r, M) (F_X7_tryGoes b1 b2 b3 b4 b5 M)) (o : qOk g d zX7_tryGoes k) (a3 a6 : Int32) (M : qM) : qAE g k zX7_tryGoes (qL j r) 52 [some (.inr (some 56)), none, none, some (.inl a3), none, none, some (.inl a6), none] [] (qL j r, M) (f_X7_tryGoes_52 n F_X7_tryGoes a3 a6 M) := by
  unfold f_X7_tryGoes_52
  refine qr_aload_n o (q_dm dm_X7_tryGoes 27 rfl) rfl ?_
  refine qr_iload_n o (q_dm dm_X7_tryGoes 28 rfl) rfl ?_
  refine qr_putf (kf := 12) o cf_X7 (sh56 j r) rfl (Nat.le_of_ble_eq_true rfl) fl_X7_96 rfl (by decide +kernel) (q_dm dm_X7_tryGoes 29 rfl) ?_
  refine qr_letm (fun m1 => ?_)
  refine qr_aload_n o (q_dm dm_X7_tryGoes 30 rfl) rfl ?_
  refine qr_iload o (q_dm dm_X7_tryGoes 31 rfl) rfl ?_
  refine qr_putf (kf := 13) o cf_X7 (sh56 j r) rfl (Nat.le_of_ble_eq_true rfl) fl_X7_99 rfl (by decide +kernel) (q_dm dm_X7_tryGoes 32 rfl) ?_
  refine qr_letm (fun m2 => ?_)
  exact qr_vret o rfl (q_dm dm_X7_tryGoes 33 rfl)

def fo_X7_tryGoes (n : Nat) (F_X7_tryGoes : Int32 → Int32 → Int32 → Int32 → Int32 → qM → qR) (a1 a2 a3 a4 a5 : Int32) (M : qM) : qR :=
  (if a1 < (M 56 10) then f_X7_tryGoes_67 n F_X7_tryGoes n a1 a2 a3 a4 a5 (0 : Int32) M else qc (f_X7_bestWay n a2 (0 : Int32) (0 : Int32) M) (fun r1 m2 => ql (r1 / (16 : Int32)) (fun x3 => (if a5 < x3 then some (0, m2) else (if a3 < (m2 56 12) then f_X7_tryGoes_52 n F_X7_tryGoes a3 x3 m2 else (if a3 = (m2 56 12) then (if (m2 56 13) ≤ x3 then some (0, m2) else f_X7_tryGoes_52 n F_X7_tryGoes a3 x3 m2) else some (0, m2)))))))
set_option maxRecDepth 4000 in
theorem w_X7_tryGoes {g : qG} {k : qK} (n : Nat) (j r : Nat) (hj : q_isLaw j) (hr : q_isLaw r) {d1 d : Nat} (hd1 : d1 + 1 ≤ d) (hdn : 19 ≤ d) (F_X7_tryGoes : Int32 → Int32 → Int32 → Int32 → Int32 → qM → qR) (hF_X7_tryGoes : ∀ (b1 b2 b3 b4 b5 : Int32) (M : qM), qAM g k.2.1 d1 zX7_tryGoes (qL j r) [.inr (some 56), .inl b1, .inl b2, .inl b3, .inl b4, .inl b5] (qL j r, M) (F_X7_tryGoes b1 b2 b3 b4 b5 M)) (o : qOk g d zX7_tryGoes k) (a1 a2 a3 a4 a5 : Int32) (M : qM) : qAE g k zX7_tryGoes (qL j r) 0 [some (.inr (some 56)), some (.inl a1), some (.inl a2), some (.inl a3), some (.inl a4), some (.inl a5), none, none] [] (qL j r, M) (fo_X7_tryGoes n F_X7_tryGoes a1 a2 a3 a4 a5 M) := by
  unfold fo_X7_tryGoes
  refine qr_iload_n o (q_dm dm_X7_tryGoes 0 rfl) rfl ?_
  refine qr_aload_n o (q_dm dm_X7_tryGoes 1 rfl) rfl ?_
  refine qr_getf (kf := 10) o cf_X7 (sh56 j r) rfl (Nat.le_of_ble_eq_true rfl) fl_X7_45 (q_dm dm_X7_tryGoes 2 rfl) ?_
  refine qr_icmp_lt (tgt := 64) o (q_dm dm_X7_tryGoes 3 rfl) (by decide) ?_ ?_
  · refine qr_iconst o (q_dm dm_X7_tryGoes 34 rfl) ic_0 ?_
    refine qs_istore (L' := [some (.inr (some 56)), some (.inl a1), some (.inl a2), some (.inl a3), some (.inl a4), some (.inl a5), some (.inl (0 : Int32)), none]) o (q_dm dm_X7_tryGoes 35 rfl) (Nat.le_of_ble_eq_true rfl) rfl ?_
    exact qr_loc (q_leS (q_leS (q_leS (q_leS (q_leS (q_leS (q_leS (q_leN q_le0)))))))) (w_X7_tryGoes_67 n j r hj hr hd1 hdn F_X7_tryGoes hF_X7_tryGoes o n a1 a2 a3 a4 a5 (0 : Int32) M)
  · refine qr_aload_n o (q_dm dm_X7_tryGoes 4 rfl) rfl ?_
    refine qr_iload_n o (q_dm dm_X7_tryGoes 5 rfl) rfl ?_
    refine qr_iconst o (q_dm dm_X7_tryGoes 6 rfl) ic_0 ?_
    refine qr_iconst o (q_dm dm_X7_tryGoes 7 rfl) ic_0 ?_
    refine qr_callv_i (As := [.inl a2, .inl (0 : Int32), .inl (0 : Int32)]) (S := []) o (a_X7_bestWay g k.2.1 n j r hj hr a2 (0 : Int32) (0 : Int32) M) (by omega) zv_X7_bestWay rfl cf_X7 (sh56 j r) ml_X7_88 (Nat.le_of_ble_eq_true rfl) (q_dm dm_X7_tryGoes 8 rfl) (fun r1 m2 => ?_)
    refine qr_bipush o (q_dm dm_X7_tryGoes 9 rfl) bi_16 ?_
    refine qr_idivc o (q_dm dm_X7_tryGoes 10 rfl) (by decide) ?_
    refine qr_lt (fun x3 => ?_)
    refine qs_istore (L' := [some (.inr (some 56)), some (.inl a1), some (.inl a2), some (.inl a3), some (.inl a4), some (.inl a5), some (.inl x3), none]) o (q_dm dm_X7_tryGoes 11 rfl) (Nat.le_of_ble_eq_true rfl) rfl ?_
    refine qr_iload o (q_dm dm_X7_tryGoes 12 rfl) rfl ?_
    refine qr_iload o (q_dm dm_X7_tryGoes 13 rfl) rfl ?_
    refine qr_icmp_gt (tgt := 63) o (q_dm dm_X7_tryGoes 14 rfl) (by decide) ?_ ?_
    · exact qr_vret o rfl (q_dm dm_X7_tryGoes 33 rfl)
    · refine qr_iload_n o (q_dm dm_X7_tryGoes 15 rfl) rfl ?_
      refine qr_aload_n o (q_dm dm_X7_tryGoes 16 rfl) rfl ?_
      refine qr_getf (kf := 12) o cf_X7 (sh56 j r) rfl (Nat.le_of_ble_eq_true rfl) fl_X7_96 (q_dm dm_X7_tryGoes 17 rfl) ?_
      refine qr_icmp_lt (tgt := 52) o (q_dm dm_X7_tryGoes 18 rfl) (by decide) ?_ ?_
      · exact qr_loc (q_leS (q_leN (q_leN (q_leS (q_leN (q_leN (q_leS (q_leN q_le0)))))))) (w_X7_tryGoes_52 n j r hj hr hd1 hdn F_X7_tryGoes hF_X7_tryGoes o a3 x3 m2)
      · refine qr_iload_n o (q_dm dm_X7_tryGoes 19 rfl) rfl ?_
        refine qr_aload_n o (q_dm dm_X7_tryGoes 20 rfl) rfl ?_
        refine qr_getf (kf := 12) o cf_X7 (sh56 j r) rfl (Nat.le_of_ble_eq_true rfl) fl_X7_96 (q_dm dm_X7_tryGoes 21 rfl) ?_
        refine qr_icmp_ne (tgt := 63) o (q_dm dm_X7_tryGoes 22 rfl) (by decide) ?_ ?_
        · exact qr_vret o rfl (q_dm dm_X7_tryGoes 33 rfl)
        · refine qr_iload o (q_dm dm_X7_tryGoes 23 rfl) rfl ?_
          refine qr_aload_n o (q_dm dm_X7_tryGoes 24 rfl) rfl ?_
          refine qr_getf (kf := 13) o cf_X7 (sh56 j r) rfl (Nat.le_of_ble_eq_true rfl) fl_X7_99 (q_dm dm_X7_tryGoes 25 rfl) ?_
          refine qr_icmp_ge (tgt := 63) o (q_dm dm_X7_tryGoes 26 rfl) (by decide) ?_ ?_
          · exact qr_vret o rfl (q_dm dm_X7_tryGoes 33 rfl)
          · exact qr_loc (q_leS (q_leN (q_leN (q_leS (q_leN (q_leN (q_leS (q_leN q_le0)))))))) (w_X7_tryGoes_52 n j r hj hr hd1 hdn F_X7_tryGoes hF_X7_tryGoes o a3 x3 m2)

theorem ao_X7_tryGoes (g : qG) (l : Launch) (n : Nat) (j r : Nat) (hj : q_isLaw j) (hr : q_isLaw r) {d1 d : Nat} (hd1 : d1 + 1 ≤ d) (hdn : 19 ≤ d) (F_X7_tryGoes : Int32 → Int32 → Int32 → Int32 → Int32 → qM → qR) (hF_X7_tryGoes : ∀ (b1 b2 b3 b4 b5 : Int32) (M : qM), qAM g l d1 zX7_tryGoes (qL j r) [.inr (some 56), .inl b1, .inl b2, .inl b3, .inl b4, .inl b5] (qL j r, M) (F_X7_tryGoes b1 b2 b3 b4 b5 M)) (a1 a2 a3 a4 a5 : Int32) (M : qM) : qAM g l d zX7_tryGoes (qL j r) [.inr (some 56), .inl a1, .inl a2, .inl a3, .inl a4, .inl a5] (qL j r, M) (fo_X7_tryGoes n F_X7_tryGoes a1 a2 a3 a4 a5 M) :=
  qAM.of zv_X7_tryGoes.1 (by show 6 ≤ 8; decide) (fun k hk o => by subst hk; exact w_X7_tryGoes n j r hj hr hd1 hdn F_X7_tryGoes hF_X7_tryGoes o a1 a2 a3 a4 a5 M)
def rc_X7_tryGoes (n : Nat) : Nat → Int32 → Int32 → Int32 → Int32 → Int32 → qM → qR
  | 0, _, _, _, _, _, _ => none
  | m + 1, a1, a2, a3, a4, a5, M => fo_X7_tryGoes n (rc_X7_tryGoes n m) a1 a2 a3 a4 a5 M

theorem rc_X7_tryGoes_ok (g : qG) (l : Launch) (n : Nat) (j r : Nat) (hj : q_isLaw j) (hr : q_isLaw r) : ∀ m : Nat, (∀ (a1 a2 a3 a4 a5 : Int32) (M : qM), qAM g l (19 + m) zX7_tryGoes (qL j r) [.inr (some 56), .inl a1, .inl a2, .inl a3, .inl a4, .inl a5] (qL j r, M) (rc_X7_tryGoes n m a1 a2 a3 a4 a5 M)) := by
  intro m
  induction m with
  | zero => exact fun _ _ _ _ _ _ _ _ h => by cases h
  | succ m ih =>
    exact (fun a1 a2 a3 a4 a5 M => ao_X7_tryGoes g l n j r hj hr (d1 := 19 + m) (d := 19 + (m + 1)) (Nat.le_refl _) (Nat.le_add_right _ _) (rc_X7_tryGoes n m) ih a1 a2 a3 a4 a5 M)

def f_X7_tryGoes (n : Nat) (a1 a2 a3 a4 a5 : Int32) (M : qM) : qR := rc_X7_tryGoes n 8 a1 a2 a3 a4 a5 M
theorem a_X7_tryGoes (g : qG) (l : Launch) (n : Nat) (j r : Nat) (hj : q_isLaw j) (hr : q_isLaw r) (a1 a2 a3 a4 a5 : Int32) (M : qM) : qAM g l 27 zX7_tryGoes (qL j r) [.inr (some 56), .inl a1, .inl a2, .inl a3, .inl a4, .inl a5] (qL j r, M) (f_X7_tryGoes n a1 a2 a3 a4 a5 M) := (rc_X7_tryGoes_ok g l n j r hj hr 8) a1 a2 a3 a4 a5 M
def tb_X7_findCheapest : List (Nat × Instr × Nat) := [(0, (.iconst 0, 1)), (1, (.istore 4, 2)), (3, (.iload 4, 2)), (5, (.aload_n 0, 1)), (6, (.getfield 45, 3)), (9, (.if_icmp .ge 29, 3)), (12, (.aload_n 0, 1)), (13, (.getfield 24, 3)), (16, (.iload 4, 2)), (18, (.aload_n 0, 1)), (19, (.aload_n 1, 1)), (20, (.iload_n 2, 1)), (21, (.aload_n 0, 1)), (22, (.getfield 9, 3)), (25, (.iload 4, 2)), (27, (.iaload, 1)), (28, (.invokevirtual 92, 3)), (31, (.iastore, 1)), (32, (.iinc 4 1, 3)), (35, (.goto (-32), 3)), (38, (.aload_n 0, 1)), (39, (.ldc 95, 2)), (41, (.putfield 96, 3)), (44, (.aload_n 0, 1)), (45, (.ldc 95, 2)), (47, (.putfield 99, 3)), (50, (.aload_n 0, 1)), (51, (.iconst 0, 1)), (52, (.iconst 0, 1)), (53, (.iconst 0, 1)), (54, (.iconst 3, 1)), (55, (.iload_n 3, 1)), (56, (.invokevirtual 102, 3)), (59, (.return_, 1))]
theorem dm_X7_findCheapest : ∀ q ∈ tb_X7_findCheapest, decode zX7_findCheapest.2.1 q.1 = .ok q.2 := by decide +kernel
def b_X7_findCheapest_3 (n : Nat) (t j : Nat) (K3 : Int32 → Int32 → Int32 → qM → qR) (a2 a3 a4 : Int32) (M : qM) : qR :=
  (if (M 56 10) ≤ a4 then qlm (mu M 56 12 (1048576 : Int32)) (fun m1 => qlm (mu m1 56 13 (1048576 : Int32)) (fun m2 => qc (f_X7_tryGoes n (0 : Int32) (0 : Int32) (0 : Int32) (3 : Int32) a3 m2) (fun _ m3 => some (0, m3)))) else qg a4 4 (qc (f_X7_leastPrice n t j a2 (M 57 a4.toNatClampNeg) M) (fun r4 m5 => qg a4 4 (qlm (mu m5 61 a4.toNatClampNeg r4) (fun m6 => ql (a4 + (1 : Int32)) (fun x7 => K3 a2 a3 x7 m6))))))
set_option maxRecDepth 4000 in
theorem wb_X7_findCheapest_3 {g : qG} {k : qK} (n : Nat) (j r : Nat) (hj : q_isLaw j) (hr : q_isLaw r) {t : Nat} (ht : q_isTown t) (o : qOk g 28 zX7_findCheapest k) (K3 : Int32 → Int32 → Int32 → qM → qR) (hK3 : ∀ (a2 a3 a4 : Int32) (M : qM), qAE g k zX7_findCheapest (qL j r) 3 [some (.inr (some 56)), some (.inr (some t)), some (.inl a2), some (.inl a3), some (.inl a4)] [] (qL j r, M) (K3 a2 a3 a4 M)) (a2 a3 a4 : Int32) (M : qM) : qAE g k zX7_findCheapest (qL j r) 3 [some (.inr (some 56)), some (.inr (some t)), some (.inl a2), some (.inl a3), some (.inl a4)] [] (qL j r, M) (b_X7_findCheapest_3 n t j K3 a2 a3 a4 M) := by
  unfold b_X7_findCheapest_3
  refine qr_iload o (q_dm dm_X7_findCheapest 2 rfl) rfl ?_
  refine qr_aload_n o (q_dm dm_X7_findCheapest 3 rfl) rfl ?_
  refine qr_getf (kf := 10) o cf_X7 (sh56 j r) rfl (Nat.le_of_ble_eq_true rfl) fl_X7_45 (q_dm dm_X7_findCheapest 4 rfl) ?_
  refine qr_icmp_ge (tgt := 38) o (q_dm dm_X7_findCheapest 5 rfl) (by decide) ?_ ?_
  · refine qr_aload_n o (q_dm dm_X7_findCheapest 20 rfl) rfl ?_
    refine qr_ldc o (q_dm dm_X7_findCheapest 21 rfl) kc_X7_95 ?_
    refine qr_putf (kf := 12) o cf_X7 (sh56 j r) rfl (Nat.le_of_ble_eq_true rfl) fl_X7_96 rfl (by decide +kernel) (q_dm dm_X7_findCheapest 22 rfl) ?_
    refine qr_letm (fun m1 => ?_)
    refine qr_aload_n o (q_dm dm_X7_findCheapest 23 rfl) rfl ?_
    refine qr_ldc o (q_dm dm_X7_findCheapest 24 rfl) kc_X7_95 ?_
    refine qr_putf (kf := 13) o cf_X7 (sh56 j r) rfl (Nat.le_of_ble_eq_true rfl) fl_X7_99 rfl (by decide +kernel) (q_dm dm_X7_findCheapest 25 rfl) ?_
    refine qr_letm (fun m2 => ?_)
    refine qr_aload_n o (q_dm dm_X7_findCheapest 26 rfl) rfl ?_
    refine qr_iconst o (q_dm dm_X7_findCheapest 27 rfl) ic_0 ?_
    refine qr_iconst o (q_dm dm_X7_findCheapest 28 rfl) ic_0 ?_
    refine qr_iconst o (q_dm dm_X7_findCheapest 29 rfl) ic_0 ?_
    refine qr_iconst o (q_dm dm_X7_findCheapest 30 rfl) ic_3 ?_
    refine qr_iload_n o (q_dm dm_X7_findCheapest 31 rfl) rfl ?_
    refine qr_callv_v (As := [.inl (0 : Int32), .inl (0 : Int32), .inl (0 : Int32), .inl (3 : Int32), .inl a3]) (S := []) o (a_X7_tryGoes g k.2.1 n j r hj hr (0 : Int32) (0 : Int32) (0 : Int32) (3 : Int32) a3 m2) (Nat.le_of_ble_eq_true rfl) zv_X7_tryGoes rfl cf_X7 (sh56 j r) ml_X7_102 (Nat.le_of_ble_eq_true rfl) (q_dm dm_X7_findCheapest 32 rfl) (fun _ m3 => ?_)
    exact qr_vret o rfl (q_dm dm_X7_findCheapest 33 rfl)
  · refine qr_aload_n o (q_dm dm_X7_findCheapest 6 rfl) rfl ?_
    refine qr_getr (kf := 7) o cf_X7 (sh56 j r) rfl (Nat.le_of_ble_eq_true rfl) fl_X7_24 (q_dm dm_X7_findCheapest 7 rfl) ?_
    refine qr_iload o (q_dm dm_X7_findCheapest 8 rfl) rfl ?_
    refine qr_aload_n o (q_dm dm_X7_findCheapest 9 rfl) rfl ?_
    refine qr_aload_n o (q_dm dm_X7_findCheapest 10 rfl) rfl ?_
    refine qr_iload_n o (q_dm dm_X7_findCheapest 11 rfl) rfl ?_
    refine qr_aload_n o (q_dm dm_X7_findCheapest 12 rfl) rfl ?_
    refine qr_getr (kf := 3) o cf_X7 (sh56 j r) rfl (Nat.le_of_ble_eq_true rfl) fl_X7_9 (q_dm dm_X7_findCheapest 13 rfl) ?_
    refine qr_iload o (q_dm dm_X7_findCheapest 14 rfl) rfl ?_
    refine qr_iald o (sh57 j r) (q_dm dm_X7_findCheapest 15 rfl) ?_
    refine qr_callv_i (As := [.inr (some t), .inl a2, .inl (M 57 a4.toNatClampNeg)]) (S := [.inl a4, .inr (some 61)]) o (a_X7_leastPrice g k.2.1 n j r hj hr ht a2 (M 57 a4.toNatClampNeg) M) (Nat.le_of_ble_eq_true rfl) zv_X7_leastPrice rfl cf_X7 (sh56 j r) ml_X7_92 (Nat.le_of_ble_eq_true rfl) (q_dm dm_X7_findCheapest 16 rfl) (fun r4 m5 => ?_)
    refine qr_iast o (sh61 j r) (q_dm dm_X7_findCheapest 17 rfl) ?_
    refine qr_letm (fun m6 => ?_)
    refine qs_iincl2 (L' := fun x7 => [some (.inr (some 56)), some (.inr (some t)), some (.inl a2), some (.inl a3), some (.inl x7)]) o (q_dm dm_X7_findCheapest 18 rfl) rfl ic_1 (Nat.le_of_ble_eq_true rfl) (fun _ => rfl) (fun x7 => ?_)
    refine qr_goto (tgt := 3) o (q_dm dm_X7_findCheapest 19 rfl) (by decide) ?_
    exact qr_loc (q_leS (q_leS (q_leS (q_leS (q_leS q_le0))))) (hK3 a2 a3 x7 m6)

def f_X7_findCheapest_3 (n : Nat) (t j : Nat) : Nat → Int32 → Int32 → Int32 → qM → qR
  | 0, _, _, _, _ => none
  | m + 1, a2, a3, a4, M => b_X7_findCheapest_3 n t j (f_X7_findCheapest_3 n t j m) a2 a3 a4 M
theorem w_X7_findCheapest_3 {g : qG} {k : qK} (n : Nat) (j r : Nat) (hj : q_isLaw j) (hr : q_isLaw r) {t : Nat} (ht : q_isTown t) (o : qOk g 28 zX7_findCheapest k) : ∀ (m : Nat) (a2 a3 a4 : Int32) (M : qM), qAE g k zX7_findCheapest (qL j r) 3 [some (.inr (some 56)), some (.inr (some t)), some (.inl a2), some (.inl a3), some (.inl a4)] [] (qL j r, M) (f_X7_findCheapest_3 n t j m a2 a3 a4 M) := by
  intro m
  induction m with
  | zero =>
    intro a2 a3 a4 M
    exact qr_none
  | succ m ih =>
    intro a2 a3 a4 M
    exact wb_X7_findCheapest_3 n j r hj hr ht o (f_X7_findCheapest_3 n t j m) ih a2 a3 a4 M
def f_X7_findCheapest (n : Nat) (t j : Nat) (a2 a3 : Int32) (M : qM) : qR :=
  f_X7_findCheapest_3 n t j n a2 a3 (0 : Int32) M
set_option maxRecDepth 4000 in
theorem w_X7_findCheapest {g : qG} {k : qK} (n : Nat) (j r : Nat) (hj : q_isLaw j) (hr : q_isLaw r) {t : Nat} (ht : q_isTown t) (o : qOk g 28 zX7_findCheapest k) (a2 a3 : Int32) (M : qM) : qAE g k zX7_findCheapest (qL j r) 0 [some (.inr (some 56)), some (.inr (some t)), some (.inl a2), some (.inl a3), none] [] (qL j r, M) (f_X7_findCheapest n t j a2 a3 M) := by
  unfold f_X7_findCheapest
  refine qr_iconst o (q_dm dm_X7_findCheapest 0 rfl) ic_0 ?_
  refine qs_istore (L' := [some (.inr (some 56)), some (.inr (some t)), some (.inl a2), some (.inl a3), some (.inl (0 : Int32))]) o (q_dm dm_X7_findCheapest 1 rfl) (Nat.le_of_ble_eq_true rfl) rfl ?_
  exact qr_loc (q_leS (q_leS (q_leS (q_leS (q_leS q_le0))))) (w_X7_findCheapest_3 n j r hj hr ht o n a2 a3 (0 : Int32) M)

theorem a_X7_findCheapest (g : qG) (l : Launch) (n : Nat) (j r : Nat) (hj : q_isLaw j) (hr : q_isLaw r) {t : Nat} (ht : q_isTown t) (a2 a3 : Int32) (M : qM) : qAM g l 28 zX7_findCheapest (qL j r) [.inr (some 56), .inr (some t), .inl a2, .inl a3] (qL j r, M) (f_X7_findCheapest n t j a2 a3 M) :=
  qAM.of zv_X7_findCheapest.1 (by show 4 ≤ 5; decide) (fun k hk o => w_X7_findCheapest n j r hj hr ht o a2 a3 M)
def tb_X7_askVoids : List (Nat × Instr × Nat) := [(0, (.aload_n 0, 1)), (1, (.getfield 9, 3)), (4, (.iload_n 3, 1)), (5, (.iaload, 1)), (6, (.istore 4, 2)), (8, (.iload_n 2, 1)), (9, (.bipush 12, 2)), (11, (.imul, 1)), (12, (.iload 4, 2)), (14, (.iadd, 1)), (15, (.istore 5, 2)), (17, (.aload_n 1, 1)), (18, (.iload 4, 2)), (20, (.invokevirtual 106, 3)), (23, (.istore 6, 2)), (25, (.aload_n 0, 1)), (26, (.getfield 37, 3)), (29, (.iload 4, 2)), (31, (.aload_n 0, 1)), (32, (.getfield 33, 3)), (35, (.getfield 109, 3)), (38, (.iload 4, 2)), (40, (.iaload, 1)), (41, (.aload_n 0, 1)), (42, (.getfield 33, 3)), (45, (.getfield 112, 3)), (48, (.iload 4, 2)), (50, (.iaload, 1)), (51, (.aload_n 1, 1)), (52, (.getfield 52, 3)), (55, (.invokevirtual 115, 3)), (58, (.iconst 0, 1)), (59, (.istore 7, 2)), (61, (.iload 7, 2)), (63, (.iconst 3, 1)), (64, (.if_icmp .gt 59, 3)), (67, (.aload_n 0, 1)), (68, (.getfield 37, 3)), (71, (.iload_n 2, 1)), (72, (.bipush 8, 2)), (74, (.aload_n 1, 1)), (75, (.getfield 119, 3)), (78, (.iload 5, 2)), (80, (.iaload, 1)), (81, (.iload 7, 2)), (83, (.iadd, 1)), (84, (.iload 6, 2)), (86, (.iload 7, 2)), (88, (.iadd, 1)), (89, (.aload_n 1, 1)), (90, (.getfield 122, 3)), (93, (.iload 5, 2)), (95, (.iaload, 1)), (96, (.invokevirtual 125, 3)), (99, (.aload_n 0, 1)), (100, (.getfield 27, 3)), (103, (.iload_n 3, 1)), (104, (.iconst 4, 1)), (105, (.imul, 1)), (106, (.iload 7, 2)), (108, (.iadd, 1)), (109, (.aload_n 0, 1)), (110, (.getfield 37, 3)), (113, (.invokevirtual 128, 3)), (116, (.iastore, 1)), (117, (.iinc 7 1, 3)), (120, (.goto (-59), 3)), (123, (.return_, 1))]
theorem dm_X7_askVoids : ∀ q ∈ tb_X7_askVoids, decode zX7_askVoids.2.1 q.1 = .ok q.2 := by decide +kernel
def b_X7_askVoids_61 (n : Nat) (t j : Nat) (K61 : Int32 → Int32 → Int32 → Int32 → Int32 → qM → qR) (a2 a3 a5 a6 a7 : Int32) (M : qM) : qR :=
  (if (3 : Int32) < a7 then some (0, M) else qg a5 96 (qg a5 96 (qc (f_X1_tellTry n a2 (8 : Int32) ((M (t + 2) a5.toNatClampNeg) + a7) (a6 + a7) (M (t + 4) a5.toNatClampNeg) M) (fun _ m1 => qc (f_X1_voidTries n j m1) (fun r2 m3 => qg ((a3 * (4 : Int32)) + a7) 16 (qlm (mu m3 62 ((a3 * (4 : Int32)) + a7).toNatClampNeg r2) (fun m4 => ql (a7 + (1 : Int32)) (fun x5 => K61 a2 a3 a5 a6 x5 m4))))))))
set_option maxRecDepth 4000 in
theorem wb_X7_askVoids_61 {g : qG} {k : qK} (n : Nat) (j r : Nat) (hj : q_isLaw j) (hr : q_isLaw r) {t : Nat} (ht : q_isTown t) (o : qOk g 4 zX7_askVoids k) (K61 : Int32 → Int32 → Int32 → Int32 → Int32 → qM → qR) (hK61 : ∀ (a2 a3 a5 a6 a7 : Int32) (M : qM), qAE g k zX7_askVoids (qL j r) 61 [some (.inr (some 56)), some (.inr (some t)), some (.inl a2), some (.inl a3), none, some (.inl a5), some (.inl a6), some (.inl a7)] [] (qL j r, M) (K61 a2 a3 a5 a6 a7 M)) (a2 a3 a5 a6 a7 : Int32) (M : qM) : qAE g k zX7_askVoids (qL j r) 61 [some (.inr (some 56)), some (.inr (some t)), some (.inl a2), some (.inl a3), none, some (.inl a5), some (.inl a6), some (.inl a7)] [] (qL j r, M) (b_X7_askVoids_61 n t j K61 a2 a3 a5 a6 a7 M) := by
  unfold b_X7_askVoids_61
  refine qr_iload o (q_dm dm_X7_askVoids 33 rfl) rfl ?_
  refine qr_iconst o (q_dm dm_X7_askVoids 34 rfl) ic_3 ?_
  refine qr_icmp_gt (tgt := 123) o (q_dm dm_X7_askVoids 35 rfl) (by decide) ?_ ?_
  · exact qr_vret o rfl (q_dm dm_X7_askVoids 67 rfl)
  · refine qr_aload_n o (q_dm dm_X7_askVoids 36 rfl) rfl ?_
    refine qr_getr (kf := 1) o cf_X7 (sh56 j r) rfl (Nat.le_of_ble_eq_true rfl) fl_X7_37 (q_dm dm_X7_askVoids 37 rfl) ?_
    refine qr_iload_n o (q_dm dm_X7_askVoids 38 rfl) rfl ?_
    refine qr_bipush o (q_dm dm_X7_askVoids 39 rfl) bi_8 ?_
    refine qr_aload_n o (q_dm dm_X7_askVoids 40 rfl) rfl ?_
    refine qr_getr (kf := 1) o cf_X10 (shT0 j r ht) rfl (Nat.le_of_ble_eq_true rfl) fl_X7_119 (q_dm dm_X7_askVoids 41 rfl) ?_
    refine qr_iload o (q_dm dm_X7_askVoids 42 rfl) rfl ?_
    refine qr_iald o (shT2 j r ht) (q_dm dm_X7_askVoids 43 rfl) ?_
    refine qr_iload o (q_dm dm_X7_askVoids 44 rfl) rfl ?_
    refine qr_iadd o (q_dm dm_X7_askVoids 45 rfl) ?_
    refine qr_iload o (q_dm dm_X7_askVoids 46 rfl) rfl ?_
    refine qr_iload o (q_dm dm_X7_askVoids 47 rfl) rfl ?_
    refine qr_iadd o (q_dm dm_X7_askVoids 48 rfl) ?_
    refine qr_aload_n o (q_dm dm_X7_askVoids 49 rfl) rfl ?_
    refine qr_getr (kf := 3) o cf_X10 (shT0 j r ht) rfl (Nat.le_of_ble_eq_true rfl) fl_X7_122 (q_dm dm_X7_askVoids 50 rfl) ?_
    refine qr_iload o (q_dm dm_X7_askVoids 51 rfl) rfl ?_
    refine qr_iald o (shT4 j r ht) (q_dm dm_X7_askVoids 52 rfl) ?_
    refine qr_callv_v (As := [.inl a2, .inl (8 : Int32), .inl ((M (t + 2) a5.toNatClampNeg) + a7), .inl (a6 + a7), .inl (M (t + 4) a5.toNatClampNeg)]) (S := []) o (a_X1_tellTry g k.2.1 n j r hj hr a2 (8 : Int32) ((M (t + 2) a5.toNatClampNeg) + a7) (a6 + a7) (M (t + 4) a5.toNatClampNeg) M) (Nat.le_of_ble_eq_true rfl) zv_X1_tellTry rfl cf_X1 (sh34 j r) ml_X7_125 (Nat.le_of_ble_eq_true rfl) (q_dm dm_X7_askVoids 53 rfl) (fun _ m1 => ?_)
    refine qr_aload_n o (q_dm dm_X7_askVoids 54 rfl) rfl ?_
    refine qr_getr (kf := 8) o cf_X7 (sh56 j r) rfl (Nat.le_of_ble_eq_true rfl) fl_X7_27 (q_dm dm_X7_askVoids 55 rfl) ?_
    refine qr_iload_n o (q_dm dm_X7_askVoids 56 rfl) rfl ?_
    refine qr_iconst o (q_dm dm_X7_askVoids 57 rfl) ic_4 ?_
    refine qr_imul o (q_dm dm_X7_askVoids 58 rfl) ?_
    refine qr_iload o (q_dm dm_X7_askVoids 59 rfl) rfl ?_
    refine qr_iadd o (q_dm dm_X7_askVoids 60 rfl) ?_
    refine qr_aload_n o (q_dm dm_X7_askVoids 61 rfl) rfl ?_
    refine qr_getr (kf := 1) o cf_X7 (sh56 j r) rfl (Nat.le_of_ble_eq_true rfl) fl_X7_37 (q_dm dm_X7_askVoids 62 rfl) ?_
    refine qr_callv_i (As := []) (S := [.inl ((a3 * (4 : Int32)) + a7), .inr (some 62)]) o (a_X1_voidTries g k.2.1 n j r hj hr  m1) (Nat.le_of_ble_eq_true rfl) zv_X1_voidTries rfl cf_X1 (sh34 j r) ml_X7_128 (Nat.le_of_ble_eq_true rfl) (q_dm dm_X7_askVoids 63 rfl) (fun r2 m3 => ?_)
    refine qr_iast o (sh62 j r) (q_dm dm_X7_askVoids 64 rfl) ?_
    refine qr_letm (fun m4 => ?_)
    refine qs_iincl2 (L' := fun x5 => [some (.inr (some 56)), some (.inr (some t)), some (.inl a2), some (.inl a3), none, some (.inl a5), some (.inl a6), some (.inl x5)]) o (q_dm dm_X7_askVoids 65 rfl) rfl ic_1 (Nat.le_of_ble_eq_true rfl) (fun _ => rfl) (fun x5 => ?_)
    refine qr_goto (tgt := 61) o (q_dm dm_X7_askVoids 66 rfl) (by decide) ?_
    exact qr_loc (q_leS (q_leS (q_leS (q_leS (q_leN (q_leS (q_leS (q_leS q_le0)))))))) (hK61 a2 a3 a5 a6 x5 m4)

def f_X7_askVoids_61 (n : Nat) (t j : Nat) : Nat → Int32 → Int32 → Int32 → Int32 → Int32 → qM → qR
  | 0, _, _, _, _, _, _ => none
  | m + 1, a2, a3, a5, a6, a7, M => b_X7_askVoids_61 n t j (f_X7_askVoids_61 n t j m) a2 a3 a5 a6 a7 M
theorem w_X7_askVoids_61 {g : qG} {k : qK} (n : Nat) (j r : Nat) (hj : q_isLaw j) (hr : q_isLaw r) {t : Nat} (ht : q_isTown t) (o : qOk g 4 zX7_askVoids k) : ∀ (m : Nat) (a2 a3 a5 a6 a7 : Int32) (M : qM), qAE g k zX7_askVoids (qL j r) 61 [some (.inr (some 56)), some (.inr (some t)), some (.inl a2), some (.inl a3), none, some (.inl a5), some (.inl a6), some (.inl a7)] [] (qL j r, M) (f_X7_askVoids_61 n t j m a2 a3 a5 a6 a7 M) := by
  intro m
  induction m with
  | zero =>
    intro a2 a3 a5 a6 a7 M
    exact qr_none
  | succ m ih =>
    intro a2 a3 a5 a6 a7 M
    exact wb_X7_askVoids_61 n j r hj hr ht o (f_X7_askVoids_61 n t j m) ih a2 a3 a5 a6 a7 M
def f_X7_askVoids (n : Nat) (t j : Nat) (a2 a3 : Int32) (M : qM) : qR :=
  qg a3 4 (ql (M 57 a3.toNatClampNeg) (fun x1 => ql ((a2 * (12 : Int32)) + x1) (fun x2 => qc (f_X10_triesByAll n t x1 M) (fun r3 m4 => qg x1 12 (qg x1 12 (qc (f_X1_tellDeed n x1 (m4 4 x1.toNatClampNeg) (m4 5 x1.toNatClampNeg) (m4 t 9) m4) (fun _ m5 => f_X7_askVoids_61 n t j n a2 a3 x2 r3 (0 : Int32) m5)))))))
set_option maxRecDepth 4000 in
theorem w_X7_askVoids {g : qG} {k : qK} (n : Nat) (j r : Nat) (hj : q_isLaw j) (hr : q_isLaw r) {t : Nat} (ht : q_isTown t) (o : qOk g 4 zX7_askVoids k) (a2 a3 : Int32) (M : qM) : qAE g k zX7_askVoids (qL j r) 0 [some (.inr (some 56)), some (.inr (some t)), some (.inl a2), some (.inl a3), none, none, none, none] [] (qL j r, M) (f_X7_askVoids n t j a2 a3 M) := by
  unfold f_X7_askVoids
  refine qr_aload_n o (q_dm dm_X7_askVoids 0 rfl) rfl ?_
  refine qr_getr (kf := 3) o cf_X7 (sh56 j r) rfl (Nat.le_of_ble_eq_true rfl) fl_X7_9 (q_dm dm_X7_askVoids 1 rfl) ?_
  refine qr_iload_n o (q_dm dm_X7_askVoids 2 rfl) rfl ?_
  refine qr_iald o (sh57 j r) (q_dm dm_X7_askVoids 3 rfl) ?_
  refine qr_lt (fun x1 => ?_)
  refine qs_istore (L' := [some (.inr (some 56)), some (.inr (some t)), some (.inl a2), some (.inl a3), some (.inl x1), none, none, none]) o (q_dm dm_X7_askVoids 4 rfl) (Nat.le_of_ble_eq_true rfl) rfl ?_
  refine qr_iload_n o (q_dm dm_X7_askVoids 5 rfl) rfl ?_
  refine qr_bipush o (q_dm dm_X7_askVoids 6 rfl) bi_12 ?_
  refine qr_imul o (q_dm dm_X7_askVoids 7 rfl) ?_
  refine qr_iload o (q_dm dm_X7_askVoids 8 rfl) rfl ?_
  refine qr_iadd o (q_dm dm_X7_askVoids 9 rfl) ?_
  refine qr_lt (fun x2 => ?_)
  refine qs_istore (L' := [some (.inr (some 56)), some (.inr (some t)), some (.inl a2), some (.inl a3), some (.inl x1), some (.inl x2), none, none]) o (q_dm dm_X7_askVoids 10 rfl) (Nat.le_of_ble_eq_true rfl) rfl ?_
  refine qr_aload_n o (q_dm dm_X7_askVoids 11 rfl) rfl ?_
  refine qr_iload o (q_dm dm_X7_askVoids 12 rfl) rfl ?_
  refine qr_callv_i (As := [.inl x1]) (S := []) o (a_X10_triesByAll g k.2.1 n j r hj hr ht x1 M) (Nat.le_of_ble_eq_true rfl) zv_X10_triesByAll rfl cf_X10 (shT0 j r ht) ml_X7_106 (Nat.le_of_ble_eq_true rfl) (q_dm dm_X7_askVoids 13 rfl) (fun r3 m4 => ?_)
  refine qs_istore (L' := [some (.inr (some 56)), some (.inr (some t)), some (.inl a2), some (.inl a3), some (.inl x1), some (.inl x2), some (.inl r3), none]) o (q_dm dm_X7_askVoids 14 rfl) (Nat.le_of_ble_eq_true rfl) rfl ?_
  refine qr_aload_n o (q_dm dm_X7_askVoids 15 rfl) rfl ?_
  refine qr_getr (kf := 1) o cf_X7 (sh56 j r) rfl (Nat.le_of_ble_eq_true rfl) fl_X7_37 (q_dm dm_X7_askVoids 16 rfl) ?_
  refine qr_iload o (q_dm dm_X7_askVoids 17 rfl) rfl ?_
  refine qr_aload_n o (q_dm dm_X7_askVoids 18 rfl) rfl ?_
  refine qr_getr (kf := 0) o cf_X7 (sh56 j r) rfl (Nat.le_of_ble_eq_true rfl) fl_X7_33 (q_dm dm_X7_askVoids 19 rfl) ?_
  refine qr_getr (kf := 0) o cf_X2 (sh3 j r) rfl (Nat.le_of_ble_eq_true rfl) fl_X7_109 (q_dm dm_X7_askVoids 20 rfl) ?_
  refine qr_iload o (q_dm dm_X7_askVoids 21 rfl) rfl ?_
  refine qr_iald o (sh4 j r) (q_dm dm_X7_askVoids 22 rfl) ?_
  refine qr_aload_n o (q_dm dm_X7_askVoids 23 rfl) rfl ?_
  refine qr_getr (kf := 0) o cf_X7 (sh56 j r) rfl (Nat.le_of_ble_eq_true rfl) fl_X7_33 (q_dm dm_X7_askVoids 24 rfl) ?_
  refine qr_getr (kf := 1) o cf_X2 (sh3 j r) rfl (Nat.le_of_ble_eq_true rfl) fl_X7_112 (q_dm dm_X7_askVoids 25 rfl) ?_
  refine qr_iload o (q_dm dm_X7_askVoids 26 rfl) rfl ?_
  refine qr_iald o (sh5 j r) (q_dm dm_X7_askVoids 27 rfl) ?_
  refine qr_aload_n o (q_dm dm_X7_askVoids 28 rfl) rfl ?_
  refine qr_getf (kf := 9) o cf_X10 (shT0 j r ht) rfl (Nat.le_of_ble_eq_true rfl) fl_X7_52 (q_dm dm_X7_askVoids 29 rfl) ?_
  refine qr_callv_v (As := [.inl x1, .inl (m4 4 x1.toNatClampNeg), .inl (m4 5 x1.toNatClampNeg), .inl (m4 t 9)]) (S := []) o (a_X1_tellDeed g k.2.1 n j r hj hr x1 (m4 4 x1.toNatClampNeg) (m4 5 x1.toNatClampNeg) (m4 t 9) m4) (Nat.le_of_ble_eq_true rfl) zv_X1_tellDeed rfl cf_X1 (sh34 j r) ml_X7_115 (Nat.le_of_ble_eq_true rfl) (q_dm dm_X7_askVoids 30 rfl) (fun _ m5 => ?_)
  refine qr_iconst o (q_dm dm_X7_askVoids 31 rfl) ic_0 ?_
  refine qs_istore (L' := [some (.inr (some 56)), some (.inr (some t)), some (.inl a2), some (.inl a3), some (.inl x1), some (.inl x2), some (.inl r3), some (.inl (0 : Int32))]) o (q_dm dm_X7_askVoids 32 rfl) (Nat.le_of_ble_eq_true rfl) rfl ?_
  exact qr_loc (q_leS (q_leS (q_leS (q_leS (q_leN (q_leS (q_leS (q_leS q_le0)))))))) (w_X7_askVoids_61 n j r hj hr ht o n a2 a3 x2 r3 (0 : Int32) m5)

theorem a_X7_askVoids (g : qG) (l : Launch) (n : Nat) (j r : Nat) (hj : q_isLaw j) (hr : q_isLaw r) {t : Nat} (ht : q_isTown t) (a2 a3 : Int32) (M : qM) : qAM g l 4 zX7_askVoids (qL j r) [.inr (some 56), .inr (some t), .inl a2, .inl a3] (qL j r, M) (f_X7_askVoids n t j a2 a3 M) :=
  qAM.of zv_X7_askVoids.1 (by show 4 ≤ 8; decide) (fun k hk o => w_X7_askVoids n j r hj hr ht o a2 a3 M)
def tb_X7_toPlaces : List (Nat × Instr × Nat) := [(0, (.iconst 0, 1)), (1, (.istore_n 2, 1)), (2, (.iconst 0, 1)), (3, (.istore_n 3, 1)), (4, (.iload_n 3, 1)), (5, (.aload_n 0, 1)), (6, (.getfield 45, 3)), (9, (.if_icmp .ge 24, 3)), (12, (.iload_n 2, 1)), (13, (.iload_n 1, 1)), (14, (.aload_n 0, 1)), (15, (.getfield 9, 3)), (18, (.iload_n 3, 1)), (19, (.iaload, 1)), (20, (.ishr, 1)), (21, (.iconst 1, 1)), (22, (.iand, 1)), (23, (.iload_n 3, 1)), (24, (.ishl, 1)), (25, (.ior, 1)), (26, (.istore_n 2, 1)), (27, (.iinc 3 1, 3)), (30, (.goto (-26), 3)), (33, (.iload_n 2, 1)), (34, (.ireturn, 1))]
theorem dm_X7_toPlaces : ∀ q ∈ tb_X7_toPlaces, decode zX7_toPlaces.2.1 q.1 = .ok q.2 := by decide +kernel
def b_X7_toPlaces_4 (n : Nat) (K4 : Int32 → Int32 → Int32 → qM → qR) (a1 a2 a3 : Int32) (M : qM) : qR :=
  (if (M 56 10) ≤ a3 then some (a2, M) else qg a3 4 (ql (a2 ||| (((a1 >>> ((M 57 a3.toNatClampNeg) &&& 31)) &&& (1 : Int32)) <<< (a3 &&& 31))) (fun x1 => ql (a3 + (1 : Int32)) (fun x2 => K4 a1 x1 x2 M))))
set_option maxRecDepth 4000 in
theorem wb_X7_toPlaces_4 {g : qG} {k : qK} (n : Nat) (j r : Nat) (hj : q_isLaw j) (hr : q_isLaw r) (o : qOk g 0 zX7_toPlaces k) (K4 : Int32 → Int32 → Int32 → qM → qR) (hK4 : ∀ (a1 a2 a3 : Int32) (M : qM), qAE g k zX7_toPlaces (qL j r) 4 [some (.inr (some 56)), some (.inl a1), some (.inl a2), some (.inl a3)] [] (qL j r, M) (K4 a1 a2 a3 M)) (a1 a2 a3 : Int32) (M : qM) : qAE g k zX7_toPlaces (qL j r) 4 [some (.inr (some 56)), some (.inl a1), some (.inl a2), some (.inl a3)] [] (qL j r, M) (b_X7_toPlaces_4 n K4 a1 a2 a3 M) := by
  unfold b_X7_toPlaces_4
  refine qr_iload_n o (q_dm dm_X7_toPlaces 4 rfl) rfl ?_
  refine qr_aload_n o (q_dm dm_X7_toPlaces 5 rfl) rfl ?_
  refine qr_getf (kf := 10) o cf_X7 (sh56 j r) rfl (Nat.le_of_ble_eq_true rfl) fl_X7_45 (q_dm dm_X7_toPlaces 6 rfl) ?_
  refine qr_icmp_ge (tgt := 33) o (q_dm dm_X7_toPlaces 7 rfl) (by decide) ?_ ?_
  · refine qr_iload_n o (q_dm dm_X7_toPlaces 23 rfl) rfl ?_
    exact qr_iret o rfl rfl (q_dm dm_X7_toPlaces 24 rfl)
  · refine qr_iload_n o (q_dm dm_X7_toPlaces 8 rfl) rfl ?_
    refine qr_iload_n o (q_dm dm_X7_toPlaces 9 rfl) rfl ?_
    refine qr_aload_n o (q_dm dm_X7_toPlaces 10 rfl) rfl ?_
    refine qr_getr (kf := 3) o cf_X7 (sh56 j r) rfl (Nat.le_of_ble_eq_true rfl) fl_X7_9 (q_dm dm_X7_toPlaces 11 rfl) ?_
    refine qr_iload_n o (q_dm dm_X7_toPlaces 12 rfl) rfl ?_
    refine qr_iald o (sh57 j r) (q_dm dm_X7_toPlaces 13 rfl) ?_
    refine qr_ishr o (q_dm dm_X7_toPlaces 14 rfl) ?_
    refine qr_iconst o (q_dm dm_X7_toPlaces 15 rfl) ic_1 ?_
    refine qr_iand o (q_dm dm_X7_toPlaces 16 rfl) ?_
    refine qr_iload_n o (q_dm dm_X7_toPlaces 17 rfl) rfl ?_
    refine qr_ishl o (q_dm dm_X7_toPlaces 18 rfl) ?_
    refine qr_ior o (q_dm dm_X7_toPlaces 19 rfl) ?_
    refine qr_lt (fun x1 => ?_)
    refine qs_istore_n (L' := [some (.inr (some 56)), some (.inl a1), some (.inl x1), some (.inl a3)]) o (q_dm dm_X7_toPlaces 20 rfl) (Nat.le_of_ble_eq_true rfl) rfl ?_
    refine qs_iincl2 (L' := fun x2 => [some (.inr (some 56)), some (.inl a1), some (.inl x1), some (.inl x2)]) o (q_dm dm_X7_toPlaces 21 rfl) rfl ic_1 (Nat.le_of_ble_eq_true rfl) (fun _ => rfl) (fun x2 => ?_)
    refine qr_goto (tgt := 4) o (q_dm dm_X7_toPlaces 22 rfl) (by decide) ?_
    exact qr_loc (q_leS (q_leS (q_leS (q_leS q_le0)))) (hK4 a1 x1 x2 M)

def f_X7_toPlaces_4 (n : Nat) : Nat → Int32 → Int32 → Int32 → qM → qR
  | 0, _, _, _, _ => none
  | m + 1, a1, a2, a3, M => b_X7_toPlaces_4 n (f_X7_toPlaces_4 n m) a1 a2 a3 M
theorem w_X7_toPlaces_4 {g : qG} {k : qK} (n : Nat) (j r : Nat) (hj : q_isLaw j) (hr : q_isLaw r) (o : qOk g 0 zX7_toPlaces k) : ∀ (m : Nat) (a1 a2 a3 : Int32) (M : qM), qAE g k zX7_toPlaces (qL j r) 4 [some (.inr (some 56)), some (.inl a1), some (.inl a2), some (.inl a3)] [] (qL j r, M) (f_X7_toPlaces_4 n m a1 a2 a3 M) := by
  intro m
  induction m with
  | zero =>
    intro a1 a2 a3 M
    exact qr_none
  | succ m ih =>
    intro a1 a2 a3 M
    exact wb_X7_toPlaces_4 n j r hj hr o (f_X7_toPlaces_4 n m) ih a1 a2 a3 M
def f_X7_toPlaces (n : Nat) (a1 : Int32) (M : qM) : qR :=
  f_X7_toPlaces_4 n n a1 (0 : Int32) (0 : Int32) M
set_option maxRecDepth 4000 in
theorem w_X7_toPlaces {g : qG} {k : qK} (n : Nat) (j r : Nat) (hj : q_isLaw j) (hr : q_isLaw r) (o : qOk g 0 zX7_toPlaces k) (a1 : Int32) (M : qM) : qAE g k zX7_toPlaces (qL j r) 0 [some (.inr (some 56)), some (.inl a1), none, none] [] (qL j r, M) (f_X7_toPlaces n a1 M) := by
  unfold f_X7_toPlaces
  refine qr_iconst o (q_dm dm_X7_toPlaces 0 rfl) ic_0 ?_
  refine qs_istore_n (L' := [some (.inr (some 56)), some (.inl a1), some (.inl (0 : Int32)), none]) o (q_dm dm_X7_toPlaces 1 rfl) (Nat.le_of_ble_eq_true rfl) rfl ?_
  refine qr_iconst o (q_dm dm_X7_toPlaces 2 rfl) ic_0 ?_
  refine qs_istore_n (L' := [some (.inr (some 56)), some (.inl a1), some (.inl (0 : Int32)), some (.inl (0 : Int32))]) o (q_dm dm_X7_toPlaces 3 rfl) (Nat.le_of_ble_eq_true rfl) rfl ?_
  exact qr_loc (q_leS (q_leS (q_leS (q_leS q_le0)))) (w_X7_toPlaces_4 n j r hj hr o n a1 (0 : Int32) (0 : Int32) M)

theorem a_X7_toPlaces (g : qG) (l : Launch) (n : Nat) (j r : Nat) (hj : q_isLaw j) (hr : q_isLaw r) (a1 : Int32) (M : qM) : qAM g l 0 zX7_toPlaces (qL j r) [.inr (some 56), .inl a1] (qL j r, M) (f_X7_toPlaces n a1 M) :=
  qAM.of zv_X7_toPlaces.1 (by show 2 ≤ 4; decide) (fun k hk o => w_X7_toPlaces n j r hj hr o a1 M)
