theorem z_badD {T : Int → Int} {pl : Int} (h1 : T pl ≠ 41) (h2 : T pl ≠ 38) (h3 : T pl ≠ 124) : ∀ (W : List (Int × Int)) (C : List Int), Lo T (3, pl, 0, C, W) (zF 1 pl) := by
  intro W
  induction W with
  | nil => intro C; exact Lo_st rfl
  | cons q r ih =>
    intro C
    by_cases c10 : q.1 = 10
    · refine Lo_tr (Lo_st (d := (3, pl, 0, C ++ [1048576 * 10], r)) ?_) (ih _)
      rw [ls_D, zD_c]
      rw [if_pos c10]
    · by_cases c11 : q.1 = 11
      · refine Lo_tr (Lo_st (d := (3, pl, 0, C.set q.2.toNat (1048576 * (C.getD q.2.toNat 0 / 1048576) + C.length), r)) ?_) (ih _)
        rw [ls_D, zD_c]
        rw [if_neg c10, if_pos c11]
      · by_cases c12 : q.1 = 12
        · refine Lo_tr (Lo_st (d := (3, pl, 0, C.set q.2.toNat (1048576 * (C.getD q.2.toNat 0 / 1048576) + C.length), r)) ?_) (ih _)
          rw [ls_D, zD_c]
          rw [if_neg c10, if_neg c11, if_pos ⟨c12, h2⟩]
        · refine Lo_st ?_
          rw [ls_D, zD_c]
          rw [if_neg c10, if_neg c11, if_neg (fun x => c12 x.1)]
          unfold zH
          rw [if_neg (fun x => h1 x.1), if_neg h2, if_neg h3]
abbrev Xc (R : Nat → Int32) (len : Int) (M0 : qM) (c0 : Lc) (pl0 : Int) : Int32 → qM → Prop := Xz (tm R len) R len M0 c0 6 0 pl0 (fun _ W _ => W = [])
theorem x_c180 {n : Nat} (hn : 200000 ≤ n) {R : Nat → Int32} {len pl0 : Int} {M0 : qM} {c0 : Lc} {K : qM → qR}
    (hK : ∀ (M : qM) (C : List Int) (W : List (Int × Int)), Mw R len M0 C W M → cW W → Lo (tm R len) c0 (2, (M 77 9).toInt, 0, C, W) → pl0 ≤ (M 77 9).toInt → qP (K M) (Xc R len M0 c0 pl0))
    (M : qM) (C : List Int) (W : List (Int × Int)) (h : Mw R len M0 C W M) (hW : dW W) (hL : Lo (tm R len) c0 (3, (M 77 9).toInt, 0, C, W)) (hp0 : pl0 ≤ (M 77 9).toInt) (hT : tm R len (M 77 9).toInt = 38 ∨ tm R len (M 77 9).toInt = 124) : qP (f_X12_readsCondition_180 n K M) (Xc R len M0 c0 pl0) := by
  have ht := tm_r R len (M 77 9).toInt
  have go : ∀ s1 : Int32, (s1.toInt ≠ 0 ∧ tm R len (M 77 9).toInt = 124) ∨ (s1.toInt = 0 ∧ tm R len (M 77 9).toInt = 38) → qP (f_X12_readsCondition_195 n K s1 M) (Xc R len M0 c0 pl0) := by
    intro s1 hs1
    unfold f_X12_readsCondition_195 f_X12_lands
    refine P_qc (x_lands s1 n M C W h hW hL (fun q => by omega)) ?_
    rintro _ m1 ⟨C1, W1, p1, p2, p3, p4, p5, p6⟩
    have hct := cOk_top p2.1 p2.2.1
    have hp10 := p2.2.2
    obtain ⟨q, r, rfl, hq⟩ := tpk_pos (W := W1) (by omega)
    refine P_qc (x_here hn m1 p1) ?_
    rintro r2 m3 ⟨rfl, hr2⟩
    rw [p4] at hr2
    have fin : ∀ (a : Int32) (k : Int), a.toInt = k → ((k = 11 ∧ tm R len (M 77 9).toInt = 38) ∨ (k = 12 ∧ tm R len (M 77 9).toInt = 124)) → qP (f_X12_readsCondition_215 n K a m3) (Xc R len M0 c0 pl0) := by
      intro a k hak hk
      unfold f_X12_readsCondition_215
      refine P_qc (x_jumps (k := k) a m3 p1 hak (by omega) (by rw [p4]; omega)) ?_
      rintro _ m4 ⟨j1, j2⟩
      rw [p4] at j2
      refine hK m4 _ _ j1 ⟨⟨?_, fun _ => p2.2.2, (fun e => by cases e), p2.1⟩, by simp⟩ (Lo_tr p3 (Lo_st ?_)) (by omega)
      · show 10 ≤ k ∧ k ≤ 13
        omega
      · rw [ls_D, j2]
        show (if _ then _ else _) = _
        rcases hk with ⟨k1, k2⟩ | ⟨k1, k2⟩
        · rw [if_neg (by omega), if_neg (by omega), if_neg (fun x => x.2 k2)]
          unfold zH
          rw [if_neg (by omega), if_pos k2, k1]
        · have h12 : q.1 ≠ 12 := by
            have := p6 (by omega)
            omega
          rw [if_neg (by omega), if_neg (by omega), if_neg (fun x => h12 x.1)]
          unfold zH
          rw [if_neg (by omega), if_neg (by omega), if_pos k2, k1]
    refine P_eq rfl l_38 (fun c => ?_) (fun c => ?_)
    · exact fin (11 : Int32) 11 l_11 (Or.inl ⟨rfl, by omega⟩)
    · exact fin (12 : Int32) 12 l_12 (Or.inr ⟨rfl, by omega⟩)
  unfold f_X12_readsCondition_180
  refine P_qc (x_here hn M h) ?_
  rintro r1 m2 ⟨rfl, hr1⟩
  refine P_eq rfl l_124 (fun c => ?_) (fun c => ?_)
  · exact go (1 : Int32) (Or.inl ⟨by rw [l_1]; decide, by omega⟩)
  · exact go (0 : Int32) (Or.inr ⟨l_0, by omega⟩)
theorem x_c92 {n : Nat} (hn : 200000 ≤ n) {R : Nat → Int32} {len pl0 : Int} {M0 : qM} {c0 : Lc} {K : qM → qR}
    (hK : ∀ (M : qM) (C : List Int) (W : List (Int × Int)), Mw R len M0 C W M → cW W → Lo (tm R len) c0 (2, (M 77 9).toInt, 0, C, W) → pl0 ≤ (M 77 9).toInt → qP (K M) (Xc R len M0 c0 pl0)) :
    ∀ (m : Nat) (M : qM) (C : List Int) (W : List (Int × Int)), Mw R len M0 C W M → dW W → Lo (tm R len) c0 (3, (M 77 9).toInt, 0, C, W) → pl0 ≤ (M 77 9).toInt → qP (f_X12_readsCondition_92 n K m M) (Xc R len M0 c0 pl0) := by
  intro m
  induction m with
  | zero => intro M C W _ _ _ _; exact P_none
  | succ m ih =>
    intro M C W h hW hL hp0
    have ht := tm_r R len (M 77 9).toInt
    have h9 := r_77_9 h.1
    show qP (b_X12_readsCondition_92 n K (f_X12_readsCondition_92 n K m) M) _
    unfold b_X12_readsCondition_92
    refine P_qc (x_here hn M h) ?_
    rintro r1 m2 ⟨rfl, hr1⟩
    refine P_eq rfl l_41 (fun c => ?_) (fun c => ?_)
    · have h41 : tm R len (m2 77 9).toInt = 41 := by omega
      unfold f_X12_lands
      refine P_qc (x_lands (1 : Int32) n m2 C W h hW hL (fun _ => by omega)) ?_
      rintro _ m9 ⟨C1, W1, p1, p2, p3, p4, p5, p6⟩
      have hct := cOk_top p2.1 p2.2.1
      have hp10 := p2.2.2
      have hp12 := p6 (by rw [l_1]; decide)
      obtain ⟨q, r, rfl, hq⟩ := tpk_pos (W := W1) (by omega)
      have hq13 : q.1 = 13 := by omega
      refine x_shut m9 p1 (Or.inr (Or.inl hq13)) ?_
      intro m11 j1 j2
      refine x_pl m11 j1 (by rw [j2, p4]; omega) ?_
      intro m12 j3 j4
      rw [j2, p4] at j4
      have hl2 := stw_len (F := m12 86) (m12 77 15).toInt.toNat
      rw [j3.2.2.2.2.2.2.2.1] at hl2
      have h15 := r_77_15 j3.1
      have hz : zS (tm R len) (3, (m2 77 9).toInt, 0, C1, q :: r) = (if r = [] then (6, (m2 77 9).toInt + 1, 0, C1, []) else (3, (m2 77 9).toInt + 1, 0, C1, r)) := by
        rw [ls_D, zD_c]
        rw [if_neg (by omega), if_neg (by omega), if_neg (by omega)]
        unfold zH
        rw [if_pos ⟨h41, hq13⟩]
      refine P_eq rfl l_0 (fun d => ?_) (fun d => ?_)
      · have hr : r = [] := List.eq_nil_of_length_eq_zero (by omega)
        subst hr
        refine P_ret (Or.inr ⟨l_1, C1, [], j3, Lo_tr p3 (Lo_st ?_), by omega, rfl⟩)
        rw [hz, if_pos rfl, j4]
      · have hr : r ≠ [] := fun e => by rw [e] at hl2; have hl3 : (0 : Nat) = (m12 77 15).toInt.toNat := hl2; omega
        unfold f_X12_endsPiece
        refine P_qc (x_ends n m12 C1 r j3 ⟨p2.1.2.2.2, hr⟩ (Lo_tr p3 (Lo_st ?_))) ?_
        · rw [hz, if_neg hr, j4]
        · rintro _ m13 ⟨C3, W3, q1, q2, q3, q4⟩
          exact ih m13 C3 W3 q1 q2 q3 (by rw [q4]; omega)
    · refine P_qc (x_here hn m2 h) ?_
      rintro r3 m4 ⟨rfl, hr3⟩
      refine P_eq rfl l_38 (fun d => ?_) (fun d => ?_)
      · exact x_c180 hn hK m4 C W h hW hL hp0 (Or.inl (by omega))
      · refine P_qc (x_here hn m4 h) ?_
        rintro r5 m6 ⟨rfl, hr5⟩
        refine P_eq rfl l_124 (fun e => ?_) (fun e => ?_)
        · exact x_c180 hn hK m6 C W h hW hL hp0 (Or.inr (by omega))
        · exact P_mono (x_fail (M0 := M0) (T := tm R len) (c0 := c0) (k := 1) (w := (m6 77 9).toInt) (1 : Int32) (m6 77 9) m6 h.1 h.2.1 l_1 rfl (by decide) h9 (Lo_tr hL (z_badD (by omega) (by omega) (by omega) W C))) (fun v m p => Or.inl p)
theorem x_c40 {n : Nat} (hn : 200000 ≤ n) {R : Nat → Int32} {len pl0 : Int} {M0 : qM} {c0 : Lc} : ∀ (m : Nat) (M : qM) (C : List Int) (W : List (Int × Int)), Mw R len M0 C W M → cW W → Lo (tm R len) c0 (2, (M 77 9).toInt, 0, C, W) → pl0 ≤ (M 77 9).toInt → qP (f_X12_readsCondition_40 n m M) (Xc R len M0 c0 pl0) := by
  intro m
  induction m with
  | zero => intro M C W _ _ _ _; exact P_none
  | succ m ih =>
    intro M C W h hW hL hp0
    have ht := tm_r R len (M 77 9).toInt
    have hop : ∀ (a : Int32) (k : Int), a.toInt = k → ((k = 10 ∧ tm R len (M 77 9).toInt = 33) ∨ (k = 13 ∧ tm R len (M 77 9).toInt = 40)) → qP (f_X12_readsCondition_75 n (f_X12_readsCondition_40 n m) a M) (Xc R len M0 c0 pl0) := by
      intro a k hak hk
      unfold f_X12_readsCondition_75
      refine P_qc (x_opens a M h (by omega) (by omega)) ?_
      have hz : zS (tm R len) (2, (M 77 9).toInt, 0, C, W) = zO (M 77 9).toInt 0 k C W 2 := by
        rw [ls_C]
        unfold zC
        rcases hk with ⟨k1, k2⟩ | ⟨k1, k2⟩
        · rw [if_pos k2, k1]
        · rw [if_neg (by omega), if_pos k2, k1]
      rintro r1 m2 (⟨q0, q1, q2, q3, q4⟩ | ⟨q0, q1, q2, q3⟩)
      · refine P_eq rfl l_0 (fun _ => ?_) (fun e => by omega)
        refine P_ret (Or.inl ⟨l_0, Lo_tr hL (Lo_st ?_), q3, q4⟩)
        rw [hz]
        unfold zO
        rw [if_pos q1]
        unfold zF
        rw [q2]
      · refine P_eq rfl l_0 (fun e => by omega) (fun _ => ?_)
        refine ih m2 C _ q2 ⟨⟨?_, fun e => ?_, fun e => absurd e hW.2, hW.1⟩, by simp⟩ (Lo_tr hL (Lo_st ?_)) (by omega)
        · show 10 ≤ a.toInt ∧ a.toInt ≤ 13
          omega
        · have e2 : a.toInt = 11 ∨ a.toInt = 12 := e
          omega
        · rw [hz]
          unfold zO
          rw [if_neg q1, q3, hak]
    have h58 : tm R len (M 77 9).toInt = 33 ∨ tm R len (M 77 9).toInt = 40 → qP (f_X12_readsCondition_58 n (f_X12_readsCondition_40 n m) M) (Xc R len M0 c0 pl0) := by
      intro h1
      unfold f_X12_readsCondition_58
      refine P_qc (x_here hn M h) ?_
      rintro r1 m2 ⟨rfl, hr1⟩
      refine P_eq rfl l_33 (fun c => ?_) (fun c => ?_)
      · exact hop (10 : Int32) 10 l_10 (Or.inl ⟨rfl, by omega⟩)
      · exact hop (13 : Int32) 13 l_13 (Or.inr ⟨rfl, by omega⟩)
    show qP (b_X12_readsCondition_40 n (f_X12_readsCondition_40 n m) M) _
    unfold b_X12_readsCondition_40
    refine P_qc (x_here hn M h) ?_
    rintro r1 m2 ⟨rfl, hr1⟩
    refine P_eq rfl l_33 (fun c => ?_) (fun c => ?_)
    · exact h58 (Or.inl (by omega))
    · refine P_qc (x_here hn m2 h) ?_
      rintro r3 m4 ⟨rfl, hr3⟩
      refine P_eq rfl l_40 (fun d => ?_) (fun d => ?_)
      · exact h58 (Or.inr (by omega))
      · refine P_qc (x_cmp hn (pl0 := pl0) (c0 := c0) m4 C W h hW hp0 (Lo_tr hL (Lo_st ?_))) ?_
        · rw [ls_C]
          unfold zC
          rw [if_neg (by omega), if_neg (by omega)]
        · rintro r5 m6 (⟨q0, q1⟩ | ⟨q0, C6, W6, q1, q2, q3, q4⟩)
          · exact P_eq rfl l_0 (fun _ => P_ret (Or.inl ⟨l_0, q1⟩)) (fun e => by omega)
          · refine P_eq rfl l_0 (fun e => by omega) (fun _ => ?_)
            exact x_c92 hn (fun M2 C2 W2 k1 k2 k3 k4 => ih M2 C2 W2 k1 k2 k3 k4) n m6 C6 W6 q1 q4 q2 q3
theorem x_cond {n : Nat} (hn : 200000 ≤ n) {R : Nat → Int32} {len : Int} {M0 : qM} (M : qM) (C : List Int) (hg : G M) (hs : Sm lQ M0 M) (hx : M 84 = R) (hl : (M 77 10).toInt = len) (hp : (M 77 9).toInt ≤ len) (hc : (M 77 14).toInt = (C.length : Int)) (hf : Fn (fun k => (M 85 k).toInt) C) : qP (f_X12_readsCondition n M) (fun v m => (v.toInt = 0 ∧ tm R len (M 77 9).toInt ≠ 40 ∧ (m 77 11).toInt = -1000 * 1 - (M 77 9).toInt ∧ G m ∧ Sm lQ M0 m) ∨ (tm R len (M 77 9).toInt = 40 ∧ Xc R len M0 (2, (M 77 9).toInt + 1, 0, C, [(13, 0)]) (M 77 9).toInt v m)) := by
  have ht := tm_r R len (M 77 9).toInt
  have h9 := r_77_9 hg
  have hv := v_here hn M hg
  rw [hx, hl] at hv
  unfold f_X12_readsCondition
  refine P_qc (P_T hv) ?_
  rintro r1 m2 ⟨rfl, hr1⟩
  refine P_eq rfl l_40 (fun c => ?_) (fun c => ?_)
  · have h40 : tm R len (m2 77 9).toInt = 40 := by omega
    refine P_w (Or.inr (by decide)) hg hs trivial ?_
    intro m3 a1 a2 a3 g3 s3
    refine P_w (Or.inr (by decide)) g3 s3 (i_rng (lo := 0) (hi := 260) l_0 (by omega) (by omega)) ?_
    intro m4 b1 b2 b3 g4 s4
    have e9 : m4 77 9 = m2 77 9 := by rw [b2 9 (by decide), a2 9 (by decide)]
    have hM4 : Mw R len M0 C [] m4 := ⟨g4, s4, by rw [b3 84 (by decide), a3 84 (by decide)]; exact hx, by rw [b2 10 (by decide), a2 10 (by decide)]; exact hl, by rw [e9]; exact hp, by rw [b2 14 (by decide), a2 14 (by decide)]; exact hc, by rw [b3 85 (by decide), a3 85 (by decide)]; exact hf, by rw [b1]; rfl, by rw [b2 13 (by decide), a1]; rfl, by show (0 : Int) ≤ 6; decide, fun q hq => absurd hq (by simp)⟩
    refine P_qc (x_opens (13 : Int32) m4 hM4 (Or.inr (Or.inl l_13)) (by rw [e9]; omega)) ?_
    rintro r5 m6 (⟨q0, q1, q2, q3, q4⟩ | ⟨q0, q1, q2, q3⟩)
    · exact absurd q1 (by show ¬ (0 : Int) = 6; decide)
    · refine P_eq rfl l_0 (fun e => by omega) (fun _ => ?_)
      rw [e9] at q3
      rw [l_13] at q2
      refine P_mono (x_c40 hn (c0 := (2, (m2 77 9).toInt + 1, 0, C, [(13, 0)])) (pl0 := (m2 77 9).toInt) n m6 C [(13, 0)] q2 ⟨⟨by decide, fun e => absurd e (by decide), fun _ => rfl, trivial⟩, by simp⟩ (by rw [q3]; exact Lo_rf) (by omega)) (fun v m p => Or.inr ⟨h40, p⟩)
  · refine P_qc (x_wrong (M0 := M0) (1 : Int32) (m2 77 9) m2 hg hs (by decide) h9) ?_
    rintro r7 m8 ⟨w0, w1, g, s⟩
    exact P_qb (P_ret (Or.inl ⟨w0, by omega, by rw [w1, l_1], g, s⟩))
