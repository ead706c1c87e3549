/-! the model's conditions -/
def cOk : List (Int × Int) → Prop
  | [] => True
  | q :: r => (10 ≤ q.1 ∧ q.1 ≤ 13) ∧ ((q.1 = 11 ∨ q.1 = 12) → tpk r ≠ 10) ∧ (r = [] → q.1 = 13) ∧ cOk r
theorem cOk_top {W : List (Int × Int)} (h : cOk W) (hn : W ≠ []) : 10 ≤ tpk W ∧ tpk W ≤ 13 := by
  cases W with
  | nil => exact absurd rfl hn
  | cons q r => exact h.1
theorem cOk_nT {W : List (Int × Int)} (h : cOk W) (hn : W ≠ []) : nT W := by
  have := cOk_top h hn
  exact ⟨by omega, by omega⟩
abbrev cW (W : List (Int × Int)) : Prop := cOk W ∧ W ≠ []
abbrev dW (W : List (Int × Int)) : Prop := cOk W ∧ W ≠ [] ∧ tpk W ≠ 10
theorem x_ends {n : Nat} {R : Nat → Int32} {len : Int} {M0 : qM} {c0 : Lc} : ∀ (m : Nat) (M : qM) (C : List Int) (W : List (Int × Int)), Mw R len M0 C W M → cW W → Lo (tm R len) c0 (3, (M 77 9).toInt, 0, C, W) → qP (f_X12_endsPiece_0 n m M) (fun _ m => ∃ C W, Mw R len M0 C W m ∧ dW W ∧ Lo (tm R len) c0 (3, (m 77 9).toInt, 0, C, W) ∧ m 77 9 = M 77 9) := by
  intro m
  induction m with
  | zero => intro M C W _ _ _; exact P_none
  | succ m ih =>
    intro M C W h hW hL
    show qP (b_X12_endsPiece_0 n (f_X12_endsPiece_0 n m) M) _
    unfold b_X12_endsPiece_0
    refine P_qc (x_top M h) ?_
    rintro r1 m2 ⟨rfl, ht⟩
    refine P_eq rfl l_10 (fun c => ?_) (fun c => ?_)
    · obtain ⟨q, r, rfl, hq⟩ := tpk_pos (W := W) (by omega)
      have hq10 : q.1 = 10 := by omega
      obtain ⟨⟨k1, k2, k3, k4⟩, _⟩ := hW
      have hr : r ≠ [] := fun e => by have := k3 e; omega
      refine P_qc (x_notes (10 : Int32) (0 : Int32) m2 h (by rw [l_10]; decide) (by rw [l_0]; decide)) ?_
      rintro _ m3 ⟨j1, j2⟩
      refine x_shut m3 j1 (Or.inl hq10) ?_
      intro m5 j3 j4
      have e9 : m5 77 9 = m2 77 9 := by rw [j4, j2]
      refine P_mono (ih m5 _ r j3 ⟨k4, hr⟩ ?_) ?_
      · rw [e9]
        refine Lo_tr hL (Lo_st ?_)
        rw [ls_D, l_10, l_0]
        show (if _ then _ else _) = _
        rw [if_pos hq10]
        rfl
      · rintro v m6 ⟨C6, W6, p1, p2, p3, p4⟩
        exact ⟨C6, W6, p1, p2, p3, by rw [p4, e9]⟩
    · exact P_ret ⟨C, W, h, ⟨hW.1, hW.2, by omega⟩, hL, rfl⟩
theorem x_lands {n : Nat} {R : Nat → Int32} {len : Int} {M0 : qM} {c0 : Lc} (a1 : Int32) : ∀ (m : Nat) (M : qM) (C : List Int) (W : List (Int × Int)), Mw R len M0 C W M → dW W → Lo (tm R len) c0 (3, (M 77 9).toInt, 0, C, W) → (a1.toInt ≠ 0 → tm R len (M 77 9).toInt ≠ 38) → qP (f_X12_lands_0 n m a1 M) (fun _ m => ∃ C W, Mw R len M0 C W m ∧ dW W ∧ Lo (tm R len) c0 (3, (M 77 9).toInt, 0, C, W) ∧ m 77 9 = M 77 9 ∧ tpk W ≠ 11 ∧ (a1.toInt ≠ 0 → tpk W ≠ 12)) := by
  intro m
  induction m with
  | zero => intro M C W _ _ _ _; exact P_none
  | succ m ih =>
    intro M C W h hW hL h38
    have step : (tpk W = 11 ∨ (tpk W = 12 ∧ a1.toInt ≠ 0)) → qP (f_X12_lands_22 n (f_X12_lands_0 n m) a1 M) (fun _ m => ∃ C W, Mw R len M0 C W m ∧ dW W ∧ Lo (tm R len) c0 (3, (M 77 9).toInt, 0, C, W) ∧ m 77 9 = M 77 9 ∧ tpk W ≠ 11 ∧ (a1.toInt ≠ 0 → tpk W ≠ 12)) := by
      intro h1
      obtain ⟨q, r, rfl, hq⟩ := tpk_pos (W := W) (by omega)
      rw [← hq] at h1
      obtain ⟨⟨k1, k2, k3, k4⟩, k5, k6⟩ := hW
      have hr : r ≠ [] := fun e => by have := k3 e; omega
      have hM := h
      obtain ⟨hg, hs, hx, hl, hp, hc, hf, hw, ho, h6, hj⟩ := hM
      have h15 := r_77_15 hg
      have h14 := r_77_14 hg
      obtain ⟨k, hk, hw2, hq2⟩ := stw_pop hw
      have hjq := hj q (List.mem_cons_self ..) (by omega)
      unfold f_X12_lands_22
      have e1 : (M 77 15 - 1).toInt = (M 77 15).toInt - 1 := i_sub rfl l_1 (by omega) (by omega)
      refine P_qg (fun i0 i1 => ?_)
      have ei : (M 77 15 - 1).toNatClampNeg = k := by rw [tnc, e1]; omega
      rw [ei]
      have h86 := r_86 hg k
      refine P_ql (i_sub rfl (i_mul (i_div rfl l_1048576 h86.1 (by decide)) l_1048576 (by omega) (by omega)) (by omega) (by omega)) ?_
      intro x hx1
      have q2 : q.2 = (M 86 k).toInt % 1048576 := by rw [hq2]
      have hx2 : x.toInt = q.2 := by omega
      refine P_qg (fun _ _ => P_qg (fun _ _ => ?_))
      have ej : x.toNatClampNeg = q.2.toNat := by rw [tnc, hx2]
      rw [ej]
      have hjl : q.2.toNat < C.length := by omega
      have h85 := r_85 hg q.2.toNat
      have ev : ((1048576 : Int32) * (M 85 q.2.toNat / 1048576) + M 77 14).toInt = 1048576 * ((M 85 q.2.toNat).toInt / 1048576) + (M 77 14).toInt := i_add (i_mul l_1048576 (i_div rfl l_1048576 h85.1 (by decide)) (by omega) (by omega)) rfl (by omega) (by omega)
      refine P_r (Or.inl rfl) hg hs (by rw [ev]; omega) ?_
      intro m2 b1 b2 b3 g2 s2
      have hget : C.getD q.2.toNat 0 = (M 85 q.2.toNat).toInt := by
        rw [List.getD_eq_getElem?_getD, hf _ hjl]; rfl
      have hM2 : Mw R len M0 (C.set q.2.toNat (1048576 * (C.getD q.2.toNat 0 / 1048576) + (C.length : Int))) (q :: r) m2 := by
        refine ⟨g2, s2, by rw [b3 84 (by decide)]; exact hx, by rw [b3 77 (by decide)]; exact hl, by rw [b3 77 (by decide)]; exact hp, by rw [b3 77 (by decide), List.length_set]; exact hc, ?_, by rw [b3 86 (by decide), b3 77 (by decide)]; exact hw, by rw [b3 77 (by decide)]; exact ho, h6, by rw [List.length_set]; exact hj⟩
        refine Fn_set hf hjl (fun i _ hi => ?_) ?_
        · show (m2 85 i).toInt = (M 85 i).toInt
          rw [b2 i hi]
        · show (m2 85 q.2.toNat).toInt = _
          rw [b1, ev, hget, hc]
      refine x_pop m2 hM2 (by omega) ?_
      intro m3 j3 j4
      have e9 : m3 77 9 = M 77 9 := by rw [j4, b3 77 (by decide)]
      refine P_mono (ih m3 _ r j3 ⟨k4, hr, k2 (by omega)⟩ ?_ (by rw [e9]; exact h38)) ?_
      · rw [e9]
        refine Lo_tr hL (Lo_st ?_)
        rw [ls_D, zD_c]
        rw [if_neg (by omega)]
        by_cases c : q.1 = 11
        · rw [if_pos c]
        · rw [if_neg c, if_pos ⟨by omega, h38 (by omega)⟩]
      · rintro v m6 ⟨C6, W6, p1, p2, p3, p4, p5, p6⟩
        exact ⟨C6, W6, p1, p2, by rw [e9] at p3; exact p3, by rw [p4, e9], p5, p6⟩
    show qP (b_X12_lands_0 n (f_X12_lands_0 n m) a1 M) _
    unfold b_X12_lands_0
    refine P_qc (x_top M h) ?_
    rintro r1 m2 ⟨rfl, ht⟩
    refine P_eq rfl l_11 (fun c => ?_) (fun c => ?_)
    · exact step (by omega)
    · refine P_eq rfl l_0 (fun c0 => ?_) (fun c0 => ?_)
      · exact P_ret ⟨C, W, h, hW, hL, rfl, by omega, fun q => absurd c0 q⟩
      · refine P_qc (x_top m2 h) ?_
        rintro r3 m4 ⟨rfl, ht3⟩
        refine P_eq rfl l_12 (fun c3 => ?_) (fun c3 => ?_)
        · exact step (by omega)
        · exact P_ret ⟨C, W, h, hW, hL, rfl, by omega, fun _ => by omega⟩
theorem x_jumps {n : Nat} {R : Nat → Int32} {len : Int} {M0 : qM} {C : List Int} {W : List (Int × Int)} {k : Int} (a1 : Int32) (M : qM) (h : Mw R len M0 C W M) (ha : a1.toInt = k) (hk : k = 11 ∨ k = 12) (hlt : (M 77 9).toInt < len) : qP (f_X12_jumps n a1 M) (fun _ m => Mw R len M0 (C ++ [1048576 * k]) ((k, (C.length : Int)) :: W) m ∧ (m 77 9).toInt = (M 77 9).toInt + 1) := by
  have hM := h
  obtain ⟨hg, hs, hx, hl, hp, hc, hf, hw, ho, h6, hj⟩ := hM
  have h14 := r_77_14 hg
  unfold f_X12_jumps
  refine P_qg (fun i0 i1 => ?_)
  have ev : ((1048576 : Int32) * a1 + M 77 14).toInt = 1048576 * k + (C.length : Int) := by rw [i_add (i_mul l_1048576 ha (by omega) (by omega)) rfl (by omega) (by omega), hc]
  refine x_push (k := k) (b := (C.length : Int)) _ M h ev (by omega) (by omega) (fun _ => by omega) (by omega) ?_
  intro m2 b1 g2 s2 b4 b5 b6 b7 b8 b9 b10
  have hno : ¬ ((k, (C.length : Int)).1 = 10 ∨ (k, (C.length : Int)).1 = 13 ∨ (k, (C.length : Int)).1 = 14) := by
    show ¬ (k = 10 ∨ k = 13 ∨ k = 14)
    omega
  refine P_qc (x_notes0 (R := R) (len := len) (M0 := M0) (C := C) (W := (k, (C.length : Int)) :: W) a1 (0 : Int32) m2 g2 s2 b4 b5 (by rw [b6]; exact hp) (by rw [b7]; exact hc) (by rw [b8]; exact hf) b9 (by rw [opn_n hno]; exact b10) (by rw [opn_n hno]; exact h6) ?_ (by omega) (by rw [l_0]; decide)) ?_
  · have := b1 (C ++ [0]) (Or.inl (by rw [List.length_append, List.length_singleton]; omega))
    rw [List.length_append, List.length_singleton] at this
    exact this
  · rintro _ m3 ⟨j1, j2⟩
    have ev2 : 1048576 * a1.toInt + (0 : Int32).toInt = 1048576 * k := by rw [l_0, ha]; omega
    rw [ev2] at j1
    refine x_pl m3 j1 (by rw [j2, b6]; exact hlt) ?_
    intro m4 j3 j4
    exact P_ret ⟨j3, by rw [j4, j2, b6]⟩
theorem z_end {T : Int → Int} {pl ph : Int} {C : List Int} {W : List (Int × Int)} (hW : nT W) (hs : sg (T pl) = -1) : zS T (1, pl, ph, C, W) = zE T pl ph C W := by
  rw [ls_B]
  cases W with
  | nil =>
    show zG _ _ _ _ _ _ _ = _
    unfold zG
    rw [if_neg (by omega), if_neg (by decide)]
  | cons q r =>
    have h1 : ¬ (2 ≤ q.1 ∧ q.1 ≤ 6) := hW.1
    have h2 : q.1 ≠ 14 := hW.2
    show (if _ then _ else _) = _
    rw [if_neg (by omega), if_neg (by omega)]
    unfold zG
    rw [if_neg (by omega), if_neg h2]
theorem x_cmp52 {n : Nat} (hn : 200000 ≤ n) {R : Nat → Int32} {len pl0 : Int} {M0 : qM} {c0 : Lc} (s0 : Int32) (M : qM) (C : List Int) (W : List (Int × Int)) (h : Mw R len M0 C W M) (hW : cW W) (hp0 : pl0 ≤ (M 77 9).toInt) (hs0 : s0.toInt = cp (tm R len (M 77 9).toInt)) (hL : Lo (tm R len) c0 (zE (tm R len) (M 77 9).toInt 1 C W)) : qP (f_X12_readsCompared_52 n s0 M) (Xz (tm R len) R len M0 c0 3 0 pl0 (fun _ W _ => dW W)) := by
  have hcr := cp_r (tm R len (M 77 9).toInt)
  have ht := tm_r R len (M 77 9).toInt
  have h9 := r_77_9 h.1
  unfold f_X12_readsCompared_52
  refine P_eq rfl l_m1 (fun c => ?_) (fun c => ?_)
  · refine P_mono (x_fail (M0 := M0) (T := tm R len) (c0 := c0) (k := 1) (w := (M 77 9).toInt) (1 : Int32) (M 77 9) M h.1 h.2.1 l_1 rfl (by decide) h9 ?_) (fun v m p => Or.inl p)
    unfold zE at hL
    rw [if_neg (by decide), if_pos rfl, if_pos (by omega)] at hL
    exact hL
  · unfold zE at hL
    rw [if_neg (by decide), if_pos rfl, if_neg (by omega)] at hL
    refine x_pl M h (by omega) ?_
    intro m1 h1 e1
    rw [← e1] at hL
    refine P_qc (x_sum hn (cOk_nT hW.1 hW.2) m1 C h1 hL) ?_
    rintro r2 m3 (⟨q0, q1⟩ | ⟨q0, C3, W3, q1, q2, q3, rfl, q5⟩)
    · exact P_eq rfl l_0 (fun _ => P_ret (Or.inl ⟨l_0, q1⟩)) (fun e => by omega)
    · refine P_eq rfl l_0 (fun e => by omega) (fun _ => ?_)
      refine P_qc (x_notes s0 (0 : Int32) m3 q1 (by omega) (by rw [l_0]; decide)) ?_
      rintro _ m4 ⟨j1, j2⟩
      have hL4 : Lo (tm R len) c0 (3, (m4 77 9).toInt, 0, C3 ++ [1048576 * s0.toInt + (0 : Int32).toInt], W3) := by
        refine Lo_tr q2 (Lo_st ?_)
        rw [z_end (cOk_nT hW.1 hW.2) q5]
        unfold zE
        rw [if_neg (by omega), if_neg (by omega), j2, l_0, hs0]
        rw [show (1048576 : Int) * cp (tm R len (M 77 9).toInt) + 0 = 1048576 * cp (tm R len (M 77 9).toInt) by omega]
      unfold f_X12_endsPiece
      refine P_qc (x_ends n m4 _ W3 j1 hW hL4) ?_
      rintro _ m5 ⟨C5, W5, p1, p2, p3, p4⟩
      exact P_ret (Or.inr ⟨l_1, C5, W5, p1, p3, by rw [p4, j2]; omega, p2⟩)
theorem x_cmp {n : Nat} (hn : 200000 ≤ n) {R : Nat → Int32} {len pl0 : Int} {M0 : qM} {c0 : Lc} (M : qM) (C : List Int) (W : List (Int × Int)) (h : Mw R len M0 C W M) (hW : cW W) (hp0 : pl0 ≤ (M 77 9).toInt) (hL : Lo (tm R len) c0 (0, (M 77 9).toInt, 1, C, W)) : qP (f_X12_readsCompared n M) (Xz (tm R len) R len M0 c0 3 0 pl0 (fun _ W _ => dW W)) := by
  unfold f_X12_readsCompared
  refine P_qc (x_sum hn (cOk_nT hW.1 hW.2) M C h hL) ?_
  rintro r1 m2 (⟨q0, q1⟩ | ⟨q0, C3, W3, q1, q2, q3, rfl, q5⟩)
  · exact P_eq rfl l_0 (fun _ => P_ret (Or.inl ⟨l_0, q1⟩)) (fun e => by omega)
  · refine P_eq rfl l_0 (fun e => by omega) (fun _ => ?_)
    have hL2 : Lo (tm R len) c0 (zE (tm R len) (m2 77 9).toInt 1 C3 W3) := Lo_tr q2 (Lo_st (z_end (cOk_nT hW.1 hW.2) q5))
    refine P_qc (x_here hn m2 q1) ?_
    rintro r3 m4 ⟨rfl, hr3⟩
    have hcr := cp_r (tm R len (m4 77 9).toInt)
    refine P_eq rfl l_60 (fun c => ?_) (fun c => ?_)
    · exact x_cmp52 hn (7 : Int32) m4 C3 W3 q1 hW (by omega) (by rw [l_7]; omega) hL2
    · refine P_qc (x_here hn m4 q1) ?_
      rintro r5 m6 ⟨rfl, hr5⟩
      refine P_eq rfl l_62 (fun d => ?_) (fun d => ?_)
      · exact x_cmp52 hn (8 : Int32) m6 C3 W3 q1 hW (by omega) (by rw [l_8]; omega) hL2
      · refine P_qc (x_here hn m6 q1) ?_
        rintro r7 m8 ⟨rfl, hr7⟩
        refine P_eq rfl l_61 (fun e => ?_) (fun e => ?_)
        · exact x_cmp52 hn (9 : Int32) m8 C3 W3 q1 hW (by omega) (by rw [l_9]; omega) hL2
        · exact x_cmp52 hn (-1 : Int32) m8 C3 W3 q1 hW (by omega) (by rw [l_m1]; omega) hL2
