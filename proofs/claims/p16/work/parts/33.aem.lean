theorem x_opens {n : Nat} {R : Nat → Int32} {len : Int} {M0 : qM} {C : List Int} {W : List (Int × Int)} (a : Int32) (M : qM) (h : Mw R len M0 C W M) (ha : a.toInt = 10 ∨ a.toInt = 13 ∨ a.toInt = 14) (hlt : (M 77 9).toInt < len) : qP (f_X12_opens n a M) (fun v m => (v.toInt = 0 ∧ opn W = 6 ∧ (m 77 11).toInt = -1000 * 5 - (M 77 9).toInt ∧ G m ∧ Sm lQ M0 m) ∨ (v.toInt = 1 ∧ opn W ≠ 6 ∧ Mw R len M0 C ((a.toInt, 0) :: W) m ∧ (m 77 9).toInt = (M 77 9).toInt + 1)) := by
  obtain ⟨hg, hs, hx, hl, hp, hc, hf, hw, ho, h6, hj⟩ := h
  have h15 := r_77_15 hg
  have h9 := r_77_9 hg
  have h10 := r_77_10 hg
  have hnn := opn_nn W
  unfold f_X12_opens
  refine P_eq rfl l_6 (fun c => ?_) (fun c => ?_)
  · refine P_qc (x_wrong (M0 := M0) (5 : Int32) (M 77 9) M hg hs (by decide) h9) ?_
    rintro r m ⟨w0, w1, g, s⟩
    exact P_qb (P_ret (Or.inl ⟨w0, by omega, by rw [w1, l_5], g, s⟩))
  · have e13 : (M 77 13 + 1).toInt = (M 77 13).toInt + 1 := i_add rfl l_1 (by omega) (by omega)
    refine P_w (Or.inr (by decide)) hg hs trivial ?_
    intro m1 a1 a2 a3 g1 s1
    have c15 : m1 77 15 = M 77 15 := a2 15 (by decide)
    rw [c15]
    refine P_qg (fun i0 i1 => ?_)
    have ev : ((1048576 : Int32) * a).toInt = 1048576 * a.toInt := i_mul l_1048576 rfl (by omega) (by omega)
    refine P_r (Or.inr rfl) g1 s1 (by rw [ev]; omega) ?_
    intro m2 b1 b2 b3 g2 s2
    rw [tnc] at b1 b2
    have d15 : m2 77 15 = M 77 15 := by rw [b3 77 (by decide), c15]
    rw [d15]
    have ew : (M 77 15 + 1).toInt = (M 77 15).toInt + 1 := i_add rfl l_1 (by omega) (by omega)
    refine P_w (Or.inr (by decide)) g2 s2 (i_rng (lo := 0) (hi := 260) ew (by omega) (by omega)) ?_
    intro m3 c1 c2 c3 g3 s3
    have d9 : m3 77 9 = M 77 9 := by rw [c2 9 (by decide), b3 77 (by decide), a2 9 (by decide)]
    rw [d9]
    have ep : (M 77 9 + 1).toInt = (M 77 9).toInt + 1 := i_add rfl l_1 (by omega) (by omega)
    refine P_w (Or.inl rfl) g3 s3 (i_rng (lo := 0) (hi := 240) ep (by omega) (by omega)) ?_
    intro m4 f1 f2 f3 g4 s4
    refine P_ret (Or.inr ⟨l_1, by omega, ⟨g4, s4, ?_, ?_, ?_, ?_, ?_, ?_, ?_, ?_, ?_⟩, by rw [f1]; exact ep⟩)
    · rw [f3 84 (by decide), c3 84 (by decide), b3 84 (by decide), a3 84 (by decide)]; exact hx
    · rw [f2 10 (by decide), c2 10 (by decide), b3 77 (by decide), a2 10 (by decide)]; exact hl
    · rw [f1, ep]; omega
    · rw [f2 14 (by decide), c2 14 (by decide), b3 77 (by decide), a2 14 (by decide)]; exact hc
    · rw [f3 85 (by decide), c3 85 (by decide), b3 85 (by decide), a3 85 (by decide)]; exact hf
    · rw [f3 86 (by decide), c3 86 (by decide), f2 15 (by decide), c1, ew, show ((M 77 15).toInt + 1).toNat = (M 77 15).toInt.toNat + 1 by omega]
      show ((m2 86 (M 77 15).toInt.toNat).toInt / 1048576, (m2 86 (M 77 15).toInt.toNat).toInt % 1048576) :: stw (m2 86) (M 77 15).toInt.toNat = _
      rw [b1, ev, stw_cg (M 77 15).toInt.toNat (fun i hi2 => b2 i (by omega)), a3 86 (by decide), hw, show (1048576 * a.toInt) / 1048576 = a.toInt by omega, show (1048576 * a.toInt) % 1048576 = 0 by omega]
    · rw [f2 13 (by decide), c2 13 (by decide), b3 77 (by decide), a1, e13, opn_y ha]; omega
    · rw [opn_y ha]; omega
    · intro x hx2 hx3
      rcases List.mem_cons.mp hx2 with rfl | hx4
      · exfalso
        have hx5 : a.toInt = 11 ∨ a.toInt = 12 := hx3
        omega
      · exact hj x hx4 hx3
theorem x_num {n : Nat} (hn : 200000 ≤ n) {R : Nat → Int32} {len : Int} {M0 : qM} {C : List Int} {W : List (Int × Int)} {pl : Int} (a1 : Int32) (ha : a1.toInt = pl) (h0 : 0 ≤ pl ∧ pl ≤ 240) (hd0 : 0 ≤ dq (tm R len pl)) : ∀ (m j : Nat) (M : qM), Mw R len M0 C W M → (M 77 9).toInt = pl + j → j ≤ 5 → (M 77 12).toInt = nv (tm R len) pl j → 0 ≤ (M 77 12).toInt → ((j = 0 ∧ (M 77 12).toInt ≤ 0) ∨ (j = 1 ∧ (M 77 12).toInt ≤ 9) ∨ (j = 2 ∧ (M 77 12).toInt ≤ 99) ∨ (j = 3 ∧ (M 77 12).toInt ≤ 999) ∨ (j = 4 ∧ (M 77 12).toInt ≤ 9999) ∨ (j = 5 ∧ (M 77 12).toInt ≤ 99999)) → (∀ i : Nat, i < j → 0 ≤ dq (tm R len (pl + i))) → qP (f_X12_readsNumber_10 n m a1 M) (fun v m => (v.toInt = 0 ∧ nl (tm R len) pl = 6 ∧ (m 77 11).toInt = -1000 * 2 - (pl + 5) ∧ G m ∧ Sm lQ M0 m) ∨ (v.toInt = 1 ∧ nl (tm R len) pl ≠ 6 ∧ Mw R len M0 C W m ∧ (m 77 9).toInt = pl + nl (tm R len) pl ∧ (m 77 12).toInt = nv (tm R len) pl (nl (tm R len) pl) ∧ 0 ≤ (m 77 12).toInt ∧ (m 77 12).toInt ≤ 99999)) := by
  intro m
  induction m with
  | zero => intro j M _ _ _ _ _ _ _; exact P_none
  | succ m ih =>
    intro j M h hp h5 hv hv0 hb hd
    have h2 := h
    obtain ⟨hg, hs, hx, hl, hpl, hc, hf, hw, ho, h6, hj⟩ := h2
    have h9 := r_77_9 hg
    have hdj := dq_r (tm R len (pl + j))
    have htj := tm_r R len (pl + j)
    show qP (b_X12_readsNumber_10 n (f_X12_readsNumber_10 n m) a1 M) _
    unfold b_X12_readsNumber_10
    refine P_qc (P_T (v_digit hn M hg)) ?_
    rintro r1 m2 ⟨rfl, hr1⟩
    rw [hx, hl, hp] at hr1
    refine P_eq rfl l_0 (fun c => ?_) (fun c => ?_)
    · have hj1 : 1 ≤ j := by
        apply Classical.byContradiction
        intro q
        have e : j = 0 := by omega
        subst e
        rw [show pl + ((0 : Nat) : Int) = pl by omega] at hr1
        omega
      have hnl : nl (tm R len) pl = j := nl_j hd h5 (by omega)
      refine P_ret (Or.inr ⟨l_1, by omega, h, by rw [hnl]; exact hp, by rw [hnl]; exact hv, hv0, by omega⟩)
    · have ea : (a1 + 5).toInt = a1.toInt + 5 := i_add rfl l_5 (by omega) (by omega)
      refine P_eq rfl ea (fun d => ?_) (fun d => ?_)
      · have e5 : j = 5 := by omega
        have hn6 : nl (tm R len) pl = 6 := by
          refine nl_6 (fun i hi => ?_)
          by_cases q : i < j
          · exact hd i q
          · have : i = j := by omega
            rw [this]; omega
        refine P_qc (x_wrong (M0 := M0) (2 : Int32) (m2 77 9) m2 hg hs (by decide) h9) ?_
        rintro r7 m8 ⟨w0, w1, g, s⟩
        exact P_qb (P_ret (Or.inl ⟨w0, hn6, by rw [w1, l_2, hp, e5]; rfl, g, s⟩))
      · refine P_qc (x_here hn m2 h) ?_
        rintro r3 m4 ⟨rfl, hr3⟩
        rw [hp] at hr3
        have e1 : ((10 : Int32) * m4 77 12 + r3 - 48).toInt = 10 * (m4 77 12).toInt + r3.toInt - 48 := i_sub (i_add (i_mul l_10 rfl (by omega) (by omega)) rfl (by omega) (by omega)) l_48 (by omega) (by omega)
        refine P_w (Or.inr (by decide)) hg hs trivial ?_
        intro m5 b1 b2 b3 g5 s5
        have hM5 : Mw R len M0 C W m5 := ⟨g5, s5, by rw [b3 84 (by decide)]; exact hx, by rw [b2 10 (by decide)]; exact hl, by rw [b2 9 (by decide)]; exact hpl, by rw [b2 14 (by decide)]; exact hc, by rw [b3 85 (by decide)]; exact hf, by rw [b3 86 (by decide), b2 15 (by decide)]; exact hw, by rw [b2 13 (by decide)]; exact ho, h6, hj⟩
        refine P_w (Or.inl rfl) g5 s5 ?_ ?_
        · have e9 : (m5 77 9 + 1).toInt = (m5 77 9).toInt + 1 := i_add rfl l_1 (by rw [b2 9 (by decide)]; omega) (by rw [b2 9 (by decide)]; omega)
          exact i_rng (lo := 0) (hi := 240) e9 (by rw [b2 9 (by decide)]; omega) (by rw [b2 9 (by decide)]; have := r_77_10 hg; omega)
        intro m6 d1 d2 d3 g6 s6
        have e9 : (m5 77 9 + 1).toInt = (m5 77 9).toInt + 1 := i_add rfl l_1 (by rw [b2 9 (by decide)]; omega) (by rw [b2 9 (by decide)]; omega)
        have p6 : (m6 77 9).toInt = pl + (j + 1 : Nat) := by rw [d1, e9, b2 9 (by decide), hp]; omega
        have v6 : (m6 77 12).toInt = 10 * (m4 77 12).toInt + r3.toInt - 48 := by rw [d2 12 (by decide), b1]; exact e1
        refine ih (j + 1) m6 ⟨g6, s6, by rw [d3 84 (by decide)]; exact hM5.2.2.1, by rw [d2 10 (by decide)]; exact hM5.2.2.2.1, by rw [p6]; omega, by rw [d2 14 (by decide)]; exact hM5.2.2.2.2.2.1, by rw [d3 85 (by decide)]; exact hM5.2.2.2.2.2.2.1, by rw [d3 86 (by decide), d2 15 (by decide)]; exact hM5.2.2.2.2.2.2.2.1, by rw [d2 13 (by decide)]; exact hM5.2.2.2.2.2.2.2.2.1, h6, hj⟩ p6 (by omega) ?_ (by omega) (by omega) (fun i hi => ?_)
        · show (m6 77 12).toInt = 10 * nv (tm R len) pl j + dq (tm R len (pl + j))
          rw [v6, ← hv]; omega
        · by_cases q : i < j
          · exact hd i q
          · have : i = j := by omega
            rw [this]; omega
/-- all of them are 14 -/
def al14 (A : List (Int × Int)) : Prop := ∀ q, q ∈ A → q.1 = 14
def alS (A : List (Int × Int)) : Prop := ∀ q, q ∈ A → (2 ≤ q.1 ∧ q.1 ≤ 6) ∨ q.1 = 14
/-- what a part of the model's reader says -/
abbrev Xz (T : Int → Int) (R : Nat → Int32) (len : Int) (M0 : qM) (c0 : Lc) (t : Nat) (ph : Int) (pl : Int) (B : List Int → List (Int × Int) → Int → Prop) (v : Int32) (m : qM) : Prop := (v.toInt = 0 ∧ Fx T c0 M0 m) ∨ (v.toInt = 1 ∧ ∃ C W, Mw R len M0 C W m ∧ Lo T c0 (t, (m 77 9).toInt, ph, C, W) ∧ pl ≤ (m 77 9).toInt ∧ B C W (m 77 9).toInt)
theorem x_factor {n : Nat} (hn : 200000 ≤ n) {R : Nat → Int32} {len : Int} {M0 : qM} {c0 : Lc} {ph pl0 : Int} {W0 : List (Int × Int)} : ∀ (m : Nat) (M : qM) (C : List Int) (A : List (Int × Int)), Mw R len M0 C (A ++ W0) M → al14 A → Lo (tm R len) c0 (0, (M 77 9).toInt, ph, C, A ++ W0) → pl0 ≤ (M 77 9).toInt → qP (f_X12_readsFactor_0 n m M) (Xz (tm R len) R len M0 c0 1 ph pl0 (fun _ W _ => ∃ A, W = A ++ W0 ∧ al14 A)) := by
  intro m
  induction m with
  | zero => intro M C A _ _ _ _; exact P_none
  | succ m ih =>
    intro M C A h hA hL hp0
    have h2 := h
    obtain ⟨hg, hs, hx, hl, hpl, hc, hf, hw, ho, h6, hj⟩ := h2
    have h9 := r_77_9 hg
    have ht := tm_r R len (M 77 9).toInt
    have hd := dq_r (tm R len (M 77 9).toInt)
    show qP (b_X12_readsFactor_0 n (f_X12_readsFactor_0 n m) M) _
    unfold b_X12_readsFactor_0
    refine P_qc (x_here hn M h) ?_
    rintro r1 m2 ⟨rfl, hr1⟩
    refine P_eq rfl l_91 (fun c => ?_) (fun c => ?_)
    · have h91 : tm R len (m2 77 9).toInt = 91 := by omega
      refine P_qc (x_opens (14 : Int32) m2 h (Or.inr (Or.inr l_14)) (by omega)) ?_
      rintro r16 m17 (⟨q0, q1, q2, q3, q4⟩ | ⟨q0, q1, q2, q3⟩)
      · refine P_eq rfl l_0 (fun _ => ?_) (fun d => by omega)
        refine P_ret (Or.inl ⟨l_0, Lo_tr hL (Lo_st ?_), q3, q4⟩)
        rw [ls_A]
        unfold zA zO
        rw [if_pos h91, if_pos q1]
        unfold zF
        rw [q2]
      · refine P_eq rfl l_0 (fun d => by omega) (fun d => ?_)
        refine ih m17 C ((14, 0) :: A) q2 ?_ (Lo_tr hL (Lo_st ?_)) (by omega)
        · intro x hx2
          rcases List.mem_cons.mp hx2 with rfl | hx4
          · rfl
          · exact hA x hx4
        · rw [ls_A]
          unfold zA zO
          rw [if_pos h91, if_neg q1, q3]
          rfl
    · refine P_qc (P_T (v_digit hn m2 hg)) ?_
      rintro r3 m4 ⟨rfl, hr3⟩
      rw [hx, hl] at hr3
      refine P_eq rfl l_0 (fun d => ?_) (fun d => ?_)
      · refine P_qc (x_here hn m4 h) ?_
        rintro r5 m6 ⟨rfl, hr5⟩
        refine P_qc (x_fact r5 m6) ?_
        rintro r7 m8 ⟨rfl, hr7⟩
        rw [hr5] at hr7
        refine P_eq rfl l_m1 (fun e => ?_) (fun e => ?_)
        · refine P_mono (x_fail (M0 := M0) (T := tm R len) (c0 := c0) (k := 1) (w := (m8 77 9).toInt) (1 : Int32) (m8 77 9) m8 hg hs l_1 rfl (by decide) h9 (Lo_tr hL (Lo_st ?_))) (fun v m p => Or.inl p)
          rw [ls_A]
          unfold zA
          rw [if_neg (by omega), if_neg (by omega), if_pos (by omega)]
        · have hf9 := fa_rng (tm R len (m8 77 9).toInt)
          refine P_qc (x_notes (1 : Int32) r7 m8 h (by rw [l_1]; decide) (by omega)) ?_
          rintro _ m9 ⟨q2, q3⟩
          have htz := tm_r R len (m8 77 9).toInt
          have hlz : (m8 77 9).toInt < len := by
            rcases htz with z | z
            · have z1 : fa (tm R len (m8 77 9).toInt) = -1 := by rw [z.1]; rfl
              omega
            · omega
          refine x_pl m9 q2 (by rw [q3]; exact hlz) ?_
          intro m10 q4 q5
          rw [q3] at q5
          refine P_ret (Or.inr ⟨l_1, _, _, q4, Lo_tr hL (Lo_st ?_), by omega, A, rfl, hA⟩)
          rw [ls_A]
          unfold zA
          rw [if_neg (by omega), if_neg (by omega), if_neg (by omega), q5, l_1, hr7]
          rfl
      · have d0 : 0 ≤ dq (tm R len (m4 77 9).toInt) := by omega
        have h91 : tm R len (m4 77 9).toInt ≠ 91 := by omega
        unfold f_X12_readsNumber
        refine P_qc (Q := fun v m => (v.toInt = 0 ∧ nl (tm R len) (m4 77 9).toInt = 6 ∧ (m 77 11).toInt = -1000 * 2 - ((m4 77 9).toInt + 5) ∧ G m ∧ Sm lQ M0 m) ∨ (v.toInt = 1 ∧ nl (tm R len) (m4 77 9).toInt ≠ 6 ∧ Mw R len M0 C (A ++ W0) m ∧ (m 77 9).toInt = (m4 77 9).toInt + nl (tm R len) (m4 77 9).toInt ∧ (m 77 12).toInt = nv (tm R len) (m4 77 9).toInt (nl (tm R len) (m4 77 9).toInt) ∧ 0 ≤ (m 77 12).toInt ∧ (m 77 12).toInt ≤ 99999)) ?_ ?_
        · refine P_ql rfl ?_
          intro x1 hx1
          refine P_w (Or.inr (by decide)) hg hs trivial ?_
          intro m5 b1 b2 b3 g5 s5
          exact x_num hn x1 hx1 (by omega) d0 n 0 m5 ⟨g5, s5, by rw [b3 84 (by decide)]; exact hx, by rw [b2 10 (by decide)]; exact hl, by rw [b2 9 (by decide)]; exact hpl, by rw [b2 14 (by decide)]; exact hc, by rw [b3 85 (by decide)]; exact hf, by rw [b3 86 (by decide), b2 15 (by decide)]; exact hw, by rw [b2 13 (by decide)]; exact ho, h6, hj⟩ (by rw [b2 9 (by decide)]; omega) (by omega) (by rw [b1]; rfl) (by rw [b1, l_0]; omega) (by rw [b1, l_0]; omega) (fun i hi => absurd hi (by omega))
        · rintro r13 m14 (⟨q0, q1, q2, q3, q4⟩ | ⟨q0, q1, q2, q3, q4, q5, q6⟩)
          · refine P_eq rfl l_0 (fun _ => ?_) (fun e => by omega)
            refine P_ret (Or.inl ⟨l_0, Lo_tr hL (Lo_st ?_), q3, q4⟩)
            rw [ls_A]
            unfold zA
            rw [if_neg h91, if_pos d0, if_pos q1]
            unfold zF
            rw [q2]
          · refine P_eq rfl l_0 (fun e => by omega) (fun e => ?_)
            refine P_qc (x_notes (0 : Int32) (m14 77 12) m14 q2 (by rw [l_0]; decide) (by omega)) ?_
            rintro _ m15 ⟨q7, q8⟩
            refine P_ret (Or.inr ⟨l_1, _, _, q7, Lo_tr hL (Lo_st ?_), by rw [q8]; omega, A, rfl, hA⟩)
            rw [ls_A]
            unfold zA
            rw [if_neg h91, if_pos d0, if_neg q1, q8, q3, l_0, q4, show (1048576 : Int) * 0 + nv (tm R len) (m4 77 9).toInt (nl (tm R len) (m4 77 9).toInt) = nv (tm R len) (m4 77 9).toInt (nl (tm R len) (m4 77 9).toInt) by omega]
