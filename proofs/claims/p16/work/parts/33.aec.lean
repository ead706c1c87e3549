/-- what a part of the Java side's reader says: from c the small machine comes to a state with what was read, or to the fault -/
abbrev Lz (R : Nat → Int32) (len : Int) (r : Nat) (c : Lc) (pl : Int) (C : List Int) (t : Nat) (ph : Int) (W : List (Int × Int)) (E : Int → Prop) (v : Int32) (m : qM) : Prop := (Cx R len m ∧ G m) ∧ ((v.toInt = 0 ∧ Lo (tq R len) c (4, (m 1 4).toInt, 0, [], [])) ∨ (v.toInt = 1 ∧ ∃ C', Lo (tq R len) c (t, (m 1 3).toInt, ph, C', W) ∧ CR r m C' ∧ ((C'.length : Int) + pl ≤ (C.length : Int) + (m 1 3).toInt ∧ (C.length : Int) + 1 ≤ (C'.length : Int)) ∧ pl < (m 1 3).toInt ∧ (m 1 3).toInt ≤ len ∧ E (tq R len (m 1 3).toInt)))
abbrev Ly (R : Nat → Int32) (len : Int) (r : Nat) (C : List Int) (M : qM) : Prop := G M ∧ Cx R len M ∧ CR r M C ∧ (C.length : Int) ≤ (M 1 3).toInt ∧ (M 1 3).toInt ≤ len
theorem CR_1 {r : Nat} (hr : q_isLaw r) {M m : qM} {C : List Int} (h : CR r M C) (e : ∀ c, c ≠ 1 → m c = M c) : CR r m C := by
  have h1 : r ≠ 1 := by rcases hr with rfl | rfl <;> decide
  have h2 : r + 1 ≠ 1 := by rcases hr with rfl | rfl <;> decide
  have h3 : r + 2 ≠ 1 := by rcases hr with rfl | rfl <;> decide
  refine ⟨by rw [e r h1]; exact h.1, Fn_cg h.2 (fun k _ => ?_)⟩
  show enc _ _ = enc _ _
  rw [e _ h2, e _ h3]
theorem nr {r : Nat} (hr : q_isLaw r) : (1 ≠ r ∧ 1 ≠ r + 1 ∧ 1 ≠ r + 2) ∧ (2 ≠ r ∧ 2 ≠ r + 1 ∧ 2 ≠ r + 2) := by rcases hr with rfl | rfl <;> decide
/-- a place further on -/
theorem w_pl {M : qM} {f : qM → qR} {Q : Int32 → qM → Prop} (hG : G M) (hlt : (M 1 3).toInt < 240) (h : ∀ m : qM, (m 1 3).toInt = (M 1 3).toInt + 1 → (∀ s2, s2 ≠ 3 → m 1 s2 = M 1 s2) → (∀ c, c ≠ 1 → m c = M c) → G m → qT (f m) Q) : qT (qlm (mu M 1 3 (M 1 3 + 1)) f) Q := by
  have h13 := r_1_3 hG
  have ep : (M 1 3 + 1).toInt = (M 1 3).toInt + 1 := i_add rfl l_1 (by omega) (by omega)
  exact h _ (by rw [mu_at]; exact ep) (fun s2 h2 => mu_ne (Or.inr h2)) (fun c hc => mu_nc hc) (G_mu hG (i_rng (lo := 0) (hi := 240) ep (by omega) (by omega)) (nw_1 _))
theorem w_fails {n : Nat} (a b : Int32) (M : qM) (hG : G M) (ha : 1 ≤ a.toInt ∧ a.toInt ≤ 6) (hb : 0 ≤ b.toInt ∧ b.toInt ≤ 240) : qT (f_X9_fails n a b M) (fun v m => v.toInt = 0 ∧ (m 1 4).toInt = -1000 * a.toInt - b.toInt ∧ (∀ s2, s2 ≠ 4 → m 1 s2 = M 1 s2) ∧ (∀ c, c ≠ 1 → m c = M c) ∧ G m) :=
  T_mono (u_fails (M0 := M) a b M hG Sm.rf ha hb) (fun _ _ p => ⟨p.1, p.2.1, p.2.2.1, p.2.2.2.1, p.2.2.2.2.1⟩)
/-- the numbers -/
theorem nl_j {T : Int → Int} {pl : Int} {j : Nat} (h : ∀ i : Nat, i < j → 0 ≤ dq (T (pl + i))) (hj : j ≤ 5) (hn : dq (T (pl + j)) < 0) : nl T pl = j := by
  have e : ∀ k : Nat, k < j → 0 ≤ dq (T (pl + (k : Int))) := h
  have h0 : (T (pl + ((0 : Nat) : Int))) = T pl := by rw [show pl + ((0 : Nat) : Int) = pl by omega]
  unfold nl
  rcases (show j = 0 ∨ j = 1 ∨ j = 2 ∨ j = 3 ∨ j = 4 ∨ j = 5 by omega) with rfl | rfl | rfl | rfl | rfl | rfl
  · rw [h0] at hn; rw [if_pos hn]
  · have a0 := e 0 (by decide); rw [h0] at a0
    rw [if_neg (by omega), if_pos (show dq (T (pl + 1)) < 0 from hn)]
  · have a0 := e 0 (by decide); rw [h0] at a0
    have a1 := e 1 (by decide)
    rw [if_neg (by omega), if_neg (show ¬ dq (T (pl + 1)) < 0 from by have : pl + 1 = pl + ((1 : Nat) : Int) := rfl; rw [this]; omega), if_pos (show dq (T (pl + 2)) < 0 from hn)]
  · have a0 := e 0 (by decide); rw [h0] at a0
    have a1 : 0 ≤ dq (T (pl + 1)) := e 1 (by decide)
    have a2 : 0 ≤ dq (T (pl + 2)) := e 2 (by decide)
    rw [if_neg (by omega), if_neg (by omega), if_neg (by omega), if_pos (show dq (T (pl + 3)) < 0 from hn)]
  · have a0 := e 0 (by decide); rw [h0] at a0
    have a1 : 0 ≤ dq (T (pl + 1)) := e 1 (by decide)
    have a2 : 0 ≤ dq (T (pl + 2)) := e 2 (by decide)
    have a3 : 0 ≤ dq (T (pl + 3)) := e 3 (by decide)
    rw [if_neg (by omega), if_neg (by omega), if_neg (by omega), if_neg (by omega), if_pos (show dq (T (pl + 4)) < 0 from hn)]
  · have a0 := e 0 (by decide); rw [h0] at a0
    have a1 : 0 ≤ dq (T (pl + 1)) := e 1 (by decide)
    have a2 : 0 ≤ dq (T (pl + 2)) := e 2 (by decide)
    have a3 : 0 ≤ dq (T (pl + 3)) := e 3 (by decide)
    have a4 : 0 ≤ dq (T (pl + 4)) := e 4 (by decide)
    rw [if_neg (by omega), if_neg (by omega), if_neg (by omega), if_neg (by omega), if_neg (by omega), if_pos (show dq (T (pl + 5)) < 0 from hn)]
theorem nl_6 {T : Int → Int} {pl : Int} (h : ∀ i : Nat, i < 6 → 0 ≤ dq (T (pl + i))) : nl T pl = 6 := by
  have a0 : 0 ≤ dq (T pl) := by have := h 0 (by decide); rw [show pl + ((0 : Nat) : Int) = pl by omega] at this; exact this
  have a1 : 0 ≤ dq (T (pl + 1)) := h 1 (by decide)
  have a2 : 0 ≤ dq (T (pl + 2)) := h 2 (by decide)
  have a3 : 0 ≤ dq (T (pl + 3)) := h 3 (by decide)
  have a4 : 0 ≤ dq (T (pl + 4)) := h 4 (by decide)
  have a5 : 0 ≤ dq (T (pl + 5)) := h 5 (by decide)
  unfold nl
  rw [if_neg (by omega), if_neg (by omega), if_neg (by omega), if_neg (by omega), if_neg (by omega), if_neg (by omega)]
theorem w_num52 {n : Nat} (hn : 200000 ≤ n) {r : Nat} (hr : q_isLaw r) {R : Nat → Int32} {len pl ph : Int} {C : List Int} {W : List (Int × Int)} (hl : len ≤ 240) (h0 : 0 ≤ pl) (h91 : tq R len pl ≠ 91) (hC0 : (C.length : Int) ≤ pl) {j : Nat} (h1j : 1 ≤ j) (h5j : j ≤ 5) (hj : ∀ i : Nat, i < j → 0 ≤ dq (tq R len (pl + i))) (a1 : Int32) (M : qM) (hG : G M) (hX : Cx R len M) (hC : CR r M C) (hp : (M 1 3).toInt = pl + j) (hpl : (M 1 3).toInt ≤ len) (ha : a1.toInt = nv (tq R len) pl j) (hb : 0 ≤ a1.toInt ∧ a1.toInt ≤ 99999) (hend : dq (tq R len (pl + j)) < 0 ∨ j = 5) : qT (f_X4_readNumber_52 n r a1 M) (Lz R len r (0, pl, ph, C, W) pl C 1 ph W (fun _ => True)) := by
  have h13 := r_1_3 hG
  have d0 : 0 ≤ dq (tq R len pl) := by have := hj 0 (by omega); rw [show pl + ((0 : Nat) : Int) = pl by omega] at this; exact this
  have hdj := dq_r (tq R len (pl + j))
  unfold f_X4_readNumber_52
  refine T_qc (u_digit hn M hG) ?_
  rintro r1 m2 ⟨rfl, hr1⟩
  rw [hX.1, hX.2, hp] at hr1
  refine T_eq rfl l_m1 (fun c => ?_) (fun c => ?_)
  · have hnl : nl (tq R len) pl = j := nl_j hj h5j (by omega)
    refine T_qc (w_add hr (C := C) (0 : Int32) a1 m2 hG hC (by omega) (by omega) (fun q => absurd q (by decide))) ?_
    rintro r3 m4 ⟨q1, q2, q3, q4, q5, g4⟩
    obtain ⟨⟨n1, n2, n3⟩, n4, n5, n6⟩ := nr hr
    have e1 : m4 1 = m2 1 := q4 1 n1 n2 n3
    have e2 : m4 2 = m2 2 := q4 2 n4 n5 n6
    refine T_ret ⟨⟨⟨by rw [e2]; exact hX.1, by rw [e1]; exact hX.2⟩, g4⟩, Or.inr ⟨l_1, _, Lo_st ?_, q2, ?_, by rw [e1]; omega, by rw [e1]; exact hpl, trivial⟩⟩
    · rw [ls_A]
      unfold zA
      rw [if_neg h91, if_pos d0, hnl, if_neg (by omega), e1, hp]
      unfold enc
      rw [l_0, if_pos rfl, ha]
    · rw [List.length_append, List.length_singleton, e1]; omega
  · have h6 : nl (tq R len) pl = 6 := by
      refine nl_6 (fun i hi => ?_)
      by_cases q : i < j
      · exact hj i q
      · have : i = j := by omega
        rw [this]; omega
    have e5 : j = 5 := by omega
    refine T_qc (w_fails (2 : Int32) (m2 1 3) m2 hG (by decide) h13) ?_
    rintro r5 m6 ⟨w0, w1, w2, w3, g6⟩
    rw [l_2] at w1
    refine T_qb rfl (by omega) (by omega) (T_ret ⟨⟨⟨by rw [w3 2 (by decide)]; exact hX.1, by rw [w2 2 (by decide)]; exact hX.2⟩, g6⟩, Or.inl ⟨w0, Lo_st ?_⟩⟩)
    rw [ls_A]
    unfold zA
    rw [if_neg h91, if_pos d0, if_pos h6]
    unfold zF
    rw [w1, hp, e5]
    rfl
theorem w_num4 {n : Nat} (hn : 200000 ≤ n) {r : Nat} (hr : q_isLaw r) {R : Nat → Int32} {len pl ph : Int} {C : List Int} {W : List (Int × Int)} (hl : len ≤ 240) (h0 : 0 ≤ pl) (h91 : tq R len pl ≠ 91) (hd0 : 0 ≤ dq (tq R len pl)) (hC0 : (C.length : Int) ≤ pl) : ∀ (m j : Nat) (a1 a2 : Int32) (M : qM), G M → Cx R len M → CR r M C → (M 1 3).toInt = pl + j → (M 1 3).toInt ≤ len → a2.toInt = (j : Int) → a1.toInt = nv (tq R len) pl j → 0 ≤ a1.toInt → ((j = 0 ∧ a1.toInt ≤ 0) ∨ (j = 1 ∧ a1.toInt ≤ 9) ∨ (j = 2 ∧ a1.toInt ≤ 99) ∨ (j = 3 ∧ a1.toInt ≤ 999) ∨ (j = 4 ∧ a1.toInt ≤ 9999) ∨ (j = 5 ∧ a1.toInt ≤ 99999)) → (∀ i : Nat, i < j → 0 ≤ dq (tq R len (pl + i))) → 6 - j < m → qT (f_X4_readNumber_4 n r m a1 a2 M) (Lz R len r (0, pl, ph, C, W) pl C 1 ph W (fun _ => True)) := by
  intro m
  induction m with
  | zero => intro j a1 a2 M _ _ _ _ _ _ _ _ _ _ h; exfalso; omega
  | succ m ih =>
    intro j a1 a2 M hG hX hC hp hpl h2 ha hb0 hb hj hm
    have hdj := dq_r (tq R len (pl + j))
    have htj := tq_r R len (pl + j)
    show qT (b_X4_readNumber_4 n r (f_X4_readNumber_4 n r m) a1 a2 M) _
    unfold b_X4_readNumber_4
    refine T_le l_5 rfl (fun c => ?_) (fun c => ?_)
    · exact w_num52 hn hr hl h0 h91 hC0 (j := j) (by omega) (by omega) hj a1 M hG hX hC hp hpl ha (by omega) (Or.inr (by omega))
    · refine T_qc (u_digit hn M hG) ?_
      rintro r1 m2 ⟨rfl, hr1⟩
      rw [hX.1, hX.2, hp] at hr1
      refine T_eq rfl l_m1 (fun d => ?_) (fun d => ?_)
      · have hj1 : 1 ≤ j := by
          apply Classical.byContradiction
          intro q
          have : j = 0 := by omega
          subst this
          rw [show pl + ((0 : Nat) : Int) = pl by omega] at hr1
          omega
        exact w_num52 hn hr hl h0 h91 hC0 (j := j) hj1 (by omega) hj a1 m2 hG hX hC hp hpl ha (by omega) (Or.inl (by omega))
      · refine T_qc (u_digit hn m2 hG) ?_
        rintro r3 m4 ⟨rfl, hr3⟩
        rw [hX.1, hX.2, hp] at hr3
        refine T_ql (i_add (i_mul l_10 rfl (by omega) (by omega)) rfl (by omega) (by omega)) ?_
        intro x5 hx5
        refine w_pl hG (by omega) ?_
        intro m6 y1 y2 y3 g6
        refine T_ql (i_add rfl l_1 (by omega) (by omega)) ?_
        intro x7 hx7
        refine ih (j + 1) x5 x7 m6 g6 ⟨by rw [y3 2 (by decide)]; exact hX.1, by rw [y2 2 (by decide)]; exact hX.2⟩ (CR_1 hr hC y3) (by rw [y1, hp]; omega) (by omega) (by omega) ?_ (by omega) (by omega) (fun i hi => ?_) (by omega)
        · show x5.toInt = 10 * nv (tq R len) pl j + dq (tq R len (pl + j))
          rw [hx5, ha, hr3]
        · by_cases q : i < j
          · exact hj i q
          · have : i = j := by omega
            rw [this]; omega
