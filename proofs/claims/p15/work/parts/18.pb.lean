theorem qg_nI {i n : Nat} {E : qR} (h : i < n) (hn : n < 2 ^ 31) : qg (nI i) n E = E := qg_in (nI_in h hn)
theorem put_step {n k s : Nat} {a sh : Int32} {M : qM} (hs : M 1 1 = nI s) (h : s < 260) (h0 : ¬ sh < 0) : f_X9_put_3 n (k + 1) a sh M = f_X9_put_3 n k a (sh + -8) (mu (mu M 2 s ((a >>> (sh &&& 31)) &&& 255)) 1 1 (nI (s + 1))) := by
  show b_X9_put_3 n (f_X9_put_3 n k) a sh M = _
  unfold b_X9_put_3
  have c1 : ¬ (260 : Int32) ≤ nI s := nI_ge (a := s) (b := 260) h (by decide)
  have e1 : mu M 2 s ((a >>> (sh &&& 31)) &&& 255) 1 1 = nI s := by simp [mu, hs]
  simp only [hs, h0, c1, if_false, qg_nI h (by decide), qlm, ql, nI_clamp (show s < 2 ^ 31 by omega), e1, nI_1]
theorem put_end {n k : Nat} {a : Int32} {M : qM} : f_X9_put_3 n (k + 1) a (-8) M = some (0, M) := by
  show b_X9_put_3 n (f_X9_put_3 n k) a (-8) M = _
  unfold b_X9_put_3
  rw [if_pos (by decide)]
theorem put_ok {n s : Nat} (hn : 6 ≤ n) {a : Int32} {M : qM} (hs : M 1 1 = nI s) (h : s + 4 ≤ 260) : ∃ M', f_X9_put n a M = some (0, M') ∧ M' 1 1 = nI (s + 4) ∧ ∀ x y, x ≠ 1 → x ≠ 2 → M' x y = M x y := by
  obtain ⟨k, rfl⟩ : ∃ k, n = k + 5 := ⟨n - 5, by omega⟩
  unfold f_X9_put
  rw [put_step (k := k + 4) hs (by omega) (by decide)]
  rw [put_step (k := k + 3) (s := s + 1) (by simp [mu]) (by omega) (by decide)]
  rw [put_step (k := k + 2) (s := s + 2) (by simp [mu]) (by omega) (by decide)]
  rw [put_step (k := k + 1) (s := s + 3) (by simp [mu]) (by omega) (by decide)]
  rw [show (24 : Int32) + -8 + -8 + -8 + -8 = -8 by decide, put_end]
  exact ⟨_, rfl, by simp [mu], fun x y h1 h2 => by simp [mu, h1, h2]⟩
theorem types_step {n k s : Nat} {a sh : Int32} {M : qM} (hs : M 77 8 = nI s) (h : s < 260) (h0 : ¬ sh < 0) : f_X12_types_2 n (k + 1) a sh M = f_X12_types_2 n k a (sh + -1) (mu (mu M 84 s (vp_nar .byte ((a >>> ((8 * sh) &&& 31)).toInt8.toInt32))) 77 8 (nI (s + 1))) := by
  show b_X12_types_2 n (f_X12_types_2 n k) a sh M = _
  unfold b_X12_types_2
  have e1 : mu M 84 s (vp_nar .byte ((a >>> ((8 * sh) &&& 31)).toInt8.toInt32)) 77 8 = nI s := by simp [mu, hs]
  simp only [hs, h0, if_false, qg_nI h (by decide), qlm, ql, nI_clamp (show s < 2 ^ 31 by omega), e1, nI_1]
theorem types_end {n k : Nat} {a : Int32} {M : qM} : f_X12_types_2 n (k + 1) a (-1) M = some (0, M) := by
  show b_X12_types_2 n (f_X12_types_2 n k) a (-1) M = _
  unfold b_X12_types_2
  rw [if_pos (by decide)]
theorem types_ok {n s : Nat} (hn : 6 ≤ n) {a : Int32} {M : qM} (hs : M 77 8 = nI s) (h : s + 4 ≤ 260) : ∃ M', f_X12_types n a M = some (0, M') ∧ M' 77 8 = nI (s + 4) ∧ ∀ x y, x ≠ 77 → x ≠ 84 → M' x y = M x y := by
  obtain ⟨k, rfl⟩ : ∃ k, n = k + 5 := ⟨n - 5, by omega⟩
  unfold f_X12_types
  rw [types_step (k := k + 4) hs (by omega) (by decide)]
  rw [types_step (k := k + 3) (s := s + 1) (by simp [mu]) (by omega) (by decide)]
  rw [types_step (k := k + 2) (s := s + 2) (by simp [mu]) (by omega) (by decide)]
  rw [types_step (k := k + 1) (s := s + 3) (by simp [mu]) (by omega) (by decide)]
  rw [show (3 : Int32) + -1 + -1 + -1 + -1 = -1 by decide, types_end]
  exact ⟨_, rfl, by simp [mu], fun x y h1 h2 => by simp [mu, h1, h2]⟩
theorem p1_feed {n : Nat} (hn : 6 ≤ n) {M : qM} (hF : Fr M) (a1 a2 a3 a4 a5 : Int32) : Pr (f_X11_feed n a1 a2 a3 a4 a5) (f_X12_feed n a1 a2 a3 a4 a5) M := by
  have h0 : M 1 1 = nI 0 := hF.1 _ _ (by decide)
  obtain ⟨M1, e1, s1, o1⟩ := put_ok (a := a1) hn h0 (by decide)
  obtain ⟨M2, e2, s2, o2⟩ := put_ok (a := a2) hn s1 (by decide)
  obtain ⟨M3, e3, s3, o3⟩ := put_ok (a := a3) hn s2 (by decide)
  obtain ⟨M4, e4, s4, o4⟩ := put_ok (a := a4) hn s3 (by decide)
  obtain ⟨M5, e5, s5, o5⟩ := put_ok (a := a5) hn s4 (by decide)
  have hA : f_X11_feed n a1 a2 a3 a4 a5 M = some (20, M5) := by
    unfold f_X11_feed
    rw [if_pos (by rw [h0]; decide)]
    simp only [qc, e1, e2, e3, e4, e5, s5]
    rfl
  have k0 : M5 77 8 = nI 0 := by
    rw [o5 _ _ (by decide) (by decide), o4 _ _ (by decide) (by decide), o3 _ _ (by decide) (by decide), o2 _ _ (by decide) (by decide), o1 _ _ (by decide) (by decide)]
    exact hF.1 _ _ (by decide)
  obtain ⟨N1, d1, t1, -⟩ := types_ok (a := a1) hn k0 (by decide)
  obtain ⟨N2, d2, t2, -⟩ := types_ok (a := a2) hn t1 (by decide)
  obtain ⟨N3, d3, t3, -⟩ := types_ok (a := a3) hn t2 (by decide)
  obtain ⟨N4, d4, t4, -⟩ := types_ok (a := a4) hn t3 (by decide)
  obtain ⟨N5, d5, t5, -⟩ := types_ok (a := a5) hn t4 (by decide)
  refine ⟨20, M5, N5, hA, ?_⟩
  unfold f_X12_feed
  rw [if_pos (by rw [k0]; decide)]
  simp only [qc, d1, d2, d3, d4, d5, t5]
  rfl
theorem p1_undo {n : Nat} {M : qM} (hF : Fr M) : Pr (f_X11_undo n) (f_X12_undo n) M := Pr.same (v := 0) (by
  unfold f_X11_undo
  rw [if_pos (hF.1 _ _ (by decide))]) (by
  unfold f_X12_undo
  rw [if_pos (hF.1 _ _ (by decide))])
theorem p1_histories {n j : Nat} {M : qM} (hF : Fr M) (a1 a2 a3 a4 : Int32) : Pr (f_X11_histories n j a1 a2 a3 a4) (f_X12_histories n a1 a2 a3 a4) M := by
  have h1 : M 1 1 = 0 := hF.1 _ _ (by decide)
  have h2 : M 77 8 = 0 := hF.1 _ _ (by decide)
  have key : ¬ a1 < 1 → ¬ (4 : Int32) < a1 → ¬ a2 < 0 → ¬ (10 : Int32) < a2 → ¬ a1 + 2 * a2 ≤ 0 := by
    intro c1 c2 c3 c4 c5
    have t : (a1 + 2 * a2).toInt = a1.toInt + 2 * a2.toInt := by
      simp only [Int32.lt_iff_toInt_lt, Int32.le_iff_toInt_le] at *
      rw [Int32.toInt_add, Int32.toInt_mul]
      simp at *
      rw [Int.bmod_eq_of_le] <;> omega
    simp only [Int32.lt_iff_toInt_lt, Int32.le_iff_toInt_le] at *
    rw [t] at c5
    simp at *
    omega
  refine Pr.same (v := -1) ?_ ?_
  · unfold f_X11_histories
    by_cases c1 : a1 < 1
    · simp [c1]
    by_cases c2 : (4 : Int32) < a1
    · simp [c1, c2]
    by_cases c3 : a2 < 0
    · simp [c1, c2, c3]
    by_cases c4 : (10 : Int32) < a2
    · simp [c1, c2, c3, c4]
    simp [c1, c2, c3, c4, h1, key c1 c2 c3 c4]
  · unfold f_X12_histories
    simp only [in_eq, qc]
    by_cases c1 : a1 < 1
    · simp [c1]
    by_cases c2 : (4 : Int32) < a1
    · simp [c1, c2]
    by_cases c3 : a2 < 0
    · simp [c1, c2, c3]
    by_cases c4 : (10 : Int32) < a2
    · simp [c1, c2, c3, c4]
    simp [c1, c2, c3, c4, h2, key c1 c2 c3 c4]
theorem i12 {a : Int32} (h1 : ¬ a < 0) (h2 : ¬ (12 : Int32) ≤ a) : a = 0 ∨ a = 1 ∨ a = 2 ∨ a = 3 ∨ a = 4 ∨ a = 5 ∨ a = 6 ∨ a = 7 ∨ a = 8 ∨ a = 9 ∨ a = 10 ∨ a = 11 := by
  obtain ⟨j, hj, rfl⟩ := nI_of h1
  have : j < 12 := by
    rcases Nat.lt_or_ge j 12 with q | q
    · exact q
    · exact absurd (nI_le (a := 12) q hj) h2
  rcases (show j = 0 ∨ j = 1 ∨ j = 2 ∨ j = 3 ∨ j = 4 ∨ j = 5 ∨ j = 6 ∨ j = 7 ∨ j = 8 ∨ j = 9 ∨ j = 10 ∨ j = 11 by omega) with rfl | rfl | rfl | rfl | rfl | rfl | rfl | rfl | rfl | rfl | rfl | rfl <;> decide
theorem z_shr0 (x : Int32) : (0 : Int32) >>> x = 0 := by
  apply Int32.toBitVec_inj.mp
  simp [Int32.toBitVec_shiftRight]
theorem p1_kind {n : Nat} {M : qM} (hF : Fr M) (a1 a2 a3 a4 : Int32) : Pr (f_X11_kind n a1 a2 a3 a4) (f_X12_kind n a1 a2 a3 a4) M := by
  have e1 : M 3 3 = 0 := hF.1 _ _ (by decide)
  have e2 : M 77 6 = 0 := hF.1 _ _ (by decide)
  by_cases c1 : a1 < 0
  · exact Pr.same (v := 0) (by simp [f_X11_kind, f_X2_tell, c1, qc, qb]) (by simp [f_X12_kind, in_eq, qc, c1])
  by_cases c2 : (12 : Int32) ≤ a1
  · have d2 : (11 : Int32) < a1 := by
      simp only [Int32.lt_iff_toInt_lt, Int32.le_iff_toInt_le] at *
      simp at *
      omega
    exact Pr.same (v := 0) (by simp [f_X11_kind, f_X2_tell, c1, c2, qc, qb]) (by simp [f_X12_kind, in_eq, qc, d2])
  have d2 : ¬ (11 : Int32) < a1 := by
    simp only [Int32.lt_iff_toInt_lt, Int32.le_iff_toInt_le] at *
    simp at *
    omega
  by_cases c3 : a2 < 1
  · exact Pr.same (v := 0) (by simp [f_X11_kind, f_X2_tell, c1, c2, c3, kn2_0 _ _ _ e1, qc, qb]) (by simp [f_X12_kind, in_eq, qc, c1, d2, c3, isK_0 _ _ _ e2])
  by_cases c4 : a2 ≤ (12 : Int32)
  · have d4 : ¬ (12 : Int32) < a2 := Int32.not_lt.mpr c4
    by_cases c5 : a3 < 0
    · exact Pr.same (v := 0) (by simp [f_X11_kind, f_X2_tell, c1, c2, c3, c4, c5, kn2_0 _ _ _ e1, qc, qb]) (by simp [f_X12_kind, in_eq, qc, c1, d2, c3, d4, c5, isK_0 _ _ _ e2])
    by_cases c6 : (255 : Int32) < a3
    · exact Pr.same (v := 0) (by simp [f_X11_kind, f_X2_tell, c1, c2, c3, c4, c5, c6, kn2_0 _ _ _ e1, qc, qb]) (by simp [f_X12_kind, in_eq, qc, c1, d2, c3, d4, c5, c6, isK_0 _ _ _ e2])
    by_cases c7 : a4 = 0
    · subst c7
      have g1 : ∀ E : qR, qg a1 12 E = E := fun E => by rcases i12 c1 c2 with rfl | rfl | rfl | rfl | rfl | rfl | rfl | rfl | rfl | rfl | rfl | rfl <;> rfl
      have g2 : ∀ E : qR, qg a1 13 E = E := fun E => by rcases i12 c1 c2 with rfl | rfl | rfl | rfl | rfl | rfl | rfl | rfl | rfl | rfl | rfl | rfl <;> rfl
      have g3 : ¬ (1 : Int32) <<< (a1 &&& 31) ≤ 0 := by rcases i12 c1 c2 with rfl | rfl | rfl | rfl | rfl | rfl | rfl | rfl | rfl | rfl | rfl | rfl <;> decide
      have g4 : (0 : Int32) &&& ((0 : Int32) ^^^ -1) = 0 := by decide
      have hA : ∃ M1, f_X11_kind n a1 a2 a3 0 M = some (1, M1) ∧ M1 77 6 = 0 := by
        refine ⟨mu (mu (mu (mu M 4 a1.toNatClampNeg a2) 5 a1.toNatClampNeg a3) 6 a1.toNatClampNeg 0) 3 3 (mu (mu (mu M 4 a1.toNatClampNeg a2) 5 a1.toNatClampNeg a3) 6 a1.toNatClampNeg 0 3 3 ||| 1 <<< (a1 &&& 31)), ?_, ?_⟩
        · unfold f_X11_kind f_X2_tell f_X2_knowsAll
          simp only [c1, c2, c3, c4, c5, c6, kn2_0 _ _ _ e1, z_shr0, e1, g4, qc, if_true, if_false, g1, qlm, qb, show ¬ ((1 : Int32) = 0) from by decide, or_true, false_or]
        · simp [mu, e2]
      obtain ⟨M1, hA, hA2⟩ := hA
      have hB : ∃ M2, f_X12_kind n a1 a2 a3 0 M1 = some (1, M2) := ⟨_, by
        unfold f_X12_kind
        simp only [in_eq, c1, d2, c3, d4, c5, c6, isK_0 _ _ _ hA2, hA2, g3, g4, qc, or_self, if_true, if_false, g2, qlm, show ¬ ((1 : Int32) = 0) from by decide, show ¬ ((0 : Int32) < 0) from by decide]
        rfl⟩
      obtain ⟨M2, hB⟩ := hB
      exact ⟨1, M1, M2, hA, hB⟩
    · have g4 : ¬ a4 &&& ((0 : Int32) ^^^ -1) = 0 := by rw [z_not, z_and]; exact c7
      refine Pr.same (v := 0) ?_ ?_
      · unfold f_X11_kind f_X2_tell f_X2_knowsAll
        simp only [c1, c2, c3, c4, c5, c6, kn2_0 _ _ _ e1, e1, g4, qc, if_true, if_false]
        by_cases c8 : a4 >>> (a1 &&& 31) = 0 <;> simp [c8, qb]
      · unfold f_X12_kind
        simp only [in_eq, c1, d2, c3, d4, c5, c6, isK_0 _ _ _ e2, e2, g4, qc, or_self, if_true, if_false]
        by_cases c8 : a4 < 0
        · simp [c8]
        · by_cases c9 : (1 : Int32) <<< (a1 &&& 31) ≤ a4 <;> simp [c8, c9]
  · have d4 : (12 : Int32) < a2 := Int32.not_le.mp c4
    exact Pr.same (v := 0) (by simp [f_X11_kind, f_X2_tell, c1, c2, c3, c4, kn2_0 _ _ _ e1, qc, qb]) (by simp [f_X12_kind, in_eq, qc, c1, d2, d4, isK_0 _ _ _ e2])
theorem p1_count {n j : Nat} (hj : j < 78) {M : qM} (hF : Fr M) (a1 : Int32) : Pr (f_X11_count n j a1) (f_X12_count n a1) M := by
  have e1 : M 3 3 = 0 := hF.1 _ _ (by decide)
  have e2 : M 77 6 = 0 := hF.1 _ _ (by decide)
  have e3 : M 78 312 = 0 := hF.2.1 _ (by decide)
  have e4 : M 7 8 = 0 := hF.1 _ _ (by decide)
  have e5 : M j 7 = 0 := hF.1 _ _ hj
  have e6 : M 78 313 = 0 := hF.2.1 _ (by decide)
  have e7 : M 7 9 = 0 := hF.1 _ _ (by decide)
  have e8 : M 1 1 = 0 := hF.1 _ _ (by decide)
  have e9 : M 77 17 = 0 := hF.1 _ _ (by decide)
  have e10 : M 77 8 = 0 := hF.1 _ _ (by decide)
  unfold Pr f_X11_count f_X12_count f_X11_countOfPerson f_X11_countOfKind
  simp only [kn10_0 _ _ _ _ e4, kn2_0 _ _ _ e1, isK_0 _ _ _ e2, isP_0 _ _ _ e3, in_eq, qc, qsw, e1, e2, e3, e4, e5, e6, e7, e8, e9, e10, if_true]
  by_cases c0 : a1 = 0
  · exact ⟨0, M, M, by simp [c0], by simp [c0, e1, e2, e3, e4, e5, e6, e7, e8, e9, e10]⟩
  by_cases c1 : a1 = 1
  · exact ⟨0, M, M, by simp [c1], by simp [c1, e1, e2, e3, e4, e5, e6, e7, e8, e9, e10]⟩
  by_cases c2 : a1 = 2
  · exact ⟨0, M, M, by simp [c2], by simp [c2, e1, e2, e3, e4, e5, e6, e7, e8, e9, e10]⟩
  by_cases c3 : a1 = 3
  · exact ⟨0, M, M, by simp [c3], by simp [c3, e1, e2, e3, e4, e5, e6, e7, e8, e9, e10]⟩
  by_cases c4 : a1 = 4
  · exact ⟨0, M, M, by simp [c4], by simp [c4, e1, e2, e3, e4, e5, e6, e7, e8, e9, e10]⟩
  refine ⟨-1, M, M, by simp [c0, c1, c2, c3, c4], ?_⟩
  simp only [c0, c1, c2, c3, c4, if_false, isK_0 _ _ _ e2, isP_0 _ _ _ e3, if_true]
  by_cases d1 : a1 < 10 ∨ 21 < a1
  · by_cases d2 : a1 < 30 ∨ 41 < a1
    · by_cases d3 : a1 < 50 ∨ 61 < a1
      · by_cases d4 : a1 < 70 ∨ 109 < a1 <;> simp [d1, d2, d3, d4]
      · simp [d1, d2, d3]
    · simp [d1, d2]
  · simp [d1]
