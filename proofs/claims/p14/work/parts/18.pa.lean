/-! PURE ROWS on the fresh objects: no machine in sight -/
/-- what holds of the memory while nothing was told: the class's half is 0, the model's, too, but its days of last tries and its ways -/
def Fr (M : qM) : Prop := (∀ a b, a < 78 → M a b = 0) ∧ (∀ b, b < 96 ∨ 192 ≤ b → M 78 b = 0) ∧ ∀ a b, 79 ≤ a → a ≠ 102 → a ≠ 103 → a ≠ 104 → M a b = 0
def Pr (C D : qM → qR) (M : qM) : Prop := ∃ (v : Int32) (M1 M2 : qM), C M = some (v, M1) ∧ D M1 = some (v, M2)
theorem Pr.same {C D : qM → qR} {M : qM} {v : Int32} (h1 : C M = some (v, M)) (h2 : D M = some (v, M)) : Pr C D M := ⟨v, M, M, h1, h2⟩
theorem z_shr (x : Int32) : ((0 : Int32) >>> x) &&& (1 : Int32) = 0 := by
  have : (0 : Int32) >>> x = 0 := by
    apply Int32.toBitVec_inj.mp
    simp [Int32.toBitVec_shiftRight]
  rw [this]
  decide
theorem z_not : ((0 : Int32) ^^^ (-1 : Int32)) = -1 := by decide
theorem z_and (a : Int32) : a &&& (-1 : Int32) = a := by
  apply Int32.toBitVec_inj.mp
  simp
theorem kn10_0 (n t : Nat) (a : Int32) (M : qM) (h : M t 8 = 0) : f_X10_knows n t a M = some (0, M) := by
  unfold f_X10_knows
  rw [h, z_shr]
  simp
theorem kn2_0 (n : Nat) (a : Int32) (M : qM) (h : M 3 3 = 0) : f_X2_knows n a M = some (0, M) := by
  unfold f_X2_knows
  rw [h, z_shr]
  simp
theorem has0_0 (n : Nat) (a : Int32) (M : qM) : f_X12_has0 n 0 a M = some (0, M) := by
  unfold f_X12_has0
  rw [z_shr]
  simp
theorem isP_0 (n : Nat) (a : Int32) (M : qM) (h : M 78 312 = 0) : f_X12_isPerson n a M = some (0, M) := by
  unfold f_X12_isPerson
  rw [h, has0_0]
  simp [qc]
theorem isK_0 (n : Nat) (a : Int32) (M : qM) (h : M 77 6 = 0) : f_X12_isKind n a M = some (0, M) := by
  unfold f_X12_isKind
  rw [h, has0_0]
  simp [qc]
theorem in_eq (n : Nat) (a lo hi : Int32) (M : qM) : f_X12_in n a lo hi M = some ((if a < lo ∨ hi < a then 0 else 1), M) := by
  unfold f_X12_in
  by_cases h1 : a < lo
  · simp [h1]
  · by_cases h2 : hi < a <;> simp [h1, h2]
theorem tn (a : Int32) : a.toNatClampNeg = a.toInt.toNat := rfl
theorem qg_ok {a : Int32} {n : Nat} {E : qR} (h0 : 0 ≤ a.toInt) (h1 : a.toInt < (n : Int)) : qg a n E = E := by
  refine qg_in ?_
  rintro (q | q)
  · rw [Int32.lt_iff_toInt_lt] at q
    simp at q
    omega
  · rw [tn] at q
    omega
theorem bc_some (n : Nat) (a : Int32) (M : qM) : ∃ v, f_J6_bitCount_0f7a4 n a M = some (v, M) := ⟨_, rfl⟩
theorem p1_plan {n j r : Nat} {M : qM} (hF : Fr M) (a1 a2 : Int32) : Pr (f_X11_plan n a1 a2) (f_X12_plan n a1 a2) M := Pr.same (v := -1) (by
  unfold f_X11_plan; rw [kn10_0 _ _ _ _ (hF.1 _ _ (by decide))]; rfl) (by
  unfold f_X12_plan; rw [isP_0 _ _ _ (hF.2.1 _ (by decide))]; rfl)
theorem p1_tries {n j r : Nat} {M : qM} (hF : Fr M) (a1 a2 a3 : Int32) : Pr (f_X11_tries n j a1 a2 a3) (f_X12_tries n a1 a2 a3) M := Pr.same (v := -1) (by
  unfold f_X11_tries; rw [kn10_0 _ _ _ _ (hF.1 _ _ (by decide))]; rfl) (by
  unfold f_X12_tries; rw [isP_0 _ _ _ (hF.2.1 _ (by decide))]; rfl)
theorem p1_buys {n j r : Nat} {M : qM} (hF : Fr M) (a1 a2 a3 : Int32) : Pr (f_X11_buys n j a1 a2 a3) (f_X12_buys n a1 a2 a3) M := Pr.same (v := -1) (by
  unfold f_X11_buys f_X11_canDeal; rw [kn10_0 _ _ _ _ (hF.1 _ _ (by decide))]; rfl) (by
  unfold f_X12_buys; rw [isP_0 _ _ _ (hF.2.1 _ (by decide))]; rfl)
theorem p1_cost {n j r : Nat} {M : qM} (hF : Fr M) (a1 a2 a3 : Int32) : Pr (f_X11_cost n j a1 a2 a3) (f_X12_cost n a1 a2 a3) M := Pr.same (v := -1) (by
  unfold f_X11_cost f_X11_canDeal; rw [kn10_0 _ _ _ _ (hF.1 _ _ (by decide))]; rfl) (by
  unfold f_X12_cost; rw [isP_0 _ _ _ (hF.2.1 _ (by decide))]; rfl)
theorem p1_has {n j r : Nat} {M : qM} (hF : Fr M) (a1 a2 a3 : Int32) : Pr (f_X11_has n j a1 a2 a3) (f_X12_has n a1 a2 a3) M := Pr.same (v := -1) (by
  unfold f_X11_has; rw [kn10_0 _ _ _ _ (hF.1 _ _ (by decide))]; rfl) (by
  unfold f_X12_has; rw [isP_0 _ _ _ (hF.2.1 _ (by decide))]; rfl)
theorem p1_alike {n j r : Nat} {M : qM} (hF : Fr M) (a1 a2 : Int32) : Pr (f_X11_alike n j a1 a2) (f_X12_alike n a1 a2) M := Pr.same (v := -1) (by
  unfold f_X11_alike; rw [kn2_0 _ _ _ (hF.1 _ _ (by decide))]; rfl) (by
  unfold f_X12_alike; rw [isK_0 _ _ _ (hF.1 _ _ (by decide))]; rfl)
theorem p1_check {n j r : Nat} {M : qM} (hF : Fr M) (a1 a2 : Int32) : Pr (f_X11_check n a1 a2) (f_X12_check n a1 a2) M := Pr.same (v := -2) (by
  unfold f_X11_check; rw [kn10_0 _ _ _ _ (hF.1 _ _ (by decide))]; rfl) (by
  unfold f_X12_check; rw [isP_0 _ _ _ (hF.2.1 _ (by decide))]; rfl)
theorem p1_soonest {n j r : Nat} {M : qM} (hF : Fr M) (a1 a2 a3 a4 a5 : Int32) : Pr (f_X11_soonest n j a1 a2 a3 a4 a5) (f_X12_soonest n a1 a2 a3 a4 a5) M := Pr.same (v := -1) (by
  unfold f_X11_soonest f_X11_canChoose
  obtain ⟨v, hv⟩ := bc_some n a2 M
  rw [hv]; simp only [qc]; rw [kn10_0 _ _ _ _ (hF.1 _ _ (by decide))]; rfl) (by
  unfold f_X12_soonest f_X12_areSome; rw [isP_0 _ _ _ (hF.2.1 _ (by decide))]; rfl)
theorem p1_cheapest {n j r : Nat} {M : qM} (hF : Fr M) (a1 a2 a3 a4 a5 : Int32) : Pr (f_X11_cheapest n j a1 a2 a3 a4 a5) (f_X12_cheapest n a1 a2 a3 a4 a5) M := Pr.same (v := -1) (by
  unfold f_X11_cheapest f_X11_canChoose
  obtain ⟨v, hv⟩ := bc_some n a2 M
  rw [hv]; simp only [qc]; rw [kn10_0 _ _ _ _ (hF.1 _ _ (by decide))]; rfl) (by
  unfold f_X12_cheapest f_X12_areSome; rw [isP_0 _ _ _ (hF.2.1 _ (by decide))]; rfl)
theorem i_ge {a : Int32} (h1 : ¬ a < 1) : ¬ a ≤ 0 := by
  simp only [Int32.lt_iff_toInt_lt, Int32.le_iff_toInt_le] at *
  simp at *
  omega
theorem p1_law {n j r : Nat} {M : qM} (hF : Fr M) (a1 : Int32) : f_X11_law n j r a1 M = some (-1, M) ∧ f_X12_law n a1 M = some (-1, M) := by
  have h1 : M 1 1 = 0 := hF.1 _ _ (by decide)
  have h2 : M 77 8 = 0 := hF.1 _ _ (by decide)
  constructor
  · unfold f_X11_law
    by_cases c1 : a1 < 1
    · rw [if_pos c1]
    · simp [c1, h1, i_ge c1]
  · unfold f_X12_law
    rw [in_eq]
    simp only [qc]
    by_cases c1 : a1 < 1
    · rw [if_pos (Or.inl c1)]; rfl
    · simp [h2, i_ge c1]
theorem p1_jobs {n j r : Nat} {M : qM} (hF : Fr M) (a1 a2 a3 : Int32) : Pr (f_X11_jobs n j a1 a2 a3) (f_X12_jobs n a1 a2 a3) M := by
  have h1 : M 1 1 = 0 := hF.1 _ _ (by decide)
  have h2 : M 77 8 = 0 := hF.1 _ _ (by decide)
  refine Pr.same (v := -1) ?_ ?_
  · unfold f_X11_jobs
    by_cases c1 : a1 < 1
    · rw [if_pos c1]
    · simp [c1, h1, i_ge c1]
  · unfold f_X12_jobs
    rw [in_eq]
    simp only [qc]
    by_cases c1 : a1 < 1
    · rw [if_pos (Or.inl c1)]; rfl
    · simp [h2, i_ge c1]
theorem p1_person {n j r : Nat} {M : qM} (hF : Fr M) (a1 a2 : Int32) : Pr (f_X11_person n a1 a2) (f_X12_person n a1 a2) M := by
  by_cases c1 : a1 < 0
  · exact ⟨0, M, M, by simp [f_X11_person, c1], by simp [f_X12_person, in_eq, qc, c1]⟩
  · by_cases c2 : (8 : Int32) ≤ a1
    · have c3 : (7 : Int32) < a1 := by
        simp only [Int32.lt_iff_toInt_lt, Int32.le_iff_toInt_le] at *
        simp at *
        omega
      exact ⟨0, M, M, by simp [f_X11_person, c1, c2], by simp [f_X12_person, in_eq, qc, c3]⟩
    · have c3 : ¬ (7 : Int32) < a1 := by
        simp only [Int32.lt_iff_toInt_lt, Int32.le_iff_toInt_le] at *
        simp at *
        omega
      by_cases c4 : a2 < 0
      · exact ⟨0, M, M, by simp [f_X11_person, c1, c2, c4], by simp [f_X12_person, in_eq, qc, c1, c3, c4]⟩
      · by_cases c5 : a2 ≤ (99999 : Int32)
        · have c6 : ¬ (99999 : Int32) < a2 := Int32.not_lt.mpr c5
          have t1 : 0 ≤ a1.toInt ∧ a1.toInt < 8 := by
            simp only [Int32.lt_iff_toInt_lt, Int32.le_iff_toInt_le] at *
            simp at *
            omega
          have t2 : ((288 : Int32) + a1).toInt = 288 + a1.toInt := by
            rw [Int32.toInt_add]
            show Int.bmod (288 + a1.toInt) _ = _
            rw [Int.bmod_eq_of_le] <;> omega
          have g1 : ∀ E : qR, qg a1 8 E = E := fun E => qg_ok t1.1 (by omega)
          have g2 : ∀ E : qR, qg ((288 : Int32) + a1) 954 E = E := fun E => qg_ok (by omega) (by omega)
          have hA : ∃ M1, f_X11_person n a1 a2 M = some (1, M1) := ⟨_, by unfold f_X11_person; simp only [c1, c2, c4, c5, if_false, if_true, qlm, g1]; rfl⟩
          obtain ⟨M1, hA⟩ := hA
          have hB : ∃ M2, f_X12_person n a1 a2 M1 = some (1, M2) := ⟨_, by unfold f_X12_person; simp only [in_eq, qc, c1, c3, c4, c6, or_self, if_false, qlm, g2]; rfl⟩
          obtain ⟨M2, hB⟩ := hB
          exact ⟨1, M1, M2, hA, hB⟩
        · have c6 : (99999 : Int32) < a2 := Int32.not_le.mp c5
          exact ⟨0, M, M, by simp [f_X11_person, c1, c2, c4, c5], by simp [f_X12_person, in_eq, qc, c1, c3, c4, c6]⟩

theorem qg_nI {i n : Nat} {E : qR} (h : i < n) (hn : n < 2 ^ 31) : qg (nI i) n E = E := qg_in (nI_in h hn)
theorem put_step {n k s : Nat} {a sh : Int32} {M : qM} (hs : M 1 1 = nI s) (h : s < 260) (h0 : ¬ sh < 0) : f_X9_put_3 n (k + 1) a sh M = f_X9_put_3 n k a (sh + -8) (mu (mu M 2 s ((a >>> (sh &&& 31)) &&& 255)) 1 1 (nI (s + 1))) := by
  show b_X9_put_3 n (f_X9_put_3 n k) a sh M = _
  unfold b_X9_put_3
  have c1 : ¬ (260 : Int32) ≤ nI s := nI_ge (a := s) (b := 260) h (by decide)
  have e1 : mu M 2 s ((a >>> (sh &&& 31)) &&& 255) 1 1 = nI s := by simp [mu, hs]
  simp only [hs, h0, c1, if_false, qg_nI h (by decide), qlm, ql, nI_clamp (show s < 2 ^ 31 by omega), e1, nI_1]
theorem put_end {n k : Nat} {a : Int32} {M : qM} : f_X9_put_3 n (k + 1) a (-8) M = some (0, M) := by
  show b_X9_put_3 n (f_X9_put_3 n k) a (-8) M = _
  unfold b_X9_put_3
  rw [if_pos (by decide)]
theorem put_ok {n s : Nat} (hn : 6 ≤ n) {a : Int32} {M : qM} (hs : M 1 1 = nI s) (h : s + 4 ≤ 260) : ∃ M', f_X9_put n a M = some (0, M') ∧ M' 1 1 = nI (s + 4) ∧ ∀ x y, x ≠ 1 → x ≠ 2 → M' x y = M x y := by
  obtain ⟨k, rfl⟩ : ∃ k, n = k + 5 := ⟨n - 5, by omega⟩
  unfold f_X9_put
  rw [put_step (k := k + 4) hs (by omega) (by decide)]
  rw [put_step (k := k + 3) (s := s + 1) (by simp [mu]) (by omega) (by decide)]
  rw [put_step (k := k + 2) (s := s + 2) (by simp [mu]) (by omega) (by decide)]
  rw [put_step (k := k + 1) (s := s + 3) (by simp [mu]) (by omega) (by decide)]
  rw [show (24 : Int32) + -8 + -8 + -8 + -8 = -8 by decide, put_end]
  exact ⟨_, rfl, by simp [mu], fun x y h1 h2 => by simp [mu, h1, h2]⟩
theorem types_step {n k s : Nat} {a sh : Int32} {M : qM} (hs : M 77 8 = nI s) (h : s < 260) (h0 : ¬ sh < 0) : f_X12_types_2 n (k + 1) a sh M = f_X12_types_2 n k a (sh + -1) (mu (mu M 84 s (vp_nar .byte ((a >>> ((8 * sh) &&& 31)).toInt8.toInt32))) 77 8 (nI (s + 1))) := by
  show b_X12_types_2 n (f_X12_types_2 n k) a sh M = _
  unfold b_X12_types_2
  have e1 : mu M 84 s (vp_nar .byte ((a >>> ((8 * sh) &&& 31)).toInt8.toInt32)) 77 8 = nI s := by simp [mu, hs]
  simp only [hs, h0, if_false, qg_nI h (by decide), qlm, ql, nI_clamp (show s < 2 ^ 31 by omega), e1, nI_1]
theorem types_end {n k : Nat} {a : Int32} {M : qM} : f_X12_types_2 n (k + 1) a (-1) M = some (0, M) := by
  show b_X12_types_2 n (f_X12_types_2 n k) a (-1) M = _
  unfold b_X12_types_2
  rw [if_pos (by decide)]
theorem types_ok {n s : Nat} (hn : 6 ≤ n) {a : Int32} {M : qM} (hs : M 77 8 = nI s) (h : s + 4 ≤ 260) : ∃ M', f_X12_types n a M = some (0, M') ∧ M' 77 8 = nI (s + 4) ∧ ∀ x y, x ≠ 77 → x ≠ 84 → M' x y = M x y := by
  obtain ⟨k, rfl⟩ : ∃ k, n = k + 5 := ⟨n - 5, by omega⟩
  unfold f_X12_types
  rw [types_step (k := k + 4) hs (by omega) (by decide)]
  rw [types_step (k := k + 3) (s := s + 1) (by simp [mu]) (by omega) (by decide)]
  rw [types_step (k := k + 2) (s := s + 2) (by simp [mu]) (by omega) (by decide)]
  rw [types_step (k := k + 1) (s := s + 3) (by simp [mu]) (by omega) (by decide)]
  rw [show (3 : Int32) + -1 + -1 + -1 + -1 = -1 by decide, types_end]
  exact ⟨_, rfl, by simp [mu], fun x y h1 h2 => by simp [mu, h1, h2]⟩
theorem p1_feed {n : Nat} (hn : 6 ≤ n) {M : qM} (hF : Fr M) (a1 a2 a3 a4 a5 : Int32) : Pr (f_X11_feed n a1 a2 a3 a4 a5) (f_X12_feed n a1 a2 a3 a4 a5) M := by
  have h0 : M 1 1 = nI 0 := hF.1 _ _ (by decide)
  obtain ⟨M1, e1, s1, o1⟩ := put_ok (a := a1) hn h0 (by decide)
  obtain ⟨M2, e2, s2, o2⟩ := put_ok (a := a2) hn s1 (by decide)
  obtain ⟨M3, e3, s3, o3⟩ := put_ok (a := a3) hn s2 (by decide)
  obtain ⟨M4, e4, s4, o4⟩ := put_ok (a := a4) hn s3 (by decide)
  obtain ⟨M5, e5, s5, o5⟩ := put_ok (a := a5) hn s4 (by decide)
  have hA : f_X11_feed n a1 a2 a3 a4 a5 M = some (20, M5) := by
    unfold f_X11_feed
    rw [if_pos (by rw [h0]; decide)]
    simp only [qc, e1, e2, e3, e4, e5, s5]
    rfl
  have k0 : M5 77 8 = nI 0 := by
    rw [o5 _ _ (by decide) (by decide), o4 _ _ (by decide) (by decide), o3 _ _ (by decide) (by decide), o2 _ _ (by decide) (by decide), o1 _ _ (by decide) (by decide)]
    exact hF.1 _ _ (by decide)
  obtain ⟨N1, d1, t1, -⟩ := types_ok (a := a1) hn k0 (by decide)
  obtain ⟨N2, d2, t2, -⟩ := types_ok (a := a2) hn t1 (by decide)
  obtain ⟨N3, d3, t3, -⟩ := types_ok (a := a3) hn t2 (by decide)
  obtain ⟨N4, d4, t4, -⟩ := types_ok (a := a4) hn t3 (by decide)
  obtain ⟨N5, d5, t5, -⟩ := types_ok (a := a5) hn t4 (by decide)
  refine ⟨20, M5, N5, hA, ?_⟩
  unfold f_X12_feed
  rw [if_pos (by rw [k0]; decide)]
  simp only [qc, d1, d2, d3, d4, d5, t5]
  rfl
theorem p1_undo {n : Nat} {M : qM} (hF : Fr M) : Pr (f_X11_undo n) (f_X12_undo n) M := Pr.same (v := 0) (by
  unfold f_X11_undo
  rw [if_pos (hF.1 _ _ (by decide))]) (by
  unfold f_X12_undo
  rw [if_pos (hF.1 _ _ (by decide))])
theorem p1_histories {n j : Nat} {M : qM} (hF : Fr M) (a1 a2 a3 a4 : Int32) : Pr (f_X11_histories n j a1 a2 a3 a4) (f_X12_histories n a1 a2 a3 a4) M := by
  have h1 : M 1 1 = 0 := hF.1 _ _ (by decide)
  have h2 : M 77 8 = 0 := hF.1 _ _ (by decide)
  have key : ¬ a1 < 1 → ¬ (4 : Int32) < a1 → ¬ a2 < 0 → ¬ (10 : Int32) < a2 → ¬ a1 + 2 * a2 ≤ 0 := by
    intro c1 c2 c3 c4 c5
    have t : (a1 + 2 * a2).toInt = a1.toInt + 2 * a2.toInt := by
      simp only [Int32.lt_iff_toInt_lt, Int32.le_iff_toInt_le] at *
      rw [Int32.toInt_add, Int32.toInt_mul]
      simp at *
      rw [Int.bmod_eq_of_le] <;> omega
    simp only [Int32.lt_iff_toInt_lt, Int32.le_iff_toInt_le] at *
    rw [t] at c5
    simp at *
    omega
  refine Pr.same (v := -1) ?_ ?_
  · unfold f_X11_histories
    by_cases c1 : a1 < 1
    · simp [c1]
    by_cases c2 : (4 : Int32) < a1
    · simp [c1, c2]
    by_cases c3 : a2 < 0
    · simp [c1, c2, c3]
    by_cases c4 : (10 : Int32) < a2
    · simp [c1, c2, c3, c4]
    simp [c1, c2, c3, c4, h1, key c1 c2 c3 c4]
  · unfold f_X12_histories
    simp only [in_eq, qc]
    by_cases c1 : a1 < 1
    · simp [c1]
    by_cases c2 : (4 : Int32) < a1
    · simp [c1, c2]
    by_cases c3 : a2 < 0
    · simp [c1, c2, c3]
    by_cases c4 : (10 : Int32) < a2
    · simp [c1, c2, c3, c4]
    simp [c1, c2, c3, c4, h2, key c1 c2 c3 c4]
theorem i12 {a : Int32} (h1 : ¬ a < 0) (h2 : ¬ (12 : Int32) ≤ a) : a = 0 ∨ a = 1 ∨ a = 2 ∨ a = 3 ∨ a = 4 ∨ a = 5 ∨ a = 6 ∨ a = 7 ∨ a = 8 ∨ a = 9 ∨ a = 10 ∨ a = 11 := by
  obtain ⟨j, hj, rfl⟩ := nI_of h1
  have : j < 12 := by
    rcases Nat.lt_or_ge j 12 with q | q
    · exact q
    · exact absurd (nI_le (a := 12) q hj) h2
  rcases (show j = 0 ∨ j = 1 ∨ j = 2 ∨ j = 3 ∨ j = 4 ∨ j = 5 ∨ j = 6 ∨ j = 7 ∨ j = 8 ∨ j = 9 ∨ j = 10 ∨ j = 11 by omega) with rfl | rfl | rfl | rfl | rfl | rfl | rfl | rfl | rfl | rfl | rfl | rfl <;> decide
theorem z_shr0 (x : Int32) : (0 : Int32) >>> x = 0 := by
  apply Int32.toBitVec_inj.mp
  simp [Int32.toBitVec_shiftRight]
theorem p1_kind {n : Nat} {M : qM} (hF : Fr M) (a1 a2 a3 a4 : Int32) : Pr (f_X11_kind n a1 a2 a3 a4) (f_X12_kind n a1 a2 a3 a4) M := by
  have e1 : M 3 3 = 0 := hF.1 _ _ (by decide)
  have e2 : M 77 6 = 0 := hF.1 _ _ (by decide)
  by_cases c1 : a1 < 0
  · exact Pr.same (v := 0) (by simp [f_X11_kind, f_X2_tell, c1, qc, qb]) (by simp [f_X12_kind, in_eq, qc, c1])
  by_cases c2 : (12 : Int32) ≤ a1
  · have d2 : (11 : Int32) < a1 := by
      simp only [Int32.lt_iff_toInt_lt, Int32.le_iff_toInt_le] at *
      simp at *
      omega
    exact Pr.same (v := 0) (by simp [f_X11_kind, f_X2_tell, c1, c2, qc, qb]) (by simp [f_X12_kind, in_eq, qc, d2])
  have d2 : ¬ (11 : Int32) < a1 := by
    simp only [Int32.lt_iff_toInt_lt, Int32.le_iff_toInt_le] at *
    simp at *
    omega
  by_cases c3 : a2 < 1
  · exact Pr.same (v := 0) (by simp [f_X11_kind, f_X2_tell, c1, c2, c3, kn2_0 _ _ _ e1, qc, qb]) (by simp [f_X12_kind, in_eq, qc, c1, d2, c3, isK_0 _ _ _ e2])
  by_cases c4 : a2 ≤ (12 : Int32)
  · have d4 : ¬ (12 : Int32) < a2 := Int32.not_lt.mpr c4
    by_cases c5 : a3 < 0
    · exact Pr.same (v := 0) (by simp [f_X11_kind, f_X2_tell, c1, c2, c3, c4, c5, kn2_0 _ _ _ e1, qc, qb]) (by simp [f_X12_kind, in_eq, qc, c1, d2, c3, d4, c5, isK_0 _ _ _ e2])
    by_cases c6 : (255 : Int32) < a3
    · exact Pr.same (v := 0) (by simp [f_X11_kind, f_X2_tell, c1, c2, c3, c4, c5, c6, kn2_0 _ _ _ e1, qc, qb]) (by simp [f_X12_kind, in_eq, qc, c1, d2, c3, d4, c5, c6, isK_0 _ _ _ e2])
    by_cases c7 : a4 = 0
    · subst c7
      have g1 : ∀ E : qR, qg a1 12 E = E := fun E => by rcases i12 c1 c2 with rfl | rfl | rfl | rfl | rfl | rfl | rfl | rfl | rfl | rfl | rfl | rfl <;> rfl
      have g2 : ∀ E : qR, qg a1 13 E = E := fun E => by rcases i12 c1 c2 with rfl | rfl | rfl | rfl | rfl | rfl | rfl | rfl | rfl | rfl | rfl | rfl <;> rfl
      have g3 : ¬ (1 : Int32) <<< (a1 &&& 31) ≤ 0 := by rcases i12 c1 c2 with rfl | rfl | rfl | rfl | rfl | rfl | rfl | rfl | rfl | rfl | rfl | rfl <;> decide
      have g4 : (0 : Int32) &&& ((0 : Int32) ^^^ -1) = 0 := by decide
      have hA : ∃ M1, f_X11_kind n a1 a2 a3 0 M = some (1, M1) ∧ M1 77 6 = 0 := by
        refine ⟨mu (mu (mu (mu M 4 a1.toNatClampNeg a2) 5 a1.toNatClampNeg a3) 6 a1.toNatClampNeg 0) 3 3 (mu (mu (mu M 4 a1.toNatClampNeg a2) 5 a1.toNatClampNeg a3) 6 a1.toNatClampNeg 0 3 3 ||| 1 <<< (a1 &&& 31)), ?_, ?_⟩
        · unfold f_X11_kind f_X2_tell f_X2_knowsAll
          simp only [c1, c2, c3, c4, c5, c6, kn2_0 _ _ _ e1, z_shr0, e1, g4, qc, if_true, if_false, g1, qlm, qb, show ¬ ((1 : Int32) = 0) from by decide, or_true, false_or]
        · simp [mu, e2]
      obtain ⟨M1, hA, hA2⟩ := hA
      have hB : ∃ M2, f_X12_kind n a1 a2 a3 0 M1 = some (1, M2) := ⟨_, by
        unfold f_X12_kind
        simp only [in_eq, c1, d2, c3, d4, c5, c6, isK_0 _ _ _ hA2, hA2, g3, g4, qc, or_self, if_true, if_false, g2, qlm, show ¬ ((1 : Int32) = 0) from by decide, show ¬ ((0 : Int32) < 0) from by decide]
        rfl⟩
      obtain ⟨M2, hB⟩ := hB
      exact ⟨1, M1, M2, hA, hB⟩
    · have g4 : ¬ a4 &&& ((0 : Int32) ^^^ -1) = 0 := by rw [z_not, z_and]; exact c7
      refine Pr.same (v := 0) ?_ ?_
      · unfold f_X11_kind f_X2_tell f_X2_knowsAll
        simp only [c1, c2, c3, c4, c5, c6, kn2_0 _ _ _ e1, e1, g4, qc, if_true, if_false]
        by_cases c8 : a4 >>> (a1 &&& 31) = 0 <;> simp [c8, qb]
      · unfold f_X12_kind
        simp only [in_eq, c1, d2, c3, d4, c5, c6, isK_0 _ _ _ e2, e2, g4, qc, or_self, if_true, if_false]
        by_cases c8 : a4 < 0
        · simp [c8]
        · by_cases c9 : (1 : Int32) <<< (a1 &&& 31) ≤ a4 <;> simp [c8, c9]
  · have d4 : (12 : Int32) < a2 := Int32.not_le.mp c4
    exact Pr.same (v := 0) (by simp [f_X11_kind, f_X2_tell, c1, c2, c3, c4, kn2_0 _ _ _ e1, qc, qb]) (by simp [f_X12_kind, in_eq, qc, c1, d2, d4, isK_0 _ _ _ e2])
theorem p1_count {n j : Nat} (hj : j < 78) {M : qM} (hF : Fr M) (a1 : Int32) : Pr (f_X11_count n j a1) (f_X12_count n a1) M := by
  have e1 : M 3 3 = 0 := hF.1 _ _ (by decide)
  have e2 : M 77 6 = 0 := hF.1 _ _ (by decide)
  have e3 : M 78 312 = 0 := hF.2.1 _ (by decide)
  have e4 : M 7 8 = 0 := hF.1 _ _ (by decide)
  have e5 : M j 7 = 0 := hF.1 _ _ hj
  have e6 : M 78 313 = 0 := hF.2.1 _ (by decide)
  have e7 : M 7 9 = 0 := hF.1 _ _ (by decide)
  have e8 : M 1 1 = 0 := hF.1 _ _ (by decide)
  have e9 : M 77 17 = 0 := hF.1 _ _ (by decide)
  have e10 : M 77 8 = 0 := hF.1 _ _ (by decide)
  unfold Pr f_X11_count f_X12_count f_X11_countOfPerson f_X11_countOfKind
  simp only [kn10_0 _ _ _ _ e4, kn2_0 _ _ _ e1, isK_0 _ _ _ e2, isP_0 _ _ _ e3, in_eq, qc, qsw, e1, e2, e3, e4, e5, e6, e7, e8, e9, e10, if_true]
  by_cases c0 : a1 = 0
  · exact ⟨0, M, M, by simp [c0], by simp [c0, e1, e2, e3, e4, e5, e6, e7, e8, e9, e10]⟩
  by_cases c1 : a1 = 1
  · exact ⟨0, M, M, by simp [c1], by simp [c1, e1, e2, e3, e4, e5, e6, e7, e8, e9, e10]⟩
  by_cases c2 : a1 = 2
  · exact ⟨0, M, M, by simp [c2], by simp [c2, e1, e2, e3, e4, e5, e6, e7, e8, e9, e10]⟩
  by_cases c3 : a1 = 3
  · exact ⟨0, M, M, by simp [c3], by simp [c3, e1, e2, e3, e4, e5, e6, e7, e8, e9, e10]⟩
  by_cases c4 : a1 = 4
  · exact ⟨0, M, M, by simp [c4], by simp [c4, e1, e2, e3, e4, e5, e6, e7, e8, e9, e10]⟩
  refine ⟨-1, M, M, by simp [c0, c1, c2, c3, c4], ?_⟩
  simp only [c0, c1, c2, c3, c4, if_false, isK_0 _ _ _ e2, isP_0 _ _ _ e3, if_true]
  by_cases d1 : a1 < 10 ∨ 21 < a1
  · by_cases d2 : a1 < 30 ∨ 41 < a1
    · by_cases d3 : a1 < 50 ∨ 61 < a1
      · by_cases d4 : a1 < 70 ∨ 109 < a1 <;> simp [d1, d2, d3, d4]
      · simp [d1, d2, d3]
    · simp [d1, d2]
  · simp [d1]

theorem copies_go {n c1 c2 : Nat} (hc : c1 ≠ c2) : ∀ (d i m : Nat) (M : qM), i + d = 954 → d < m → ∃ M', f_X12_copies_2 n c1 c2 m (nI i) M = some (0, M') ∧ (∀ x y, x ≠ c2 → M' x y = M x y) ∧ ∀ y, M' c2 y = if i ≤ y ∧ y < 954 then M c1 y else M c2 y := by
  intro d
  induction d with
  | zero =>
    intro i m M hi hm
    obtain ⟨k, rfl⟩ : ∃ k, m = k + 1 := ⟨m - 1, by omega⟩
    refine ⟨M, ?_, fun _ _ _ => rfl, fun y => by rw [if_neg (by omega)]⟩
    show b_X12_copies_2 n c1 c2 (f_X12_copies_2 n c1 c2 k) (nI i) M = _
    unfold b_X12_copies_2
    have cc1 : (954 : Int32) ≤ nI i := nI_le (a := 954) (b := i) (by omega) (by omega)
    rw [if_pos cc1]
  | succ d ih =>
    intro i m M hi hm
    obtain ⟨k, rfl⟩ : ∃ k, m = k + 1 := ⟨m - 1, by omega⟩
    obtain ⟨M', e, o1, o2⟩ := ih (i + 1) k (mu M c2 i (M c1 i)) (by omega) (by omega)
    refine ⟨M', ?_, fun x y h => ?_, fun y => ?_⟩
    · show b_X12_copies_2 n c1 c2 (f_X12_copies_2 n c1 c2 k) (nI i) M = _
      unfold b_X12_copies_2
      have cc1 : ¬ (954 : Int32) ≤ nI i := nI_ge (a := i) (b := 954) (by omega) (by decide)
      rw [if_neg cc1]
      simp only [qg_nI (show i < 954 by omega) (by decide), qlm, ql, nI_clamp (show i < 2 ^ 31 by omega), nI_1]
      exact e
    · rw [o1 x y h]; simp [mu, h]
    · rw [o2 y]
      by_cases hy : y = i
      · subst hy
        rw [if_neg (by omega), if_pos (by omega)]
        simp [mu]
      · by_cases h2 : i + 1 ≤ y ∧ y < 954
        · rw [if_pos h2, if_pos (by omega)]
          simp [mu, hc]
        · rw [if_neg h2, if_neg (by omega)]
          simp [mu, hy]
theorem copies_ok {n c1 c2 : Nat} (hn : 955 ≤ n) (hc : c1 ≠ c2) (M : qM) : ∃ M', f_X12_copies n c1 c2 M = some (0, M') ∧ (∀ x y, x ≠ c2 → M' x y = M x y) ∧ ∀ y, M' c2 y = if y < 954 then M c1 y else M c2 y := by
  obtain ⟨M', e, o1, o2⟩ := copies_go (n := n) hc 954 0 n M (by omega) (by omega)
  exact ⟨M', e, o1, fun y => by rw [o2 y]; simp⟩
theorem qcp8 (E : qR) : qcp 0 0 8 8 8 E = E := if_neg (by decide)
theorem qcp96 (E : qR) : qcp 0 0 96 96 96 E = E := if_neg (by decide)
theorem qcp320 (E : qR) : qcp 0 0 320 320 320 E = E := if_neg (by decide)
theorem copy_fr {n t u : Nat} (M : qM) (hu : u + 8 < t ∨ t + 8 < u) : ∃ M', f_X10_copy n t u M = some (0, M') ∧ (∀ x y, x < t ∨ t + 8 < x → M' x y = M x y) ∧ M' t 8 = M u 8 ∧ M' t 9 = M u 9 := by
  unfold f_X10_copy
  simp only [qcp8, qcp96, qcp320, qlm]
  refine ⟨_, rfl, fun x y h => ?_, ?_, ?_⟩
  · have h0 : x ≠ t := by omega
    have h1 : x ≠ t + 1 := by omega
    have h2 : x ≠ t + 2 := by omega
    have h3 : x ≠ t + 3 := by omega
    have h4 : x ≠ t + 4 := by omega
    have h5 : x ≠ t + 5 := by omega
    have h6 : x ≠ t + 6 := by omega
    have h7 : x ≠ t + 7 := by omega
    have h8 : x ≠ t + 8 := by omega
    simp [mu, mr, h0, h1, h2, h3, h4, h5, h6, h7, h8]
  · have h0 : u ≠ t := by omega
    have h1 : u ≠ t + 1 := by omega
    have h2 : u ≠ t + 2 := by omega
    have h3 : u ≠ t + 3 := by omega
    have h4 : u ≠ t + 4 := by omega
    have h5 : u ≠ t + 5 := by omega
    have h6 : u ≠ t + 6 := by omega
    have h7 : u ≠ t + 7 := by omega
    have h8 : u ≠ t + 8 := by omega
    simp [mu, mr, h1, h2, h3, h4, h5, h6, h7, h8]
  · have h0 : u ≠ t := by omega
    have h1 : u ≠ t + 1 := by omega
    have h2 : u ≠ t + 2 := by omega
    have h3 : u ≠ t + 3 := by omega
    have h4 : u ≠ t + 4 := by omega
    have h5 : u ≠ t + 5 := by omega
    have h6 : u ≠ t + 6 := by omega
    have h7 : u ≠ t + 7 := by omega
    have h8 : u ≠ t + 8 := by omega
    simp [mu, mr, h0, h1, h2, h3, h4, h5, h6, h7, h8]
theorem p1_keep {n : Nat} (hn : 955 ≤ n) {M : qM} (hF : Fr M) : Pr (f_X11_keep n) (f_X12_keep n) M := by
  obtain ⟨M1, e1, o1, -, -⟩ := copy_fr (n := n) (t := 16) (u := 7) M (by omega)
  obtain ⟨M2, e2, o2, -⟩ := copies_ok (n := n) (c1 := 78) (c2 := 80) hn (by decide) (mu (mu M1 0 12 1) 77 67 1)
  refine ⟨0, mu M1 0 12 1, M2, ?_, ?_⟩
  · unfold f_X11_keep
    simp only [e1, qc, qlm]
    have : mu M1 0 12 1 7 9 = 0 := by
      simp only [mu]
      rw [if_neg (by decide), o1 _ _ (by decide)]
      exact hF.1 _ _ (by decide)
    rw [this]
  · unfold f_X12_keep
    simp only [qlm, e2, qc]
    have : M2 78 313 = 0 := by
      rw [o2 _ _ (by decide)]
      simp only [mu]
      rw [if_neg (by decide), if_neg (by decide), o1 _ _ (by decide)]
      exact hF.2.1 _ (by decide)
    rw [this]
/-! days with no people -/
theorem gd53 {n t j : Nat} {K : Int32 → Int32 → qM → qR} {a2 a3 : Int32} : ∀ (d i m : Nat) (M : qM), M t 8 = 0 → i + d = 8 → d < m → f_X0_goDays_53 n t j K m a2 a3 (nI i) M = K a2 (a3 + 1) (mu M t 9 (M t 9 + 1)) := by
  intro d
  induction d with
  | zero =>
    intro i m M h0 hi hm
    obtain ⟨k, rfl⟩ : ∃ k, m = k + 1 := ⟨m - 1, by omega⟩
    show b_X0_goDays_53 n t j K (f_X0_goDays_53 n t j K k) a2 a3 (nI i) M = _
    unfold b_X0_goDays_53
    have cc1 : (8 : Int32) ≤ nI i := nI_le (a := 8) (b := i) (by omega) (by omega)
    rw [if_pos cc1]
    rfl
  | succ d ih =>
    intro i m M h0 hi hm
    obtain ⟨k, rfl⟩ : ∃ k, m = k + 1 := ⟨m - 1, by omega⟩
    show b_X0_goDays_53 n t j K (f_X0_goDays_53 n t j K k) a2 a3 (nI i) M = _
    unfold b_X0_goDays_53
    have cc1 : ¬ (8 : Int32) ≤ nI i := nI_ge (a := i) (b := 8) (by omega) (by decide)
    rw [if_neg cc1, kn10_0 _ _ _ _ h0]
    simp only [qc, ql, if_true, nI_1]
    exact ih (i + 1) k M h0 (by omega) (by omega)
theorem gd35 {n t j N : Nat} (hn : 10 ≤ n) (hN : N ≤ 60) : ∀ (d i m e : Nat) (M : qM), M t 8 = 0 → M t 9 = nI e → e + d ≤ 9000 → i + d = N → d < m → ∃ M', f_X0_goDays_35 n t j m (nI N) (nI i) M = some (0, M') ∧ ∀ x y, ¬ (x = t ∧ y = 9) → M' x y = M x y := by
  intro d
  induction d with
  | zero =>
    intro i m e M h0 h9 he hi hm
    obtain ⟨k, rfl⟩ : ∃ k, m = k + 1 := ⟨m - 1, by omega⟩
    refine ⟨M, ?_, fun _ _ _ => rfl⟩
    show b_X0_goDays_35 n t j (f_X0_goDays_35 n t j k) (nI N) (nI i) M = _
    unfold b_X0_goDays_35
    rw [if_pos (nI_le (by omega) (by omega))]
  | succ d ih =>
    intro i m e M h0 h9 he hi hm
    obtain ⟨k, rfl⟩ : ∃ k, m = k + 1 := ⟨m - 1, by omega⟩
    obtain ⟨M', e1, o1⟩ := ih (i + 1) k (e + 1) (mu M t 9 (M t 9 + 1)) (by simp [mu, h0]) (by simp [mu, h9, nI_1]) (by omega) (by omega) (by omega)
    refine ⟨M', ?_, fun x y h => by rw [o1 x y h]; simp [mu, h]⟩
    show b_X0_goDays_35 n t j (f_X0_goDays_35 n t j k) (nI N) (nI i) M = _
    unfold b_X0_goDays_35
    have cc1 : ¬ (9999 : Int32) ≤ nI e := nI_ge (a := e) (b := 9999) (by omega) (by decide)
    rw [if_neg (nI_ge (by omega) (by omega)), h9, if_neg cc1, ← nI_0, gd53 8 0 n M h0 (by omega) (by omega), nI_1]
    exact e1
theorem gd_ok {n t j N : Nat} (hn : 100 ≤ n) (hN : N ≤ 60) (ht : t ≠ 44) {M : qM} (h0 : M t 8 = 0) (h9 : M t 9 = 0) : ∃ M', f_X0_goDays n t j (nI N) M = some (0, M') ∧ M' 44 4 = 0 ∧ M' 44 5 = 0 ∧ M' 44 6 = 0 ∧ M' 44 7 = -2 ∧ M' 44 8 = -2 ∧ M' 44 9 = -2 ∧ ∀ x y, x ≠ t → x ≠ 44 → M' x y = M x y := by
  have ht' : 44 ≠ t := fun q => ht q.symm
  unfold f_X0_goDays
  simp only [qlm]
  generalize hM1 : mu (mu (mu (mu (mu (mu M 44 4 0) 44 5 0) 44 6 0) 44 7 (-2)) 44 8 (-2)) 44 9 (-2) = M1
  have k0 : M1 t 8 = 0 := by rw [← hM1]; simp [mu, ht, h0]
  have k9 : M1 t 9 = nI 0 := by rw [← hM1, nI_0]; simp [mu, ht, h9]
  obtain ⟨M', e, o⟩ := gd35 (n := n) (j := j) (by omega) hN N 0 n 0 M1 k0 k9 (by omega) (by omega) (by omega)
  rw [nI_0] at e
  refine ⟨M', e, ?_, ?_, ?_, ?_, ?_, ?_, fun x y h1 h2 => ?_⟩
  · rw [o _ _ (fun q => ht' q.1), ← hM1]; simp [mu]
  · rw [o _ _ (fun q => ht' q.1), ← hM1]; simp [mu]
  · rw [o _ _ (fun q => ht' q.1), ← hM1]; simp [mu]
  · rw [o _ _ (fun q => ht' q.1), ← hM1]; simp [mu]
  · rw [o _ _ (fun q => ht' q.1), ← hM1]; simp [mu]
  · rw [o _ _ (fun q => ht' q.1), ← hM1]; simp [mu]
  · rw [o _ _ (fun q => h1 q.1), ← hM1]; simp [mu, h2]
theorem md56 {n : Nat} {K : Int32 → Int32 → qM → qR} {a2 a3 : Int32} : ∀ (d i m : Nat) (M : qM), M 78 312 = 0 → i + d = 8 → d < m → f_X12_daysGo_56 n K m a2 a3 (nI i) M = K a2 (a3 + 1) (mu M 78 313 (M 78 313 + 1)) := by
  intro d
  induction d with
  | zero =>
    intro i m M h0 hi hm
    obtain ⟨k, rfl⟩ : ∃ k, m = k + 1 := ⟨m - 1, by omega⟩
    show b_X12_daysGo_56 n K (f_X12_daysGo_56 n K k) a2 a3 (nI i) M = _
    unfold b_X12_daysGo_56
    have cc1 : (8 : Int32) ≤ nI i := nI_le (a := 8) (b := i) (by omega) (by omega)
    rw [if_pos cc1]
    rfl
  | succ d ih =>
    intro i m M h0 hi hm
    obtain ⟨k, rfl⟩ : ∃ k, m = k + 1 := ⟨m - 1, by omega⟩
    show b_X12_daysGo_56 n K (f_X12_daysGo_56 n K k) a2 a3 (nI i) M = _
    unfold b_X12_daysGo_56
    have cc1 : ¬ (8 : Int32) ≤ nI i := nI_ge (a := i) (b := 8) (by omega) (by decide)
    rw [if_neg cc1, isP_0 _ _ _ h0]
    simp only [qc, ql, if_true, nI_1]
    exact ih (i + 1) k M h0 (by omega) (by omega)
theorem md35 {n N : Nat} (hn : 10 ≤ n) (hN : N ≤ 60) : ∀ (d i m e : Nat) (M : qM), M 78 312 = 0 → M 78 313 = nI e → e + d ≤ 9000 → i + d = N → d < m → ∃ M', f_X12_daysGo_35 n m (nI N) (nI i) M = some (0, M') ∧ ∀ x y, ¬ (x = 78 ∧ y = 313) → M' x y = M x y := by
  intro d
  induction d with
  | zero =>
    intro i m e M h0 h9 he hi hm
    obtain ⟨k, rfl⟩ : ∃ k, m = k + 1 := ⟨m - 1, by omega⟩
    refine ⟨M, ?_, fun _ _ _ => rfl⟩
    show b_X12_daysGo_35 n (f_X12_daysGo_35 n k) (nI N) (nI i) M = _
    unfold b_X12_daysGo_35
    rw [if_pos (nI_le (by omega) (by omega))]
  | succ d ih =>
    intro i m e M h0 h9 he hi hm
    obtain ⟨k, rfl⟩ : ∃ k, m = k + 1 := ⟨m - 1, by omega⟩
    obtain ⟨M', e1, o1⟩ := ih (i + 1) k (e + 1) (mu M 78 313 (M 78 313 + 1)) (by simp [mu, h0]) (by simp [mu, h9, nI_1]) (by omega) (by omega) (by omega)
    refine ⟨M', ?_, fun x y h => by rw [o1 x y h]; simp only [mu]; rw [if_neg h]⟩
    show b_X12_daysGo_35 n (f_X12_daysGo_35 n k) (nI N) (nI i) M = _
    unfold b_X12_daysGo_35
    have cc1 : ¬ (9999 : Int32) ≤ nI e := nI_ge (a := e) (b := 9999) (by omega) (by decide)
    rw [if_neg (nI_ge (by omega) (by omega)), h9, if_neg cc1, ← nI_0, md56 8 0 n M h0 (by omega) (by omega), nI_1]
    exact e1
theorem md_ok {n N : Nat} (hn : 100 ≤ n) (hN : N ≤ 60) {M : qM} (h0 : M 78 312 = 0) (h9 : M 78 313 = 0) : ∃ M', f_X12_daysGo n (nI N) M = some (0, M') ∧ M' 77 37 = 0 ∧ M' 77 38 = 0 ∧ M' 77 39 = 0 ∧ M' 77 40 = -2 ∧ M' 77 41 = -2 ∧ M' 77 42 = -2 := by
  unfold f_X12_daysGo
  simp only [qlm]
  generalize hM1 : mu (mu (mu (mu (mu (mu M 77 37 0) 77 38 0) 77 39 0) 77 40 (-2)) 77 41 (-2)) 77 42 (-2) = M1
  have k0 : M1 78 312 = 0 := by rw [← hM1]; simp [mu, h0]
  have k9 : M1 78 313 = nI 0 := by rw [← hM1, nI_0]; simp [mu, h9]
  obtain ⟨M', e, o⟩ := md35 (n := n) (by omega) hN N 0 n 0 M1 k0 k9 (by omega) (by omega) (by omega)
  rw [nI_0] at e
  refine ⟨M', e, ?_, ?_, ?_, ?_, ?_, ?_⟩
  all_goals (rw [o _ _ (by decide), ← hM1]; simp [mu])
theorem i60 {a : Int32} (h1 : ¬ a < 1) (h2 : ¬ (60 : Int32) < a) : ∃ N : Nat, N ≤ 60 ∧ a = nI N := by
  have h0 : ¬ a < 0 := by
    simp only [Int32.lt_iff_toInt_lt] at *
    simp at *
    omega
  obtain ⟨j, hj, rfl⟩ := nI_of h0
  refine ⟨j, ?_, rfl⟩
  rcases Nat.lt_or_ge 60 j with q | q
  · exact absurd (nI_lt (a := 60) q hj) h2
  · exact q
theorem p1_days {n j : Nat} (hn : 955 ≤ n) {M : qM} (hF : Fr M) (a1 : Int32) : Pr (f_X11_days n j a1) (f_X12_days n a1) M := by
  by_cases c1 : a1 < 1
  · exact Pr.same (v := -1) (by simp [f_X11_days, c1]) (by simp [f_X12_days, in_eq, qc, c1])
  by_cases c2 : (60 : Int32) < a1
  · exact Pr.same (v := -1) (by simp [f_X11_days, c1, Int32.not_le.mpr c2]) (by simp [f_X12_days, in_eq, qc, c2])
  obtain ⟨N, hN, rfl⟩ := i60 c1 c2
  obtain ⟨M1, e1, -, k5, -, -, -, -, o1⟩ := gd_ok (n := n) (t := 7) (j := j) (by omega) hN (by decide) (hF.1 _ _ (by decide) : M 7 8 = 0) (hF.1 _ _ (by decide))
  obtain ⟨M2, e2, -, k6, -⟩ := md_ok (n := n) (by omega) hN (M := M1) (by rw [o1 _ _ (by decide) (by decide)]; exact hF.2.1 _ (by decide)) (by rw [o1 _ _ (by decide) (by decide)]; exact hF.2.1 _ (by decide))
  refine ⟨0, M1, M2, ?_, ?_⟩
  · unfold f_X11_days
    rw [if_neg c1, if_pos (Int32.not_lt.mp c2), e1]
    simp only [qc, k5]
  · unfold f_X12_days
    rw [in_eq, if_neg (by rintro (q | q) <;> contradiction)]
    simp only [qc, e2, k6, show ¬ ((1 : Int32) = 0) from by decide, if_false]
theorem p1_tried {n j : Nat} (hn : 955 ≤ n) {M : qM} (hF : Fr M) (a1 a2 : Int32) : Pr (f_X11_tried n j a1 a2) (f_X12_tried n a1 a2) M := by
  have e4 : M 7 8 = 0 := hF.1 _ _ (by decide)
  have hred : f_X11_tried n j a1 a2 M = f_X11_tried_25 n j a1 a2 0 M := by
    unfold f_X11_tried
    rw [kn10_0 _ _ _ _ e4]
    by_cases c : a2 < 10 <;> simp [c, qc, f_X11_tried_24]
  unfold Pr
  rw [hred]
  by_cases c1 : a1 < 1
  · exact ⟨-1, M, M, by simp [f_X11_tried_25, c1], by simp [f_X12_tried, in_eq, qc, c1]⟩
  by_cases c2 : (60 : Int32) < a1
  · exact ⟨-1, M, M, by simp [f_X11_tried_25, c1, c2], by simp [f_X12_tried, in_eq, qc, c2]⟩
  by_cases c3 : a2 < 0 ∨ (5 : Int32) < a2
  · refine ⟨-1, M, M, ?_, ?_⟩
    · unfold f_X11_tried_25
      rcases c3 with c3 | c3
      · simp [c1, c2, c3]
      · by_cases c4 : a2 < 0 <;> simp [c1, c2, c4, Int32.not_le.mpr c3]
    · unfold f_X12_tried
      simp only [in_eq, qc, if_neg (show ¬ (a1 < 1 ∨ 60 < a1) by rintro (q | q) <;> contradiction), if_pos c3, isP_0 _ _ _ (hF.2.1 _ (by decide) : M 78 312 = 0), show ¬ ((1 : Int32) = 0) from by decide, if_false, if_true]
      by_cases c5 : a2 < 10 ∨ 17 < a2 <;> simp [c5]
  · have c4 : ¬ a2 < 0 := fun q => c3 (Or.inl q)
    have c5 : ¬ (5 : Int32) < a2 := fun q => c3 (Or.inr q)
    obtain ⟨N, hN, rfl⟩ := i60 c1 c2
    obtain ⟨M1, e1, o1, k8, k9⟩ := copy_fr (n := n) (t := 25) (u := 7) M (by omega)
    obtain ⟨M2, e2, q4, q5, q6, q7, q8, q9, o2⟩ := gd_ok (n := n) (t := 25) (j := j) (by omega) hN (by decide) (M := M1) (by rw [k8]; exact e4) (by rw [k9]; exact hF.1 _ _ (by decide))
    obtain ⟨M3, e3, o3, -⟩ := copies_ok (n := n) (c1 := 78) (c2 := 79) hn (by decide) M2
    have z : ∀ y, y < 96 ∨ 192 ≤ y → M3 78 y = 0 := fun y hy => by
      rw [o3 _ _ (by decide), o2 _ _ (by decide) (by decide), o1 _ _ (by decide)]
      exact hF.2.1 _ hy
    obtain ⟨M4, e4', w1, w2, w3, w4, w5, w6⟩ := md_ok (n := n) (by omega) hN (M := M3) (z _ (by decide)) (z _ (by decide))
    obtain ⟨M5, e5, -, -⟩ := copies_ok (n := n) (c1 := 79) (c2 := 78) hn (by decide) M4
    have hm : f_X12_tried n (nI N) a2 M2 = f_X12_tried_43 n (nI N) a2 M2 := by
      unfold f_X12_tried
      simp only [in_eq, qc, if_neg (show ¬ (nI N < 1 ∨ 60 < nI N) by rintro (q | q) <;> contradiction), if_neg c3, show ¬ ((1 : Int32) = 0) from by decide, if_false]
    have hc : f_X11_tried_25 n j (nI N) a2 0 M = f_X11_tried_52 n j (nI N) a2 0 M := by
      unfold f_X11_tried_25
      simp [c1, c2, c4, Int32.not_lt.mp c5]
    rw [hc]
    have a6 : a2 = 0 ∨ a2 = 1 ∨ a2 = 2 ∨ a2 = 3 ∨ a2 = 4 ∨ a2 = 5 := by
      obtain ⟨q, hq, rfl⟩ := nI_of c4
      have : q ≤ 5 := by
        rcases Nat.lt_or_ge 5 q with r | r
        · exact absurd (nI_lt (a := 5) r hq) c5
        · exact r
      rcases (show q = 0 ∨ q = 1 ∨ q = 2 ∨ q = 3 ∨ q = 4 ∨ q = 5 by omega) with rfl | rfl | rfl | rfl | rfl | rfl <;> decide
    unfold f_X11_tried_52 f_X0_cameOfDays
    simp only [e1, e2, qc, if_true]
    have hmm : ∀ v, f_X12_tried_43 n (nI N) a2 M2 = some (v, M5) → ∃ M9, f_X12_tried n (nI N) a2 M2 = some (v, M9) := fun v h => ⟨M5, by rw [hm]; exact h⟩
    rcases a6 with rfl | rfl | rfl | rfl | rfl | rfl
    · obtain ⟨M9, h9⟩ := hmm 0 (by unfold f_X12_tried_43 f_X12_tried_176; simp only [e3, e4', qc, qsw, ql, w1, e5]; rfl)
      exact ⟨0, M2, M9, by simp [qsw, q4], h9⟩
    · obtain ⟨M9, h9⟩ := hmm 0 (by unfold f_X12_tried_43 f_X12_tried_176; simp only [e3, e4', qc, qsw, ql, w2, e5]; rfl)
      exact ⟨0, M2, M9, by simp [qsw, q5], h9⟩
    · obtain ⟨M9, h9⟩ := hmm (-2) (by unfold f_X12_tried_43 f_X12_tried_176; simp only [e3, e4', qc, qsw, ql, w4, e5]; rfl)
      exact ⟨-2, M2, M9, by simp [qsw, q7], h9⟩
    · obtain ⟨M9, h9⟩ := hmm (-2) (by unfold f_X12_tried_43 f_X12_tried_176; simp only [e3, e4', qc, qsw, ql, w5, e5]; rfl)
      exact ⟨-2, M2, M9, by simp [qsw, q8], h9⟩
    · obtain ⟨M9, h9⟩ := hmm (-2) (by unfold f_X12_tried_43 f_X12_tried_176; simp only [e3, e4', qc, qsw, ql, w6, e5]; rfl)
      exact ⟨-2, M2, M9, by simp [qsw, q9], h9⟩
    · obtain ⟨M9, h9⟩ := hmm 0 (by unfold f_X12_tried_43 f_X12_tried_176; simp only [e3, e4', qc, qsw, ql, w3, e5]; rfl)
      exact ⟨0, M2, M9, by simp [qsw, q6], h9⟩

/-! rivals -/
def pv (a0 a1 L W : Int32) : Int32 := if a0 = 1 then (if a1 = 1 then -(L / 2) else -L) else (if a1 = 1 then W else -1)
theorem pen (n : Nat) (a0 a1 L W : Int32) (M : qM) : f_X11_pence n a0 a1 L W M = some (pv a0 a1 L W, M) := by
  unfold f_X11_pence pv
  by_cases c : a0 = 1 <;> by_cases d : a1 = 1 <;> simp [c, d]
theorem settl {n : Nat} {r x y L W : Int32} {M : qM} (hx : r &&& 1 = x) (hy : r >>> (1 &&& 31) = y) : f_X11_isSettled n r L W M = some (if pv x y L W < pv (1 - x) y L W ∨ pv y x L W < pv (1 - y) x L W then 0 else 1, M) := by
  unfold f_X11_isSettled
  unfold ql
  rw [hx, hy]
  simp only [pen, qc]
  by_cases c : pv x y L W < pv (1 - x) y L W
  · rw [if_pos c, if_pos (Or.inl c)]
  · rw [if_neg c]
    by_cases d : pv y x L W < pv (1 - y) x L W
    · rw [if_pos d, if_pos (Or.inr d)]
    · rw [if_neg d, if_neg (by rintro (q | q) <;> contradiction)]
theorem pv00 (L W : Int32) : pv 0 0 L W = -1 := by unfold pv; rw [if_neg (by decide), if_neg (by decide)]
theorem pv10 (L W : Int32) : pv 1 0 L W = -L := by unfold pv; rw [if_pos rfl, if_neg (by decide)]
theorem pv01 (L W : Int32) : pv 0 1 L W = W := by unfold pv; rw [if_neg (by decide), if_pos rfl]
theorem pv11 (L W : Int32) : pv 1 1 L W = -(L / 2) := by unfold pv; rw [if_pos rfl, if_pos rfl]
theorem i10 : (1 : Int32) - 0 = 1 := by decide
theorem i11 : (1 : Int32) - 1 = 0 := by decide
theorem set0 (n : Nat) (L W : Int32) (M : qM) : f_X11_isSettled n 0 L W M = some (if (-1 : Int32) < -L ∨ (-1 : Int32) < -L then 0 else 1, M) := by
  rw [settl (x := 0) (y := 0) (by decide) (by decide), i10, pv00, pv10]
theorem set1 (n : Nat) (L W : Int32) (M : qM) : f_X11_isSettled n 1 L W M = some (if -L < (-1 : Int32) ∨ W < -(L / 2) then 0 else 1, M) := by
  rw [settl (x := 1) (y := 0) (by decide) (by decide), i10, i11, pv00, pv10, pv01, pv11]
theorem set2 (n : Nat) (L W : Int32) (M : qM) : f_X11_isSettled n 2 L W M = some (if W < -(L / 2) ∨ -L < (-1 : Int32) then 0 else 1, M) := by
  rw [settl (x := 0) (y := 1) (by decide) (by decide), i10, i11, pv00, pv10, pv01, pv11]
theorem set3 (n : Nat) (L W : Int32) (M : qM) : f_X11_isSettled n 3 L W M = some (if -(L / 2) < W ∨ -(L / 2) < W then 0 else 1, M) := by
  rw [settl (x := 1) (y := 1) (by decide) (by decide), i11, pv01, pv11]
theorem h0v (n : Nat) (a b : Int32) (M : qM) : f_X12_has0 n a b M = some (if ((a >>> (b &&& 31)) &&& 1) = 1 then 1 else 0, M) := by
  unfold f_X12_has0
  by_cases c : ((a >>> (b &&& 31)) &&& 1) = 1
  · rw [if_pos c, if_pos c]
  · rw [if_neg c, if_neg c]
theorem gn {n : Nat} {row i x y L W : Int32} {M : qM} (hx : (if ((row >>> (i &&& 31)) &&& 1) = 1 then (1 : Int32) else 0) = x) (hy : (if ((row >>> (((1 : Int32) - i) &&& 31)) &&& 1) = 1 then (1 : Int32) else 0) = y) (hx2 : x = 0 ∨ x = 1) (hy2 : y = 0 ∨ y = 1) : f_X12_gainOf n row i L W M = some (pv x y L W, M) := by
  unfold f_X12_gainOf
  rw [h0v]
  simp only [qc]
  rw [h0v, hx]
  simp only []
  rw [hy]
  rcases hx2 with rfl | rfl <;> rcases hy2 with rfl | rfl
  · rw [if_pos rfl, if_pos rfl, pv00]
  · rw [if_pos rfl, if_neg (by decide), pv01]
  · rw [if_neg (by decide), if_pos rfl, pv10]
  · rw [if_neg (by decide), if_neg (by decide), pv11]
theorem rC_step {n k : Nat} {L W w c b r r' v : Int32} {M : qM} (hr : ¬ r < 0) (hr' : r + -1 = r') (h : f_X11_isSettled n r L W M = some (v, M)) : f_X11_rivals_43 n (k + 1) L W w c b r M = if v = 0 then f_X11_rivals_43 n k L W w c b r' M else f_X11_rivals_43 n k L W w (c + 1) r r' M := by
  subst hr'
  show b_X11_rivals_43 n (f_X11_rivals_43 n k) L W w c b r M = _
  unfold b_X11_rivals_43
  rw [if_neg hr, h]
  rfl
theorem rC_end {n k : Nat} {L W w c b r : Int32} {M : qM} (hr : r < 0) : f_X11_rivals_43 n (k + 1) L W w c b r M = some (if w = 0 then c else b, M) := by
  show b_X11_rivals_43 n (f_X11_rivals_43 n k) L W w c b r M = _
  unfold b_X11_rivals_43
  rw [if_pos hr]
  by_cases h : w = 0 <;> simp [h]
theorem rM_step {n k : Nat} {L W w c b r r' g1 g2 g3 g4 : Int32} {M : qM} (hr : ¬ (4 : Int32) ≤ r) (hr' : r + 1 = r') (h1 : f_X12_gainOf n (r ^^^ 1) 0 L W M = some (g1, M)) (h2 : f_X12_gainOf n r 0 L W M = some (g2, M)) (h3 : f_X12_gainOf n (r ^^^ 2) 1 L W M = some (g3, M)) (h4 : f_X12_gainOf n r 1 L W M = some (g4, M)) :
    f_X12_rivals_43 n (k + 1) L W w c b r M = if g2 < g1 ∨ g4 < g3 then f_X12_rivals_43 n k L W w c b r' M else f_X12_rivals_43 n k L W w (c + 1) (if c = 0 then r else b) r' M := by
  subst hr'
  show b_X12_rivals_43 n (f_X12_rivals_43 n k) L W w c b r M = _
  unfold b_X12_rivals_43 f_X12_rivals_106
  rw [if_neg hr, h1]
  simp only [qc, h2, h3, h4, ql]
  by_cases c1 : g2 < g1
  · simp [c1]
  · by_cases c2 : g4 < g3
    · simp [c1, c2, Int32.not_le.mpr c2]
    · by_cases c3 : c = 0 <;> simp [c1, c2, c3, Int32.not_lt.mp c2]
theorem rM_end {n k : Nat} {L W w c b r : Int32} {M : qM} (hr : (4 : Int32) ≤ r) : f_X12_rivals_43 n (k + 1) L W w c b r M = some (if w = 0 then c else b, M) := by
  show b_X12_rivals_43 n (f_X12_rivals_43 n k) L W w c b r M = _
  unfold b_X12_rivals_43
  rw [if_pos hr]
  by_cases h : w = 0 <;> simp [h]
theorem p1_rivals {n : Nat} (hn : 6 ≤ n) {M : qM} (L W w : Int32) : Pr (f_X11_rivals n L W w) (f_X12_rivals n L W w) M := by
  obtain ⟨k, rfl⟩ : ∃ k, n = k + 5 := ⟨n - 5, by omega⟩
  by_cases c1 : L < 0
  · exact Pr.same (v := -1) (by simp [f_X11_rivals, c1]) (by simp [f_X12_rivals, in_eq, qc, c1])
  by_cases c2 : (999 : Int32) < L
  · exact Pr.same (v := -1) (by simp [f_X11_rivals, c1, c2]) (by simp [f_X12_rivals, in_eq, qc, c2])
  by_cases c3 : W < 0
  · exact Pr.same (v := -1) (by simp [f_X11_rivals, c1, c2, c3]) (by simp [f_X12_rivals, in_eq, qc, c1, c2, c3])
  by_cases c4 : (999 : Int32) < W
  · exact Pr.same (v := -1) (by simp [f_X11_rivals, c1, c2, c3, c4]) (by simp [f_X12_rivals, in_eq, qc, c1, c2, c4])
  by_cases c5 : w < 0
  · exact Pr.same (v := -1) (by simp [f_X11_rivals, c1, c2, c3, c4, c5]) (by simp [f_X12_rivals, in_eq, qc, c1, c2, c3, c4, c5])
  by_cases c6 : (1 : Int32) < w
  · exact Pr.same (v := -1) (by simp [f_X11_rivals, c1, c2, c3, c4, c5, Int32.not_le.mpr c6]) (by simp [f_X12_rivals, in_eq, qc, c1, c2, c3, c4, c6])
  have hA : f_X11_rivals (k + 5) L W w M = f_X11_rivals_43 (k + 5) (k + 5) L W w 0 (-2) 3 M := by
    unfold f_X11_rivals
    simp [c1, c2, c3, c4, c5, Int32.not_lt.mp c6]
  have hB : f_X12_rivals (k + 5) L W w M = f_X12_rivals_43 (k + 5) (k + 5) L W w 0 (-2) 0 M := by
    unfold f_X12_rivals
    simp [in_eq, qc, c1, c2, c3, c4, c5, c6]
  have key : ∃ v, f_X11_rivals_43 (k + 5) (k + 5) L W w 0 (-2) 3 M = some (v, M) ∧ f_X12_rivals_43 (k + 5) (k + 5) L W w 0 (-2) 0 M = some (v, M) := by
    have s3 := fun c b => rC_step (n := k + 5) (k := k + 4) (L := L) (W := W) (w := w) (c := c) (b := b) (r := 3) (r' := 2) (M := M) (by decide) (by decide) (set3 _ _ _ _)
    have s2 := fun c b => rC_step (n := k + 5) (k := k + 3) (L := L) (W := W) (w := w) (c := c) (b := b) (r := 2) (r' := 1) (M := M) (by decide) (by decide) (set2 _ _ _ _)
    have s1 := fun c b => rC_step (n := k + 5) (k := k + 2) (L := L) (W := W) (w := w) (c := c) (b := b) (r := 1) (r' := 0) (M := M) (by decide) (by decide) (set1 _ _ _ _)
    have s0 := fun c b => rC_step (n := k + 5) (k := k + 1) (L := L) (W := W) (w := w) (c := c) (b := b) (r := 0) (r' := -1) (M := M) (by decide) (by decide) (set0 _ _ _ _)
    have se := fun c b => rC_end (n := k + 5) (k := k) (L := L) (W := W) (w := w) (c := c) (b := b) (r := -1) (M := M) (by decide)
    have m0 := fun c b => rM_step (n := k + 5) (k := k + 4) (L := L) (W := W) (w := w) (c := c) (b := b) (r := 0) (r' := 1) (g1 := pv 1 0 L W) (g2 := pv 0 0 L W) (g3 := pv 1 0 L W) (g4 := pv 0 0 L W) (M := M) (by decide) (by decide) (gn (by decide) (by decide) (by decide) (by decide)) (gn (by decide) (by decide) (by decide) (by decide)) (gn (by decide) (by decide) (by decide) (by decide)) (gn (by decide) (by decide) (by decide) (by decide))
    have m1 := fun c b => rM_step (n := k + 5) (k := k + 3) (L := L) (W := W) (w := w) (c := c) (b := b) (r := 1) (r' := 2) (g1 := pv 0 0 L W) (g2 := pv 1 0 L W) (g3 := pv 1 1 L W) (g4 := pv 0 1 L W) (M := M) (by decide) (by decide) (gn (by decide) (by decide) (by decide) (by decide)) (gn (by decide) (by decide) (by decide) (by decide)) (gn (by decide) (by decide) (by decide) (by decide)) (gn (by decide) (by decide) (by decide) (by decide))
    have m2 := fun c b => rM_step (n := k + 5) (k := k + 2) (L := L) (W := W) (w := w) (c := c) (b := b) (r := 2) (r' := 3) (g1 := pv 1 1 L W) (g2 := pv 0 1 L W) (g3 := pv 0 0 L W) (g4 := pv 1 0 L W) (M := M) (by decide) (by decide) (gn (by decide) (by decide) (by decide) (by decide)) (gn (by decide) (by decide) (by decide) (by decide)) (gn (by decide) (by decide) (by decide) (by decide)) (gn (by decide) (by decide) (by decide) (by decide))
    have m3 := fun c b => rM_step (n := k + 5) (k := k + 1) (L := L) (W := W) (w := w) (c := c) (b := b) (r := 3) (r' := 4) (g1 := pv 0 1 L W) (g2 := pv 1 1 L W) (g3 := pv 0 1 L W) (g4 := pv 1 1 L W) (M := M) (by decide) (by decide) (gn (by decide) (by decide) (by decide) (by decide)) (gn (by decide) (by decide) (by decide) (by decide)) (gn (by decide) (by decide) (by decide) (by decide)) (gn (by decide) (by decide) (by decide) (by decide))
    have me := fun c b => rM_end (n := k + 5) (k := k) (L := L) (W := W) (w := w) (c := c) (b := b) (r := 4) (M := M) (by decide)
    simp only [pv00, pv01, pv10, pv11] at m0 m1 m2 m3
    have k2 : f_X12_rivals_43 (k + 5) (k + 5) L W w 0 (-2) 0 M = f_X11_rivals_43 (k + 5) (k + 5) L W w 0 (-2) 3 M := by
      by_cases A : (-1 : Int32) < -L <;> by_cases B : -L < (-1 : Int32) <;> by_cases C : W < -(L / 2) <;> by_cases D : -(L / 2) < W <;> simp only [s3, s2, s1, s0, se, m0, m1, m2, m3, me, A, B, C, D, or_self, or_true, true_or, or_false, if_true, if_false, show ¬ ((1 : Int32) = 0) from by decide, show (0 : Int32) + 1 = 1 from by decide, show (1 : Int32) + 1 = 2 from by decide, show ¬ ((2 : Int32) = 0) from by decide, show (2 : Int32) + 1 = 3 from by decide, show ¬ ((3 : Int32) = 0) from by decide]
    have k1 : ∃ v, f_X11_rivals_43 (k + 5) (k + 5) L W w 0 (-2) 3 M = some (v, M) := by
      by_cases A : (-1 : Int32) < -L <;> by_cases B : -L < (-1 : Int32) <;> by_cases C : W < -(L / 2) <;> by_cases D : -(L / 2) < W <;> simp only [s3, s2, s1, s0, se, m0, m1, m2, m3, me, A, B, C, D, or_self, or_true, true_or, or_false, if_true, if_false, show ¬ ((1 : Int32) = 0) from by decide, show (0 : Int32) + 1 = 1 from by decide, show (1 : Int32) + 1 = 2 from by decide, show ¬ ((2 : Int32) = 0) from by decide, show (2 : Int32) + 1 = 3 from by decide, show ¬ ((3 : Int32) = 0) from by decide] <;> exact ⟨_, rfl⟩
    obtain ⟨v, k1⟩ := k1
    exact ⟨v, k1, k2.trans k1⟩
  obtain ⟨v, k1, k2⟩ := key
  exact Pr.same (by rw [hA]; exact k1) (by rw [hB]; exact k2)

