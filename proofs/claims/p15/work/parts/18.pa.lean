/-! PURE ROWS on the fresh objects: no machine in sight -/
/-- what holds of the memory while nothing was told: the class's half is 0, the model's, too, but its days of last tries and its ways -/
def Fr (M : qM) : Prop := (∀ a b, a < 78 → M a b = 0) ∧ (∀ b, b < 96 ∨ 192 ≤ b → M 78 b = 0) ∧ ∀ a b, 79 ≤ a → a ≠ 102 → a ≠ 103 → a ≠ 104 → M a b = 0
def Pr (C D : qM → qR) (M : qM) : Prop := ∃ (v : Int32) (M1 M2 : qM), C M = some (v, M1) ∧ D M1 = some (v, M2)
theorem Pr.same {C D : qM → qR} {M : qM} {v : Int32} (h1 : C M = some (v, M)) (h2 : D M = some (v, M)) : Pr C D M := ⟨v, M, M, h1, h2⟩
theorem z_shr (x : Int32) : ((0 : Int32) >>> x) &&& (1 : Int32) = 0 := by
  have : (0 : Int32) >>> x = 0 := by
    apply Int32.toBitVec_inj.mp
    simp [Int32.toBitVec_shiftRight]
  rw [this]
  decide
theorem z_not : ((0 : Int32) ^^^ (-1 : Int32)) = -1 := by decide
theorem z_and (a : Int32) : a &&& (-1 : Int32) = a := by
  apply Int32.toBitVec_inj.mp
  simp
theorem kn10_0 (n t : Nat) (a : Int32) (M : qM) (h : M t 8 = 0) : f_X10_knows n t a M = some (0, M) := by
  unfold f_X10_knows
  rw [h, z_shr]
  simp
theorem kn2_0 (n : Nat) (a : Int32) (M : qM) (h : M 3 3 = 0) : f_X2_knows n a M = some (0, M) := by
  unfold f_X2_knows
  rw [h, z_shr]
  simp
theorem has0_0 (n : Nat) (a : Int32) (M : qM) : f_X12_has0 n 0 a M = some (0, M) := by
  unfold f_X12_has0
  rw [z_shr]
  simp
theorem isP_0 (n : Nat) (a : Int32) (M : qM) (h : M 78 312 = 0) : f_X12_isPerson n a M = some (0, M) := by
  unfold f_X12_isPerson
  rw [h, has0_0]
  simp [qc]
theorem isK_0 (n : Nat) (a : Int32) (M : qM) (h : M 77 6 = 0) : f_X12_isKind n a M = some (0, M) := by
  unfold f_X12_isKind
  rw [h, has0_0]
  simp [qc]
theorem in_eq (n : Nat) (a lo hi : Int32) (M : qM) : f_X12_in n a lo hi M = some ((if a < lo ∨ hi < a then 0 else 1), M) := by
  unfold f_X12_in
  by_cases h1 : a < lo
  · simp [h1]
  · by_cases h2 : hi < a <;> simp [h1, h2]
theorem tn (a : Int32) : a.toNatClampNeg = a.toInt.toNat := rfl
theorem qg_ok {a : Int32} {n : Nat} {E : qR} (h0 : 0 ≤ a.toInt) (h1 : a.toInt < (n : Int)) : qg a n E = E := by
  refine qg_in ?_
  rintro (q | q)
  · rw [Int32.lt_iff_toInt_lt] at q
    simp at q
    omega
  · rw [tn] at q
    omega
theorem bc_some (n : Nat) (a : Int32) (M : qM) : ∃ v, f_J6_bitCount_0f7a4 n a M = some (v, M) := ⟨_, rfl⟩
theorem p1_plan {n j r : Nat} {M : qM} (hF : Fr M) (a1 a2 : Int32) : Pr (f_X11_plan n a1 a2) (f_X12_plan n a1 a2) M := Pr.same (v := -1) (by
  unfold f_X11_plan; rw [kn10_0 _ _ _ _ (hF.1 _ _ (by decide))]; rfl) (by
  unfold f_X12_plan; rw [isP_0 _ _ _ (hF.2.1 _ (by decide))]; rfl)
theorem p1_tries {n j r : Nat} {M : qM} (hF : Fr M) (a1 a2 a3 : Int32) : Pr (f_X11_tries n j a1 a2 a3) (f_X12_tries n a1 a2 a3) M := Pr.same (v := -1) (by
  unfold f_X11_tries; rw [kn10_0 _ _ _ _ (hF.1 _ _ (by decide))]; rfl) (by
  unfold f_X12_tries; rw [isP_0 _ _ _ (hF.2.1 _ (by decide))]; rfl)
theorem p1_buys {n j r : Nat} {M : qM} (hF : Fr M) (a1 a2 a3 : Int32) : Pr (f_X11_buys n j a1 a2 a3) (f_X12_buys n a1 a2 a3) M := Pr.same (v := -1) (by
  unfold f_X11_buys f_X11_canDeal; rw [kn10_0 _ _ _ _ (hF.1 _ _ (by decide))]; rfl) (by
  unfold f_X12_buys; rw [isP_0 _ _ _ (hF.2.1 _ (by decide))]; rfl)
theorem p1_cost {n j r : Nat} {M : qM} (hF : Fr M) (a1 a2 a3 : Int32) : Pr (f_X11_cost n j a1 a2 a3) (f_X12_cost n a1 a2 a3) M := Pr.same (v := -1) (by
  unfold f_X11_cost f_X11_canDeal; rw [kn10_0 _ _ _ _ (hF.1 _ _ (by decide))]; rfl) (by
  unfold f_X12_cost; rw [isP_0 _ _ _ (hF.2.1 _ (by decide))]; rfl)
theorem p1_has {n j r : Nat} {M : qM} (hF : Fr M) (a1 a2 a3 : Int32) : Pr (f_X11_has n j a1 a2 a3) (f_X12_has n a1 a2 a3) M := Pr.same (v := -1) (by
  unfold f_X11_has; rw [kn10_0 _ _ _ _ (hF.1 _ _ (by decide))]; rfl) (by
  unfold f_X12_has; rw [isP_0 _ _ _ (hF.2.1 _ (by decide))]; rfl)
theorem p1_alike {n j r : Nat} {M : qM} (hF : Fr M) (a1 a2 : Int32) : Pr (f_X11_alike n j a1 a2) (f_X12_alike n a1 a2) M := Pr.same (v := -1) (by
  unfold f_X11_alike; rw [kn2_0 _ _ _ (hF.1 _ _ (by decide))]; rfl) (by
  unfold f_X12_alike; rw [isK_0 _ _ _ (hF.1 _ _ (by decide))]; rfl)
theorem p1_check {n j r : Nat} {M : qM} (hF : Fr M) (a1 a2 : Int32) : Pr (f_X11_check n a1 a2) (f_X12_check n a1 a2) M := Pr.same (v := -2) (by
  unfold f_X11_check; rw [kn10_0 _ _ _ _ (hF.1 _ _ (by decide))]; rfl) (by
  unfold f_X12_check; rw [isP_0 _ _ _ (hF.2.1 _ (by decide))]; rfl)
theorem p1_soonest {n j r : Nat} {M : qM} (hF : Fr M) (a1 a2 a3 a4 a5 : Int32) : Pr (f_X11_soonest n j a1 a2 a3 a4 a5) (f_X12_soonest n a1 a2 a3 a4 a5) M := Pr.same (v := -1) (by
  unfold f_X11_soonest f_X11_canChoose
  obtain ⟨v, hv⟩ := bc_some n a2 M
  rw [hv]; simp only [qc]; rw [kn10_0 _ _ _ _ (hF.1 _ _ (by decide))]; rfl) (by
  unfold f_X12_soonest f_X12_areSome; rw [isP_0 _ _ _ (hF.2.1 _ (by decide))]; rfl)
theorem p1_cheapest {n j r : Nat} {M : qM} (hF : Fr M) (a1 a2 a3 a4 a5 : Int32) : Pr (f_X11_cheapest n j a1 a2 a3 a4 a5) (f_X12_cheapest n a1 a2 a3 a4 a5) M := Pr.same (v := -1) (by
  unfold f_X11_cheapest f_X11_canChoose
  obtain ⟨v, hv⟩ := bc_some n a2 M
  rw [hv]; simp only [qc]; rw [kn10_0 _ _ _ _ (hF.1 _ _ (by decide))]; rfl) (by
  unfold f_X12_cheapest f_X12_areSome; rw [isP_0 _ _ _ (hF.2.1 _ (by decide))]; rfl)
theorem i_ge {a : Int32} (h1 : ¬ a < 1) : ¬ a ≤ 0 := by
  simp only [Int32.lt_iff_toInt_lt, Int32.le_iff_toInt_le] at *
  simp at *
  omega
theorem p1_law {n j r : Nat} {M : qM} (hF : Fr M) (a1 : Int32) : f_X11_law n j r a1 M = some (-1, M) ∧ f_X12_law n a1 M = some (-1, M) := by
  have h1 : M 1 1 = 0 := hF.1 _ _ (by decide)
  have h2 : M 77 8 = 0 := hF.1 _ _ (by decide)
  constructor
  · unfold f_X11_law
    by_cases c1 : a1 < 1
    · rw [if_pos c1]
    · simp [c1, h1, i_ge c1]
  · unfold f_X12_law
    rw [in_eq]
    simp only [qc]
    by_cases c1 : a1 < 1
    · rw [if_pos (Or.inl c1)]; rfl
    · simp [h2, i_ge c1]
theorem p1_jobs {n j r : Nat} {M : qM} (hF : Fr M) (a1 a2 a3 : Int32) : Pr (f_X11_jobs n j a1 a2 a3) (f_X12_jobs n a1 a2 a3) M := by
  have h1 : M 1 1 = 0 := hF.1 _ _ (by decide)
  have h2 : M 77 8 = 0 := hF.1 _ _ (by decide)
  refine Pr.same (v := -1) ?_ ?_
  · unfold f_X11_jobs
    by_cases c1 : a1 < 1
    · rw [if_pos c1]
    · simp [c1, h1, i_ge c1]
  · unfold f_X12_jobs
    rw [in_eq]
    simp only [qc]
    by_cases c1 : a1 < 1
    · rw [if_pos (Or.inl c1)]; rfl
    · simp [h2, i_ge c1]
theorem p1_person {n j r : Nat} {M : qM} (hF : Fr M) (a1 a2 : Int32) : Pr (f_X11_person n a1 a2) (f_X12_person n a1 a2) M := by
  by_cases c1 : a1 < 0
  · exact ⟨0, M, M, by simp [f_X11_person, c1], by simp [f_X12_person, in_eq, qc, c1]⟩
  · by_cases c2 : (8 : Int32) ≤ a1
    · have c3 : (7 : Int32) < a1 := by
        simp only [Int32.lt_iff_toInt_lt, Int32.le_iff_toInt_le] at *
        simp at *
        omega
      exact ⟨0, M, M, by simp [f_X11_person, c1, c2], by simp [f_X12_person, in_eq, qc, c3]⟩
    · have c3 : ¬ (7 : Int32) < a1 := by
        simp only [Int32.lt_iff_toInt_lt, Int32.le_iff_toInt_le] at *
        simp at *
        omega
      by_cases c4 : a2 < 0
      · exact ⟨0, M, M, by simp [f_X11_person, c1, c2, c4], by simp [f_X12_person, in_eq, qc, c1, c3, c4]⟩
      · by_cases c5 : a2 ≤ (99999 : Int32)
        · have c6 : ¬ (99999 : Int32) < a2 := Int32.not_lt.mpr c5
          have t1 : 0 ≤ a1.toInt ∧ a1.toInt < 8 := by
            simp only [Int32.lt_iff_toInt_lt, Int32.le_iff_toInt_le] at *
            simp at *
            omega
          have t2 : ((288 : Int32) + a1).toInt = 288 + a1.toInt := by
            rw [Int32.toInt_add]
            show Int.bmod (288 + a1.toInt) _ = _
            rw [Int.bmod_eq_of_le] <;> omega
          have g1 : ∀ E : qR, qg a1 8 E = E := fun E => qg_ok t1.1 (by omega)
          have g2 : ∀ E : qR, qg ((288 : Int32) + a1) 954 E = E := fun E => qg_ok (by omega) (by omega)
          have hA : ∃ M1, f_X11_person n a1 a2 M = some (1, M1) := ⟨_, by unfold f_X11_person; simp only [c1, c2, c4, c5, if_false, if_true, qlm, g1]; rfl⟩
          obtain ⟨M1, hA⟩ := hA
          have hB : ∃ M2, f_X12_person n a1 a2 M1 = some (1, M2) := ⟨_, by unfold f_X12_person; simp only [in_eq, qc, c1, c3, c4, c6, or_self, if_false, qlm, g2]; rfl⟩
          obtain ⟨M2, hB⟩ := hB
          exact ⟨1, M1, M2, hA, hB⟩
        · have c6 : (99999 : Int32) < a2 := Int32.not_le.mp c5
          exact ⟨0, M, M, by simp [f_X11_person, c1, c2, c4, c5], by simp [f_X12_person, in_eq, qc, c1, c3, c4, c6]⟩
