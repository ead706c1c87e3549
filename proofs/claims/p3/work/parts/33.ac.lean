theorem q_person {n : Nat} {M : qM} (a1 a2 : Int32) : Pr (f_X11_person n a1 a2) (f_X12_person n a1 a2) M := by
  by_cases c1 : a1 < 0
  · exact ⟨0, M, M, by simp [f_X11_person, c1], by simp [f_X12_person, in_eq, qc, c1]⟩
  · by_cases c2 : (8 : Int32) ≤ a1
    · have c3 : (7 : Int32) < a1 := by
        simp only [Int32.lt_iff_toInt_lt, Int32.le_iff_toInt_le] at *
        simp at *
        omega
      exact ⟨0, M, M, by simp [f_X11_person, c1, c2], by simp [f_X12_person, in_eq, qc, c3]⟩
    · have c3 : ¬ (7 : Int32) < a1 := by
        simp only [Int32.lt_iff_toInt_lt, Int32.le_iff_toInt_le] at *
        simp at *
        omega
      by_cases c4 : a2 < 0
      · exact ⟨0, M, M, by simp [f_X11_person, c1, c2, c4], by simp [f_X12_person, in_eq, qc, c1, c3, c4]⟩
      · by_cases c5 : a2 ≤ (99999 : Int32)
        · have c6 : ¬ (99999 : Int32) < a2 := Int32.not_lt.mpr c5
          have t1 : 0 ≤ a1.toInt ∧ a1.toInt < 8 := by
            simp only [Int32.lt_iff_toInt_lt, Int32.le_iff_toInt_le] at *
            simp at *
            omega
          have t2 : ((288 : Int32) + a1).toInt = 288 + a1.toInt := by
            rw [Int32.toInt_add]
            show Int.bmod (288 + a1.toInt) _ = _
            rw [Int.bmod_eq_of_le] <;> omega
          have g1 : ∀ E : qR, qg a1 8 E = E := fun E => qg_ok t1.1 (by omega)
          have g2 : ∀ E : qR, qg ((288 : Int32) + a1) 954 E = E := fun E => qg_ok (by omega) (by omega)
          have hA : ∃ M1, f_X11_person n a1 a2 M = some (1, M1) := ⟨_, by unfold f_X11_person; simp only [c1, c2, c4, c5, if_false, if_true, qlm, g1]; rfl⟩
          obtain ⟨M1, hA⟩ := hA
          have hB : ∃ M2, f_X12_person n a1 a2 M1 = some (1, M2) := ⟨_, by unfold f_X12_person; simp only [in_eq, qc, c1, c3, c4, c6, or_self, if_false, qlm, g2]; rfl⟩
          obtain ⟨M2, hB⟩ := hB
          exact ⟨1, M1, M2, hA, hB⟩
        · have c6 : (99999 : Int32) < a2 := Int32.not_le.mp c5
          exact ⟨0, M, M, by simp [f_X11_person, c1, c2, c4, c5], by simp [f_X12_person, in_eq, qc, c1, c3, c4, c6]⟩
