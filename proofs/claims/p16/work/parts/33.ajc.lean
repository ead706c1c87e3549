/-! kind: what is told stays alike -/
theorem kind_st {n : Nat} {M m1 m2 : qM} {a1 a2 a3 a4 v1 v2 : Int32} (hD : KD M M) (e1 : f_X11_kind n a1 a2 a3 a4 M = some (v1, m1)) (e2 : f_X12_kind n a1 a2 a3 a4 m1 = some (v2, m2)) : v1 = v2 ∧ KD m2 m2 := by
  have h := hD.1
  have fin : ∀ {v : Int32}, f_X11_kind n a1 a2 a3 a4 M = some (v, M) → f_X12_kind n a1 a2 a3 a4 M = some (v, M) → v1 = v2 ∧ KD m2 m2 := by
    intro v q1 q2
    rw [e1] at q1
    cases q1
    rw [e2] at q2
    cases q2
    exact ⟨rfl, hD⟩
  by_cases c1 : a1 < 0
  · exact fin (v := 0) (by simp [f_X11_kind, f_X2_tell, c1, qc, qb]) (by simp [f_X12_kind, in_eq, qc, c1])
  by_cases c2 : (12 : Int32) ≤ a1
  · have d2 : (11 : Int32) < a1 := by
      simp only [Int32.lt_iff_toInt_lt, Int32.le_iff_toInt_le] at *
      simp at *
      omega
    exact fin (v := 0) (by simp [f_X11_kind, f_X2_tell, c1, c2, qc, qb]) (by simp [f_X12_kind, in_eq, qc, d2])
  have d2 : ¬ (11 : Int32) < a1 := by
    simp only [Int32.lt_iff_toInt_lt, Int32.le_iff_toInt_le] at *
    simp at *
    omega
  have k2 := kn_eq (n := n) (M := M) c1 c2
  have k3 := ik_eq (n := n) (M := M) c1 c2
  rw [← h] at k3
  by_cases ck : ((M 3 3) >>> (a1 &&& 31)) &&& (1 : Int32) = (1 : Int32)
  · rw [if_pos ck] at k2 k3
    exact fin (v := 0) (by simp [f_X11_kind, f_X2_tell, c1, c2, k2, qc, qb]) (by simp [f_X12_kind, in_eq, qc, c1, d2, k3])
  rw [if_neg ck] at k2 k3
  by_cases c3 : a2 < 1
  · exact fin (v := 0) (by simp [f_X11_kind, f_X2_tell, c1, c2, c3, k2, qc, qb]) (by simp [f_X12_kind, in_eq, qc, c1, d2, c3, k3])
  by_cases c4 : a2 ≤ (12 : Int32)
  rotate_left
  · have d4 : (12 : Int32) < a2 := Int32.not_le.mp c4
    exact fin (v := 0) (by simp [f_X11_kind, f_X2_tell, c1, c2, c3, c4, k2, qc, qb]) (by simp [f_X12_kind, in_eq, qc, c1, d2, c3, d4, k3])
  have d4 : ¬ (12 : Int32) < a2 := Int32.not_lt.mpr c4
  by_cases c5 : a3 < 0
  · exact fin (v := 0) (by simp [f_X11_kind, f_X2_tell, c1, c2, c3, c4, c5, k2, qc, qb]) (by simp [f_X12_kind, in_eq, qc, c1, d2, c3, d4, c5, k3])
  by_cases c6 : (255 : Int32) < a3
  · exact fin (v := 0) (by simp [f_X11_kind, f_X2_tell, c1, c2, c3, c4, c5, c6, k2, qc, qb]) (by simp [f_X12_kind, in_eq, qc, c1, d2, c3, d4, c5, c6, k3])
  have si := sh_iff (a4 := a4) c1 c2
  by_cases c7 : a4 >>> (a1 &&& 31) = 0
  rotate_left
  · have q0 : f_X11_kind n a1 a2 a3 a4 M = some (0, M) := by simp [f_X11_kind, f_X2_tell, c1, c2, c3, c4, c5, c6, c7, k2, qc, qb]
    by_cases c8 : a4 < 0
    · exact fin (v := 0) q0 (by simp [f_X12_kind, in_eq, qc, c1, d2, c3, d4, c5, c6, k3, c8])
    · have c9 : (1 : Int32) <<< (a1 &&& 31) ≤ a4 := by
        apply Classical.byContradiction
        intro q
        exact c7 (si.mpr ⟨c8, q⟩)
      exact fin (v := 0) q0 (by simp [f_X12_kind, in_eq, qc, c1, d2, c3, d4, c5, c6, k3, c8, c9])
  obtain ⟨c8, c9⟩ := si.mp c7
  by_cases cn : a4 &&& ((M 3 3) ^^^ (-1 : Int32)) = 0
  rotate_left
  · have cm : ¬ a4 &&& ((M 77 6) ^^^ (-1 : Int32)) = 0 := by rw [← h]; exact cn
    have cn2 := cn
    have cm2 := cm
    simp at cn2 cm2
    exact fin (v := 0) (by simp [f_X11_kind, f_X2_tell, f_X2_knowsAll, c1, c2, c3, c4, c5, c6, c7, cn2, k2, qc, qb]) (by simp [f_X12_kind, in_eq, qc, c1, d2, c3, d4, c5, c6, k3, c8, c9, cm2])
  have g1 : ∀ E : qR, qg a1 12 E = E := fun E => by rcases i12 c1 c2 with rfl | rfl | rfl | rfl | rfl | rfl | rfl | rfl | rfl | rfl | rfl | rfl <;> rfl
  have g2 : ∀ E : qR, qg a1 13 E = E := fun E => by rcases i12 c1 c2 with rfl | rfl | rfl | rfl | rfl | rfl | rfl | rfl | rfl | rfl | rfl | rfl <;> rfl
  have hA : f_X11_kind n a1 a2 a3 a4 M = some ((1 : Int32), mu (mu (mu (mu M 4 a1.toNatClampNeg a2) 5 a1.toNatClampNeg a3) 6 a1.toNatClampNeg a4) 3 3 (mu (mu (mu M 4 a1.toNatClampNeg a2) 5 a1.toNatClampNeg a3) 6 a1.toNatClampNeg a4 3 3 ||| 1 <<< (a1 &&& 31))) := by
    unfold f_X11_kind f_X2_tell f_X2_knowsAll
    simp only [c1, c2, c3, c4, c5, c6, c7, cn, k2, qc, if_true, if_false, g1, qlm, qb, show ¬ ((1 : Int32) = 0) from by decide, or_true, false_or]
  rw [e1] at hA
  cases hA
  have f1 : mu (mu (mu M 4 a1.toNatClampNeg a2) 5 a1.toNatClampNeg a3) 6 a1.toNatClampNeg a4 3 3 = M 3 3 := by rw [mu_ne (Or.inl (by decide)), mu_ne (Or.inl (by decide)), mu_ne (Or.inl (by decide))]
  rw [f1] at e2
  have f2 : mu (mu (mu (mu M 4 a1.toNatClampNeg a2) 5 a1.toNatClampNeg a3) 6 a1.toNatClampNeg a4) 3 3 (M 3 3 ||| 1 <<< (a1 &&& 31)) 77 6 = M 77 6 := by rw [mu_ne (Or.inl (by decide)), mu_ne (Or.inl (by decide)), mu_ne (Or.inl (by decide)), mu_ne (Or.inl (by decide))]
  have f3 : mu (mu (mu (mu M 4 a1.toNatClampNeg a2) 5 a1.toNatClampNeg a3) 6 a1.toNatClampNeg a4) 3 3 (M 3 3 ||| 1 <<< (a1 &&& 31)) 3 3 = M 3 3 ||| 1 <<< (a1 &&& 31) := mu_at
  have g4 : ∀ q, mu (mu (mu (mu M 4 a1.toNatClampNeg a2) 5 a1.toNatClampNeg a3) 6 a1.toNatClampNeg a4) 3 3 (M 3 3 ||| 1 <<< (a1 &&& 31)) 4 q = if q = a1.toNatClampNeg then a2 else M 4 q := by
    intro q
    rw [mu_ne (Or.inl (by decide)), mu_ne (Or.inl (by decide)), mu_ne (Or.inl (by decide))]
    by_cases e : q = a1.toNatClampNeg
    · rw [if_pos e, e, mu_at]
    · rw [if_neg e, mu_ne (Or.inr e)]
  have g5 : ∀ q, mu (mu (mu (mu M 4 a1.toNatClampNeg a2) 5 a1.toNatClampNeg a3) 6 a1.toNatClampNeg a4) 3 3 (M 3 3 ||| 1 <<< (a1 &&& 31)) 5 q = if q = a1.toNatClampNeg then a3 else M 5 q := by
    intro q
    rw [mu_ne (Or.inl (by decide)), mu_ne (Or.inl (by decide))]
    by_cases e : q = a1.toNatClampNeg
    · rw [if_pos e, e, mu_at]
    · rw [if_neg e, mu_ne (Or.inr e), mu_ne (Or.inl (by decide))]
  have g6 : ∀ q, mu (mu (mu (mu M 4 a1.toNatClampNeg a2) 5 a1.toNatClampNeg a3) 6 a1.toNatClampNeg a4) 3 3 (M 3 3 ||| 1 <<< (a1 &&& 31)) 6 q = if q = a1.toNatClampNeg then a4 else M 6 q := by
    intro q
    rw [mu_ne (Or.inl (by decide))]
    by_cases e : q = a1.toNatClampNeg
    · rw [if_pos e, e, mu_at]
    · rw [if_neg e, mu_ne (Or.inr e), mu_ne (Or.inl (by decide)), mu_ne (Or.inl (by decide))]
  have g81 : mu (mu (mu (mu M 4 a1.toNatClampNeg a2) 5 a1.toNatClampNeg a3) 6 a1.toNatClampNeg a4) 3 3 (M 3 3 ||| 1 <<< (a1 &&& 31)) 81 = M 81 := by rw [mu_nc (by decide), mu_nc (by decide), mu_nc (by decide), mu_nc (by decide)]
  have g82 : mu (mu (mu (mu M 4 a1.toNatClampNeg a2) 5 a1.toNatClampNeg a3) 6 a1.toNatClampNeg a4) 3 3 (M 3 3 ||| 1 <<< (a1 &&& 31)) 82 = M 82 := by rw [mu_nc (by decide), mu_nc (by decide), mu_nc (by decide), mu_nc (by decide)]
  have g83 : mu (mu (mu (mu M 4 a1.toNatClampNeg a2) 5 a1.toNatClampNeg a3) 6 a1.toNatClampNeg a4) 3 3 (M 3 3 ||| 1 <<< (a1 &&& 31)) 83 = M 83 := by rw [mu_nc (by decide), mu_nc (by decide), mu_nc (by decide), mu_nc (by decide)]
  generalize mu (mu (mu (mu M 4 a1.toNatClampNeg a2) 5 a1.toNatClampNeg a3) 6 a1.toNatClampNeg a4) 3 3 (M 3 3 ||| 1 <<< (a1 &&& 31)) = N at e2 f2 f3 g4 g5 g6 g81 g82 g83
  have k4 := ik_eq (n := n) (M := N) c1 c2
  rw [f2, ← h, if_neg ck] at k4
  have cm : a4 &&& ((N 77 6) ^^^ (-1 : Int32)) = 0 := by rw [f2, ← h]; exact cn
  have hB : f_X12_kind n a1 a2 a3 a4 N = some ((1 : Int32), mu (mu (mu (mu N 77 6 (N 77 6 ||| 1 <<< (a1 &&& 31))) 81 a1.toNatClampNeg a2) 82 a1.toNatClampNeg a3) 83 a1.toNatClampNeg a4) := by
    unfold f_X12_kind
    simp only [in_eq, c1, d2, c3, d4, c5, c6, c8, c9, cm, k4, qc, or_self, if_true, if_false, g2, qlm, show ¬ ((1 : Int32) = 0) from by decide]
  rw [e2] at hB
  cases hB
  rw [Int32.lt_iff_toInt_lt, l_0] at c5
  rw [Int32.lt_iff_toInt_lt, l_255] at c6
  have n4 : mu (mu (mu (mu N 77 6 (N 77 6 ||| 1 <<< (a1 &&& 31))) 81 a1.toNatClampNeg a2) 82 a1.toNatClampNeg a3) 83 a1.toNatClampNeg a4 4 = N 4 := by rw [mu_nc (by decide), mu_nc (by decide), mu_nc (by decide), mu_nc (by decide)]
  have n5 : mu (mu (mu (mu N 77 6 (N 77 6 ||| 1 <<< (a1 &&& 31))) 81 a1.toNatClampNeg a2) 82 a1.toNatClampNeg a3) 83 a1.toNatClampNeg a4 5 = N 5 := by rw [mu_nc (by decide), mu_nc (by decide), mu_nc (by decide), mu_nc (by decide)]
  have n6 : mu (mu (mu (mu N 77 6 (N 77 6 ||| 1 <<< (a1 &&& 31))) 81 a1.toNatClampNeg a2) 82 a1.toNatClampNeg a3) 83 a1.toNatClampNeg a4 6 = N 6 := by rw [mu_nc (by decide), mu_nc (by decide), mu_nc (by decide), mu_nc (by decide)]
  refine ⟨rfl, ?_, ?_, fun q hq => ⟨?_, ?_, ?_⟩⟩
  · rw [mu_ne (Or.inl (by decide)), mu_ne (Or.inl (by decide)), mu_ne (Or.inl (by decide)), mu_ne (Or.inl (by decide)), f3, mu_ne (Or.inl (by decide)), mu_ne (Or.inl (by decide)), mu_ne (Or.inl (by decide)), mu_at, f2, h]
  · intro q hq
    rw [n5, g5 q]
    by_cases e : q = a1.toNatClampNeg
    · rw [if_pos e]; omega
    · rw [if_neg e]; exact hD.2.1 q hq
  · rw [n4, g4 q, mu_ne (Or.inl (by decide)), mu_ne (Or.inl (by decide))]
    by_cases e : q = a1.toNatClampNeg
    · rw [if_pos e, e, mu_at]
    · rw [if_neg e, mu_ne (Or.inr e), mu_ne (Or.inl (by decide)), g81]; exact (hD.2.2 q hq).1
  · rw [n5, g5 q, mu_ne (Or.inl (by decide))]
    by_cases e : q = a1.toNatClampNeg
    · rw [if_pos e, e, mu_at]
    · rw [if_neg e, mu_ne (Or.inr e), mu_ne (Or.inl (by decide)), mu_ne (Or.inl (by decide)), g82]; exact (hD.2.2 q hq).2.1
  · rw [n6, g6 q]
    by_cases e : q = a1.toNatClampNeg
    · rw [if_pos e, e, mu_at]
    · rw [if_neg e, mu_ne (Or.inr e), mu_ne (Or.inl (by decide)), mu_ne (Or.inl (by decide)), mu_ne (Or.inl (by decide)), g83]; exact (hD.2.2 q hq).2.2
