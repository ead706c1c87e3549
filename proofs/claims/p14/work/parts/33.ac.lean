/-! kind: the answers agree where as many kinds were told on both sides -/
theorem shr_d {a : Int32} {c : Nat} (hc : c < 32) : (a >>> (nI c &&& 31)).toInt = a.toInt / (2 : Int) ^ c := by
  have s := (by decide +kernel : ∀ n, n < 32 → ((nI n &&& 31).toBitVec.smod 32).toNat = n) c hc
  show ((a.toBitVec).sshiftRight ((nI c &&& 31).toBitVec.smod 32).toNat).toInt = _
  rw [s, BitVec.toInt_sshiftRight, Int.shiftRight_eq_div_pow]
  norm_cast
theorem sh_iff {a1 a4 : Int32} (c1 : ¬ a1 < 0) (c2 : ¬ (12 : Int32) ≤ a1) : a4 >>> (a1 &&& 31) = 0 ↔ (¬ a4 < 0 ∧ ¬ (1 : Int32) <<< (a1 &&& 31) ≤ a4) := by
  have key : ∀ c : Nat, c < 12 → (a4 >>> (nI c &&& 31) = 0 ↔ (¬ a4 < 0 ∧ ¬ (1 : Int32) <<< (nI c &&& 31) ≤ a4)) := by
    intro c hc
    have e := shr_d (a := a4) (c := c) (by omega)
    have e1 := (by decide +kernel : ∀ m, m < 31 → ((1 : Int32) <<< (nI m &&& 31)).toInt = ((2 ^ m : Nat) : Int)) c (by omega)
    have z : (0 : Int32).toInt = 0 := rfl
    rw [Int32.lt_iff_toInt_lt, Int32.le_iff_toInt_le, e1, z]
    have h1 : a4 >>> (nI c &&& 31) = 0 ↔ a4.toInt / (2 : Int) ^ c = 0 := by
      rw [← e]
      exact ⟨fun h => by rw [h]; rfl, fun h => Int32.toInt_inj.mp (by rw [h]; rfl)⟩
    rw [h1]
    rcases (show c = 0 ∨ c = 1 ∨ c = 2 ∨ c = 3 ∨ c = 4 ∨ c = 5 ∨ c = 6 ∨ c = 7 ∨ c = 8 ∨ c = 9 ∨ c = 10 ∨ c = 11 by omega) with rfl | rfl | rfl | rfl | rfl | rfl | rfl | rfl | rfl | rfl | rfl | rfl <;> simp only [Nat.reducePow, Int.reducePow] <;> omega
  rcases i12 c1 c2 with rfl | rfl | rfl | rfl | rfl | rfl | rfl | rfl | rfl | rfl | rfl | rfl
  · exact key 0 (by decide)
  · exact key 1 (by decide)
  · exact key 2 (by decide)
  · exact key 3 (by decide)
  · exact key 4 (by decide)
  · exact key 5 (by decide)
  · exact key 6 (by decide)
  · exact key 7 (by decide)
  · exact key 8 (by decide)
  · exact key 9 (by decide)
  · exact key 10 (by decide)
  · exact key 11 (by decide)
theorem kn_eq {n : Nat} {M : qM} {a : Int32} (h1 : ¬ a < 0) (h2 : ¬ (12 : Int32) ≤ a) : f_X2_knows n a M = some ((if ((M 3 3) >>> (a &&& 31)) &&& (1 : Int32) = (1 : Int32) then 1 else 0), M) := by
  unfold f_X2_knows
  rw [if_neg h1, if_neg h2]
  by_cases c : ((M 3 3) >>> (a &&& 31)) &&& (1 : Int32) = (1 : Int32)
  · rw [if_pos c, if_pos c]
  · rw [if_neg c, if_neg c]
theorem ik_eq {n : Nat} {M : qM} {a : Int32} (h1 : ¬ a < 0) (h2 : ¬ (12 : Int32) ≤ a) : f_X12_isKind n a M = some ((if ((M 77 6) >>> (a &&& 31)) &&& (1 : Int32) = (1 : Int32) then 1 else 0), M) := by
  unfold f_X12_isKind f_X12_has0
  rw [if_neg h1, if_neg h2]
  by_cases c : ((M 77 6) >>> (a &&& 31)) &&& (1 : Int32) = (1 : Int32)
  · rw [if_pos c, if_pos c, qc_v, if_neg (by decide)]
  · rw [if_neg c, if_neg c, qc_v, if_pos rfl]
theorem kind_ag {n : Nat} {M m1 m2 : qM} {a1 a2 a3 a4 v1 v2 : Int32} (h : M 3 3 = M 77 6) (e1 : f_X11_kind n a1 a2 a3 a4 M = some (v1, m1)) (e2 : f_X12_kind n a1 a2 a3 a4 m1 = some (v2, m2)) : v1 = v2 ∧ m2 3 3 = m2 77 6 := by
  have fin : ∀ {v : Int32}, f_X11_kind n a1 a2 a3 a4 M = some (v, M) → f_X12_kind n a1 a2 a3 a4 M = some (v, M) → v1 = v2 ∧ m2 3 3 = m2 77 6 := by
    intro v q1 q2
    rw [e1] at q1
    cases q1
    rw [e2] at q2
    cases q2
    exact ⟨rfl, h⟩
  by_cases c1 : a1 < 0
  · exact fin (v := 0) (by simp [f_X11_kind, f_X2_tell, c1, qc, qb]) (by simp [f_X12_kind, in_eq, qc, c1])
  by_cases c2 : (12 : Int32) ≤ a1
  · have d2 : (11 : Int32) < a1 := by
      simp only [Int32.lt_iff_toInt_lt, Int32.le_iff_toInt_le] at *
      simp at *
      omega
    exact fin (v := 0) (by simp [f_X11_kind, f_X2_tell, c1, c2, qc, qb]) (by simp [f_X12_kind, in_eq, qc, d2])
  have d2 : ¬ (11 : Int32) < a1 := by
    simp only [Int32.lt_iff_toInt_lt, Int32.le_iff_toInt_le] at *
    simp at *
    omega
  have k2 := kn_eq (n := n) (M := M) c1 c2
  have k3 := ik_eq (n := n) (M := M) c1 c2
  rw [← h] at k3
  by_cases ck : ((M 3 3) >>> (a1 &&& 31)) &&& (1 : Int32) = (1 : Int32)
  · rw [if_pos ck] at k2 k3
    exact fin (v := 0) (by simp [f_X11_kind, f_X2_tell, c1, c2, k2, qc, qb]) (by simp [f_X12_kind, in_eq, qc, c1, d2, k3])
  rw [if_neg ck] at k2 k3
  by_cases c3 : a2 < 1
  · exact fin (v := 0) (by simp [f_X11_kind, f_X2_tell, c1, c2, c3, k2, qc, qb]) (by simp [f_X12_kind, in_eq, qc, c1, d2, c3, k3])
  by_cases c4 : a2 ≤ (12 : Int32)
  rotate_left
  · have d4 : (12 : Int32) < a2 := Int32.not_le.mp c4
    exact fin (v := 0) (by simp [f_X11_kind, f_X2_tell, c1, c2, c3, c4, k2, qc, qb]) (by simp [f_X12_kind, in_eq, qc, c1, d2, c3, d4, k3])
  have d4 : ¬ (12 : Int32) < a2 := Int32.not_lt.mpr c4
  by_cases c5 : a3 < 0
  · exact fin (v := 0) (by simp [f_X11_kind, f_X2_tell, c1, c2, c3, c4, c5, k2, qc, qb]) (by simp [f_X12_kind, in_eq, qc, c1, d2, c3, d4, c5, k3])
  by_cases c6 : (255 : Int32) < a3
  · exact fin (v := 0) (by simp [f_X11_kind, f_X2_tell, c1, c2, c3, c4, c5, c6, k2, qc, qb]) (by simp [f_X12_kind, in_eq, qc, c1, d2, c3, d4, c5, c6, k3])
  have si := sh_iff (a4 := a4) c1 c2
  by_cases c7 : a4 >>> (a1 &&& 31) = 0
  rotate_left
  · have q0 : f_X11_kind n a1 a2 a3 a4 M = some (0, M) := by simp [f_X11_kind, f_X2_tell, c1, c2, c3, c4, c5, c6, c7, k2, qc, qb]
    by_cases c8 : a4 < 0
    · exact fin (v := 0) q0 (by simp [f_X12_kind, in_eq, qc, c1, d2, c3, d4, c5, c6, k3, c8])
    · have c9 : (1 : Int32) <<< (a1 &&& 31) ≤ a4 := by
        apply Classical.byContradiction
        intro q
        exact c7 (si.mpr ⟨c8, q⟩)
      exact fin (v := 0) q0 (by simp [f_X12_kind, in_eq, qc, c1, d2, c3, d4, c5, c6, k3, c8, c9])
  obtain ⟨c8, c9⟩ := si.mp c7
  by_cases cn : a4 &&& ((M 3 3) ^^^ (-1 : Int32)) = 0
  rotate_left
  · have cm : ¬ a4 &&& ((M 77 6) ^^^ (-1 : Int32)) = 0 := by rw [← h]; exact cn
    have cn2 := cn
    have cm2 := cm
    simp at cn2 cm2
    exact fin (v := 0) (by simp [f_X11_kind, f_X2_tell, f_X2_knowsAll, c1, c2, c3, c4, c5, c6, c7, cn2, k2, qc, qb]) (by simp [f_X12_kind, in_eq, qc, c1, d2, c3, d4, c5, c6, k3, c8, c9, cm2])
  have g1 : ∀ E : qR, qg a1 12 E = E := fun E => by rcases i12 c1 c2 with rfl | rfl | rfl | rfl | rfl | rfl | rfl | rfl | rfl | rfl | rfl | rfl <;> rfl
  have g2 : ∀ E : qR, qg a1 13 E = E := fun E => by rcases i12 c1 c2 with rfl | rfl | rfl | rfl | rfl | rfl | rfl | rfl | rfl | rfl | rfl | rfl <;> rfl
  have hA : f_X11_kind n a1 a2 a3 a4 M = some ((1 : Int32), mu (mu (mu (mu M 4 a1.toNatClampNeg a2) 5 a1.toNatClampNeg a3) 6 a1.toNatClampNeg a4) 3 3 (mu (mu (mu M 4 a1.toNatClampNeg a2) 5 a1.toNatClampNeg a3) 6 a1.toNatClampNeg a4 3 3 ||| 1 <<< (a1 &&& 31))) := by
    unfold f_X11_kind f_X2_tell f_X2_knowsAll
    simp only [c1, c2, c3, c4, c5, c6, c7, cn, k2, qc, if_true, if_false, g1, qlm, qb, show ¬ ((1 : Int32) = 0) from by decide, or_true, false_or]
  rw [e1] at hA
  cases hA
  have f1 : mu (mu (mu M 4 a1.toNatClampNeg a2) 5 a1.toNatClampNeg a3) 6 a1.toNatClampNeg a4 3 3 = M 3 3 := by rw [mu_ne (Or.inl (by decide)), mu_ne (Or.inl (by decide)), mu_ne (Or.inl (by decide))]
  rw [f1] at e2
  have f2 : mu (mu (mu (mu M 4 a1.toNatClampNeg a2) 5 a1.toNatClampNeg a3) 6 a1.toNatClampNeg a4) 3 3 (M 3 3 ||| 1 <<< (a1 &&& 31)) 77 6 = M 77 6 := by rw [mu_ne (Or.inl (by decide)), mu_ne (Or.inl (by decide)), mu_ne (Or.inl (by decide)), mu_ne (Or.inl (by decide))]
  have f3 : mu (mu (mu (mu M 4 a1.toNatClampNeg a2) 5 a1.toNatClampNeg a3) 6 a1.toNatClampNeg a4) 3 3 (M 3 3 ||| 1 <<< (a1 &&& 31)) 3 3 = M 3 3 ||| 1 <<< (a1 &&& 31) := mu_at
  generalize mu (mu (mu (mu M 4 a1.toNatClampNeg a2) 5 a1.toNatClampNeg a3) 6 a1.toNatClampNeg a4) 3 3 (M 3 3 ||| 1 <<< (a1 &&& 31)) = N at e2 f2 f3
  have k4 := ik_eq (n := n) (M := N) c1 c2
  rw [f2, ← h, if_neg ck] at k4
  have cm : a4 &&& ((N 77 6) ^^^ (-1 : Int32)) = 0 := by rw [f2, ← h]; exact cn
  have hB : f_X12_kind n a1 a2 a3 a4 N = some ((1 : Int32), mu (mu (mu (mu N 77 6 (N 77 6 ||| 1 <<< (a1 &&& 31))) 81 a1.toNatClampNeg a2) 82 a1.toNatClampNeg a3) 83 a1.toNatClampNeg a4) := by
    unfold f_X12_kind
    simp only [in_eq, c1, d2, c3, d4, c5, c6, c8, c9, cm, k4, qc, or_self, if_true, if_false, g2, qlm, show ¬ ((1 : Int32) = 0) from by decide]
  rw [e2] at hB
  cases hB
  refine ⟨rfl, ?_⟩
  rw [mu_ne (Or.inl (by decide)), mu_ne (Or.inl (by decide)), mu_ne (Or.inl (by decide)), mu_ne (Or.inl (by decide)), f3, mu_ne (Or.inl (by decide)), mu_ne (Or.inl (by decide)), mu_ne (Or.inl (by decide)), mu_at, f2, h]
