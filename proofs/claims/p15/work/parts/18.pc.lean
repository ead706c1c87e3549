theorem copies_go {n c1 c2 : Nat} (hc : c1 ≠ c2) : ∀ (d i m : Nat) (M : qM), i + d = 954 → d < m → ∃ M', f_X12_copies_2 n c1 c2 m (nI i) M = some (0, M') ∧ (∀ x y, x ≠ c2 → M' x y = M x y) ∧ ∀ y, M' c2 y = if i ≤ y ∧ y < 954 then M c1 y else M c2 y := by
  intro d
  induction d with
  | zero =>
    intro i m M hi hm
    obtain ⟨k, rfl⟩ : ∃ k, m = k + 1 := ⟨m - 1, by omega⟩
    refine ⟨M, ?_, fun _ _ _ => rfl, fun y => by rw [if_neg (by omega)]⟩
    show b_X12_copies_2 n c1 c2 (f_X12_copies_2 n c1 c2 k) (nI i) M = _
    unfold b_X12_copies_2
    have cc1 : (954 : Int32) ≤ nI i := nI_le (a := 954) (b := i) (by omega) (by omega)
    rw [if_pos cc1]
  | succ d ih =>
    intro i m M hi hm
    obtain ⟨k, rfl⟩ : ∃ k, m = k + 1 := ⟨m - 1, by omega⟩
    obtain ⟨M', e, o1, o2⟩ := ih (i + 1) k (mu M c2 i (M c1 i)) (by omega) (by omega)
    refine ⟨M', ?_, fun x y h => ?_, fun y => ?_⟩
    · show b_X12_copies_2 n c1 c2 (f_X12_copies_2 n c1 c2 k) (nI i) M = _
      unfold b_X12_copies_2
      have cc1 : ¬ (954 : Int32) ≤ nI i := nI_ge (a := i) (b := 954) (by omega) (by decide)
      rw [if_neg cc1]
      simp only [qg_nI (show i < 954 by omega) (by decide), qlm, ql, nI_clamp (show i < 2 ^ 31 by omega), nI_1]
      exact e
    · rw [o1 x y h]; simp [mu, h]
    · rw [o2 y]
      by_cases hy : y = i
      · subst hy
        rw [if_neg (by omega), if_pos (by omega)]
        simp [mu]
      · by_cases h2 : i + 1 ≤ y ∧ y < 954
        · rw [if_pos h2, if_pos (by omega)]
          simp [mu, hc]
        · rw [if_neg h2, if_neg (by omega)]
          simp [mu, hy]
theorem copies_ok {n c1 c2 : Nat} (hn : 955 ≤ n) (hc : c1 ≠ c2) (M : qM) : ∃ M', f_X12_copies n c1 c2 M = some (0, M') ∧ (∀ x y, x ≠ c2 → M' x y = M x y) ∧ ∀ y, M' c2 y = if y < 954 then M c1 y else M c2 y := by
  obtain ⟨M', e, o1, o2⟩ := copies_go (n := n) hc 954 0 n M (by omega) (by omega)
  exact ⟨M', e, o1, fun y => by rw [o2 y]; simp⟩
theorem qcp8 (E : qR) : qcp 0 0 8 8 8 E = E := if_neg (by decide)
theorem qcp96 (E : qR) : qcp 0 0 96 96 96 E = E := if_neg (by decide)
theorem qcp320 (E : qR) : qcp 0 0 320 320 320 E = E := if_neg (by decide)
theorem copy_fr {n t u : Nat} (M : qM) (hu : u + 8 < t ∨ t + 8 < u) : ∃ M', f_X10_copy n t u M = some (0, M') ∧ (∀ x y, x < t ∨ t + 8 < x → M' x y = M x y) ∧ M' t 8 = M u 8 ∧ M' t 9 = M u 9 := by
  unfold f_X10_copy
  simp only [qcp8, qcp96, qcp320, qlm]
  refine ⟨_, rfl, fun x y h => ?_, ?_, ?_⟩
  · have h0 : x ≠ t := by omega
    have h1 : x ≠ t + 1 := by omega
    have h2 : x ≠ t + 2 := by omega
    have h3 : x ≠ t + 3 := by omega
    have h4 : x ≠ t + 4 := by omega
    have h5 : x ≠ t + 5 := by omega
    have h6 : x ≠ t + 6 := by omega
    have h7 : x ≠ t + 7 := by omega
    have h8 : x ≠ t + 8 := by omega
    simp [mu, mr, h0, h1, h2, h3, h4, h5, h6, h7, h8]
  · have h0 : u ≠ t := by omega
    have h1 : u ≠ t + 1 := by omega
    have h2 : u ≠ t + 2 := by omega
    have h3 : u ≠ t + 3 := by omega
    have h4 : u ≠ t + 4 := by omega
    have h5 : u ≠ t + 5 := by omega
    have h6 : u ≠ t + 6 := by omega
    have h7 : u ≠ t + 7 := by omega
    have h8 : u ≠ t + 8 := by omega
    simp [mu, mr, h1, h2, h3, h4, h5, h6, h7, h8]
  · have h0 : u ≠ t := by omega
    have h1 : u ≠ t + 1 := by omega
    have h2 : u ≠ t + 2 := by omega
    have h3 : u ≠ t + 3 := by omega
    have h4 : u ≠ t + 4 := by omega
    have h5 : u ≠ t + 5 := by omega
    have h6 : u ≠ t + 6 := by omega
    have h7 : u ≠ t + 7 := by omega
    have h8 : u ≠ t + 8 := by omega
    simp [mu, mr, h0, h1, h2, h3, h4, h5, h6, h7, h8]
theorem p1_keep {n : Nat} (hn : 955 ≤ n) {M : qM} (hF : Fr M) : Pr (f_X11_keep n) (f_X12_keep n) M := by
  obtain ⟨M1, e1, o1, -, -⟩ := copy_fr (n := n) (t := 16) (u := 7) M (by omega)
  obtain ⟨M2, e2, o2, -⟩ := copies_ok (n := n) (c1 := 78) (c2 := 80) hn (by decide) (mu (mu M1 0 12 1) 77 67 1)
  refine ⟨0, mu M1 0 12 1, M2, ?_, ?_⟩
  · unfold f_X11_keep
    simp only [e1, qc, qlm]
    have : mu M1 0 12 1 7 9 = 0 := by
      simp only [mu]
      rw [if_neg (by decide), o1 _ _ (by decide)]
      exact hF.1 _ _ (by decide)
    rw [this]
  · unfold f_X12_keep
    simp only [qlm, e2, qc]
    have : M2 78 313 = 0 := by
      rw [o2 _ _ (by decide)]
      simp only [mu]
      rw [if_neg (by decide), if_neg (by decide), o1 _ _ (by decide)]
      exact hF.2.1 _ (by decide)
    rw [this]
/-! days with no people -/
theorem gd53 {n t j : Nat} {K : Int32 → Int32 → qM → qR} {a2 a3 : Int32} : ∀ (d i m : Nat) (M : qM), M t 8 = 0 → i + d = 8 → d < m → f_X0_goDays_53 n t j K m a2 a3 (nI i) M = K a2 (a3 + 1) (mu M t 9 (M t 9 + 1)) := by
  intro d
  induction d with
  | zero =>
    intro i m M h0 hi hm
    obtain ⟨k, rfl⟩ : ∃ k, m = k + 1 := ⟨m - 1, by omega⟩
    show b_X0_goDays_53 n t j K (f_X0_goDays_53 n t j K k) a2 a3 (nI i) M = _
    unfold b_X0_goDays_53
    have cc1 : (8 : Int32) ≤ nI i := nI_le (a := 8) (b := i) (by omega) (by omega)
    rw [if_pos cc1]
    rfl
  | succ d ih =>
    intro i m M h0 hi hm
    obtain ⟨k, rfl⟩ : ∃ k, m = k + 1 := ⟨m - 1, by omega⟩
    show b_X0_goDays_53 n t j K (f_X0_goDays_53 n t j K k) a2 a3 (nI i) M = _
    unfold b_X0_goDays_53
    have cc1 : ¬ (8 : Int32) ≤ nI i := nI_ge (a := i) (b := 8) (by omega) (by decide)
    rw [if_neg cc1, kn10_0 _ _ _ _ h0]
    simp only [qc, ql, if_true, nI_1]
    exact ih (i + 1) k M h0 (by omega) (by omega)
theorem gd35 {n t j N : Nat} (hn : 10 ≤ n) (hN : N ≤ 60) : ∀ (d i m e : Nat) (M : qM), M t 8 = 0 → M t 9 = nI e → e + d ≤ 9000 → i + d = N → d < m → ∃ M', f_X0_goDays_35 n t j m (nI N) (nI i) M = some (0, M') ∧ ∀ x y, ¬ (x = t ∧ y = 9) → M' x y = M x y := by
  intro d
  induction d with
  | zero =>
    intro i m e M h0 h9 he hi hm
    obtain ⟨k, rfl⟩ : ∃ k, m = k + 1 := ⟨m - 1, by omega⟩
    refine ⟨M, ?_, fun _ _ _ => rfl⟩
    show b_X0_goDays_35 n t j (f_X0_goDays_35 n t j k) (nI N) (nI i) M = _
    unfold b_X0_goDays_35
    rw [if_pos (nI_le (by omega) (by omega))]
  | succ d ih =>
    intro i m e M h0 h9 he hi hm
    obtain ⟨k, rfl⟩ : ∃ k, m = k + 1 := ⟨m - 1, by omega⟩
    obtain ⟨M', e1, o1⟩ := ih (i + 1) k (e + 1) (mu M t 9 (M t 9 + 1)) (by simp [mu, h0]) (by simp [mu, h9, nI_1]) (by omega) (by omega) (by omega)
    refine ⟨M', ?_, fun x y h => by rw [o1 x y h]; simp [mu, h]⟩
    show b_X0_goDays_35 n t j (f_X0_goDays_35 n t j k) (nI N) (nI i) M = _
    unfold b_X0_goDays_35
    have cc1 : ¬ (9999 : Int32) ≤ nI e := nI_ge (a := e) (b := 9999) (by omega) (by decide)
    rw [if_neg (nI_ge (by omega) (by omega)), h9, if_neg cc1, ← nI_0, gd53 8 0 n M h0 (by omega) (by omega), nI_1]
    exact e1
theorem gd_ok {n t j N : Nat} (hn : 100 ≤ n) (hN : N ≤ 60) (ht : t ≠ 44) {M : qM} (h0 : M t 8 = 0) (h9 : M t 9 = 0) : ∃ M', f_X0_goDays n t j (nI N) M = some (0, M') ∧ M' 44 4 = 0 ∧ M' 44 5 = 0 ∧ M' 44 6 = 0 ∧ M' 44 7 = -2 ∧ M' 44 8 = -2 ∧ M' 44 9 = -2 ∧ ∀ x y, x ≠ t → x ≠ 44 → M' x y = M x y := by
  have ht' : 44 ≠ t := fun q => ht q.symm
  unfold f_X0_goDays
  simp only [qlm]
  generalize hM1 : mu (mu (mu (mu (mu (mu M 44 4 0) 44 5 0) 44 6 0) 44 7 (-2)) 44 8 (-2)) 44 9 (-2) = M1
  have k0 : M1 t 8 = 0 := by rw [← hM1]; simp [mu, ht, h0]
  have k9 : M1 t 9 = nI 0 := by rw [← hM1, nI_0]; simp [mu, ht, h9]
  obtain ⟨M', e, o⟩ := gd35 (n := n) (j := j) (by omega) hN N 0 n 0 M1 k0 k9 (by omega) (by omega) (by omega)
  rw [nI_0] at e
  refine ⟨M', e, ?_, ?_, ?_, ?_, ?_, ?_, fun x y h1 h2 => ?_⟩
  · rw [o _ _ (fun q => ht' q.1), ← hM1]; simp [mu]
  · rw [o _ _ (fun q => ht' q.1), ← hM1]; simp [mu]
  · rw [o _ _ (fun q => ht' q.1), ← hM1]; simp [mu]
  · rw [o _ _ (fun q => ht' q.1), ← hM1]; simp [mu]
  · rw [o _ _ (fun q => ht' q.1), ← hM1]; simp [mu]
  · rw [o _ _ (fun q => ht' q.1), ← hM1]; simp [mu]
  · rw [o _ _ (fun q => h1 q.1), ← hM1]; simp [mu, h2]
theorem md56 {n : Nat} {K : Int32 → Int32 → qM → qR} {a2 a3 : Int32} : ∀ (d i m : Nat) (M : qM), M 78 312 = 0 → i + d = 8 → d < m → f_X12_daysGo_56 n K m a2 a3 (nI i) M = K a2 (a3 + 1) (mu M 78 313 (M 78 313 + 1)) := by
  intro d
  induction d with
  | zero =>
    intro i m M h0 hi hm
    obtain ⟨k, rfl⟩ : ∃ k, m = k + 1 := ⟨m - 1, by omega⟩
    show b_X12_daysGo_56 n K (f_X12_daysGo_56 n K k) a2 a3 (nI i) M = _
    unfold b_X12_daysGo_56
    have cc1 : (8 : Int32) ≤ nI i := nI_le (a := 8) (b := i) (by omega) (by omega)
    rw [if_pos cc1]
    rfl
  | succ d ih =>
    intro i m M h0 hi hm
    obtain ⟨k, rfl⟩ : ∃ k, m = k + 1 := ⟨m - 1, by omega⟩
    show b_X12_daysGo_56 n K (f_X12_daysGo_56 n K k) a2 a3 (nI i) M = _
    unfold b_X12_daysGo_56
    have cc1 : ¬ (8 : Int32) ≤ nI i := nI_ge (a := i) (b := 8) (by omega) (by decide)
    rw [if_neg cc1, isP_0 _ _ _ h0]
    simp only [qc, ql, if_true, nI_1]
    exact ih (i + 1) k M h0 (by omega) (by omega)
theorem md35 {n N : Nat} (hn : 10 ≤ n) (hN : N ≤ 60) : ∀ (d i m e : Nat) (M : qM), M 78 312 = 0 → M 78 313 = nI e → e + d ≤ 9000 → i + d = N → d < m → ∃ M', f_X12_daysGo_35 n m (nI N) (nI i) M = some (0, M') ∧ ∀ x y, ¬ (x = 78 ∧ y = 313) → M' x y = M x y := by
  intro d
  induction d with
  | zero =>
    intro i m e M h0 h9 he hi hm
    obtain ⟨k, rfl⟩ : ∃ k, m = k + 1 := ⟨m - 1, by omega⟩
    refine ⟨M, ?_, fun _ _ _ => rfl⟩
    show b_X12_daysGo_35 n (f_X12_daysGo_35 n k) (nI N) (nI i) M = _
    unfold b_X12_daysGo_35
    rw [if_pos (nI_le (by omega) (by omega))]
  | succ d ih =>
    intro i m e M h0 h9 he hi hm
    obtain ⟨k, rfl⟩ : ∃ k, m = k + 1 := ⟨m - 1, by omega⟩
    obtain ⟨M', e1, o1⟩ := ih (i + 1) k (e + 1) (mu M 78 313 (M 78 313 + 1)) (by simp [mu, h0]) (by simp [mu, h9, nI_1]) (by omega) (by omega) (by omega)
    refine ⟨M', ?_, fun x y h => by rw [o1 x y h]; simp only [mu]; rw [if_neg h]⟩
    show b_X12_daysGo_35 n (f_X12_daysGo_35 n k) (nI N) (nI i) M = _
    unfold b_X12_daysGo_35
    have cc1 : ¬ (9999 : Int32) ≤ nI e := nI_ge (a := e) (b := 9999) (by omega) (by decide)
    rw [if_neg (nI_ge (by omega) (by omega)), h9, if_neg cc1, ← nI_0, md56 8 0 n M h0 (by omega) (by omega), nI_1]
    exact e1
theorem md_ok {n N : Nat} (hn : 100 ≤ n) (hN : N ≤ 60) {M : qM} (h0 : M 78 312 = 0) (h9 : M 78 313 = 0) : ∃ M', f_X12_daysGo n (nI N) M = some (0, M') ∧ M' 77 37 = 0 ∧ M' 77 38 = 0 ∧ M' 77 39 = 0 ∧ M' 77 40 = -2 ∧ M' 77 41 = -2 ∧ M' 77 42 = -2 := by
  unfold f_X12_daysGo
  simp only [qlm]
  generalize hM1 : mu (mu (mu (mu (mu (mu M 77 37 0) 77 38 0) 77 39 0) 77 40 (-2)) 77 41 (-2)) 77 42 (-2) = M1
  have k0 : M1 78 312 = 0 := by rw [← hM1]; simp [mu, h0]
  have k9 : M1 78 313 = nI 0 := by rw [← hM1, nI_0]; simp [mu, h9]
  obtain ⟨M', e, o⟩ := md35 (n := n) (by omega) hN N 0 n 0 M1 k0 k9 (by omega) (by omega) (by omega)
  rw [nI_0] at e
  refine ⟨M', e, ?_, ?_, ?_, ?_, ?_, ?_⟩
  all_goals (rw [o _ _ (by decide), ← hM1]; simp [mu])
theorem i60 {a : Int32} (h1 : ¬ a < 1) (h2 : ¬ (60 : Int32) < a) : ∃ N : Nat, N ≤ 60 ∧ a = nI N := by
  have h0 : ¬ a < 0 := by
    simp only [Int32.lt_iff_toInt_lt] at *
    simp at *
    omega
  obtain ⟨j, hj, rfl⟩ := nI_of h0
  refine ⟨j, ?_, rfl⟩
  rcases Nat.lt_or_ge 60 j with q | q
  · exact absurd (nI_lt (a := 60) q hj) h2
  · exact q
theorem p1_days {n j : Nat} (hn : 955 ≤ n) {M : qM} (hF : Fr M) (a1 : Int32) : Pr (f_X11_days n j a1) (f_X12_days n a1) M := by
  by_cases c1 : a1 < 1
  · exact Pr.same (v := -1) (by simp [f_X11_days, c1]) (by simp [f_X12_days, in_eq, qc, c1])
  by_cases c2 : (60 : Int32) < a1
  · exact Pr.same (v := -1) (by simp [f_X11_days, c1, Int32.not_le.mpr c2]) (by simp [f_X12_days, in_eq, qc, c2])
  obtain ⟨N, hN, rfl⟩ := i60 c1 c2
  obtain ⟨M1, e1, -, k5, -, -, -, -, o1⟩ := gd_ok (n := n) (t := 7) (j := j) (by omega) hN (by decide) (hF.1 _ _ (by decide) : M 7 8 = 0) (hF.1 _ _ (by decide))
  obtain ⟨M2, e2, -, k6, -⟩ := md_ok (n := n) (by omega) hN (M := M1) (by rw [o1 _ _ (by decide) (by decide)]; exact hF.2.1 _ (by decide)) (by rw [o1 _ _ (by decide) (by decide)]; exact hF.2.1 _ (by decide))
  refine ⟨0, M1, M2, ?_, ?_⟩
  · unfold f_X11_days
    rw [if_neg c1, if_pos (Int32.not_lt.mp c2), e1]
    simp only [qc, k5]
  · unfold f_X12_days
    rw [in_eq, if_neg (by rintro (q | q) <;> contradiction)]
    simp only [qc, e2, k6, show ¬ ((1 : Int32) = 0) from by decide, if_false]
theorem p1_tried {n j : Nat} (hn : 955 ≤ n) {M : qM} (hF : Fr M) (a1 a2 : Int32) : Pr (f_X11_tried n j a1 a2) (f_X12_tried n a1 a2) M := by
  have e4 : M 7 8 = 0 := hF.1 _ _ (by decide)
  have hred : f_X11_tried n j a1 a2 M = f_X11_tried_25 n j a1 a2 0 M := by
    unfold f_X11_tried
    rw [kn10_0 _ _ _ _ e4]
    by_cases c : a2 < 10 <;> simp [c, qc, f_X11_tried_24]
  unfold Pr
  rw [hred]
  by_cases c1 : a1 < 1
  · exact ⟨-1, M, M, by simp [f_X11_tried_25, c1], by simp [f_X12_tried, in_eq, qc, c1]⟩
  by_cases c2 : (60 : Int32) < a1
  · exact ⟨-1, M, M, by simp [f_X11_tried_25, c1, c2], by simp [f_X12_tried, in_eq, qc, c2]⟩
  by_cases c3 : a2 < 0 ∨ (5 : Int32) < a2
  · refine ⟨-1, M, M, ?_, ?_⟩
    · unfold f_X11_tried_25
      rcases c3 with c3 | c3
      · simp [c1, c2, c3]
      · by_cases c4 : a2 < 0 <;> simp [c1, c2, c4, Int32.not_le.mpr c3]
    · unfold f_X12_tried
      simp only [in_eq, qc, if_neg (show ¬ (a1 < 1 ∨ 60 < a1) by rintro (q | q) <;> contradiction), if_pos c3, isP_0 _ _ _ (hF.2.1 _ (by decide) : M 78 312 = 0), show ¬ ((1 : Int32) = 0) from by decide, if_false, if_true]
      by_cases c5 : a2 < 10 ∨ 17 < a2 <;> simp [c5]
  · have c4 : ¬ a2 < 0 := fun q => c3 (Or.inl q)
    have c5 : ¬ (5 : Int32) < a2 := fun q => c3 (Or.inr q)
    obtain ⟨N, hN, rfl⟩ := i60 c1 c2
    obtain ⟨M1, e1, o1, k8, k9⟩ := copy_fr (n := n) (t := 25) (u := 7) M (by omega)
    obtain ⟨M2, e2, q4, q5, q6, q7, q8, q9, o2⟩ := gd_ok (n := n) (t := 25) (j := j) (by omega) hN (by decide) (M := M1) (by rw [k8]; exact e4) (by rw [k9]; exact hF.1 _ _ (by decide))
    obtain ⟨M3, e3, o3, -⟩ := copies_ok (n := n) (c1 := 78) (c2 := 79) hn (by decide) M2
    have z : ∀ y, y < 96 ∨ 192 ≤ y → M3 78 y = 0 := fun y hy => by
      rw [o3 _ _ (by decide), o2 _ _ (by decide) (by decide), o1 _ _ (by decide)]
      exact hF.2.1 _ hy
    obtain ⟨M4, e4', w1, w2, w3, w4, w5, w6⟩ := md_ok (n := n) (by omega) hN (M := M3) (z _ (by decide)) (z _ (by decide))
    obtain ⟨M5, e5, -, -⟩ := copies_ok (n := n) (c1 := 79) (c2 := 78) hn (by decide) M4
    have hm : f_X12_tried n (nI N) a2 M2 = f_X12_tried_43 n (nI N) a2 M2 := by
      unfold f_X12_tried
      simp only [in_eq, qc, if_neg (show ¬ (nI N < 1 ∨ 60 < nI N) by rintro (q | q) <;> contradiction), if_neg c3, show ¬ ((1 : Int32) = 0) from by decide, if_false]
    have hc : f_X11_tried_25 n j (nI N) a2 0 M = f_X11_tried_52 n j (nI N) a2 0 M := by
      unfold f_X11_tried_25
      simp [c1, c2, c4, Int32.not_lt.mp c5]
    rw [hc]
    have a6 : a2 = 0 ∨ a2 = 1 ∨ a2 = 2 ∨ a2 = 3 ∨ a2 = 4 ∨ a2 = 5 := by
      obtain ⟨q, hq, rfl⟩ := nI_of c4
      have : q ≤ 5 := by
        rcases Nat.lt_or_ge 5 q with r | r
        · exact absurd (nI_lt (a := 5) r hq) c5
        · exact r
      rcases (show q = 0 ∨ q = 1 ∨ q = 2 ∨ q = 3 ∨ q = 4 ∨ q = 5 by omega) with rfl | rfl | rfl | rfl | rfl | rfl <;> decide
    unfold f_X11_tried_52 f_X0_cameOfDays
    simp only [e1, e2, qc, if_true]
    have hmm : ∀ v, f_X12_tried_43 n (nI N) a2 M2 = some (v, M5) → ∃ M9, f_X12_tried n (nI N) a2 M2 = some (v, M9) := fun v h => ⟨M5, by rw [hm]; exact h⟩
    rcases a6 with rfl | rfl | rfl | rfl | rfl | rfl
    · obtain ⟨M9, h9⟩ := hmm 0 (by unfold f_X12_tried_43 f_X12_tried_176; simp only [e3, e4', qc, qsw, ql, w1, e5]; rfl)
      exact ⟨0, M2, M9, by simp [qsw, q4], h9⟩
    · obtain ⟨M9, h9⟩ := hmm 0 (by unfold f_X12_tried_43 f_X12_tried_176; simp only [e3, e4', qc, qsw, ql, w2, e5]; rfl)
      exact ⟨0, M2, M9, by simp [qsw, q5], h9⟩
    · obtain ⟨M9, h9⟩ := hmm (-2) (by unfold f_X12_tried_43 f_X12_tried_176; simp only [e3, e4', qc, qsw, ql, w4, e5]; rfl)
      exact ⟨-2, M2, M9, by simp [qsw, q7], h9⟩
    · obtain ⟨M9, h9⟩ := hmm (-2) (by unfold f_X12_tried_43 f_X12_tried_176; simp only [e3, e4', qc, qsw, ql, w5, e5]; rfl)
      exact ⟨-2, M2, M9, by simp [qsw, q8], h9⟩
    · obtain ⟨M9, h9⟩ := hmm (-2) (by unfold f_X12_tried_43 f_X12_tried_176; simp only [e3, e4', qc, qsw, ql, w6, e5]; rfl)
      exact ⟨-2, M2, M9, by simp [qsw, q9], h9⟩
    · obtain ⟨M9, h9⟩ := hmm 0 (by unfold f_X12_tried_43 f_X12_tried_176; simp only [e3, e4', qc, qsw, ql, w3, e5]; rfl)
      exact ⟨0, M2, M9, by simp [qsw, q6], h9⟩
