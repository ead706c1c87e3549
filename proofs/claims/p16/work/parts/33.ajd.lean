/-! what calls leave alike -/
theorem KD_cg {M m : qM} (h : KD M M) (e33 : m 3 3 = M 3 3) (e776 : m 77 6 = M 77 6) (e4 : ∀ q, q < 12 → m 4 q = M 4 q) (e5 : ∀ q, q < 12 → m 5 q = M 5 q) (e6 : ∀ q, q < 12 → m 6 q = M 6 q) (e81 : ∀ q, q < 12 → m 81 q = M 81 q) (e82 : ∀ q, q < 12 → m 82 q = M 82 q) (e83 : ∀ q, q < 12 → m 83 q = M 83 q) : KD m m := by
  obtain ⟨h1, h2, h3⟩ := h
  exact ⟨by rw [e33, e776]; exact h1, fun q hq => by rw [e5 q hq]; exact h2 q hq, fun q hq => ⟨by rw [e4 q hq, e81 q hq]; exact (h3 q hq).1, by rw [e5 q hq, e82 q hq]; exact (h3 q hq).2.1, by rw [e6 q hq, e83 q hq]; exact (h3 q hq).2.2⟩⟩
theorem out46 {l : List Bx} {c q : Nat} (hc : (4 ≤ c ∧ c ≤ 6) ∨ (81 ≤ c ∧ c ≤ 83)) (hq : q < 12) (h : l.all (fun b => (decide (b.2.1 ≤ 4) || decide (7 ≤ b.1)) && (decide (b.2.1 ≤ 81) || decide (84 ≤ b.1) || (decide (12 ≤ b.2.2.1) && decide (b.2.2.2 ≠ 0)))) = true) : ∀ b ∈ l, ¬ inB b c q := by
  intro b hb hi
  rw [List.all_eq_true] at h
  have h3 := h b hb
  obtain ⟨a1, a2, a3⟩ := hi
  simp only [Bool.and_eq_true, Bool.or_eq_true, decide_eq_true_eq] at h3
  omega
theorem KD_S {l : List Bx} {M m : qM} (h : KD M M) (hs : Sm l M m) (e33 : m 3 3 = M 3 3) (e776 : m 77 6 = M 77 6) (hl : l.all (fun b => (decide (b.2.1 ≤ 4) || decide (7 ≤ b.1)) && (decide (b.2.1 ≤ 81) || decide (84 ≤ b.1) || (decide (12 ≤ b.2.2.1) && decide (b.2.2.2 ≠ 0)))) = true) : KD m m :=
  KD_cg h e33 e776 (fun q hq => hs 4 q (out46 (by omega) hq hl)) (fun q hq => hs 5 q (out46 (by omega) hq hl)) (fun q hq => hs 6 q (out46 (by omega) hq hl)) (fun q hq => hs 81 q (out46 (by omega) hq hl)) (fun q hq => hs 82 q (out46 (by omega) hq hl)) (fun q hq => hs 83 q (out46 (by omega) hq hl))
theorem outl2 {j : Nat} (hj : q_isLaw j) {l : List Bx} {k s : Nat} (hk : k ≤ 6) (h : l.all (fun b => decide (b.2.1 ≤ 37) || decide (53 ≤ b.1) || (decide (44 ≤ b.1) && decide (b.2.1 ≤ 46))) = true) : ∀ b ∈ l, ¬ inB b (j + k) s := by
  intro b hb hi
  rw [List.all_eq_true] at h
  have h3 := h b hb
  obtain ⟨a1, a2, _⟩ := hi
  simp only [Bool.or_eq_true, Bool.and_eq_true, decide_eq_true_eq] at h3
  rcases hj with rfl | rfl <;> omega
theorem LR_S {j : Nat} (hj : q_isLaw j) {l : List Bx} {M m : qM} (h : LR j M M) (hs : Sm l M m) (h1 : l.all (fun b => decide (b.2.1 ≤ 37) || decide (53 ≤ b.1) || (decide (44 ≤ b.1) && decide (b.2.1 ≤ 46))) = true) (h2 : l.all (fun b => decide (b.2.1 ≤ 91) || decide (96 ≤ b.1)) = true) (h17 : m 77 17 = M 77 17) : LR j m m :=
  LR_cg h (fun k hk => funext (fun s => hs _ _ (outl2 hj hk h1))) (fun c c1 c2 => funext (fun s => hs c s (out91 c1 c2 h2))) h17
theorem out77 {l : List Bx} {c s : Nat} (hc : 77 ≤ c) (h : l.all (fun b => decide (b.2.1 ≤ 77)) = true) : ∀ b ∈ l, ¬ inB b c s := by
  intro b hb hi
  rw [List.all_eq_true] at h
  have h3 := h b hb
  obtain ⟨a1, a2, _⟩ := hi
  simp only [decide_eq_true_eq] at h3
  omega
theorem KD_0 {M : qM} (hF : Fr M) : KD M M := by
  have z : ((0 : Int32).toInt : Int) = 0 := rfl
  refine ⟨by rw [hF.1 3 3 (by decide), hF.1 77 6 (by decide)], fun q _ => by rw [hF.1 5 q (by decide)]; omega, fun q _ => ⟨?_, ?_, ?_⟩⟩
  · rw [hF.1 4 q (by decide), hF.2.2 81 q (by decide) (by decide) (by decide) (by decide)]
  · rw [hF.1 5 q (by decide), hF.2.2 82 q (by decide) (by decide) (by decide) (by decide)]
  · rw [hF.1 6 q (by decide), hF.2.2 83 q (by decide) (by decide) (by decide) (by decide)]
theorem LR_0 {M : qM} (hF : Fr M) : LR 37 M M := by
  have z : ((0 : Int32).toInt : Int) = 0 := rfl
  refine ⟨[], [], ⟨⟨by rw [hF.1 37 6 (by decide)]; exact z, Fn_nil⟩, by rw [hF.1 37 7 (by decide)]; exact z, fun k hk => absurd hk (by simp)⟩, ⟨Fn_nil, by rw [hF.1 77 17 (by decide)]; exact z, fun k hk => absurd hk (by simp)⟩, (fun q hq => by cases hq), by decide⟩
