/-- the best of what was gone through: fewest coins, then fewest hours; none: both at 2^20 -/
abbrev LBs (H : Nat) (V : Nat → Nat → Prop) (c h : Nat) : Prop := ((c = 1048576 ∧ h = 1048576) ∨ (V c h ∧ h ≤ H ∧ c < 1048576)) ∧ ∀ c' h', V c' h' → h' ≤ H → (c < c' ∨ (c = c' ∧ h ≤ h'))
abbrev BCs (H : Nat) (ini tm : Nat → Prop) (suc : Nat → Nat → Prop) (co cn : Nat → Nat) (s x : Nat) : Prop := (x = 1000000000 ∨ ∃ t, t < s ∧ okS ini tm suc t ∧ tm t ∧ co t / 16 ≤ H ∧ x = 256 * cn t + co t / 16) ∧ (∀ t, t < s → okS ini tm suc t → tm t → co t / 16 ≤ H → x ≤ 256 * cn t + co t / 16) ∧ x ≤ 1000000000
theorem cheap_eq {H N : Nat} (hH : H ≤ 200) {ini tm : Nat → Prop} {suc : Nat → Nat → Prop} {co cn v : Nat → Nat} {V : Nat → Nat → Prop} (hL : ∀ t, t < N → okS ini tm suc t → tm t → ∃ r, ini r ∧ cn r = cn t ∧ v r ≤ co t) (hU : ∀ r, ini r → v r < 16 * (H + 1) → ∃ t, t < N ∧ okS ini tm suc t ∧ tm t ∧ cn t = cn r ∧ co t = v r) (hV : ∀ c h, V c h ↔ ∃ r, ini r ∧ c = cn r ∧ h = v r / 16) (hc : ∀ r, ini r → cn r < 1048576) {c h x : Nat} (h1 : LBs H V c h) (h2 : BCs H ini tm suc co cn N x) : (c = 1048576 ∧ x = 1000000000) ∨ (c < 1048576 ∧ x = 256 * c + h ∧ h < 256) := by
  obtain ⟨a1, a2⟩ := h1
  obtain ⟨b1, b2, b3⟩ := h2
  rcases a1 with ⟨rfl, rfl⟩ | ⟨v1, v2, v3⟩
  · refine Or.inl ⟨rfl, ?_⟩
    rcases b1 with b1 | ⟨t, t1, t2, t3, t4, t5⟩
    · exact b1
    · exfalso
      obtain ⟨r, r1, r2, r3⟩ := hL t t1 t2 t3
      have hr := hc r r1
      have h16 : v r / 16 ≤ co t / 16 := Nat.div_le_div_right r3
      rcases a2 (cn r) (v r / 16) ((hV _ _).mpr ⟨r, r1, rfl, rfl⟩) (by omega) with z | ⟨z, _⟩ <;> omega
  · obtain ⟨r, r1, r2, r3⟩ := (hV c h).mp v1
    obtain ⟨t0, u1, u2, u3, u4, u5⟩ := hU r r1 (by omega)
    have hx := b2 t0 u1 u2 u3 (by rw [u5]; omega)
    rw [u4, u5, ← r2, ← r3] at hx
    refine Or.inr ⟨v3, ?_, by omega⟩
    rcases b1 with b1 | ⟨t, t1, t2, t3, t4, t5⟩
    · omega
    · obtain ⟨r', q1, q2, q3⟩ := hL t t1 t2 t3
      have h16 : v r' / 16 ≤ co t / 16 := Nat.div_le_div_right q3
      rcases a2 (cn r') (v r' / 16) ((hV _ _).mpr ⟨r', q1, rfl, rfl⟩) (by omega) with z | ⟨z1, z2⟩ <;> omega
