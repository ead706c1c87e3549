/-! CHEAPEST: the search behind bought first states, cut off where a state has cost too much; cn is what a state has paid -/
theorem sr_lowC {S : Nat} (hS : S ≤ 4) {hr : Nat → Nat} {aim : Nat} {wc : Nat → Nat → Bool} {ini tm : Nat → Prop} {suc : Nat → Nat → Prop} {pi co cn : Nat → Nat} (hp : ∀ t, okS ini tm suc t → ¬ tm t → pi t < 2048) (hin : ∀ t, ini t → ¬ tm t) (hst : ∀ u t, okS ini tm suc u → ¬ tm u → suc u t → cn t = cn u ∧ ∃ i, i < S ∧ exS (pi u) i < 3 ∧ co t = co u + (16 * hr i + 1) ∧ (tm t ↔ (wc (pi u) i = true ∧ i = aim)) ∧ (¬ tm t → pi t = (if wc (pi u) i = true then thS (pi u) i else nxS (pi u) i))) : ∀ N t, t < N → okS ini tm suc t → ∃ r, ini r ∧ cn r = cn t ∧ (tm t → vS S hr aim wc (pi r) 0 + co r ≤ co t) ∧ (¬ tm t → vS S hr aim wc (pi r) 0 + co r ≤ co t + vS S hr aim wc (pi t) 0) := by
  intro N
  induction N with
  | zero => intro t h _; omega
  | succ N ih =>
    intro t ht hok
    rcases ok_ex hok with hi | ⟨u, hu, hou, htu, hsu⟩
    · exact ⟨t, hi, rfl, fun w => absurd w (hin t hi), fun _ => by omega⟩
    · obtain ⟨r, hri, hcr, _, hle⟩ := ih u (by omega) hou
      have hle := hle htu
      have pu := hp u hou htu
      obtain ⟨hcn, i, hiS, he, c1, c3, c4⟩ := hst u t hou htu hsu
      refine ⟨r, hri, by rw [hcr, hcn], ?_⟩
      have hb := vIS_le (hr := hr) (aim := aim) (wc := wc) (F := vS S hr aim wc) (g := 0) he S hiS
      rw [← vS_eq hS pu] at hb
      have h1 := hb.1
      refine ⟨fun w => ?_, fun w => ?_⟩
      · rw [if_pos (c3.mp w)] at h1
        omega
      · rw [if_neg (fun z => w (c3.mpr z)), ← c4 w] at h1
        omega
theorem sr_uppC {S : Nat} (hS : S ≤ 4) {hr : Nat → Nat} {aim cap : Nat} {wc : Nat → Nat → Bool} {ini tm : Nat → Prop} {suc : Nat → Nat → Prop} {pi co cn : Nat → Nat} (hlt : ∀ s t, suc s t → s < t) (hp : ∀ t, okS ini tm suc t → ¬ tm t → pi t < 2048) (hex : ∀ u i, okS ini tm suc u → ¬ tm u → co u < cap → i < S → exS (pi u) i < 3 → ∃ t, suc u t ∧ cn t = cn u ∧ co t = co u + (16 * hr i + 1) ∧ (tm t ↔ (wc (pi u) i = true ∧ i = aim)) ∧ (¬ tm t → pi t = (if wc (pi u) i = true then thS (pi u) i else nxS (pi u) i))) : ∀ d u, 12 - totS (pi u) < d → okS ini tm suc u → ¬ tm u → vS S hr aim wc (pi u) 0 < 1048576 → co u + vS S hr aim wc (pi u) 0 < cap → ∃ t, okS ini tm suc t ∧ tm t ∧ cn t = cn u ∧ co t = co u + vS S hr aim wc (pi u) 0 := by
  intro d
  induction d with
  | zero => intro u h; omega
  | succ d ih =>
    intro u hd hok htu hv hcap
    have pu := hp u hok htu
    rw [vS_eq hS pu] at hv hcap ⊢
    obtain ⟨i, hiS, he, hc⟩ := vIS_at S hv
    obtain ⟨t, s1, s2, s3, s4, s5⟩ := hex u i hok htu (by omega) hiS he
    have hcd := codeS (pi u) pu i (by omega) he
    rcases hc with hc | ⟨hg, _⟩
    · rw [hc] at hv hcap ⊢
      have hot := ok_suc hlt hok htu s1
      by_cases w : tm t
      · refine ⟨t, hot, w, s2, ?_⟩
        rw [if_pos (s4.mp w)]; omega
      · rw [if_neg (fun z => w (s4.mpr z)), ← s5 w] at hv hcap ⊢
        have htot : totS (pi t) = totS (pi u) + 1 := by
          rw [s5 w]
          by_cases w2 : wc (pi u) i = true
          · rw [if_pos w2]; exact hcd.2.1
          · rw [if_neg w2]; exact hcd.1
        have hi2 := ih t (by omega) hot w (by omega) (by omega)
        obtain ⟨t2, q1, q2, q3, q4⟩ := hi2
        exact ⟨t2, q1, q2, by rw [q3, s2], by rw [q4]; omega⟩
    · omega
