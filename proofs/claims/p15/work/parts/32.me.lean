/-! the conditions of the model's laws -/
def wn (W : Nat → Int32) : Nat → Int
  | 0 => 0
  | n + 1 => wn W n + (if (W n).toInt / 1048576 = 10 then 1 else 0)
theorem wn_nn {W : Nat → Int32} : ∀ n, 0 ≤ wn W n := by
  intro n
  induction n with
  | zero => exact Int.le_refl _
  | succ n ih =>
    show 0 ≤ wn W n + (if (W n).toInt / 1048576 = 10 then 1 else 0)
    by_cases q : (W n).toInt / 1048576 = 10
    · rw [if_pos q]; omega
    · rw [if_neg q]; omega
theorem wn_cg {W W' : Nat → Int32} : ∀ n, (∀ i, i < n → W' i = W i) → wn W' n = wn W n := by
  intro n
  induction n with
  | zero => intro _; rfl
  | succ n ih =>
    intro h
    show wn W' n + (if (W' n).toInt / 1048576 = 10 then 1 else 0) = wn W n + (if (W n).toInt / 1048576 = 10 then 1 else 0)
    rw [ih (fun i hi => h i (by omega)), h n (by omega)]
theorem wn_y {W : Nat → Int32} {n : Nat} (h : (W n).toInt / 1048576 = 10) : wn W (n + 1) = wn W n + 1 := by
  show wn W n + (if (W n).toInt / 1048576 = 10 then 1 else 0) = _
  rw [if_pos h]
theorem wn_n {W : Nat → Int32} {n : Nat} (h : ¬ (W n).toInt / 1048576 = 10) : wn W (n + 1) = wn W n := by
  show wn W n + (if (W n).toInt / 1048576 = 10 then 1 else 0) = _
  rw [if_neg h]; omega
def Pw (W : Nat → Int32) (wt : Int) (k : Nat) : Prop := ∃ i : Nat, (i : Int) < wt ∧ ((W i).toInt / 1048576 = 11 ∨ (W i).toInt / 1048576 = 12) ∧ ((W i).toInt % 1048576).toNat = k
def BJ (f : Nat) (d s : Int) (C0 : Nat → Int32) (pl len wt cm : Int) (W C : Nat → Int32) : Prop :=
  (pl ≤ len ∧ 0 ≤ wt ∧ wt ≤ pl ∧ 0 ≤ cm ∧ cm + wn W wt.toNat + s ≤ pl) ∧ (W 0).toInt / 1048576 = 13 ∧
  (∀ i : Nat, (i : Int) < wt → ¬ (2 ≤ (W i).toInt / 1048576 ∧ (W i).toInt / 1048576 ≤ 6) ∧ ((W i).toInt / 1048576 = 11 ∨ (W i).toInt / 1048576 = 12 → f ≤ ((W i).toInt % 1048576).toNat ∧ (W i).toInt % 1048576 < cm ∧ (C ((W i).toInt % 1048576).toNat).toInt / 1048576 = (W i).toInt / 1048576)) ∧
  (∀ k, k < f → C k = C0 k) ∧ CI f d (Pw W wt) C cm.toNat
theorem BJ_s {f : Nat} {d s s' : Int} {C0 W C : Nat → Int32} {pl len wt cm : Int} (h : BJ f d s C0 pl len wt cm W C) (hs : s' ≤ s) : BJ f d s' C0 pl len wt cm W C := by
  obtain ⟨h1, h2⟩ := h
  exact ⟨by omega, h2⟩
theorem BJ_pl {f : Nat} {d s : Int} {C0 W C : Nat → Int32} {pl pl' len wt cm : Int} (h : BJ f d s C0 pl len wt cm W C) (h1 : pl ≤ pl') (h2 : pl' ≤ len) : BJ f d (s + (pl' - pl)) C0 pl' len wt cm W C := by
  obtain ⟨h3, h4⟩ := h
  exact ⟨by omega, h4⟩
theorem BJ_SJ {f : Nat} {d s : Int} {C0 W C : Nat → Int32} {pl len wt cm : Int} (h : BJ f d s C0 pl len wt cm W C) : SJ f cm.toNat wt.toNat d (wn W wt.toNat + s) (Pw W wt) W C pl len wt cm W C := by
  obtain ⟨h1, h2, h3, h4, h5⟩ := h
  have q := wc_base (W := W) (b := wt.toNat) wt.toNat (Nat.le_refl _)
  refine ⟨by rw [q]; omega, fun i i1 i2 => absurd i1 (by omega), fun _ _ => rfl, fun _ _ => rfl, ?_⟩
  rw [q, show d + 0 = d by omega]
  exact h5
theorem BJ_nk {f : Nat} {d s : Int} {C0 W C : Nat → Int32} {pl len wt cm : Int} (h : BJ f d s C0 pl len wt cm W C) : ∀ i, i < wt.toNat → ¬ (2 ≤ (W i).toInt / 1048576 ∧ (W i).toInt / 1048576 ≤ 6) := fun i hi => (h.2.2.1 i (by omega)).1
theorem BJ_sum {f : Nat} {d d' s : Int} {C0 W C W' C' : Nat → Int32} {pl len wt cm pl' len' wt' cm' : Int} (h : BJ f d s C0 pl len wt cm W C) (hw1 : 1 ≤ wt) (hs : SJ f cm.toNat wt.toNat d' (wn W wt.toNat + s) (Pw W wt) W C pl' len' wt' cm' W' C') (hwt : wt' = wt) : BJ f d' s C0 pl' len' wt' cm' W' C' := by
  subst hwt
  obtain ⟨h1, h2, h3, h4, h5⟩ := h
  obtain ⟨j1, j2, j3, j4, j5⟩ := hs
  have q := wc_base (W := W') (b := wt'.toNat) wt'.toNat (Nat.le_refl _)
  rw [q] at j1 j5
  have hW : ∀ i : Nat, (i : Int) < wt' → W' i = W i := fun i hi => j3 i (by omega)
  have hf := (CI_pos h5).2
  refine ⟨by rw [wn_cg _ j3]; omega, by rw [hW 0 (by omega)]; exact h2, fun i hi => ?_, fun k hk => by rw [j4 k (by omega)]; exact h4 k hk, ?_⟩
  · rw [hW i hi]
    refine ⟨(h3 i hi).1, fun hk => ?_⟩
    obtain ⟨a1, a2, a3⟩ := (h3 i hi).2 hk
    exact ⟨a1, by omega, by rw [j4 _ (by omega)]; exact a3⟩
  · rw [show d' + 0 = d' by omega] at j5
    refine CI_cg j5 (fun _ _ => rfl) (fun k _ p => ?_)
    obtain ⟨i, i1, i2, i3⟩ := p
    exact ⟨i, i1, by rw [hW i i1]; exact i2, by rw [hW i i1]; exact i3⟩
theorem BJ_note {f : Nat} {d d' s : Int} {C0 W C C' : Nat → Int32} {pl len wt cm cm' : Int} (h : BJ f d s C0 pl len wt cm W C) (hcm : cm' = cm + 1) (hc : ∀ k, k ≠ cm.toNat → C' k = C k)
    (hn : ((C' cm.toNat).toInt / 1048576 = 10 ∧ 1 ≤ d ∧ d' = d) ∨ (2 ≤ (C' cm.toNat).toInt / 1048576 ∧ (C' cm.toNat).toInt / 1048576 ≤ 9 ∧ 2 ≤ d ∧ d' + 1 = d)) : BJ f d' (s - 1) C0 pl len wt cm' W C' := by
  obtain ⟨h1, h2, h3, h4, h5⟩ := h
  have h6 := CI_pos h5
  refine ⟨by omega, h2, fun i hi => ⟨(h3 i hi).1, fun hk => ?_⟩, fun k hk => by rw [hc k (by omega)]; exact h4 k hk, ?_⟩
  · obtain ⟨a1, a2, a3⟩ := (h3 i hi).2 hk
    have := Int.emod_nonneg (W i).toInt (show (1048576 : Int) ≠ 0 by decide)
    exact ⟨a1, by omega, by rw [hc _ (by omega)]; exact a3⟩
  · rw [show cm'.toNat = cm.toNat + 1 by omega]
    refine CI_ext h5 (fun k hk => hc k (by omega)) (fun k _ p => p) (by omega) ?_
    rcases hn with a | a
    · exact Or.inr (Or.inr (Or.inl a))
    · exact Or.inr (Or.inr (Or.inr (Or.inr a)))
theorem BJ_pop {f : Nat} {d s : Int} {C0 W C : Nat → Int32} {pl len wt wt' cm : Int} (h : BJ f d s C0 pl len wt cm W C) (h1 : wt' = wt - 1) (h2 : 1 ≤ wt) (h3 : ¬ ((W wt'.toNat).toInt / 1048576 = 11 ∨ (W wt'.toNat).toInt / 1048576 = 12)) : BJ f d s C0 pl len wt' cm W C ∧ ((W wt'.toNat).toInt / 1048576 = 10 → BJ f d (s + 1) C0 pl len wt' cm W C) := by
  obtain ⟨g1, g2, g3, g4, g5⟩ := h
  have e : wt.toNat = wt'.toNat + 1 := by omega
  have hci : CI f d (Pw W wt') C cm.toNat := by
    refine CI_cg g5 (fun _ _ => rfl) (fun k _ p => ?_)
    obtain ⟨i, i1, i2, i3⟩ := p
    by_cases q : i = wt'.toNat
    · subst q; exact absurd i2 h3
    · exact ⟨i, by omega, i2, i3⟩
  have hn : wn W wt.toNat = wn W wt'.toNat ∨ ((W wt'.toNat).toInt / 1048576 = 10 ∧ wn W wt.toNat = wn W wt'.toNat + 1) := by
    rw [e]
    by_cases q : (W wt'.toNat).toInt / 1048576 = 10
    · exact Or.inr ⟨q, wn_y q⟩
    · exact Or.inl (wn_n q)
  refine ⟨⟨by omega, g2, fun i hi => g3 i (by omega), g4, hci⟩, fun hk => ⟨?_, g2, fun i hi => g3 i (by omega), g4, hci⟩⟩
  have := wn_y hk
  rw [← e] at this
  omega
theorem BJ_land {f : Nat} {s : Int} {C0 W C C' : Nat → Int32} {pl len wt wt' cm : Int} {j : Nat} (h : BJ f 1 s C0 pl len wt cm W C) (h1 : wt' = wt - 1) (h2 : 1 ≤ wt) (h3 : (W wt'.toNat).toInt / 1048576 = 11 ∨ (W wt'.toNat).toInt / 1048576 = 12) (hj : j = ((W wt'.toNat).toInt % 1048576).toNat) (hcm : cm < 1048576) (hc : ∀ k, k ≠ j → C' k = C k) (hcj : (C' j).toInt = 1048576 * ((C j).toInt / 1048576) + cm) : BJ f 1 s C0 pl len wt' cm W C' := by
  obtain ⟨g1, g2, g3, g4, g5⟩ := h
  have e : wt.toNat = wt'.toNat + 1 := by omega
  obtain ⟨a1, a2, a3⟩ := (g3 wt'.toNat (by omega)).2 h3
  have hmod := Int.emod_nonneg (W wt'.toNat).toInt (show (1048576 : Int) ≠ 0 by decide)
  rw [← hj] at a1 a3
  have hop : (C' j).toInt / 1048576 = (C j).toInt / 1048576 := by omega
  have hn : wn W wt.toNat = wn W wt'.toNat := by rw [e]; exact wn_n (by omega)
  refine ⟨by omega, g2, fun i hi => ⟨(g3 i (by omega)).1, fun hk => ?_⟩, fun k hk => by rw [hc k (by omega)]; exact g4 k hk, ?_⟩
  · obtain ⟨b1, b2, b3⟩ := (g3 i (by omega)).2 hk
    refine ⟨b1, b2, ?_⟩
    by_cases q : ((W i).toInt % 1048576).toNat = j
    · rw [q, hop, ← q]; exact b3
    · rw [hc _ q]; exact b3
  · refine CI_land g5 (j := j) (by omega) a1 (by omega) hc (by omega) (by omega) (fun k _ kj p => ?_)
    obtain ⟨i, i1, i2, i3⟩ := p
    by_cases q : i = wt'.toNat
    · subst q; exact absurd (i3.symm.trans hj.symm) kj
    · exact ⟨i, by omega, i2, i3⟩
theorem BJ_push {f : Nat} {d s : Int} {C0 W W' C : Nat → Int32} {pl pl' len wt wt' cm : Int} (h : BJ f d s C0 pl len wt cm W C) (h0 : 1 ≤ wt) (h1 : wt' = wt + 1) (h2 : pl' = pl + 1) (h3 : pl' ≤ len) (hw : ∀ i, i ≠ wt.toNat → W' i = W i) (h4 : (W' wt.toNat).toInt / 1048576 = 10 ∨ (W' wt.toNat).toInt / 1048576 = 13) : BJ f d s C0 pl' len wt' cm W' C := by
  obtain ⟨g1, g2, g3, g4, g5⟩ := h
  have e : wt'.toNat = wt.toNat + 1 := by omega
  have hcg := wn_cg (W := W) (W' := W') wt.toNat (fun i hi => hw i (by omega))
  have hn : wn W' wt'.toNat ≤ wn W wt.toNat + 1 := by
    rw [e]
    by_cases q : (W' wt.toNat).toInt / 1048576 = 10
    · rw [wn_y q, hcg]; omega
    · rw [wn_n q, hcg]; omega
  refine ⟨by omega, by rw [hw 0 (by omega)]; exact g2, fun i hi => ?_, g4, ?_⟩
  · by_cases q : i = wt.toNat
    · subst q; exact ⟨by omega, fun hk => by omega⟩
    · rw [hw i q]; exact g3 i (by omega)
  · refine CI_cg g5 (fun _ _ => rfl) (fun k _ p => ?_)
    obtain ⟨i, i1, i2, i3⟩ := p
    exact ⟨i, by omega, by rw [hw i (by omega)]; exact i2, by rw [hw i (by omega)]; exact i3⟩
theorem BJ_jump {f : Nat} {s : Int} {C0 W W' C C' : Nat → Int32} {pl pl' len wt wt' cm cm' : Int} {a : Int} (h : BJ f 1 s C0 pl len wt cm W C) (h0 : 1 ≤ wt) (h1 : wt' = wt + 1) (h2 : pl' = pl + 1) (h3 : pl' ≤ len) (hcm : cm' = cm + 1) (hc1 : cm < 1048576) (ha : a = 11 ∨ a = 12) (hw : ∀ i, i ≠ wt.toNat → W' i = W i) (h4 : (W' wt.toNat).toInt = 1048576 * a + cm) (hc : ∀ k, k ≠ cm.toNat → C' k = C k) (h5 : (C' cm.toNat).toInt = 1048576 * a + 0) : BJ f 0 s C0 pl' len wt' cm' W' C' := by
  obtain ⟨g1, g2, g3, g4, g5⟩ := h
  have e : wt'.toNat = wt.toNat + 1 := by omega
  have h6 := CI_pos g5
  have hn : wn W' wt'.toNat = wn W wt.toNat := by
    rw [e, wn_n (by omega), wn_cg _ (fun i hi => hw i (by omega))]
  have e1 : (W' wt.toNat).toInt / 1048576 = a := by omega
  have e2 : (W' wt.toNat).toInt % 1048576 = cm := by omega
  refine ⟨by omega, by rw [hw 0 (by omega)]; exact g2, fun i hi => ?_, fun k hk => by rw [hc k (by omega)]; exact g4 k hk, ?_⟩
  · by_cases q : i = wt.toNat
    · subst q
      rw [e1, e2]
      refine ⟨by omega, fun _ => ⟨by omega, by omega, by omega⟩⟩
    · rw [hw i q]
      refine ⟨(g3 i (by omega)).1, fun hk => ?_⟩
      obtain ⟨b1, b2, b3⟩ := (g3 i (by omega)).2 hk
      have hmod := Int.emod_nonneg (W i).toInt (show (1048576 : Int) ≠ 0 by decide)
      exact ⟨b1, by omega, by rw [hc _ (by omega)]; exact b3⟩
  · rw [show cm'.toNat = cm.toNat + 1 by omega]
    refine CI_ext g5 (fun k hk => hc k (by omega)) (fun k _ p => ?_) (by omega) ?_
    · obtain ⟨i, i1, i2, i3⟩ := p
      exact ⟨i, by omega, by rw [hw i (by omega)]; exact i2, by rw [hw i (by omega)]; exact i3⟩
    · refine Or.inr (Or.inr (Or.inr (Or.inl ⟨by omega, rfl, rfl, ?_⟩)))
      exact ⟨wt.toNat, by omega, by omega, by rw [e2]⟩
abbrev BI (f : Nat) (d s : Int) (C0 : Nat → Int32) (M : qM) : Prop := BJ f d s C0 (M 77 9).toInt (M 77 10).toInt (M 77 15).toInt (M 77 14).toInt (M 86) (M 85)
theorem BI_mk {f : Nat} {d s : Int} {C0 W C : Nat → Int32} {pl len wt cm : Int} {m : qM} (h : BJ f d s C0 pl len wt cm W C) (e1 : (m 77 9).toInt = pl) (e2 : (m 77 10).toInt = len) (e3 : (m 77 15).toInt = wt) (e4 : (m 77 14).toInt = cm) (e5 : m 86 = W) (e6 : m 85 = C) : BI f d s C0 m := by
  subst e1; subst e2; subst e3; subst e4; subst e5; subst e6
  exact h
