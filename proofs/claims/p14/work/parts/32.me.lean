/-! the conditions of the model's laws -/
def wn (W : Nat → Int32) : Nat → Int
  | 0 => 0
  | n + 1 => wn W n + (if (W n).toInt / 1048576 = 10 then 1 else 0)
theorem wn_nn {W : Nat → Int32} : ∀ n, 0 ≤ wn W n := by
  intro n
  induction n with
  | zero => exact Int.le_refl _
  | succ n ih =>
    show 0 ≤ wn W n + (if (W n).toInt / 1048576 = 10 then 1 else 0)
    by_cases q : (W n).toInt / 1048576 = 10
    · rw [if_pos q]; omega
    · rw [if_neg q]; omega
theorem wn_cg {W W' : Nat → Int32} : ∀ n, (∀ i, i < n → W' i = W i) → wn W' n = wn W n := by
  intro n
  induction n with
  | zero => intro _; rfl
  | succ n ih =>
    intro h
    show wn W' n + (if (W' n).toInt / 1048576 = 10 then 1 else 0) = wn W n + (if (W n).toInt / 1048576 = 10 then 1 else 0)
    rw [ih (fun i hi => h i (by omega)), h n (by omega)]
theorem wn_y {W : Nat → Int32} {n : Nat} (h : (W n).toInt / 1048576 = 10) : wn W (n + 1) = wn W n + 1 := by
  show wn W n + (if (W n).toInt / 1048576 = 10 then 1 else 0) = _
  rw [if_pos h]
theorem wn_n {W : Nat → Int32} {n : Nat} (h : ¬ (W n).toInt / 1048576 = 10) : wn W (n + 1) = wn W n := by
  show wn W n + (if (W n).toInt / 1048576 = 10 then 1 else 0) = _
  rw [if_neg h]; omega
def Pw (W : Nat → Int32) (wt : Int) (k : Nat) : Prop := ∃ i : Nat, (i : Int) < wt ∧ ((W i).toInt / 1048576 = 11 ∨ (W i).toInt / 1048576 = 12) ∧ ((W i).toInt % 1048576).toNat = k
def BJ (f : Nat) (d s : Int) (C0 : Nat → Int32) (pl len wt cm : Int) (W C : Nat → Int32) : Prop :=
  (pl ≤ len ∧ 0 ≤ wt ∧ wt ≤ pl ∧ 0 ≤ cm ∧ cm + wn W wt.toNat + s ≤ pl) ∧ (W 0).toInt / 1048576 = 13 ∧
  (∀ i : Nat, (i : Int) < wt → ¬ (2 ≤ (W i).toInt / 1048576 ∧ (W i).toInt / 1048576 ≤ 6) ∧ ((W i).toInt / 1048576 = 11 ∨ (W i).toInt / 1048576 = 12 → f ≤ ((W i).toInt % 1048576).toNat ∧ (W i).toInt % 1048576 < cm ∧ (C ((W i).toInt % 1048576).toNat).toInt / 1048576 = (W i).toInt / 1048576)) ∧
  (∀ k, k < f → C k = C0 k) ∧ CI f d (Pw W wt) C cm.toNat
theorem BJ_s {f : Nat} {d s s' : Int} {C0 W C : Nat → Int32} {pl len wt cm : Int} (h : BJ f d s C0 pl len wt cm W C) (hs : s' ≤ s) : BJ f d s' C0 pl len wt cm W C := by
  obtain ⟨h1, h2⟩ := h
  exact ⟨by omega, h2⟩
theorem BJ_pl {f : Nat} {d s : Int} {C0 W C : Nat → Int32} {pl pl' len wt cm : Int} (h : BJ f d s C0 pl len wt cm W C) (h1 : pl ≤ pl') (h2 : pl' ≤ len) : BJ f d (s + (pl' - pl)) C0 pl' len wt cm W C := by
  obtain ⟨h3, h4⟩ := h
  exact ⟨by omega, h4⟩
theorem BJ_SJ {f : Nat} {d s : Int} {C0 W C : Nat → Int32} {pl len wt cm : Int} (h : BJ f d s C0 pl len wt cm W C) : SJ f cm.toNat wt.toNat d (wn W wt.toNat + s) (Pw W wt) W C pl len wt cm W C := by
  obtain ⟨h1, h2, h3, h4, h5⟩ := h
  have q := wc_base (W := W) (b := wt.toNat) wt.toNat (Nat.le_refl _)
  refine ⟨by rw [q]; omega, fun i i1 i2 => absurd i1 (by omega), fun _ _ => rfl, fun _ _ => rfl, ?_⟩
  rw [q, show d + 0 = d by omega]
  exact h5
theorem BJ_nk {f : Nat} {d s : Int} {C0 W C : Nat → Int32} {pl len wt cm : Int} (h : BJ f d s C0 pl len wt cm W C) : ∀ i, i < wt.toNat → ¬ (2 ≤ (W i).toInt / 1048576 ∧ (W i).toInt / 1048576 ≤ 6) := fun i hi => (h.2.2.1 i (by omega)).1
theorem BJ_sum {f : Nat} {d d' s : Int} {C0 W C W' C' : Nat → Int32} {pl len wt cm pl' len' wt' cm' : Int} (h : BJ f d s C0 pl len wt cm W C) (hw1 : 1 ≤ wt) (hs : SJ f cm.toNat wt.toNat d' (wn W wt.toNat + s) (Pw W wt) W C pl' len' wt' cm' W' C') (hwt : wt' = wt) : BJ f d' s C0 pl' len' wt' cm' W' C' := by
  subst hwt
  obtain ⟨h1, h2, h3, h4, h5⟩ := h
  obtain ⟨j1, j2, j3, j4, j5⟩ := hs
  have q := wc_base (W := W') (b := wt'.toNat) wt'.toNat (Nat.le_refl _)
  rw [q] at j1 j5
  have hW : ∀ i : Nat, (i : Int) < wt' → W' i = W i := fun i hi => j3 i (by omega)
  have hf := (CI_pos h5).2
  refine ⟨by rw [wn_cg _ j3]; omega, by rw [hW 0 (by omega)]; exact h2, fun i hi => ?_, fun k hk => by rw [j4 k (by omega)]; exact h4 k hk, ?_⟩
  · rw [hW i hi]
    refine ⟨(h3 i hi).1, fun hk => ?_⟩
    obtain ⟨a1, a2, a3⟩ := (h3 i hi).2 hk
    exact ⟨a1, by omega, by rw [j4 _ (by omega)]; exact a3⟩
  · rw [show d' + 0 = d' by omega] at j5
    refine CI_cg j5 (fun _ _ => rfl) (fun k _ p => ?_)
    obtain ⟨i, i1, i2, i3⟩ := p
    exact ⟨i, i1, by rw [hW i i1]; exact i2, by rw [hW i i1]; exact i3⟩
theorem BJ_note {f : Nat} {d d' s : Int} {C0 W C C' : Nat → Int32} {pl len wt cm cm' : Int} (h : BJ f d s C0 pl len wt cm W C) (hcm : cm' = cm + 1) (hc : ∀ k, k ≠ cm.toNat → C' k = C k)
    (hn : ((C' cm.toNat).toInt / 1048576 = 10 ∧ 1 ≤ d ∧ d' = d) ∨ (2 ≤ (C' cm.toNat).toInt / 1048576 ∧ (C' cm.toNat).toInt / 1048576 ≤ 9 ∧ 2 ≤ d ∧ d' + 1 = d)) : BJ f d' (s - 1) C0 pl len wt cm' W C' := by
  obtain ⟨h1, h2, h3, h4, h5⟩ := h
  have h6 := CI_pos h5
  refine ⟨by omega, h2, fun i hi => ⟨(h3 i hi).1, fun hk => ?_⟩, fun k hk => by rw [hc k (by omega)]; exact h4 k hk, ?_⟩
  · obtain ⟨a1, a2, a3⟩ := (h3 i hi).2 hk
    have := Int.emod_nonneg (W i).toInt (show (1048576 : Int) ≠ 0 by decide)
    exact ⟨a1, by omega, by rw [hc _ (by omega)]; exact a3⟩
  · rw [show cm'.toNat = cm.toNat + 1 by omega]
    refine CI_ext h5 (fun k hk => hc k (by omega)) (fun k _ p => p) (by omega) ?_
    rcases hn with a | a
    · exact Or.inr (Or.inr (Or.inl a))
    · exact Or.inr (Or.inr (Or.inr (Or.inr a)))
theorem BJ_pop {f : Nat} {d s : Int} {C0 W C : Nat → Int32} {pl len wt wt' cm : Int} (h : BJ f d s C0 pl len wt cm W C) (h1 : wt' = wt - 1) (h2 : 1 ≤ wt) (h3 : ¬ ((W wt'.toNat).toInt / 1048576 = 11 ∨ (W wt'.toNat).toInt / 1048576 = 12)) : BJ f d s C0 pl len wt' cm W C ∧ ((W wt'.toNat).toInt / 1048576 = 10 → BJ f d (s + 1) C0 pl len wt' cm W C) := by
  obtain ⟨g1, g2, g3, g4, g5⟩ := h
  have e : wt.toNat = wt'.toNat + 1 := by omega
  have hci : CI f d (Pw W wt') C cm.toNat := by
    refine CI_cg g5 (fun _ _ => rfl) (fun k _ p => ?_)
    obtain ⟨i, i1, i2, i3⟩ := p
    by_cases q : i = wt'.toNat
    · subst q; exact absurd i2 h3
    · exact ⟨i, by omega, i2, i3⟩
  have hn : wn W wt.toNat = wn W wt'.toNat ∨ ((W wt'.toNat).toInt / 1048576 = 10 ∧ wn W wt.toNat = wn W wt'.toNat + 1) := by
    rw [e]
    by_cases q : (W wt'.toNat).toInt / 1048576 = 10
    · exact Or.inr ⟨q, wn_y q⟩
    · exact Or.inl (wn_n q)
  refine ⟨⟨by omega, g2, fun i hi => g3 i (by omega), g4, hci⟩, fun hk => ⟨?_, g2, fun i hi => g3 i (by omega), g4, hci⟩⟩
  have := wn_y hk
  rw [← e] at this
  omega
theorem BJ_land {f : Nat} {s : Int} {C0 W C C' : Nat → Int32} {pl len wt wt' cm : Int} {j : Nat} (h : BJ f 1 s C0 pl len wt cm W C) (h1 : wt' = wt - 1) (h2 : 1 ≤ wt) (h3 : (W wt'.toNat).toInt / 1048576 = 11 ∨ (W wt'.toNat).toInt / 1048576 = 12) (hj : j = ((W wt'.toNat).toInt % 1048576).toNat) (hcm : cm < 1048576) (hc : ∀ k, k ≠ j → C' k = C k) (hcj : (C' j).toInt = 1048576 * ((C j).toInt / 1048576) + cm) : BJ f 1 s C0 pl len wt' cm W C' := by
  obtain ⟨g1, g2, g3, g4, g5⟩ := h
  have e : wt.toNat = wt'.toNat + 1 := by omega
  obtain ⟨a1, a2, a3⟩ := (g3 wt'.toNat (by omega)).2 h3
  have hmod := Int.emod_nonneg (W wt'.toNat).toInt (show (1048576 : Int) ≠ 0 by decide)
  rw [← hj] at a1 a3
  have hop : (C' j).toInt / 1048576 = (C j).toInt / 1048576 := by omega
  have hn : wn W wt.toNat = wn W wt'.toNat := by rw [e]; exact wn_n (by omega)
  refine ⟨by omega, g2, fun i hi => ⟨(g3 i (by omega)).1, fun hk => ?_⟩, fun k hk => by rw [hc k (by omega)]; exact g4 k hk, ?_⟩
  · obtain ⟨b1, b2, b3⟩ := (g3 i (by omega)).2 hk
    refine ⟨b1, b2, ?_⟩
    by_cases q : ((W i).toInt % 1048576).toNat = j
    · rw [q, hop, ← q]; exact b3
    · rw [hc _ q]; exact b3
  · refine CI_land g5 (j := j) (by omega) a1 (by omega) hc (by omega) (by omega) (fun k _ kj p => ?_)
    obtain ⟨i, i1, i2, i3⟩ := p
    by_cases q : i = wt'.toNat
    · subst q; exact absurd (i3.symm.trans hj.symm) kj
    · exact ⟨i, by omega, i2, i3⟩
theorem BJ_push {f : Nat} {d s : Int} {C0 W W' C : Nat → Int32} {pl pl' len wt wt' cm : Int} (h : BJ f d s C0 pl len wt cm W C) (h0 : 1 ≤ wt) (h1 : wt' = wt + 1) (h2 : pl' = pl + 1) (h3 : pl' ≤ len) (hw : ∀ i, i ≠ wt.toNat → W' i = W i) (h4 : (W' wt.toNat).toInt / 1048576 = 10 ∨ (W' wt.toNat).toInt / 1048576 = 13) : BJ f d s C0 pl' len wt' cm W' C := by
  obtain ⟨g1, g2, g3, g4, g5⟩ := h
  have e : wt'.toNat = wt.toNat + 1 := by omega
  have hcg := wn_cg (W := W) (W' := W') wt.toNat (fun i hi => hw i (by omega))
  have hn : wn W' wt'.toNat ≤ wn W wt.toNat + 1 := by
    rw [e]
    by_cases q : (W' wt.toNat).toInt / 1048576 = 10
    · rw [wn_y q, hcg]; omega
    · rw [wn_n q, hcg]; omega
  refine ⟨by omega, by rw [hw 0 (by omega)]; exact g2, fun i hi => ?_, g4, ?_⟩
  · by_cases q : i = wt.toNat
    · subst q; exact ⟨by omega, fun hk => by omega⟩
    · rw [hw i q]; exact g3 i (by omega)
  · refine CI_cg g5 (fun _ _ => rfl) (fun k _ p => ?_)
    obtain ⟨i, i1, i2, i3⟩ := p
    exact ⟨i, by omega, by rw [hw i (by omega)]; exact i2, by rw [hw i (by omega)]; exact i3⟩
theorem BJ_jump {f : Nat} {s : Int} {C0 W W' C C' : Nat → Int32} {pl pl' len wt wt' cm cm' : Int} {a : Int} (h : BJ f 1 s C0 pl len wt cm W C) (h0 : 1 ≤ wt) (h1 : wt' = wt + 1) (h2 : pl' = pl + 1) (h3 : pl' ≤ len) (hcm : cm' = cm + 1) (hc1 : cm < 1048576) (ha : a = 11 ∨ a = 12) (hw : ∀ i, i ≠ wt.toNat → W' i = W i) (h4 : (W' wt.toNat).toInt = 1048576 * a + cm) (hc : ∀ k, k ≠ cm.toNat → C' k = C k) (h5 : (C' cm.toNat).toInt = 1048576 * a + 0) : BJ f 0 s C0 pl' len wt' cm' W' C' := by
  obtain ⟨g1, g2, g3, g4, g5⟩ := h
  have e : wt'.toNat = wt.toNat + 1 := by omega
  have h6 := CI_pos g5
  have hn : wn W' wt'.toNat = wn W wt.toNat := by
    rw [e, wn_n (by omega), wn_cg _ (fun i hi => hw i (by omega))]
  have e1 : (W' wt.toNat).toInt / 1048576 = a := by omega
  have e2 : (W' wt.toNat).toInt % 1048576 = cm := by omega
  refine ⟨by omega, by rw [hw 0 (by omega)]; exact g2, fun i hi => ?_, fun k hk => by rw [hc k (by omega)]; exact g4 k hk, ?_⟩
  · by_cases q : i = wt.toNat
    · subst q
      rw [e1, e2]
      refine ⟨by omega, fun _ => ⟨by omega, by omega, by omega⟩⟩
    · rw [hw i q]
      refine ⟨(g3 i (by omega)).1, fun hk => ?_⟩
      obtain ⟨b1, b2, b3⟩ := (g3 i (by omega)).2 hk
      have hmod := Int.emod_nonneg (W i).toInt (show (1048576 : Int) ≠ 0 by decide)
      exact ⟨b1, by omega, by rw [hc _ (by omega)]; exact b3⟩
  · rw [show cm'.toNat = cm.toNat + 1 by omega]
    refine CI_ext g5 (fun k hk => hc k (by omega)) (fun k _ p => ?_) (by omega) ?_
    · obtain ⟨i, i1, i2, i3⟩ := p
      exact ⟨i, by omega, by rw [hw i (by omega)]; exact i2, by rw [hw i (by omega)]; exact i3⟩
    · refine Or.inr (Or.inr (Or.inr (Or.inl ⟨by omega, rfl, rfl, ?_⟩)))
      exact ⟨wt.toNat, by omega, by omega, by rw [e2]⟩
abbrev BI (f : Nat) (d s : Int) (C0 : Nat → Int32) (M : qM) : Prop := BJ f d s C0 (M 77 9).toInt (M 77 10).toInt (M 77 15).toInt (M 77 14).toInt (M 86) (M 85)
theorem BI_mk {f : Nat} {d s : Int} {C0 W C : Nat → Int32} {pl len wt cm : Int} {m : qM} (h : BJ f d s C0 pl len wt cm W C) (e1 : (m 77 9).toInt = pl) (e2 : (m 77 10).toInt = len) (e3 : (m 77 15).toInt = wt) (e4 : (m 77 14).toInt = cm) (e5 : m 86 = W) (e6 : m 85 = C) : BI f d s C0 m := by
  subst e1; subst e2; subst e3; subst e4; subst e5; subst e6
  exact h

theorem m_ends {n : Nat} {f : Nat} {C0 : Nat → Int32} {M0 M1 : qM} : ∀ (m : Nat) (M : qM), G M → Sm lQ M0 M → BI f 1 0 C0 M → 1 ≤ (M 77 15).toInt → M 77 9 = M1 77 9 → (M 77 15).toInt < (m : Int) → qT (f_X12_endsPiece_0 n m M) (fun _ M' => BI f 1 0 C0 M' ∧ 1 ≤ (M' 77 15).toInt ∧ M' 77 9 = M1 77 9 ∧ G M' ∧ Sm lQ M0 M') := by
  intro m
  induction m with
  | zero => intro M hG _ _ h1 _ h; exfalso; omega
  | succ m ih =>
    intro M hG hS hI h1 hp hm
    have h15 := r_77_15 hG
    have h10 := r_77_10 hG
    have hI2 := hI
    obtain ⟨j1, j2, j3, j4, j5⟩ := hI2
    have hnn := wn_nn (W := M 86) (M 77 15).toInt.toNat
    show qT (b_X12_endsPiece_0 n (f_X12_endsPiece_0 n m) M) _
    unfold b_X12_endsPiece_0
    refine T_qc (m_top M hG) ?_
    rintro r1 m2 ⟨rfl, ht⟩
    refine T_eq rfl l_10 (fun c => ?_) (fun c => ?_)
    · have k10 : (m2 86 ((m2 77 15).toInt - 1).toNat).toInt / 1048576 = 10 := by omega
      have h2 : 2 ≤ (m2 77 15).toInt := by
        apply Classical.byContradiction
        intro q
        rw [show ((m2 77 15).toInt - 1).toNat = 0 by omega] at k10
        omega
      refine T_qc (m_notes (10 : Int32) 0 m2 hG hS (by rw [l_10]; omega) (by rw [l_0]; omega) (by omega)) ?_
      rintro _ m3 ⟨d1, d2, d3, d4, d5, g3, s3⟩
      rw [l_10, l_0] at d2
      have c15 : m3 77 15 = m2 77 15 := d4 15 (by decide)
      rw [c15]
      have ew : (m2 77 15 - 1).toInt = (m2 77 15).toInt - 1 := i_sub rfl l_1 (by omega) (by omega)
      refine T_w (Or.inr (by decide)) g3 s3 (i_rng (lo := 0) (hi := 260) ew (by omega) (by omega)) ?_
      intro m4 f1 f2 f3 g4 s4
      refine T_w (Or.inr (by decide)) g4 s4 trivial ?_
      intro m5 y1 y2 y3 g5 s5
      have w5 : (m5 77 15).toInt = (m2 77 15).toInt - 1 := by rw [y2 15 (by decide), f1]; exact ew
      have q1 := BJ_note (d' := 1) hI d1 d3 (Or.inl ⟨by rw [d2]; omega, by omega, rfl⟩)
      have q2 := (BJ_pop q1 w5 (by omega) (by rw [w5]; omega)).2 (by rw [w5]; exact k10)
      rw [show (0 : Int) - 1 + 1 = 0 by omega] at q2
      exact ih m5 g5 s5 (BI_mk q2 (by rw [y2 9 (by decide), f2 9 (by decide), d4 9 (by decide)]) (by rw [y2 10 (by decide), f2 10 (by decide), d4 10 (by decide)]) rfl (by rw [y2 14 (by decide), f2 14 (by decide)]) (by rw [y3 86 (by decide), f3 86 (by decide), d5 86 (by decide) (by decide)]) (by rw [y3 85 (by decide), f3 85 (by decide)])) (by omega) (by rw [y2 9 (by decide), f2 9 (by decide), d4 9 (by decide)]; exact hp) (by omega)
    · exact T_ret ⟨hI, h1, hp, hG, hS⟩
theorem m_lands {n : Nat} {f : Nat} {C0 : Nat → Int32} {M0 M1 : qM} (a : Int32) : ∀ (m : Nat) (M : qM), G M → Sm lQ M0 M → BI f 1 0 C0 M → 1 ≤ (M 77 15).toInt → M 77 9 = M1 77 9 → (M 77 15).toInt < (m : Int) → qT (f_X12_lands_0 n m a M) (fun _ M' => BI f 1 0 C0 M' ∧ 1 ≤ (M' 77 15).toInt ∧ M' 77 9 = M1 77 9 ∧ (a.toInt ≠ 0 → ¬ ((M' 86 ((M' 77 15).toInt - 1).toNat).toInt / 1048576 = 11 ∨ (M' 86 ((M' 77 15).toInt - 1).toNat).toInt / 1048576 = 12)) ∧ G M' ∧ Sm lQ M0 M') := by
  intro m
  induction m with
  | zero => intro M hG _ _ h1 _ h; exfalso; omega
  | succ m ih =>
    intro M hG hS hI h1 hp hm
    have h15 := r_77_15 hG
    have h10 := r_77_10 hG
    have h14 := r_77_14 hG
    have hI2 := hI
    obtain ⟨j1, j2, j3, j4, j5⟩ := hI2
    have hnn := wn_nn (W := M 86) (M 77 15).toInt.toNat
    have step : ((M 86 ((M 77 15).toInt - 1).toNat).toInt / 1048576 = 11 ∨ (M 86 ((M 77 15).toInt - 1).toNat).toInt / 1048576 = 12) → qT (f_X12_lands_22 n (f_X12_lands_0 n m) a M) (fun _ M' => BI f 1 0 C0 M' ∧ 1 ≤ (M' 77 15).toInt ∧ M' 77 9 = M1 77 9 ∧ (a.toInt ≠ 0 → ¬ ((M' 86 ((M' 77 15).toInt - 1).toNat).toInt / 1048576 = 11 ∨ (M' 86 ((M' 77 15).toInt - 1).toNat).toInt / 1048576 = 12)) ∧ G M' ∧ Sm lQ M0 M') := by
      intro hk
      have h2 : 2 ≤ (M 77 15).toInt := by
        apply Classical.byContradiction
        intro q
        rw [show ((M 77 15).toInt - 1).toNat = 0 by omega] at hk
        omega
      obtain ⟨a1, a2, a3⟩ := (j3 ((M 77 15).toInt - 1).toNat (by omega)).2 hk
      unfold f_X12_lands_22
      have e1 : (M 77 15 - 1).toInt = (M 77 15).toInt - 1 := i_sub rfl l_1 (by omega) (by omega)
      refine T_qg e1 (by omega) (by omega) ?_
      have h86 := r_86 hG (M 77 15 - 1).toNatClampNeg
      have ei : (M 77 15 - 1).toNatClampNeg = ((M 77 15).toInt - 1).toNat := by rw [tnc, e1]
      rw [ei] at h86 ⊢
      have hm2 := Int.emod_nonneg (M 86 ((M 77 15).toInt - 1).toNat).toInt (show (1048576 : Int) ≠ 0 by decide)
      refine T_ql (i_sub rfl (i_mul (i_div rfl l_1048576 h86.1 (by decide)) l_1048576 (by omega) (by omega)) (by omega) (by omega)) ?_
      intro x hx
      have hx2 : x.toInt = (M 86 ((M 77 15).toInt - 1).toNat).toInt % 1048576 := by omega
      refine T_qg rfl (by omega) (by omega) (T_qg rfl (by omega) (by omega) ?_)
      have h85 := r_85 hG x.toNatClampNeg
      have ev : ((1048576 : Int32) * (M 85 x.toNatClampNeg / 1048576) + M 77 14).toInt = 1048576 * ((M 85 x.toNatClampNeg).toInt / 1048576) + (M 77 14).toInt := i_add (i_mul l_1048576 (i_div rfl l_1048576 h85.1 (by decide)) (by omega) (by omega)) rfl (by omega) (by omega)
      have eo : (M 85 x.toNatClampNeg).toInt / 1048576 = (M 86 ((M 77 15).toInt - 1).toNat).toInt / 1048576 := by
        rw [tnc, hx2]; exact a3
      refine T_r (Or.inl rfl) hG hS (by rw [ev]; omega) ?_
      intro m2 b1 b2 b3 g2 s2
      have c15 : m2 77 15 = M 77 15 := by rw [b3 77 (by decide)]
      rw [c15]
      refine T_w (Or.inr (by decide)) g2 s2 (i_rng (lo := 0) (hi := 260) e1 (by omega) (by omega)) ?_
      intro m3 f1 f2 f3 g3 s3
      have w3 : (m3 77 15).toInt = (M 77 15).toInt - 1 := by rw [f1]; exact e1
      have q1 := BJ_land (C' := m3 85) (j := x.toNatClampNeg) hI w3 (by omega) (by rw [w3]; exact hk) (by rw [tnc, hx2, w3]) (by omega) (fun k hk2 => by rw [f3 85 (by decide)]; exact b2 k hk2) (by rw [f3 85 (by decide), b1]; exact ev)
      exact ih m3 g3 s3 (BI_mk q1 (by rw [f2 9 (by decide), b3 77 (by decide)]) (by rw [f2 10 (by decide), b3 77 (by decide)]) rfl (by rw [f2 14 (by decide), b3 77 (by decide)]) (by rw [f3 86 (by decide), b3 86 (by decide)]) rfl) (by omega) (by rw [f2 9 (by decide), b3 77 (by decide)]; exact hp) (by omega)
    show qT (b_X12_lands_0 n (f_X12_lands_0 n m) a M) _
    unfold b_X12_lands_0
    refine T_qc (m_top M hG) ?_
    rintro r1 m2 ⟨rfl, ht⟩
    refine T_eq rfl l_11 (fun c => ?_) (fun c => ?_)
    · exact step (by omega)
    · refine T_eq rfl l_0 (fun c0 => ?_) (fun c0 => ?_)
      · exact T_ret ⟨hI, h1, hp, fun h => absurd c0 h, hG, hS⟩
      · refine T_qc (m_top m2 hG) ?_
        rintro r3 m4 ⟨rfl, ht3⟩
        refine T_eq rfl l_12 (fun c3 => ?_) (fun c3 => ?_)
        · exact step (by omega)
        · exact T_ret ⟨hI, h1, hp, fun _ => by omega, hG, hS⟩
theorem m_jumps {n : Nat} {f : Nat} {C0 : Nat → Int32} {M0 : qM} (a : Int32) (M : qM) (hG : G M) (hS : Sm lQ M0 M) (hI : BI f 1 0 C0 M) (h1 : 1 ≤ (M 77 15).toInt) (hpl : (M 77 9).toInt < (M 77 10).toInt) (ha : a.toInt = 11 ∨ a.toInt = 12) : qT (f_X12_jumps n a M) (fun _ M' => BI f 0 0 C0 M' ∧ 1 ≤ (M' 77 15).toInt ∧ (M' 77 9).toInt = (M 77 9).toInt + 1 ∧ G M' ∧ Sm lQ M0 M') := by
  have h15 := r_77_15 hG
  have h10 := r_77_10 hG
  have h9 := r_77_9 hG
  have h14 := r_77_14 hG
  have hI2 := hI
  obtain ⟨j1, j2, j3, j4, j5⟩ := hI2
  have hnn := wn_nn (W := M 86) (M 77 15).toInt.toNat
  unfold f_X12_jumps
  refine T_qg rfl (by omega) (by omega) ?_
  have ev : ((1048576 : Int32) * a + M 77 14).toInt = 1048576 * a.toInt + (M 77 14).toInt := i_add (i_mul l_1048576 rfl (by omega) (by omega)) rfl (by omega) (by omega)
  refine T_r (Or.inr rfl) hG hS (by rw [ev]; omega) ?_
  intro m1 b1 b2 b3 g1 s1
  have c15 : m1 77 15 = M 77 15 := by rw [b3 77 (by decide)]
  rw [c15]
  have ew : (M 77 15 + 1).toInt = (M 77 15).toInt + 1 := i_add rfl l_1 (by omega) (by omega)
  refine T_w (Or.inr (by decide)) g1 s1 (i_rng (lo := 0) (hi := 260) ew (by omega) (by omega)) ?_
  intro m2 f1 f2 f3 g2 s2
  have c14 : m2 77 14 = M 77 14 := by rw [f2 14 (by decide), b3 77 (by decide)]
  refine T_qc (m_notes a 0 m2 g2 s2 (by omega) (by rw [l_0]; omega) (by rw [c14]; omega)) ?_
  rintro _ m3 ⟨d1, d2, d3, d4, d5, g3, s3⟩
  rw [c14] at d1 d2 d3
  rw [l_0] at d2
  have c9 : m3 77 9 = M 77 9 := by rw [d4 9 (by decide), f2 9 (by decide), b3 77 (by decide)]
  rw [c9]
  have ep : (M 77 9 + 1).toInt = (M 77 9).toInt + 1 := i_add rfl l_1 (by omega) (by omega)
  refine T_w (Or.inl rfl) g3 s3 (i_rng (lo := 0) (hi := 240) ep (by omega) (by omega)) ?_
  intro m4 y1 y2 y3 g4 s4
  have p4 : (m4 77 9).toInt = (M 77 9).toInt + 1 := by rw [y1]; exact ep
  have w4 : (m4 77 15).toInt = (M 77 15).toInt + 1 := by rw [y2 15 (by decide), d4 15 (by decide), f1]; exact ew
  have k4 : (m4 77 14).toInt = (M 77 14).toInt + 1 := by rw [y2 14 (by decide)]; exact d1
  have e86 : m4 86 = m1 86 := by rw [y3 86 (by decide), d5 86 (by decide) (by decide), f3 86 (by decide)]
  have e85 : m4 85 = m3 85 := y3 85 (by decide)
  have m285 : m2 85 = M 85 := by rw [f3 85 (by decide), b3 85 (by decide)]
  have b4 : m1 86 (M 77 15).toInt.toNat = 1048576 * a + M 77 14 := b1
  have q1 := BJ_jump (W' := m4 86) (C' := m4 85) (a := a.toInt) hI h1 w4 p4 (by omega) k4 (by omega) ha (fun i hi => by rw [e86]; exact b2 i hi) (by rw [e86, b4]; exact ev) (fun k hk => by rw [e85, d3 k hk, m285]) (by rw [e85]; exact d2)
  exact T_ret ⟨BI_mk q1 rfl (by rw [y2 10 (by decide), d4 10 (by decide), f2 10 (by decide), b3 77 (by decide)]) rfl rfl rfl rfl, by omega, p4, g4, s4⟩
theorem m_compared {n : Nat} (hn : 200000 ≤ n) {f : Nat} {C0 : Nat → Int32} {M0 : qM} (M : qM) (hG : G M) (hS : Sm lQ M0 M) (hI : BI f 0 0 C0 M) (h1 : 1 ≤ (M 77 15).toInt) : qT (f_X12_readsCompared n M) (fun v M' => (0 ≤ v.toInt ∧ v.toInt ≤ 1) ∧ (v.toInt = 0 ∨ (BI f 1 0 C0 M' ∧ 1 ≤ (M' 77 15).toInt ∧ (M 77 9).toInt ≤ (M' 77 9).toInt)) ∧ G M' ∧ Sm lQ M0 M') := by
  have hnn := wn_nn (W := M 86) (M 77 15).toInt.toNat
  unfold f_X12_readsCompared
  refine T_qc (m_sum hn (BJ_nk hI) (by omega) (by omega) M hG hS (BJ_SJ hI) (by omega)) ?_
  rintro r1 m2 ⟨t1, t2, g2, s2⟩
  refine T_eq rfl l_0 (fun c => ?_) (fun c => ?_)
  · exact T_ret ⟨⟨by decide, by decide⟩, Or.inl l_0, g2, s2⟩
  obtain ⟨u1, u2, u3⟩ := t2.resolve_left c
  have v1 : BI f (0 + 1) 0 C0 m2 := BJ_sum hI h1 u1 (by omega)
  rw [show (0 : Int) + 1 = 1 by omega] at v1
  have h92 := r_77_9 g2
  have h102 := r_77_10 g2
  have h152 := r_77_15 g2
  have key : ∀ s0 : Int32, (s0.toInt = -1 ∨ (7 ≤ s0.toInt ∧ s0.toInt ≤ 9 ∧ (m2 77 9).toInt < (m2 77 10).toInt)) → qT (f_X12_readsCompared_52 n s0 m2) (fun v M' => (0 ≤ v.toInt ∧ v.toInt ≤ 1) ∧ (v.toInt = 0 ∨ (BI f 1 0 C0 M' ∧ 1 ≤ (M' 77 15).toInt ∧ (M 77 9).toInt ≤ (M' 77 9).toInt)) ∧ G M' ∧ Sm lQ M0 M') := by
    intro s0 hs0
    unfold f_X12_readsCompared_52
    refine T_eq rfl l_m1 (fun d => ?_) (fun d => ?_)
    · refine T_qc (t_X12_wrongAt hn (1 : Int32) (m2 77 9) m2 g2 (by decide)) ?_
      rintro r m9 ⟨hr9, hg, hs9⟩
      exact T_qb rfl (by omega) (by omega) (T_ret ⟨by omega, Or.inl (by omega), hg, s2.tr (hs9.mono rfl)⟩)
    · obtain ⟨o1, o2, o3⟩ := hs0.resolve_left d
      have ep : (m2 77 9 + 1).toInt = (m2 77 9).toInt + 1 := i_add rfl l_1 (by omega) (by omega)
      refine T_w (Or.inl rfl) g2 s2 (i_rng (lo := 0) (hi := 240) ep (by omega) (by omega)) ?_
      intro m3 y1 y2 y3 g3 s3
      have p3 : (m3 77 9).toInt = (m2 77 9).toInt + 1 := by rw [y1]; exact ep
      have q1 := BJ_pl (pl' := (m3 77 9).toInt) v1 (by omega) (by omega)
      rw [show (0 : Int) + ((m3 77 9).toInt - (m2 77 9).toInt) = 1 by omega] at q1
      have q2 : BI f 1 1 C0 m3 := BI_mk q1 rfl (by rw [y2 10 (by decide)]) (by rw [y2 15 (by decide)]) (by rw [y2 14 (by decide)]) (y3 86 (by decide)) (y3 85 (by decide))
      have hnn3 := wn_nn (W := m3 86) (m3 77 15).toInt.toNat
      have h153 := r_77_15 g3
      have w3 : 1 ≤ (m3 77 15).toInt := by rw [y2 15 (by decide)]; omega
      refine T_qc (m_sum hn (BJ_nk q2) (by omega) (by omega) m3 g3 s3 (BJ_SJ q2) (by omega)) ?_
      rintro r2 m4 ⟨x1, x2, g4, s4⟩
      refine T_eq rfl l_0 (fun c2 => ?_) (fun c2 => ?_)
      · exact T_ret ⟨⟨by decide, by decide⟩, Or.inl l_0, g4, s4⟩
      obtain ⟨z1, z2, z3⟩ := x2.resolve_left c2
      have q3 : BI f (1 + 1) 1 C0 m4 := BJ_sum q2 w3 z1 (by omega)
      rw [show (1 : Int) + 1 = 2 by omega] at q3
      have h104 := r_77_10 g4
      have hk := q3
      obtain ⟨j1, j2, j3, j4, j5⟩ := hk
      have hnn4 := wn_nn (W := m4 86) (m4 77 15).toInt.toNat
      refine T_qc (m_notes s0 0 m4 g4 s4 (by omega) (by rw [l_0]; omega) (by omega)) ?_
      rintro _ m5 ⟨d1, d2, d3, d4, d5, g5, s5⟩
      rw [l_0] at d2
      have q4 := BJ_note (d' := 1) q3 d1 d3 (Or.inr ⟨by rw [d2]; omega, by rw [d2]; omega, by omega, by omega⟩)
      rw [show (1 : Int) - 1 = 0 by omega] at q4
      have q5 : BI f 1 0 C0 m5 := BI_mk q4 (by rw [d4 9 (by decide)]) (by rw [d4 10 (by decide)]) (by rw [d4 15 (by decide)]) rfl (d5 86 (by decide) (by decide)) rfl
      have h155 := r_77_15 g5
      unfold f_X12_endsPiece
      refine T_qc (m_ends (M1 := m5) n m5 g5 s5 q5 (by rw [d4 15 (by decide)]; omega) rfl (by omega)) ?_
      rintro _ m6 ⟨k1, k2, k3, g6, s6⟩
      exact T_ret ⟨⟨by decide, by decide⟩, Or.inr ⟨k1, k2, by rw [k3, d4 9 (by decide)]; omega⟩, g6, s6⟩
  refine T_qc (t_X12_here hn m2 g2) ?_
  rintro r3 m4 ⟨hr3, he3, hg3, hs3⟩
  have e3 := hs3.nil
  subst e3
  refine T_eq rfl l_60 (fun c3 => ?_) (fun c3 => ?_)
  · exact key 7 (by rw [l_7]; omega)
  refine T_qc (t_X12_here hn m2 g2) ?_
  rintro r5 m4 ⟨hr5, he5, hg5, hs5⟩
  have e5 := hs5.nil
  subst e5
  refine T_eq rfl l_62 (fun c5 => ?_) (fun c5 => ?_)
  · exact key 8 (by rw [l_8]; omega)
  refine T_qc (t_X12_here hn m2 g2) ?_
  rintro r7 m4 ⟨hr7, he7, hg7, hs7⟩
  have e7 := hs7.nil
  subst e7
  refine T_eq rfl l_61 (fun c7 => ?_) (fun c7 => ?_)
  · exact key 9 (by rw [l_9]; omega)
  · exact key (-1) (Or.inl l_m1)

abbrev Qd (f : Nat) (C0 : Nat → Int32) (M0 : qM) (pl0 : Int) (v : Int32) (M' : qM) : Prop := (0 ≤ v.toInt ∧ v.toInt ≤ 1) ∧ (v.toInt = 0 ∨ (WFs (M' 85) f (M' 77 14).toInt.toNat ∧ (∀ k, k < f → M' 85 k = C0 k) ∧ (M' 77 14).toInt ≤ (M' 77 9).toInt ∧ (M' 77 9).toInt ≤ (M' 77 10).toInt ∧ (f : Int) ≤ (M' 77 14).toInt ∧ pl0 ≤ (M' 77 9).toInt)) ∧ G M' ∧ Sm lQ M0 M'
theorem m_cond92 {n : Nat} (hn : 200000 ≤ n) {f : Nat} {C0 : Nat → Int32} {M0 : qM} {pl0 : Int} {K : qM → qR} {B : Nat} (hK : ∀ M : qM, G M → Sm lQ M0 M → BI f 0 0 C0 M → 1 ≤ (M 77 15).toInt → pl0 ≤ (M 77 9).toInt → 241 - (M 77 9).toInt < (B : Int) → qT (K M) (Qd f C0 M0 pl0)) : ∀ (m : Nat) (M : qM), G M → Sm lQ M0 M → BI f 1 0 C0 M → 1 ≤ (M 77 15).toInt → pl0 ≤ (M 77 9).toInt → 241 - (M 77 9).toInt < (B : Int) + 1 → 241 - (M 77 9).toInt < (m : Int) → qT (f_X12_readsCondition_92 n K m M) (Qd f C0 M0 pl0) := by
  intro m
  induction m with
  | zero => intro M hG _ _ _ _ _ h; have := r_77_9 hG; exfalso; omega
  | succ m ih =>
    intro M hG hS hI h1 hp hB hm
    have h15 := r_77_15 hG
    have h10 := r_77_10 hG
    have h9 := r_77_9 hG
    have jmp : ∀ s1 : Int32, (M 77 9).toInt < (M 77 10).toInt → qT (f_X12_readsCondition_195 n K s1 M) (Qd f C0 M0 pl0) := by
      intro s1 hlt
      unfold f_X12_readsCondition_195
      unfold f_X12_lands
      refine T_qc (m_lands (M1 := M) s1 n M hG hS hI h1 rfl (by omega)) ?_
      rintro _ m1 ⟨k1, k2, k3, _, g1, s1'⟩
      have e10 : (m1 77 10).toInt = (M 77 10).toInt := by
        have w1 := s1' 77 10 (by decide)
        have w2 := hS 77 10 (by decide)
        rw [w1, w2]
      have jmp2 : ∀ a : Int32, (a.toInt = 11 ∨ a.toInt = 12) → qT (f_X12_readsCondition_215 n K a m1) (Qd f C0 M0 pl0) := by
        intro a ha
        unfold f_X12_readsCondition_215
        refine T_qc (m_jumps a m1 g1 s1' k1 k2 (by rw [k3, e10]; exact hlt) ha) ?_
        rintro _ m2 ⟨x1, x2, x3, g2, s2⟩
        rw [k3] at x3
        exact hK m2 g2 s2 x1 x2 (by omega) (by omega)
      refine T_qc (t_X12_here hn m1 g1) ?_
      rintro r3 m4 ⟨hr3, he3, hg3, hs3⟩
      have e3 := hs3.nil
      subst e3
      refine T_eq rfl l_38 (fun c => ?_) (fun c => ?_)
      · exact jmp2 11 (Or.inl l_11)
      · exact jmp2 12 (Or.inr l_12)
    have go180 : (M 77 9).toInt < (M 77 10).toInt → qT (f_X12_readsCondition_180 n K M) (Qd f C0 M0 pl0) := by
      intro hlt
      unfold f_X12_readsCondition_180
      refine T_qc (t_X12_here hn M hG) ?_
      rintro r3 m4 ⟨hr3, he3, hg3, hs3⟩
      have e3 := hs3.nil
      subst e3
      refine T_eq rfl l_124 (fun c => ?_) (fun c => ?_)
      · exact jmp 1 hlt
      · exact jmp 0 hlt
    show qT (b_X12_readsCondition_92 n K (f_X12_readsCondition_92 n K m) M) _
    unfold b_X12_readsCondition_92
    refine T_qc (t_X12_here hn M hG) ?_
    rintro r1 m2 ⟨hr1, he1, hg1, hs1⟩
    have e1 := hs1.nil
    subst e1
    refine T_eq rfl l_41 (fun c => ?_) (fun c => ?_)
    · unfold f_X12_lands
      refine T_qc (m_lands (M1 := M) (1 : Int32) n M hG hS hI h1 rfl (by omega)) ?_
      rintro _ m9 ⟨k1, k2, k3, k4, g9, s9⟩
      have kt := k4 (by rw [l_1]; decide)
      have h159 := r_77_15 g9
      have e10 : (m9 77 10).toInt = (M 77 10).toInt := by
        have w1 := s9 77 10 (by decide)
        have w2 := hS 77 10 (by decide)
        rw [w1, w2]
      have ew : (m9 77 15 - 1).toInt = (m9 77 15).toInt - 1 := i_sub rfl l_1 (by omega) (by omega)
      refine T_w (Or.inr (by decide)) g9 s9 (i_rng (lo := 0) (hi := 260) ew (by omega) (by omega)) ?_
      intro m10 x1 x2 x3 g10 s10
      refine T_w (Or.inr (by decide)) g10 s10 trivial ?_
      intro m11 y1 y2 y3 g11 s11
      have d9 : m11 77 9 = M 77 9 := by rw [y2 9 (by decide), x2 9 (by decide), k3]
      rw [d9]
      have ep : (M 77 9 + 1).toInt = (M 77 9).toInt + 1 := i_add rfl l_1 (by omega) (by omega)
      refine T_w (Or.inl rfl) g11 s11 (i_rng (lo := 0) (hi := 240) ep (by omega) (by omega)) ?_
      intro m12 z1 z2 z3 g12 s12
      have p12 : (m12 77 9).toInt = (M 77 9).toInt + 1 := by rw [z1]; exact ep
      have w12 : (m12 77 15).toInt = (m9 77 15).toInt - 1 := by rw [z2 15 (by decide), y2 15 (by decide), x1]; exact ew
      have q1 := (BJ_pop k1 w12 (by omega) (by rw [w12]; exact kt)).1
      have q2 := BJ_pl (pl' := (m12 77 9).toInt) q1 (by rw [k3]; omega) (by rw [e10]; omega)
      have q3 := BJ_s (s' := 0) q2 (by rw [k3]; omega)
      have q4 : BI f 1 0 C0 m12 := BI_mk q3 rfl (by rw [z2 10 (by decide), y2 10 (by decide), x2 10 (by decide)]) rfl (by rw [z2 14 (by decide), y2 14 (by decide), x2 14 (by decide)]) (by rw [z3 86 (by decide), y3 86 (by decide), x3 86 (by decide)]) (by rw [z3 85 (by decide), y3 85 (by decide), x3 85 (by decide)])
      have h1012 := r_77_10 g12
      refine T_eq rfl l_0 (fun c0 => ?_) (fun c0 => ?_)
      · have hk := q4
        obtain ⟨j1, j2, j3, j4, j5⟩ := hk
        have hnn := wn_nn (W := m12 86) (m12 77 15).toInt.toNat
        have hfc := (CI_pos j5).2
        refine T_ret ⟨⟨by decide, by decide⟩, Or.inr ⟨CI_WFs j5 (fun k _ p => ?_) (by omega) (fun k => (r_85 g12 k).1), j4, by omega, by omega, by omega, by omega⟩, g12, s12⟩
        obtain ⟨i, i1, _⟩ := p
        omega
      · have h1512 := r_77_15 g12
        unfold f_X12_endsPiece
        refine T_qc (m_ends (M1 := m12) n m12 g12 s12 q4 (by omega) rfl (by omega)) ?_
        rintro _ m13 ⟨u1, u2, u3, g13, s13⟩
        exact ih m13 g13 s13 u1 u2 (by rw [u3]; omega) (by rw [u3]; omega) (by rw [u3]; omega)
    · refine T_qc (t_X12_here hn M hG) ?_
      rintro r3 m4 ⟨hr3, he3, hg3, hs3⟩
      have e3 := hs3.nil
      subst e3
      refine T_eq rfl l_38 (fun c3 => ?_) (fun c3 => ?_)
      · exact go180 (by omega)
      · refine T_qc (t_X12_here hn M hG) ?_
        rintro r5 m6 ⟨hr5, he5, hg5, hs5⟩
        have e5 := hs5.nil
        subst e5
        refine T_eq rfl l_124 (fun c5 => ?_) (fun c5 => ?_)
        · exact go180 (by omega)
        · refine T_qc (t_X12_wrongAt hn (1 : Int32) (M 77 9) M hG (by decide)) ?_
          rintro r m9 ⟨hr9, hg, hs9⟩
          exact T_qb rfl (by omega) (by omega) (T_ret ⟨by omega, Or.inl (by omega), hg, hS.tr (hs9.mono rfl)⟩)
theorem m_cond40 {n : Nat} (hn : 200000 ≤ n) {f : Nat} {C0 : Nat → Int32} {M0 : qM} {pl0 : Int} : ∀ (m : Nat) (M : qM), G M → Sm lQ M0 M → BI f 0 0 C0 M → 1 ≤ (M 77 15).toInt → pl0 ≤ (M 77 9).toInt → 241 - (M 77 9).toInt < (m : Int) → qT (f_X12_readsCondition_40 n m M) (Qd f C0 M0 pl0) := by
  intro m
  induction m with
  | zero => intro M hG _ _ _ _ h; have := r_77_9 hG; exfalso; omega
  | succ m ih =>
    intro M hG hS hI h1 hp hm
    have h15 := r_77_15 hG
    have h10 := r_77_10 hG
    have h9 := r_77_9 hG
    have hI2 := hI
    obtain ⟨j1, j2, j3, j4, j5⟩ := hI2
    have op75 : ∀ s1 : Int32, (s1.toInt = 10 ∨ s1.toInt = 13) → (M 77 9).toInt < (M 77 10).toInt → qT (f_X12_readsCondition_75 n (f_X12_readsCondition_40 n m) s1 M) (Qd f C0 M0 pl0) := by
      intro s1 hs1 hlt
      unfold f_X12_readsCondition_75
      refine T_qc (m_opens hn s1 M hG hS (by omega) hlt (by omega)) ?_
      rintro r m3 ⟨hr, ho, g3, s3⟩
      refine T_eq rfl l_0 (fun c2 => ?_) (fun c2 => ?_)
      · exact T_ret ⟨⟨by decide, by decide⟩, Or.inl l_0, g3, s3⟩
      · obtain ⟨o1, o2, o3, o4, o5, o6, o7⟩ := ho.resolve_left c2
        have q2 := BJ_push hI h1 o1 o2 (by omega) o6 (by omega)
        exact ih m3 g3 s3 (BI_mk q2 rfl (by rw [o3]) rfl (by rw [o4]) rfl o7) (by omega) (by omega) (by omega)
    have op58 : (M 77 9).toInt < (M 77 10).toInt → qT (f_X12_readsCondition_58 n (f_X12_readsCondition_40 n m) M) (Qd f C0 M0 pl0) := by
      intro hlt
      unfold f_X12_readsCondition_58
      refine T_qc (t_X12_here hn M hG) ?_
      rintro r3 m4 ⟨hr3, he3, hg3, hs3⟩
      have e3 := hs3.nil
      subst e3
      refine T_eq rfl l_33 (fun c => ?_) (fun c => ?_)
      · exact op75 10 (Or.inl l_10) hlt
      · exact op75 13 (Or.inr l_13) hlt
    show qT (b_X12_readsCondition_40 n (f_X12_readsCondition_40 n m) M) _
    unfold b_X12_readsCondition_40
    refine T_qc (t_X12_here hn M hG) ?_
    rintro r1 m2 ⟨hr1, he1, hg1, hs1⟩
    have e1 := hs1.nil
    subst e1
    refine T_eq rfl l_33 (fun c => ?_) (fun c => ?_)
    · exact op58 (by omega)
    · refine T_qc (t_X12_here hn M hG) ?_
      rintro r3 m4 ⟨hr3, he3, hg3, hs3⟩
      have e3 := hs3.nil
      subst e3
      refine T_eq rfl l_40 (fun c3 => ?_) (fun c3 => ?_)
      · exact op58 (by omega)
      · refine T_qc (m_compared hn M hG hS hI h1) ?_
        rintro r5 m6 ⟨t1, t2, g6, s6⟩
        refine T_eq rfl l_0 (fun c5 => ?_) (fun c5 => ?_)
        · exact T_ret ⟨⟨by decide, by decide⟩, Or.inl l_0, g6, s6⟩
        · obtain ⟨u1, u2, u3⟩ := t2.resolve_left c5
          have h96 := r_77_9 g6
          exact m_cond92 hn ih n m6 g6 s6 u1 u2 (by omega) (by omega) (by omega)
theorem m_cond {n : Nat} (hn : 200000 ≤ n) {M0 : qM} (M : qM) (hG : G M) (hS : Sm lQ M0 M) (h1 : (M 77 14).toInt ≤ (M 77 9).toInt) (h2 : (M 77 9).toInt ≤ (M 77 10).toInt) : qT (f_X12_readsCondition n M) (Qd (M 77 14).toInt.toNat (M 85) M0 (M 77 9).toInt) := by
  have h10 := r_77_10 hG
  have h9 := r_77_9 hG
  have h14 := r_77_14 hG
  unfold f_X12_readsCondition
  refine T_qc (t_X12_here hn M hG) ?_
  rintro r1 m2 ⟨hr1, he1, hg1, hs1⟩
  have e1 := hs1.nil
  subst e1
  refine T_eq rfl l_40 (fun c => ?_) (fun c => ?_)
  · refine T_w (Or.inr (by decide)) hG hS trivial ?_
    intro m3 x1 x2 x3 g3 s3
    refine T_w (Or.inr (by decide)) g3 s3 (i_rng (lo := 0) (hi := 260) l_0 (by omega) (by omega)) ?_
    intro m4 y1 y2 y3 g4 s4
    have w4 : (m4 77 15).toInt = 0 := by rw [y1]; rfl
    have e9 : m4 77 9 = M 77 9 := by rw [y2 9 (by decide), x2 9 (by decide)]
    have e10 : m4 77 10 = M 77 10 := by rw [y2 10 (by decide), x2 10 (by decide)]
    have e14 : m4 77 14 = M 77 14 := by rw [y2 14 (by decide), x2 14 (by decide)]
    have e85 : m4 85 = M 85 := by rw [y3 85 (by decide), x3 85 (by decide)]
    refine T_qc (m_opens hn (13 : Int32) m4 g4 s4 (by rw [l_13]; omega) (by rw [e9, e10]; omega) (by rw [w4, e9]; omega)) ?_
    rintro r5 m6 ⟨hr5, ho, g6, s6⟩
    refine T_eq rfl l_0 (fun c5 => ?_) (fun c5 => ?_)
    · exact T_ret ⟨⟨by decide, by decide⟩, Or.inl l_0, g6, s6⟩
    · obtain ⟨o1, o2, o3, o4, o5, o6, o7⟩ := ho.resolve_left c5
      rw [w4, l_13] at o5
      rw [w4] at o1
      have o8 : (m6 86 0).toInt = 1048576 * 13 := o5
      have hw1 : wn (m6 86) 1 = 0 := by
        rw [wn_n (n := 0) (by omega)]; rfl
      have q : BJ (M 77 14).toInt.toNat 0 0 (M 85) (m6 77 9).toInt (m6 77 10).toInt (m6 77 15).toInt (M 77 14).toInt (m6 86) (M 85) := by
        refine ⟨?_, by omega, fun i hi => ?_, fun _ _ => rfl, CI_init⟩
        · rw [o1, show ((0 : Int) + 1).toNat = 1 from rfl, hw1, o2, o3, e9, e10]
          omega
        · rw [show i = 0 by omega]
          exact ⟨by omega, fun hk => by omega⟩
      have h96 := r_77_9 g6
      exact m_cond40 hn n m6 g6 s6 (BI_mk q rfl rfl rfl (by rw [o4, e14]) rfl (by rw [o7, e85])) (by omega) (by rw [o2, e9]; omega) (by omega)
  · refine T_qc (t_X12_wrongAt hn (1 : Int32) (M 77 9) M hG (by decide)) ?_
    rintro r m9 ⟨hr9, hg, hs9⟩
    exact T_qb rfl (by omega) (by omega) (T_ret ⟨by omega, Or.inl (by omega), hg, hS.tr (hs9.mono rfl)⟩)

abbrev lC : List Bx := [(77, 78, 9, 10), (77, 78, 11, 17), (85, 91, 0, 0)]
theorem T_c {M0 M : qM} {c s : Nat} {v : Int32} {f : qM → qR} {Q : Int32 → qM → Prop} (hc : (c = 77 ∧ (s = 9 ∨ (11 ≤ s ∧ s ≤ 16))) ∨ (85 ≤ c ∧ c ≤ 90)) (hG : G M) (hS : Sm lC M0 M) (hr : Rin c s v) (h : ∀ m : qM, m c s = v → (∀ s2, s2 ≠ s → m c s2 = M c s2) → (∀ c2, c2 ≠ c → m c2 = M c2) → G m → Sm lC M0 m → qT (f m) Q) : qT (qlm (mu M c s v) f) Q := by
  refine h _ mu_at (fun s2 h2 => mu_ne (Or.inr h2)) (fun c2 hc2 => mu_nc hc2) (G_mu hG hr (by unfold nW; omega)) ?_
  rcases hc with ⟨rfl, hs⟩ | hc
  · rcases hs with rfl | hs
    · exact hS.mu (i := 0) rfl ⟨by decide, by decide, Or.inr ⟨by decide, by decide⟩⟩
    · exact hS.mu (i := 1) rfl ⟨by decide, by decide, Or.inr ⟨by show 11 ≤ s; omega, by show s < 17; omega⟩⟩
  · exact hS.mu (i := 2) rfl ⟨by show 85 ≤ c; omega, by show c < 91; omega, Or.inl rfl⟩
def CSn (N : Int) (M : qM) : Prop := ∀ q : Nat, (q : Int) < N → WFs (M 85) (M 88 q).toInt.toNat (M 89 q).toInt.toNat ∧ WFs (M 85) (M 89 q).toInt.toNat (M 90 q).toInt.toNat ∧ (M 89 q).toInt ≤ (M 90 q).toInt ∧ (M 90 q).toInt ≤ (M 77 14).toInt
theorem CSn_cg {N : Int} {M M' : qM} (h : CSn N M) (e88 : ∀ q : Nat, (q : Int) < N → M' 88 q = M 88 q) (e89 : ∀ q : Nat, (q : Int) < N → M' 89 q = M 89 q) (e90 : ∀ q : Nat, (q : Int) < N → M' 90 q = M 90 q) (e85 : ∀ k : Nat, (k : Int) < (M 77 14).toInt → M' 85 k = M 85 k) (e14 : (M 77 14).toInt ≤ (M' 77 14).toInt) : CSn N M' := by
  intro q hq
  obtain ⟨h1, h2, h3, h4⟩ := h q hq
  rw [e88 q hq, e89 q hq, e90 q hq]
  exact ⟨WFs_cg h1 (fun k k1 k2 => e85 k (by omega)), WFs_cg h2 (fun k k1 k2 => e85 k (by omega)), h3, by omega⟩
theorem WFs_nil {c : Nat → Int32} {f : Nat} : WFs c f f := ⟨fun _ => 0, rfl, fun k h1 h2 => absurd h1 (by omega)⟩
abbrev Ql (M0 : qM) (pl0 : Int) (v : Int32) (M' : qM) : Prop := (0 ≤ v.toInt ∧ v.toInt ≤ 1) ∧ (v.toInt = 0 ∨ (CSn (M' 77 16).toInt M' ∧ (M' 77 14).toInt ≤ (M' 77 9).toInt ∧ (M' 77 9).toInt ≤ (M' 77 10).toInt ∧ pl0 ≤ (M' 77 9).toInt)) ∧ G M' ∧ Sm lC M0 M'
theorem m_clause99 {n : Nat} (hn : 200000 ≤ n) {M0 : qM} {pl0 : Int} (M : qM) (hG : G M) (hS : Sm lC M0 M) (hN : (M 77 16).toInt < 16) (hC : CSn (M 77 16).toInt M) (hW : WFs (M 85) (M 88 (M 77 16).toInt.toNat).toInt.toNat (M 77 14).toInt.toNat) (h1 : (M 77 14).toInt ≤ (M 77 9).toInt) (h2 : (M 77 9).toInt ≤ (M 77 10).toInt) (hp : pl0 ≤ (M 77 9).toInt) : qT (f_X12_readsClause_99 n M) (Ql M0 pl0) := by
  have h10 := r_77_10 hG
  have h14 := r_77_14 hG
  have h16 := r_77_16 hG
  unfold f_X12_readsClause_99
  refine T_qg rfl (by omega) (by omega) ?_
  refine T_c (Or.inr (by decide)) hG hS (i_rng (lo := 0) (hi := 250) rfl (by omega) (by omega)) ?_
  intro m1 a1 a2 a3 g1 s1
  have a77 : m1 77 = M 77 := a3 77 (by decide)
  have a85 : m1 85 = M 85 := a3 85 (by decide)
  refine T_qc (m_cond hn m1 g1 (Sm.rf (M := m1)) (by rw [a77]; exact h1) (by rw [a77]; exact h2)) ?_
  rw [a77, a85]
  rintro r2 m3 ⟨t1, t2, g3, s3⟩
  have s3' : Sm lC M0 m3 := s1.tr (s3.mono rfl)
  refine T_eq rfl l_0 (fun c => ?_) (fun c => ?_)
  · exact T_ret ⟨⟨by decide, by decide⟩, Or.inl l_0, g3, s3'⟩
  · obtain ⟨u1, u2, u3, u4, u5, u6⟩ := t2.resolve_left c
    have h103 := r_77_10 g3
    have h143 := r_77_14 g3
    have b16 : m3 77 16 = M 77 16 := by rw [s3 77 16 (by decide), a77]
    have b88 : m3 88 = M 88 := by rw [funext (fun s_ => s3 88 s_ (outc rfl)), a3 88 (by decide)]
    have b89 : m3 89 = m1 89 := funext (fun s_ => s3 89 s_ (outc rfl))
    have b90 : m3 90 = M 90 := by rw [funext (fun s_ => s3 90 s_ (outc rfl)), a3 90 (by decide)]
    rw [b16]
    refine T_qg rfl (by omega) (by omega) ?_
    refine T_c (Or.inr (by decide)) g3 s3' (i_rng (lo := 0) (hi := 250) rfl (by omega) (by omega)) ?_
    intro m4 c1 c2 c3 g4 s4
    have c77 : m4 77 = m3 77 := c3 77 (by decide)
    rw [c77, b16]
    have ew : (M 77 16 + 1).toInt = (M 77 16).toInt + 1 := i_add rfl l_1 (by omega) (by omega)
    refine T_c (Or.inl ⟨rfl, Or.inr (by decide)⟩) g4 s4 (i_rng (lo := 0) (hi := 16) ew (by omega) (by omega)) ?_
    intro m5 d1 d2 d3 g5 s5
    have w16 : (m5 77 16).toInt = (M 77 16).toInt + 1 := by rw [d1]; exact ew
    have f14 : m5 77 14 = m3 77 14 := by rw [d2 14 (by decide), c77]
    have f9 : m5 77 9 = m3 77 9 := by rw [d2 9 (by decide), c77]
    have f10 : m5 77 10 = m3 77 10 := by rw [d2 10 (by decide), c77]
    have f85 : m5 85 = m3 85 := by rw [d3 85 (by decide), c3 85 (by decide)]
    have f88 : m5 88 = M 88 := by rw [d3 88 (by decide), c3 88 (by decide), b88]
    have f89 : m5 89 = m1 89 := by rw [d3 89 (by decide), c3 89 (by decide), b89]
    have f90 : m5 90 = m4 90 := d3 90 (by decide)
    have x89 : m1 89 (M 77 16).toInt.toNat = M 77 14 := a1
    have x90 : m4 90 (M 77 16).toInt.toNat = m3 77 14 := c1
    have hle : (M 77 14).toInt ≤ (m3 77 14).toInt := by omega
    refine T_ret ⟨⟨by decide, by decide⟩, Or.inr ⟨?_, by rw [f14, f9]; omega, by rw [f9, f10]; omega, by rw [f9]; omega⟩, g5, s5⟩
    rw [w16]
    have hold : CSn (M 77 16).toInt m5 := CSn_cg hC (fun q _ => by rw [f88]) (fun q hq => by rw [f89]; exact a2 q (by rw [tnc]; omega)) (fun q hq => by rw [f90, c2 q (by rw [tnc]; omega), b90]) (fun k hk => by rw [f85]; exact u2 k (by omega)) (by rw [f14]; exact hle)
    intro q hq
    by_cases e : q = (M 77 16).toInt.toNat
    · subst e
      rw [f88, f89, f90, x89, x90, f85, f14]
      exact ⟨WFs_cg hW (fun k k1 k2 => u2 k k2), u1, hle, Int.le_refl _⟩
    · exact hold q (by omega)
theorem m_clause {n : Nat} (hn : 200000 ≤ n) (M : qM) (hG : G M) (hC : CSn (M 77 16).toInt M) (h1 : (M 77 14).toInt ≤ (M 77 9).toInt) (h2 : (M 77 9).toInt ≤ (M 77 10).toInt) : qT (f_X12_readsClause n M) (Ql M (M 77 9).toInt) := by
  have h10 := r_77_10 hG
  have h14 := r_77_14 hG
  have h16 := r_77_16 hG
  have h9 := r_77_9 hG
  unfold f_X12_readsClause
  refine T_qc (t_X12_here hn M hG) ?_
  rintro r1 m2 ⟨hr1, he1, hg1, hs1⟩
  have e1 := hs1.nil
  subst e1
  refine T_qc (t_X12_isClause hn r1 M hG) ?_
  rintro r3 m4 ⟨hr3, he3, hg3, hs3⟩
  have e3 := hs3.nil
  subst e3
  refine T_eq rfl l_0 (fun c => ?_) (fun c => ?_)
  · refine T_qc (t_X12_wrongAt hn (1 : Int32) (M 77 9) M hG (by decide)) ?_
    rintro r m9 ⟨hr9, hg, hs9⟩
    exact T_qb rfl (by omega) (by omega) (T_ret ⟨by omega, Or.inl (by omega), hg, hs9.mono rfl⟩)
  · refine T_eq rfl l_16 (fun c6 => ?_) (fun c6 => ?_)
    · refine T_qc (t_X12_wrongAt hn (4 : Int32) (M 77 9) M hG (by decide)) ?_
      rintro r m9 ⟨hr9, hg, hs9⟩
      exact T_qb rfl (by omega) (by omega) (T_ret ⟨by omega, Or.inl (by omega), hg, hs9.mono rfl⟩)
    · refine T_qg rfl (by omega) (by omega) ?_
      refine T_c (M0 := M) (Or.inr (by decide)) hG Sm.rf trivial ?_
      intro m5 a1 a2 a3 g5 s5
      have a77 : m5 77 = M 77 := a3 77 (by decide)
      rw [a77]
      have ep : (M 77 9 + 1).toInt = (M 77 9).toInt + 1 := i_add rfl l_1 (by omega) (by omega)
      refine T_c (Or.inl ⟨rfl, Or.inl rfl⟩) g5 s5 (i_rng (lo := 0) (hi := 240) ep (by omega) (by omega)) ?_
      intro m6 b1 b2 b3 g6 s6
      have b16 : m6 77 16 = M 77 16 := by rw [b2 16 (by decide), a77]
      have b14 : m6 77 14 = M 77 14 := by rw [b2 14 (by decide), a77]
      rw [b16]
      refine T_qg rfl (by omega) (by omega) ?_
      rw [b14]
      refine T_c (Or.inr (by decide)) g6 s6 (i_rng (lo := 0) (hi := 250) rfl (by omega) (by omega)) ?_
      intro m7 c1 c2 c3 g7 s7
      refine T_c (Or.inl ⟨rfl, Or.inr (by decide)⟩) g7 s7 trivial ?_
      intro m8 d1 d2 d3 g8 s8
      refine T_c (Or.inl ⟨rfl, Or.inr (by decide)⟩) g8 s8 (i_rng (lo := 0) (hi := 260) l_0 (by omega) (by omega)) ?_
      intro m9 f1 f2 f3 g9 s9
      have w9 : (m9 77 15).toInt = 0 := by rw [f1]; rfl
      have e16 : m9 77 16 = M 77 16 := by rw [f2 16 (by decide), d2 16 (by decide), c3 77 (by decide), b16]
      have e14 : m9 77 14 = M 77 14 := by rw [f2 14 (by decide), d2 14 (by decide), c3 77 (by decide), b14]
      have e10 : m9 77 10 = M 77 10 := by rw [f2 10 (by decide), d2 10 (by decide), c3 77 (by decide), b2 10 (by decide), a77]
      have e9 : (m9 77 9).toInt = (M 77 9).toInt + 1 := by rw [f2 9 (by decide), d2 9 (by decide), c3 77 (by decide), b1]; exact ep
      have e85 : m9 85 = M 85 := by rw [f3 85 (by decide), d3 85 (by decide), c3 85 (by decide), b3 85 (by decide), a3 85 (by decide)]
      have e88 : m9 88 = m7 88 := by rw [f3 88 (by decide), d3 88 (by decide)]
      have e89 : m9 89 = M 89 := by rw [f3 89 (by decide), d3 89 (by decide), c3 89 (by decide), b3 89 (by decide), a3 89 (by decide)]
      have e90 : m9 90 = M 90 := by rw [f3 90 (by decide), d3 90 (by decide), c3 90 (by decide), b3 90 (by decide), a3 90 (by decide)]
      have x88 : m9 88 (M 77 16).toInt.toNat = M 77 14 := by rw [e88]; exact c1
      have m688 : m6 88 = M 88 := by rw [b3 88 (by decide), a3 88 (by decide)]
      have hC9 : CSn (m9 77 16).toInt m9 := by
        rw [e16]
        exact CSn_cg hC (fun q hq => by rw [e88, c2 q (by rw [tnc]; omega), m688]) (fun q _ => by rw [e89]) (fun q _ => by rw [e90]) (fun k _ => by rw [e85]) (by rw [e14]; exact Int.le_refl _)
      refine T_eq rfl l_97 (fun c7 => ?_) (fun c7 => ?_)
      · refine m_clause99 hn m9 g9 s9 (by rw [e16]; omega) hC9 ?_ (by rw [e14, e9]; omega) (by rw [e9, e10]; omega) (by omega)
        rw [e16, x88, e14]
        exact WFs_nil
      · have hwc : wc (m9 86) 0 (m9 77 15).toInt.toNat = 0 := by rw [w9]; rfl
        have hI : SI (m9 77 14).toInt.toNat (m9 77 14).toInt.toNat 0 0 0 (fun _ => False) (m9 86) (m9 85) m9 := by
          refine ⟨?_, fun i _ i2 => absurd i2 (by omega), fun i hi => rfl, fun _ _ => rfl, ?_⟩
          · rw [hwc, e14, e9, e10]; omega
          · rw [hwc]; exact CI_init
        refine T_qc (m_sum hn (fun i hi => absurd hi (by omega)) (by omega) (by omega) m9 g9 (Sm.rf (M := m9)) hI (by rw [w9]; rfl)) ?_
        rintro r10 m11 ⟨t1, t2, g11, s11⟩
        have s11' : Sm lC M m11 := s9.tr (s11.mono rfl)
        refine T_eq rfl l_0 (fun c0 => ?_) (fun c0 => ?_)
        · exact T_ret ⟨⟨by decide, by decide⟩, Or.inl l_0, g11, s11'⟩
        · obtain ⟨u1, u2, u3⟩ := t2.resolve_left c0
          obtain ⟨j1, j2, j3, j4, j5⟩ := u1
          have u2' : (m11 77 15).toInt = 0 := u2
          have hwc2 : wc (m11 86) 0 (m11 77 15).toInt.toNat = 0 := by rw [u2']; rfl
          rw [hwc2] at j1
          have k16 : m11 77 16 = M 77 16 := by rw [s11 77 16 (by decide), e16]
          have k88 : m11 88 = m9 88 := funext (fun s_ => s11 88 s_ (outc rfl))
          have k89 : m11 89 = m9 89 := funext (fun s_ => s11 89 s_ (outc rfl))
          have k90 : m11 90 = m9 90 := funext (fun s_ => s11 90 s_ (outc rfl))
          have h1011 := r_77_10 g11
          have h1411 := r_77_14 g11
          have hC11 : CSn (m11 77 16).toInt m11 := by
            rw [k16, ← e16]
            exact CSn_cg hC9 (fun q _ => by rw [k88]) (fun q _ => by rw [k89]) (fun q _ => by rw [k90]) (fun k hk => j4 k (by omega)) (by omega)
          refine m_clause99 hn m11 g11 s11' (by rw [k16]; omega) hC11 ?_ (by omega) (by omega) (by omega)
          rw [k16, k88, x88, ← e14]
          exact CI_WFs j5 (fun k _ p => p) (by omega) (fun k => (r_85 g11 k).1)
/-! the law is taken over -/
def Rg (M : qM) : Prop := (∀ c s, Rin c s (M c s)) ∧ Wl M ∧ Ww M
theorem Rg_mu {M : qM} {c s : Nat} {v : Int32} (h : Rg M) (hr : Rin c s v) (hc : c ≠ 38 ∧ c ≠ 39 ∧ c ≠ 47 ∧ c ≠ 48 ∧ (c < 102 ∨ 104 < c)) : Rg (mu M c s v) := by
  obtain ⟨h1, h2, h4⟩ := h
  refine ⟨fun c2 s2 => ?_, fun w hw2 s2 => ?_, ?_⟩
  · by_cases e : c2 = c ∧ s2 = s
    · obtain ⟨rfl, rfl⟩ := e
      rw [mu_at]; exact hr
    · rw [mu_ne (by omega)]; exact h1 c2 s2
  · have a1 : w + 1 ≠ c := by rcases hw2 with rfl | rfl <;> omega
    have a2 : w + 2 ≠ c := by rcases hw2 with rfl | rfl <;> omega
    rw [mu_ne (Or.inl a1), mu_ne (Or.inl a2)]
    exact h2 w hw2 s2
  · unfold Ww
    rw [mu_nc (show 102 ≠ c by omega), mu_nc (show 103 ≠ c by omega), mu_nc (show 104 ≠ c by omega)]
    exact h4
theorem T_k {M : qM} {c s : Nat} {v : Int32} {f : qM → qR} {Q : Int32 → qM → Prop} (hR : Rg M) (hr : Rin c s v) (hc : c ≠ 38 ∧ c ≠ 39 ∧ c ≠ 47 ∧ c ≠ 48 ∧ (c < 102 ∨ 104 < c)) (h : ∀ m : qM, m c s = v → (∀ s2, s2 ≠ s → m c s2 = M c s2) → (∀ c2, c2 ≠ c → m c2 = M c2) → Rg m → qT (f m) Q) : qT (qlm (mu M c s v) f) Q :=
  h _ mu_at (fun s2 h2 => mu_ne (Or.inr h2)) (fun c2 hc2 => mu_nc hc2) (Rg_mu hR hr hc)
/-- what the taking over of a law leaves as it was -/
def Fl (A B : qM) : Prop := (∀ s : Nat, s < 8 ∨ 17 < s → B 77 s = A 77 s) ∧ ∀ c : Nat, c ≠ 77 → c < 85 ∨ 95 < c → B c = A c
theorem Fl_rf {A : qM} : Fl A A := ⟨fun _ _ => rfl, fun _ _ _ => rfl⟩
theorem Fl_tr {A B C : qM} (h : Fl A B) (k : Fl B C) : Fl A C := ⟨fun s hs => (k.1 s hs).trans (h.1 s hs), fun c h1 h2 => (k.2 c h1 h2).trans (h.2 c h1 h2)⟩
theorem Fl_1 {A B m : qM} {c s : Nat} (h : Fl A B) (hc : (c = 77 ∧ 8 ≤ s ∧ s ≤ 17) ∨ (85 ≤ c ∧ c ≤ 95)) (h1 : ∀ s2, s2 ≠ s → m c s2 = B c s2) (h2 : ∀ c2, c2 ≠ c → m c2 = B c2) : Fl A m := by
  refine ⟨fun s2 hs => ?_, fun c2 k1 k2 => ?_⟩
  · by_cases q : c = 77
    · subst q; rw [h1 s2 (by omega)]; exact h.1 s2 hs
    · rw [h2 77 (fun e => q e.symm)]; exact h.1 s2 hs
  · rw [h2 c2 (by omega)]; exact h.2 c2 k1 k2
theorem Fl_Sm {A B : qM} {l : List Bx} (h : Sm l A B) (hl : cov l [(77, 78, 8, 18), (85, 96, 0, 0)] = true) : Fl A B := by
  have h2 := h.mono hl
  refine ⟨fun s hs => h2 77 s (fun b hb hi => ?_), fun c h1 h3 => funext (fun s => h2 c s (fun b hb hi => ?_))⟩
  · simp only [List.mem_cons, List.not_mem_nil, or_false] at hb
    rcases hb with rfl | rfl
    · obtain ⟨_, _, q⟩ := hi
      have q2 : (18 : Nat) = 0 ∨ (8 ≤ s ∧ s < 18) := q
      omega
    · obtain ⟨q, _⟩ := hi
      have q2 : (85 : Nat) ≤ 77 := q
      omega
  · simp only [List.mem_cons, List.not_mem_nil, or_false] at hb
    rcases hb with rfl | rfl
    · obtain ⟨q, q1, _⟩ := hi
      have q2 : (77 : Nat) ≤ c := q
      have q3 : c < (78 : Nat) := q1
      omega
    · obtain ⟨q, q1, _⟩ := hi
      have q2 : (85 : Nat) ≤ c := q
      have q3 : c < (96 : Nat) := q1
      omega
theorem m_law138 {n : Nat} {A : qM} {B : Nat → Int32} : ∀ (m : Nat) (a3 : Int32) (M : qM), M 77 = B → Fl A M → Rg M → M 77 17 = M 77 16 → CSn (M 77 16).toInt M → (∀ k : Nat, (k : Int) < (M 77 14).toInt → M 91 k = M 85 k) → (∀ q : Nat, (q : Int) < a3.toInt → M 93 q = M 88 q ∧ M 94 q = M 89 q ∧ M 95 q = M 90 q) → 0 ≤ a3.toInt → a3.toInt ≤ 16 → 17 - a3.toInt < (m : Int) → qT (f_X12_law_138 n m a3 M) (fun _ M' => G M' ∧ Fl A M' ∧ M' 77 = B) := by
  intro m
  induction m with
  | zero => intro a3 M _ _ _ _ _ _ _ _ _ h; exfalso; omega
  | succ m ih =>
    intro a3 M hB hA hR h17 hC hk hq h0 h1 hm
    have h16 : 0 ≤ (M 77 16).toInt ∧ (M 77 16).toInt ≤ 16 := hR.1 77 16
    show qT (b_X12_law_138 n (f_X12_law_138 n m) a3 M) _
    unfold b_X12_law_138
    refine T_le rfl rfl (fun c => ?_) (fun c => ?_)
    · refine T_ret ⟨⟨hR.1, hR.2.1, ?_, hR.2.2⟩, hA, hB⟩
      intro q hq2
      rw [h17] at hq2
      obtain ⟨w1, w2, w3, w4⟩ := hC q hq2
      obtain ⟨e1, e2, e3⟩ := hq q (by omega)
      rw [e1, e2, e3]
      exact ⟨WFs_cg w1 (fun k k1 k2 => hk k (by omega)), WFs_cg w2 (fun k k1 k2 => hk k (by omega))⟩
    · refine T_qg rfl (by omega) (by omega) (T_qg rfl (by omega) (by omega) ?_)
      refine T_k hR trivial (by decide) ?_
      intro m1 a1 a2 a3' r1
      refine T_qg rfl (by omega) (by omega) (T_qg rfl (by omega) (by omega) ?_)
      refine T_k r1 (r1.1 88 _) (by decide) ?_
      intro m2 b1 b2 b3 r2
      refine T_qg rfl (by omega) (by omega) (T_qg rfl (by omega) (by omega) ?_)
      refine T_k r2 (r2.1 89 _) (by decide) ?_
      intro m3 c1 c2 c3 r3
      refine T_qg rfl (by omega) (by omega) (T_qg rfl (by omega) (by omega) ?_)
      refine T_k r3 (r3.1 90 _) (by decide) ?_
      intro m4 d1 d2 d3 r4
      refine T_ql (i_add rfl l_1 (by omega) (by omega)) ?_
      intro x hx
      have e77 : m4 77 = M 77 := by rw [d3 77 (by decide), c3 77 (by decide), b3 77 (by decide), a3' 77 (by decide)]
      have e85 : m4 85 = M 85 := by rw [d3 85 (by decide), c3 85 (by decide), b3 85 (by decide), a3' 85 (by decide)]
      have e91 : m4 91 = M 91 := by rw [d3 91 (by decide), c3 91 (by decide), b3 91 (by decide), a3' 91 (by decide)]
      have e88 : m4 88 = M 88 := by rw [d3 88 (by decide), c3 88 (by decide), b3 88 (by decide), a3' 88 (by decide)]
      have e89 : m4 89 = M 89 := by rw [d3 89 (by decide), c3 89 (by decide), b3 89 (by decide), a3' 89 (by decide)]
      have e90 : m4 90 = M 90 := by rw [d3 90 (by decide), c3 90 (by decide), b3 90 (by decide), a3' 90 (by decide)]
      refine ih x m4 (by rw [e77]; exact hB) (Fl_1 (Fl_1 (Fl_1 (Fl_1 hA (Or.inr (by decide)) a2 a3') (Or.inr (by decide)) b2 b3) (Or.inr (by decide)) c2 c3) (Or.inr (by decide)) d2 d3) r4 (by rw [e77]; exact h17) ?_ (by rw [e77, e85, e91]; exact hk) ?_ (by omega) (by omega) (by omega)
      · rw [e77]
        exact CSn_cg hC (fun q _ => by rw [e88]) (fun q _ => by rw [e89]) (fun q _ => by rw [e90]) (fun k _ => by rw [e85]) (by rw [e77]; exact Int.le_refl _)
      · intro q hq2
        rw [e88, e89, e90]
        by_cases e : q = a3.toNatClampNeg
        · subst e
          refine ⟨?_, ?_, ?_⟩
          · rw [d3 93 (by decide), c3 93 (by decide), b1, a3' 88 (by decide)]
          · rw [d3 94 (by decide), c1, b3 89 (by decide), a3' 89 (by decide)]
          · rw [d1, c3 90 (by decide), b3 90 (by decide), a3' 90 (by decide)]
        · have e' := e
          rw [tnc] at e'
          obtain ⟨k1, k2, k3⟩ := hq q (by omega)
          refine ⟨?_, ?_, ?_⟩
          · rw [d3 93 (by decide), c3 93 (by decide), b2 q e, a3' 93 (by decide)]; exact k1
          · rw [d3 94 (by decide), c2 q e, b3 94 (by decide), a3' 94 (by decide)]; exact k2
          · rw [d2 q e, c3 95 (by decide), b3 95 (by decide), a3' 95 (by decide)]; exact k3
theorem m_law110 {n : Nat} {A : qM} {B : Nat → Int32} (hn : 200000 ≤ n) : ∀ (m : Nat) (a3 : Int32) (M : qM), M 77 = B → Fl A M → Rg M → M 77 17 = M 77 16 → CSn (M 77 16).toInt M → (∀ k : Nat, (k : Int) < a3.toInt → M 91 k = M 85 k) → 0 ≤ a3.toInt → a3.toInt ≤ 260 → 261 - a3.toInt < (m : Int) → qT (f_X12_law_110 n m a3 M) (fun _ M' => G M' ∧ Fl A M' ∧ M' 77 = B) := by
  intro m
  induction m with
  | zero => intro a3 M _ _ _ _ _ _ _ _ h; exfalso; omega
  | succ m ih =>
    intro a3 M hB hA hR h17 hC hk h0 h1 hm
    have h14 : 0 ≤ (M 77 14).toInt ∧ (M 77 14).toInt ≤ 260 := hR.1 77 14
    show qT (b_X12_law_110 n (f_X12_law_110 n m) a3 M) _
    unfold b_X12_law_110
    refine T_le rfl rfl (fun c => ?_) (fun c => ?_)
    · exact m_law138 n 0 M hB hA hR h17 hC (fun k hk2 => hk k (by omega)) (fun q hq => absurd hq (by rw [l_0]; omega)) (by rw [l_0]; omega) (by rw [l_0]; omega) (by rw [l_0]; omega)
    · refine T_qg rfl (by omega) (by omega) (T_qg rfl (by omega) (by omega) ?_)
      refine T_k hR (hR.1 85 _) (by decide) ?_
      intro m1 a1 a2 a3' r1
      refine T_ql (i_add rfl l_1 (by omega) (by omega)) ?_
      intro x hx
      have e77 : m1 77 = M 77 := a3' 77 (by decide)
      have e85 : m1 85 = M 85 := a3' 85 (by decide)
      refine ih x m1 (by rw [e77]; exact hB) (Fl_1 hA (Or.inr (by decide)) a2 a3') r1 (by rw [e77]; exact h17) ?_ ?_ (by omega) (by omega) (by omega)
      · rw [e77]
        exact CSn_cg hC (fun q _ => by rw [a3' 88 (by decide)]) (fun q _ => by rw [a3' 89 (by decide)]) (fun q _ => by rw [a3' 90 (by decide)]) (fun k _ => by rw [e85]) (by rw [e77]; exact Int.le_refl _)
      · intro k hk2
        rw [e85]
        by_cases e : k = a3.toNatClampNeg
        · subst e; exact a1
        · rw [a2 k e]
          rw [tnc] at e
          exact hk k (by omega)
theorem m_law86 {n : Nat} {A : qM} (hn : 200000 ≤ n) (a2 : Int32) (M : qM) (hA : Fl A M) (hG : G M) (h : a2.toInt = 0 ∨ CSn (M 77 16).toInt M) : qT (f_X12_law_86 n a2 M) (fun _ M' => G M' ∧ Fl A M' ∧ (M' 77 8).toInt = 0) := by
  unfold f_X12_law_86
  have hR : Rg M := ⟨hG.1, hG.2.1, hG.2.2.2⟩
  have h16 := r_77_16 hG
  have g1 : G (mu M 77 8 0) := G_mu hG (i_rng (lo := 0) (hi := 260) l_0 (by omega) (by omega)) nw_77_8
  refine T_k hR (i_rng (lo := 0) (hi := 260) l_0 (by omega) (by omega)) (by decide) ?_
  intro m1 a1 b1 c1 r1
  refine T_eq rfl l_0 (fun c => ?_) (fun c => ?_)
  · refine T_ret ⟨?_, Fl_1 hA (Or.inl ⟨rfl, by decide, by decide⟩) b1 c1, by rw [a1]; rfl⟩
    have e : m1 = mu M 77 8 0 := by
      funext c2 s2
      by_cases q : c2 = 77
      · subst q
        by_cases q2 : s2 = 8
        · subst q2; rw [a1, mu_at]
        · rw [b1 s2 q2, mu_ne (Or.inr q2)]
      · rw [c1 c2 q, mu_nc q]
    rw [e]; exact g1
  · have hC := h.resolve_left c
    have e16 : m1 77 16 = M 77 16 := b1 16 (by decide)
    refine T_k r1 (i_rng (lo := 0) (hi := 16) rfl (by rw [e16]; omega) (by rw [e16]; omega)) (by decide) ?_
    intro m2 a2' b2 c2 r2
    have f16 : m2 77 16 = M 77 16 := by rw [b2 16 (by decide), e16]
    refine T_mono (m_law110 (B := m2 77) hn n 0 m2 rfl (Fl_1 (Fl_1 hA (Or.inl ⟨rfl, by decide, by decide⟩) b1 c1) (Or.inl ⟨rfl, by decide, by decide⟩) b2 c2) r2 (by rw [a2', f16, e16]) ?_ (fun k hk => absurd hk (by rw [l_0]; omega)) (by rw [l_0]; omega) (by rw [l_0]; omega) (by rw [l_0]; omega)) (fun _ M' p => ⟨p.1, p.2.1, by rw [p.2.2, b2 8 (by decide), a1]; rfl⟩)
    rw [f16]
    exact CSn_cg hC (fun q _ => by rw [c2 88 (by decide), c1 88 (by decide)]) (fun q _ => by rw [c2 89 (by decide), c1 89 (by decide)]) (fun q _ => by rw [c2 90 (by decide), c1 90 (by decide)]) (fun k _ => by rw [c2 85 (by decide), c1 85 (by decide)]) (by rw [b2 14 (by decide), b1 14 (by decide)]; exact Int.le_refl _)
theorem m_law46 {n : Nat} {A : qM} (hn : 200000 ≤ n) : ∀ (m : Nat) (a2 : Int32) (M : qM), Fl A M → G M → (a2.toInt = 0 ∨ (CSn (M 77 16).toInt M ∧ (M 77 14).toInt ≤ (M 77 9).toInt ∧ (M 77 9).toInt ≤ (M 77 10).toInt ∧ 242 - (M 77 9).toInt < (m : Int))) → 0 < m → qT (f_X12_law_46 n m a2 M) (fun _ M' => G M' ∧ Fl A M' ∧ (M' 77 8).toInt = 0) := by
  intro m
  induction m with
  | zero => intro a2 M _ _ _ h; exfalso; omega
  | succ m ih =>
    intro a2 M hA hG h hm
    have h9 := r_77_9 hG
    have h10 := r_77_10 hG
    show qT (b_X12_law_46 n (f_X12_law_46 n m) a2 M) _
    unfold b_X12_law_46
    refine T_eq rfl l_0 (fun c => ?_) (fun c => ?_)
    · exact m_law86 hn a2 M hA hG (Or.inl c)
    · obtain ⟨h1, h2, h3, h4⟩ := h.resolve_left c
      refine T_le rfl rfl (fun d => ?_) (fun d => ?_)
      · exact m_law86 hn a2 M hA hG (Or.inr h1)
      · refine T_qc (t_X12_takes hn (59 : Int32) M hG (by decide)) ?_
        rintro r1 m2 ⟨t1, t2, g2, s2⟩
        refine T_eq rfl l_0 (fun c1 => ?_) (fun c1 => ?_)
        · exact ih 0 m2 (Fl_tr hA (Fl_Sm s2 rfl)) g2 (Or.inl l_0) (by omega)
        · have e16 : m2 77 16 = M 77 16 := s2 77 16 (by decide)
          have e14 : m2 77 14 = M 77 14 := s2 77 14 (by decide)
          have e10 : m2 77 10 = M 77 10 := s2 77 10 (by decide)
          have hC : CSn (m2 77 16).toInt m2 := by
            rw [e16]
            exact CSn_cg h1 (fun q _ => s2 88 q (outc rfl)) (fun q _ => s2 89 q (outc rfl)) (fun q _ => s2 90 q (outc rfl)) (fun k _ => s2 85 k (outc rfl)) (by rw [e14]; exact Int.le_refl _)
          refine T_qc (m_clause hn m2 g2 hC (by rw [e14]; omega) (by rw [e10]; omega)) ?_
          rintro r3 m4 ⟨u1, u2, g4, s4⟩
          refine T_eq rfl l_0 (fun c3 => ?_) (fun c3 => ?_)
          · exact ih 0 m4 (Fl_tr (Fl_tr hA (Fl_Sm s2 rfl)) (Fl_Sm s4 rfl)) g4 (Or.inl l_0) (by omega)
          · obtain ⟨v1, v2, v3, v4⟩ := u2.resolve_left c3
            exact ih 1 m4 (Fl_tr (Fl_tr hA (Fl_Sm s2 rfl)) (Fl_Sm s4 rfl)) g4 (Or.inr ⟨v1, v2, v3, by omega⟩) (by omega)
theorem t_X12_law {n : Nat} (hn : 200000 ≤ n) (a1 : Int32) (M : qM) (hG : G M) : qT (f_X12_law n a1 M) (fun _ M' => G M' ∧ Fl M M' ∧ (((1 ≤ a1.toInt ∧ a1.toInt ≤ 240 ∧ a1.toInt ≤ (M 77 8).toInt) ∧ (M' 77 8).toInt = 0) ∨ (¬ (1 ≤ a1.toInt ∧ a1.toInt ≤ 240 ∧ a1.toInt ≤ (M 77 8).toInt) ∧ (M' 77 8).toInt = (M 77 8).toInt))) := by
  unfold f_X12_law
  refine T_qc (t_X12_in hn a1 (1 : Int32) (240 : Int32) M hG (by decide) (by decide)) ?_
  rintro r1 m2 ⟨hr1, he1, hg1, hs1⟩
  have e1 := hs1.nil
  subst e1
  rw [l_1, l_240] at he1
  refine T_eq rfl l_0 (fun c => ?_) (fun c => ?_)
  · exact T_ret ⟨hG, Fl_rf, Or.inr ⟨by omega, rfl⟩⟩
  · refine T_le rfl rfl (fun d => ?_) (fun d => ?_)
    · have ha := (he1.resolve_left (fun q => c q.1)).2
      refine T_mu (M0 := M) (l := [(77, 78, 9, 10)]) hG Sm.rf (i_rng (lo := 0) (hi := 240) l_0 (by omega) (by omega)) nw_77_9 (i := 0) rfl ⟨by decide, by decide, Or.inr ⟨by decide, by decide⟩⟩ ?_
      intro m3 a3 g3 k3
      refine T_mu (M0 := m3) (l := [(77, 78, 10, 11)]) g3 Sm.rf (i_rng (lo := 0) (hi := 240) rfl (by omega) (by omega)) nw_77_10 (i := 0) rfl ⟨by decide, by decide, Or.inr ⟨by decide, by decide⟩⟩ ?_
      intro m4 a4 g4 k4
      refine T_mu (M0 := m4) (l := [(77, 78, 14, 15)]) g4 Sm.rf (i_rng (lo := 0) (hi := 260) l_0 (by omega) (by omega)) nw_77_14 (i := 0) rfl ⟨by decide, by decide, Or.inr ⟨by decide, by decide⟩⟩ ?_
      intro m5 a5 g5 k5
      refine T_mu (M0 := m5) (l := [(77, 78, 16, 17)]) g5 Sm.rf (i_rng (lo := 0) (hi := 16) l_0 (by omega) (by omega)) nw_77_16 (i := 0) rfl ⟨by decide, by decide, Or.inr ⟨by decide, by decide⟩⟩ ?_
      intro m6 a6 g6 k6
      have e16 : (m6 77 16).toInt = 0 := by rw [a6, mu_at]; rfl
      have e14 : (m6 77 14).toInt = 0 := by rw [a6, mu_ne (Or.inr (by decide)), a5, mu_at]; rfl
      have e10 : (m6 77 10).toInt = a1.toInt := by rw [a6, mu_ne (Or.inr (by decide)), a5, mu_ne (Or.inr (by decide)), a4, mu_at]
      have e9 : (m6 77 9).toInt = 0 := by rw [a6, mu_ne (Or.inr (by decide)), a5, mu_ne (Or.inr (by decide)), a4, mu_ne (Or.inr (by decide)), a3, mu_at]; rfl
      refine T_qc (m_clause hn m6 g6 (fun q hq => absurd hq (by omega)) (by omega) (by omega)) ?_
      rintro r7 m8 ⟨u1, u2, g8, s8⟩
      have h9 := r_77_9 g8
      refine T_mono (m_law46 hn n r7 m8 (Fl_tr (Fl_tr (Fl_tr (Fl_tr (Fl_Sm k3 rfl) (Fl_Sm k4 rfl)) (Fl_Sm k5 rfl)) (Fl_Sm k6 rfl)) (Fl_Sm s8 rfl)) g8 ?_ (by omega)) (fun _ M' p => ⟨p.1, p.2.1, Or.inl ⟨by omega, p.2.2⟩⟩)
      rcases u2 with u2 | u2
      · exact Or.inl u2
      · exact Or.inr ⟨u2.1, u2.2.1, u2.2.2.1, by omega⟩
    · exact T_ret ⟨hG, Fl_rf, Or.inr ⟨by omega, rfl⟩⟩

