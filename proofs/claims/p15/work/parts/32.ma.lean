/-! THE MODEL'S READER OF LAWS: what its codes keep to. P: the jumps that wait to be landed -/
def Ck (c : Nat → Int32) (D : Nat → Nat) (P : Nat → Prop) (cm k : Nat) : Prop :=
  ((c k).toInt / 1048576 = 0 ∧ D (k + 1) = D k + 1) ∨ ((c k).toInt / 1048576 = 1 ∧ (c k).toInt % 1048576 ≤ 11 ∧ D (k + 1) = D k + 1) ∨ ((c k).toInt / 1048576 = 10 ∧ 1 ≤ D k ∧ D (k + 1) = D k) ∨
  (((c k).toInt / 1048576 = 11 ∨ (c k).toInt / 1048576 = 12) ∧ D k = 1 ∧ D (k + 1) = 0 ∧ (P k ∨ ((k : Int) < (c k).toInt % 1048576 ∧ (c k).toInt % 1048576 ≤ (cm : Int) ∧ D ((c k).toInt % 1048576).toNat = 1))) ∨
  (2 ≤ (c k).toInt / 1048576 ∧ (c k).toInt / 1048576 ≤ 9 ∧ 2 ≤ D k ∧ D (k + 1) + 1 = D k)
def CI (f : Nat) (d : Int) (P : Nat → Prop) (c : Nat → Int32) (cm : Nat) : Prop := ∃ D : Nat → Nat, D f = 0 ∧ (D cm : Int) = d ∧ f ≤ cm ∧ (∀ k, f ≤ k → k ≤ cm → D k ≤ k) ∧ ∀ k, f ≤ k → k < cm → Ck c D P cm k
theorem CI_init {f : Nat} {P : Nat → Prop} {c : Nat → Int32} : CI f 0 P c f := ⟨fun _ => 0, rfl, rfl, Nat.le_refl _, fun k _ _ => Nat.zero_le k, fun k h1 h2 => absurd h1 (by omega)⟩
theorem CI_pos {f cm : Nat} {d : Int} {P : Nat → Prop} {c : Nat → Int32} (h : CI f d P c cm) : 0 ≤ d ∧ f ≤ cm := by
  obtain ⟨D, h0, h1, h2, h3, h4⟩ := h
  exact ⟨by omega, h2⟩
theorem CI_ext {f cm : Nat} {d d' : Int} {P P' : Nat → Prop} {c c' : Nat → Int32} (h : CI f d P c cm) (hc : ∀ k, k < cm → c' k = c k) (hP : ∀ k, k < cm → P k → P' k) (hd0 : 0 ≤ d')
    (hn : ((c' cm).toInt / 1048576 = 0 ∧ d' = d + 1) ∨ ((c' cm).toInt / 1048576 = 1 ∧ (c' cm).toInt % 1048576 ≤ 11 ∧ d' = d + 1) ∨ ((c' cm).toInt / 1048576 = 10 ∧ 1 ≤ d ∧ d' = d) ∨ (((c' cm).toInt / 1048576 = 11 ∨ (c' cm).toInt / 1048576 = 12) ∧ d = 1 ∧ d' = 0 ∧ P' cm) ∨ (2 ≤ (c' cm).toInt / 1048576 ∧ (c' cm).toInt / 1048576 ≤ 9 ∧ 2 ≤ d ∧ d' + 1 = d)) : CI f d' P' c' (cm + 1) := by
  obtain ⟨D, h0, h1, h2, h3, h4⟩ := h
  have hD : ∃ D' : Nat → Nat, (∀ k, k ≤ cm → D' k = D k) ∧ D' (cm + 1) = d'.toNat := ⟨fun k => if k = cm + 1 then d'.toNat else D k, fun k hk => if_neg (by omega), if_pos rfl⟩
  obtain ⟨D', e, e2⟩ := hD
  have h5 := h3 cm h2 (Nat.le_refl _)
  refine ⟨D', by rw [e f h2]; exact h0, by rw [e2]; omega, by omega, fun k k1 k2 => ?_, fun k k1 k2 => ?_⟩
  · by_cases q : k = cm + 1
    · rw [q, e2]; omega
    · rw [e k (by omega)]; exact h3 k k1 (by omega)
  · by_cases q : k = cm
    · subst q
      unfold Ck
      rw [e2, e k (Nat.le_refl _)]
      rcases hn with a | a | a | ⟨a1, a2, a3, a4⟩ | a
      · exact Or.inl ⟨a.1, by omega⟩
      · exact Or.inr (Or.inl ⟨a.1, a.2.1, by omega⟩)
      · exact Or.inr (Or.inr (Or.inl ⟨a.1, by omega, by omega⟩))
      · exact Or.inr (Or.inr (Or.inr (Or.inl ⟨a1, by omega, by omega, Or.inl a4⟩)))
      · exact Or.inr (Or.inr (Or.inr (Or.inr ⟨a.1, a.2.1, by omega, by omega⟩)))
    · have h6 := h4 k k1 (by omega)
      unfold Ck at h6 ⊢
      rw [hc k (by omega), e k (by omega), e (k + 1) (by omega)]
      rcases h6 with a | a | a | ⟨a1, a2, a3, a4⟩ | a
      · exact Or.inl a
      · exact Or.inr (Or.inl a)
      · exact Or.inr (Or.inr (Or.inl a))
      · refine Or.inr (Or.inr (Or.inr (Or.inl ⟨a1, a2, a3, ?_⟩)))
        rcases a4 with p | ⟨q1, q2, q3⟩
        · exact Or.inl (hP k (by omega) p)
        · exact Or.inr ⟨q1, by omega, by rw [e _ (by omega)]; exact q3⟩
      · exact Or.inr (Or.inr (Or.inr (Or.inr a)))
theorem CI_cg {f cm : Nat} {d : Int} {P P' : Nat → Prop} {c c' : Nat → Int32} (h : CI f d P c cm) (hc : ∀ k, k < cm → c' k = c k) (hP : ∀ k, k < cm → P k → P' k) : CI f d P' c' cm := by
  obtain ⟨D, h0, h1, h2, h3, h4⟩ := h
  refine ⟨D, h0, h1, h2, h3, fun k k1 k2 => ?_⟩
  have h6 := h4 k k1 k2
  unfold Ck at h6 ⊢
  rw [hc k k2]
  rcases h6 with a | a | a | ⟨a1, a2, a3, a4⟩ | a
  · exact Or.inl a
  · exact Or.inr (Or.inl a)
  · exact Or.inr (Or.inr (Or.inl a))
  · exact Or.inr (Or.inr (Or.inr (Or.inl ⟨a1, a2, a3, a4.imp (hP k k2) id⟩)))
  · exact Or.inr (Or.inr (Or.inr (Or.inr a)))
theorem CI_land {f cm j : Nat} {P P' : Nat → Prop} {c c' : Nat → Int32} (h : CI f 1 P c cm) (hj : j < cm) (hf : f ≤ j) (hop : (c j).toInt / 1048576 = 11 ∨ (c j).toInt / 1048576 = 12) (hc : ∀ k, k ≠ j → c' k = c k) (hcj : (c' j).toInt = 1048576 * ((c j).toInt / 1048576) + (cm : Int)) (hcm : cm < 1048576) (hP : ∀ k, k < cm → k ≠ j → P k → P' k) : CI f 1 P' c' cm := by
  obtain ⟨D, h0, h1, h2, h3, h4⟩ := h
  refine ⟨D, h0, h1, h2, h3, fun k k1 k2 => ?_⟩
  have h6 := h4 k k1 k2
  unfold Ck at h6 ⊢
  by_cases q : k = j
  · subst q
    have e1 : (c' k).toInt / 1048576 = (c k).toInt / 1048576 := by omega
    have e2 : (c' k).toInt % 1048576 = (cm : Int) := by omega
    rw [e1, e2]
    rcases h6 with a | a | a | ⟨a1, a2, a3, a4⟩ | a
    · omega
    · omega
    · omega
    · exact Or.inr (Or.inr (Or.inr (Or.inl ⟨a1, a2, a3, Or.inr ⟨by omega, by omega, by rw [Int.toNat_natCast]; omega⟩⟩)))
    · omega
  · rw [hc k q]
    rcases h6 with a | a | a | ⟨a1, a2, a3, a4⟩ | a
    · exact Or.inl a
    · exact Or.inr (Or.inl a)
    · exact Or.inr (Or.inr (Or.inl a))
    · exact Or.inr (Or.inr (Or.inr (Or.inl ⟨a1, a2, a3, a4.imp (hP k k2 q) id⟩)))
    · exact Or.inr (Or.inr (Or.inr (Or.inr a)))
theorem CI_WFs {f cm : Nat} {d : Int} {P : Nat → Prop} {c : Nat → Int32} (h : CI f d P c cm) (hP : ∀ k, k < cm → ¬ P k) (hcm : cm ≤ 250) (h0 : ∀ k, 0 ≤ (c k).toInt) : WFs c f cm := by
  obtain ⟨D, e0, e1, e2, e3, e4⟩ := h
  refine ⟨D, e0, fun k k1 k2 => ⟨h0 k, by have := e3 k k1 (by omega); omega, ?_⟩⟩
  have h6 := e4 k k1 k2
  unfold Ck at h6
  rcases h6 with a | a | a | ⟨a1, a2, a3, a4⟩ | a
  · exact Or.inl a
  · exact Or.inr (Or.inl a)
  · exact Or.inr (Or.inr (Or.inl a))
  · rcases a4 with p | ⟨q1, q2, q3⟩
    · exact absurd p (hP k k2)
    · exact Or.inr (Or.inr (Or.inr (Or.inl ⟨a1, by omega, by omega, q1, by omega⟩)))
  · exact Or.inr (Or.inr (Or.inr (Or.inr a)))
theorem WFs_cg {c c' : Nat → Int32} {f t : Nat} (h : WFs c f t) (hc : ∀ k, f ≤ k → k < t → c' k = c k) : WFs c' f t := by
  obtain ⟨D, h0, h1⟩ := h
  refine ⟨D, h0, fun k k1 k2 => ?_⟩
  have h2 := h1 k k1 k2
  rw [hc k k1 k2]
  exact h2
/-! what waits: sum operators are counted -/
def wc (W : Nat → Int32) (b : Nat) : Nat → Int
  | 0 => 0
  | n + 1 => wc W b n + (if b ≤ n ∧ 2 ≤ (W n).toInt / 1048576 ∧ (W n).toInt / 1048576 ≤ 6 then 1 else 0)
theorem wc_nn {W : Nat → Int32} {b : Nat} : ∀ n, 0 ≤ wc W b n := by
  intro n
  induction n with
  | zero => exact Int.le_refl _
  | succ n ih =>
    show 0 ≤ wc W b n + (if b ≤ n ∧ 2 ≤ (W n).toInt / 1048576 ∧ (W n).toInt / 1048576 ≤ 6 then 1 else 0)
    by_cases q : b ≤ n ∧ 2 ≤ (W n).toInt / 1048576 ∧ (W n).toInt / 1048576 ≤ 6
    · rw [if_pos q]; omega
    · rw [if_neg q]; omega
theorem wc_cg {W W' : Nat → Int32} {b : Nat} : ∀ n, (∀ i, i < n → W' i = W i) → wc W' b n = wc W b n := by
  intro n
  induction n with
  | zero => intro _; rfl
  | succ n ih =>
    intro h
    show wc W' b n + (if b ≤ n ∧ 2 ≤ (W' n).toInt / 1048576 ∧ (W' n).toInt / 1048576 ≤ 6 then 1 else 0) = wc W b n + (if b ≤ n ∧ 2 ≤ (W n).toInt / 1048576 ∧ (W n).toInt / 1048576 ≤ 6 then 1 else 0)
    rw [ih (fun i hi => h i (by omega)), h n (by omega)]
theorem wc_base {W : Nat → Int32} {b : Nat} : ∀ n, n ≤ b → wc W b n = 0 := by
  intro n
  induction n with
  | zero => intro _; rfl
  | succ n ih =>
    intro h
    show wc W b n + (if b ≤ n ∧ 2 ≤ (W n).toInt / 1048576 ∧ (W n).toInt / 1048576 ≤ 6 then 1 else 0) = 0
    rw [ih (by omega), if_neg (by omega)]
    rfl
theorem wc_y {W : Nat → Int32} {b n : Nat} (h : b ≤ n) (h2 : 2 ≤ (W n).toInt / 1048576) (h3 : (W n).toInt / 1048576 ≤ 6) : wc W b (n + 1) = wc W b n + 1 := by
  show wc W b n + (if b ≤ n ∧ 2 ≤ (W n).toInt / 1048576 ∧ (W n).toInt / 1048576 ≤ 6 then 1 else 0) = _
  rw [if_pos ⟨h, h2, h3⟩]
theorem wc_n {W : Nat → Int32} {b n : Nat} (h : ¬ (2 ≤ (W n).toInt / 1048576 ∧ (W n).toInt / 1048576 ≤ 6)) : wc W b (n + 1) = wc W b n := by
  show wc W b n + (if b ≤ n ∧ 2 ≤ (W n).toInt / 1048576 ∧ (W n).toInt / 1048576 ≤ 6 then 1 else 0) = _
  rw [if_neg (fun q => h q.2)]
  omega
/-- within a sum: e: how high the stack stands but for the waiting operators; s: room that others hold -/
def SJ (f g b : Nat) (e s : Int) (P : Nat → Prop) (W0 C0 : Nat → Int32) (pl len wt cm : Int) (W C : Nat → Int32) : Prop :=
  (pl ≤ len ∧ wt ≤ pl ∧ (b : Int) ≤ wt ∧ (g : Int) ≤ cm ∧ cm + wc W b wt.toNat + s ≤ pl) ∧ (∀ i : Nat, b ≤ i → (i : Int) < wt → (2 ≤ (W i).toInt / 1048576 ∧ (W i).toInt / 1048576 ≤ 6) ∨ (W i).toInt / 1048576 = 14) ∧ (∀ i, i < b → W i = W0 i) ∧ (∀ k, k < g → C k = C0 k) ∧ CI f (e + wc W b wt.toNat) P C cm.toNat
theorem SJ_s {f g b : Nat} {e s s' : Int} {P : Nat → Prop} {W0 C0 W C : Nat → Int32} {pl len wt cm : Int} (h : SJ f g b e s P W0 C0 pl len wt cm W C) (hs : s' ≤ s) : SJ f g b e s' P W0 C0 pl len wt cm W C := by
  obtain ⟨h1, h2⟩ := h
  exact ⟨by omega, h2⟩
theorem SJ_pl {f g b : Nat} {e s : Int} {P : Nat → Prop} {W0 C0 W C : Nat → Int32} {pl pl' len wt cm : Int} (h : SJ f g b e s P W0 C0 pl len wt cm W C) (h1 : pl ≤ pl') (h2 : pl' ≤ len) : SJ f g b e (s + (pl' - pl)) P W0 C0 pl' len wt cm W C := by
  obtain ⟨h3, h4⟩ := h
  exact ⟨by omega, h4⟩
theorem SJ_note {f g b : Nat} {e e' s : Int} {P : Nat → Prop} {W0 C0 W C C' : Nat → Int32} {pl len wt cm cm' : Int} (h : SJ f g b e s P W0 C0 pl len wt cm W C) (hcm : cm' = cm + 1) (hc : ∀ k, k ≠ cm.toNat → C' k = C k)
    (hn : ((C' cm.toNat).toInt / 1048576 = 0 ∧ e' = e + 1) ∨ ((C' cm.toNat).toInt / 1048576 = 1 ∧ (C' cm.toNat).toInt % 1048576 ≤ 11 ∧ e' = e + 1) ∨ (2 ≤ (C' cm.toNat).toInt / 1048576 ∧ (C' cm.toNat).toInt / 1048576 ≤ 9 ∧ 2 ≤ e + wc W b wt.toNat ∧ e' + 1 = e)) : SJ f g b e' (s - 1) P W0 C0 pl len wt cm' W C' := by
  obtain ⟨h1, h2, h3, h4, h5⟩ := h
  have h6 := CI_pos h5
  refine ⟨by omega, h2, h3, fun k hk => by rw [hc k (by omega)]; exact h4 k hk, ?_⟩
  rw [show cm'.toNat = cm.toNat + 1 by omega]
  refine CI_ext h5 (fun k hk => hc k (by omega)) (fun k _ p => p) (by omega) ?_
  rcases hn with a | a | a
  · exact Or.inl ⟨a.1, by omega⟩
  · exact Or.inr (Or.inl ⟨a.1, a.2.1, by omega⟩)
  · exact Or.inr (Or.inr (Or.inr (Or.inr ⟨a.1, a.2.1, by omega, by omega⟩)))
/-- an operator is laid aside, a sign is taken -/
theorem SJ_push {f g b : Nat} {e s : Int} {P : Nat → Prop} {W0 C0 W W' C : Nat → Int32} {pl pl' len wt wt' cm : Int} (h : SJ f g b e s P W0 C0 pl len wt cm W C) (h1 : wt' = wt + 1) (h2 : pl' = pl + 1) (h3 : pl' ≤ len) (hw : ∀ i, i ≠ wt.toNat → W' i = W i) (h4 : 2 ≤ (W' wt.toNat).toInt / 1048576) (h5 : (W' wt.toNat).toInt / 1048576 ≤ 6) : SJ f g b (e - 1) s P W0 C0 pl' len wt' cm W' C := by
  obtain ⟨g1, g2, g3, g4, g5⟩ := h
  have q1 : wc W' b wt'.toNat = wc W b wt.toNat + 1 := by
    rw [show wt'.toNat = wt.toNat + 1 by omega, wc_y (by omega) h4 h5, wc_cg _ (fun i hi => hw i (by omega))]
  refine ⟨by omega, fun i i1 i2 => ?_, fun i hi => by rw [hw i (by omega)]; exact g3 i hi, g4, ?_⟩
  · by_cases q : i = wt.toNat
    · subst q; exact Or.inl ⟨h4, h5⟩
    · rw [hw i q]; exact g2 i i1 (by omega)
  · rw [q1, show e - 1 + (wc W b wt.toNat + 1) = e + wc W b wt.toNat by omega]; exact g5
theorem SJ_open {f g b : Nat} {e s : Int} {P : Nat → Prop} {W0 C0 W W' C : Nat → Int32} {pl pl' len wt wt' cm : Int} (h : SJ f g b e s P W0 C0 pl len wt cm W C) (h1 : wt' = wt + 1) (h2 : pl' = pl + 1) (h3 : pl' ≤ len) (hw : ∀ i, i ≠ wt.toNat → W' i = W i) (h4 : (W' wt.toNat).toInt / 1048576 = 14) : SJ f g b e s P W0 C0 pl' len wt' cm W' C := by
  obtain ⟨g1, g2, g3, g4, g5⟩ := h
  have q1 : wc W' b wt'.toNat = wc W b wt.toNat := by
    rw [show wt'.toNat = wt.toNat + 1 by omega, wc_n (by omega), wc_cg _ (fun i hi => hw i (by omega))]
  refine ⟨by omega, fun i i1 i2 => ?_, fun i hi => by rw [hw i (by omega)]; exact g3 i hi, g4, ?_⟩
  · by_cases q : i = wt.toNat
    · subst q; exact Or.inr h4
    · rw [hw i q]; exact g2 i i1 (by omega)
  · rw [q1]; exact g5
theorem SJ_pop {f g b : Nat} {e s : Int} {P : Nat → Prop} {W0 C0 W C : Nat → Int32} {pl len wt wt' cm : Int} (h : SJ f g b e s P W0 C0 pl len wt cm W C) (h1 : wt' = wt - 1) (h2 : (b : Int) < wt) (h4 : 2 ≤ (W wt'.toNat).toInt / 1048576) (h5 : (W wt'.toNat).toInt / 1048576 ≤ 6) : SJ f g b (e + 1) (s + 1) P W0 C0 pl len wt' cm W C ∧ 1 ≤ wc W b wt.toNat := by
  obtain ⟨g1, g2, g3, g4, g5⟩ := h
  have q1 : wc W b wt.toNat = wc W b wt'.toNat + 1 := by
    rw [show wt.toNat = wt'.toNat + 1 by omega, wc_y (by omega) h4 h5]
  have q2 := wc_nn (W := W) (b := b) wt'.toNat
  refine ⟨⟨by omega, fun i i1 i2 => g2 i i1 (by omega), g3, g4, ?_⟩, by omega⟩
  rw [show e + 1 + wc W b wt'.toNat = e + wc W b wt.toNat by omega]; exact g5
theorem SJ_popo {f g b : Nat} {e s : Int} {P : Nat → Prop} {W0 C0 W C : Nat → Int32} {pl len wt wt' cm : Int} (h : SJ f g b e s P W0 C0 pl len wt cm W C) (h1 : wt' = wt - 1) (h2 : (b : Int) < wt) (h4 : ¬ (2 ≤ (W wt'.toNat).toInt / 1048576 ∧ (W wt'.toNat).toInt / 1048576 ≤ 6)) : SJ f g b e s P W0 C0 pl len wt' cm W C := by
  obtain ⟨g1, g2, g3, g4, g5⟩ := h
  have q1 : wc W b wt.toNat = wc W b wt'.toNat := by
    rw [show wt.toNat = wt'.toNat + 1 by omega, wc_n h4]
  refine ⟨by omega, fun i i1 i2 => g2 i i1 (by omega), g3, g4, ?_⟩
  rw [← q1]; exact g5
