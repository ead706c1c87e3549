/-! THE MODEL'S READER OF LAWS: what its codes keep to. P: the jumps that wait to be landed -/
def Ck (c : Nat → Int32) (D : Nat → Nat) (P : Nat → Prop) (cm k : Nat) : Prop :=
  ((c k).toInt / 1048576 = 0 ∧ D (k + 1) = D k + 1) ∨ ((c k).toInt / 1048576 = 1 ∧ (c k).toInt % 1048576 ≤ 11 ∧ D (k + 1) = D k + 1) ∨ ((c k).toInt / 1048576 = 10 ∧ 1 ≤ D k ∧ D (k + 1) = D k) ∨
  (((c k).toInt / 1048576 = 11 ∨ (c k).toInt / 1048576 = 12) ∧ D k = 1 ∧ D (k + 1) = 0 ∧ (P k ∨ ((k : Int) < (c k).toInt % 1048576 ∧ (c k).toInt % 1048576 ≤ (cm : Int) ∧ D ((c k).toInt % 1048576).toNat = 1))) ∨
  (2 ≤ (c k).toInt / 1048576 ∧ (c k).toInt / 1048576 ≤ 9 ∧ 2 ≤ D k ∧ D (k + 1) + 1 = D k)
def CI (f : Nat) (d : Int) (P : Nat → Prop) (c : Nat → Int32) (cm : Nat) : Prop := ∃ D : Nat → Nat, D f = 0 ∧ (D cm : Int) = d ∧ f ≤ cm ∧ (∀ k, f ≤ k → k ≤ cm → D k ≤ k) ∧ ∀ k, f ≤ k → k < cm → Ck c D P cm k
theorem CI_init {f : Nat} {P : Nat → Prop} {c : Nat → Int32} : CI f 0 P c f := ⟨fun _ => 0, rfl, rfl, Nat.le_refl _, fun k _ _ => Nat.zero_le k, fun k h1 h2 => absurd h1 (by omega)⟩
theorem CI_pos {f cm : Nat} {d : Int} {P : Nat → Prop} {c : Nat → Int32} (h : CI f d P c cm) : 0 ≤ d ∧ f ≤ cm := by
  obtain ⟨D, h0, h1, h2, h3, h4⟩ := h
  exact ⟨by omega, h2⟩
theorem CI_ext {f cm : Nat} {d d' : Int} {P P' : Nat → Prop} {c c' : Nat → Int32} (h : CI f d P c cm) (hc : ∀ k, k < cm → c' k = c k) (hP : ∀ k, k < cm → P k → P' k) (hd0 : 0 ≤ d')
    (hn : ((c' cm).toInt / 1048576 = 0 ∧ d' = d + 1) ∨ ((c' cm).toInt / 1048576 = 1 ∧ (c' cm).toInt % 1048576 ≤ 11 ∧ d' = d + 1) ∨ ((c' cm).toInt / 1048576 = 10 ∧ 1 ≤ d ∧ d' = d) ∨ (((c' cm).toInt / 1048576 = 11 ∨ (c' cm).toInt / 1048576 = 12) ∧ d = 1 ∧ d' = 0 ∧ P' cm) ∨ (2 ≤ (c' cm).toInt / 1048576 ∧ (c' cm).toInt / 1048576 ≤ 9 ∧ 2 ≤ d ∧ d' + 1 = d)) : CI f d' P' c' (cm + 1) := by
  obtain ⟨D, h0, h1, h2, h3, h4⟩ := h
  have hD : ∃ D' : Nat → Nat, (∀ k, k ≤ cm → D' k = D k) ∧ D' (cm + 1) = d'.toNat := ⟨fun k => if k = cm + 1 then d'.toNat else D k, fun k hk => if_neg (by omega), if_pos rfl⟩
  obtain ⟨D', e, e2⟩ := hD
  have h5 := h3 cm h2 (Nat.le_refl _)
  refine ⟨D', by rw [e f h2]; exact h0, by rw [e2]; omega, by omega, fun k k1 k2 => ?_, fun k k1 k2 => ?_⟩
  · by_cases q : k = cm + 1
    · rw [q, e2]; omega
    · rw [e k (by omega)]; exact h3 k k1 (by omega)
  · by_cases q : k = cm
    · subst q
      unfold Ck
      rw [e2, e k (Nat.le_refl _)]
      rcases hn with a | a | a | ⟨a1, a2, a3, a4⟩ | a
      · exact Or.inl ⟨a.1, by omega⟩
      · exact Or.inr (Or.inl ⟨a.1, a.2.1, by omega⟩)
      · exact Or.inr (Or.inr (Or.inl ⟨a.1, by omega, by omega⟩))
      · exact Or.inr (Or.inr (Or.inr (Or.inl ⟨a1, by omega, by omega, Or.inl a4⟩)))
      · exact Or.inr (Or.inr (Or.inr (Or.inr ⟨a.1, a.2.1, by omega, by omega⟩)))
    · have h6 := h4 k k1 (by omega)
      unfold Ck at h6 ⊢
      rw [hc k (by omega), e k (by omega), e (k + 1) (by omega)]
      rcases h6 with a | a | a | ⟨a1, a2, a3, a4⟩ | a
      · exact Or.inl a
      · exact Or.inr (Or.inl a)
      · exact Or.inr (Or.inr (Or.inl a))
      · refine Or.inr (Or.inr (Or.inr (Or.inl ⟨a1, a2, a3, ?_⟩)))
        rcases a4 with p | ⟨q1, q2, q3⟩
        · exact Or.inl (hP k (by omega) p)
        · exact Or.inr ⟨q1, by omega, by rw [e _ (by omega)]; exact q3⟩
      · exact Or.inr (Or.inr (Or.inr (Or.inr a)))
theorem CI_cg {f cm : Nat} {d : Int} {P P' : Nat → Prop} {c c' : Nat → Int32} (h : CI f d P c cm) (hc : ∀ k, k < cm → c' k = c k) (hP : ∀ k, k < cm → P k → P' k) : CI f d P' c' cm := by
  obtain ⟨D, h0, h1, h2, h3, h4⟩ := h
  refine ⟨D, h0, h1, h2, h3, fun k k1 k2 => ?_⟩
  have h6 := h4 k k1 k2
  unfold Ck at h6 ⊢
  rw [hc k k2]
  rcases h6 with a | a | a | ⟨a1, a2, a3, a4⟩ | a
  · exact Or.inl a
  · exact Or.inr (Or.inl a)
  · exact Or.inr (Or.inr (Or.inl a))
  · exact Or.inr (Or.inr (Or.inr (Or.inl ⟨a1, a2, a3, a4.imp (hP k k2) id⟩)))
  · exact Or.inr (Or.inr (Or.inr (Or.inr a)))
theorem CI_land {f cm j : Nat} {P P' : Nat → Prop} {c c' : Nat → Int32} (h : CI f 1 P c cm) (hj : j < cm) (hf : f ≤ j) (hop : (c j).toInt / 1048576 = 11 ∨ (c j).toInt / 1048576 = 12) (hc : ∀ k, k ≠ j → c' k = c k) (hcj : (c' j).toInt = 1048576 * ((c j).toInt / 1048576) + (cm : Int)) (hcm : cm < 1048576) (hP : ∀ k, k < cm → k ≠ j → P k → P' k) : CI f 1 P' c' cm := by
  obtain ⟨D, h0, h1, h2, h3, h4⟩ := h
  refine ⟨D, h0, h1, h2, h3, fun k k1 k2 => ?_⟩
  have h6 := h4 k k1 k2
  unfold Ck at h6 ⊢
  by_cases q : k = j
  · subst q
    have e1 : (c' k).toInt / 1048576 = (c k).toInt / 1048576 := by omega
    have e2 : (c' k).toInt % 1048576 = (cm : Int) := by omega
    rw [e1, e2]
    rcases h6 with a | a | a | ⟨a1, a2, a3, a4⟩ | a
    · omega
    · omega
    · omega
    · exact Or.inr (Or.inr (Or.inr (Or.inl ⟨a1, a2, a3, Or.inr ⟨by omega, by omega, by rw [Int.toNat_natCast]; omega⟩⟩)))
    · omega
  · rw [hc k q]
    rcases h6 with a | a | a | ⟨a1, a2, a3, a4⟩ | a
    · exact Or.inl a
    · exact Or.inr (Or.inl a)
    · exact Or.inr (Or.inr (Or.inl a))
    · exact Or.inr (Or.inr (Or.inr (Or.inl ⟨a1, a2, a3, a4.imp (hP k k2 q) id⟩)))
    · exact Or.inr (Or.inr (Or.inr (Or.inr a)))
theorem CI_WFs {f cm : Nat} {d : Int} {P : Nat → Prop} {c : Nat → Int32} (h : CI f d P c cm) (hP : ∀ k, k < cm → ¬ P k) (hcm : cm ≤ 250) (h0 : ∀ k, 0 ≤ (c k).toInt) : WFs c f cm := by
  obtain ⟨D, e0, e1, e2, e3, e4⟩ := h
  refine ⟨D, e0, fun k k1 k2 => ⟨h0 k, by have := e3 k k1 (by omega); omega, ?_⟩⟩
  have h6 := e4 k k1 k2
  unfold Ck at h6
  rcases h6 with a | a | a | ⟨a1, a2, a3, a4⟩ | a
  · exact Or.inl a
  · exact Or.inr (Or.inl a)
  · exact Or.inr (Or.inr (Or.inl a))
  · rcases a4 with p | ⟨q1, q2, q3⟩
    · exact absurd p (hP k k2)
    · exact Or.inr (Or.inr (Or.inr (Or.inl ⟨a1, by omega, by omega, q1, by omega⟩)))
  · exact Or.inr (Or.inr (Or.inr (Or.inr a)))
theorem WFs_cg {c c' : Nat → Int32} {f t : Nat} (h : WFs c f t) (hc : ∀ k, f ≤ k → k < t → c' k = c k) : WFs c' f t := by
  obtain ⟨D, h0, h1⟩ := h
  refine ⟨D, h0, fun k k1 k2 => ?_⟩
  have h2 := h1 k k1 k2
  rw [hc k k1 k2]
  exact h2
/-! what waits: sum operators are counted -/
def wc (W : Nat → Int32) (b : Nat) : Nat → Int
  | 0 => 0
  | n + 1 => wc W b n + (if b ≤ n ∧ 2 ≤ (W n).toInt / 1048576 ∧ (W n).toInt / 1048576 ≤ 6 then 1 else 0)
theorem wc_nn {W : Nat → Int32} {b : Nat} : ∀ n, 0 ≤ wc W b n := by
  intro n
  induction n with
  | zero => exact Int.le_refl _
  | succ n ih =>
    show 0 ≤ wc W b n + (if b ≤ n ∧ 2 ≤ (W n).toInt / 1048576 ∧ (W n).toInt / 1048576 ≤ 6 then 1 else 0)
    by_cases q : b ≤ n ∧ 2 ≤ (W n).toInt / 1048576 ∧ (W n).toInt / 1048576 ≤ 6
    · rw [if_pos q]; omega
    · rw [if_neg q]; omega
theorem wc_cg {W W' : Nat → Int32} {b : Nat} : ∀ n, (∀ i, i < n → W' i = W i) → wc W' b n = wc W b n := by
  intro n
  induction n with
  | zero => intro _; rfl
  | succ n ih =>
    intro h
    show wc W' b n + (if b ≤ n ∧ 2 ≤ (W' n).toInt / 1048576 ∧ (W' n).toInt / 1048576 ≤ 6 then 1 else 0) = wc W b n + (if b ≤ n ∧ 2 ≤ (W n).toInt / 1048576 ∧ (W n).toInt / 1048576 ≤ 6 then 1 else 0)
    rw [ih (fun i hi => h i (by omega)), h n (by omega)]
theorem wc_base {W : Nat → Int32} {b : Nat} : ∀ n, n ≤ b → wc W b n = 0 := by
  intro n
  induction n with
  | zero => intro _; rfl
  | succ n ih =>
    intro h
    show wc W b n + (if b ≤ n ∧ 2 ≤ (W n).toInt / 1048576 ∧ (W n).toInt / 1048576 ≤ 6 then 1 else 0) = 0
    rw [ih (by omega), if_neg (by omega)]
    rfl
theorem wc_y {W : Nat → Int32} {b n : Nat} (h : b ≤ n) (h2 : 2 ≤ (W n).toInt / 1048576) (h3 : (W n).toInt / 1048576 ≤ 6) : wc W b (n + 1) = wc W b n + 1 := by
  show wc W b n + (if b ≤ n ∧ 2 ≤ (W n).toInt / 1048576 ∧ (W n).toInt / 1048576 ≤ 6 then 1 else 0) = _
  rw [if_pos ⟨h, h2, h3⟩]
theorem wc_n {W : Nat → Int32} {b n : Nat} (h : ¬ (2 ≤ (W n).toInt / 1048576 ∧ (W n).toInt / 1048576 ≤ 6)) : wc W b (n + 1) = wc W b n := by
  show wc W b n + (if b ≤ n ∧ 2 ≤ (W n).toInt / 1048576 ∧ (W n).toInt / 1048576 ≤ 6 then 1 else 0) = _
  rw [if_neg (fun q => h q.2)]
  omega
/-- within a sum: e: how high the stack stands but for the waiting operators; s: room that others hold -/
def SJ (f g b : Nat) (e s : Int) (P : Nat → Prop) (W0 C0 : Nat → Int32) (pl len wt cm : Int) (W C : Nat → Int32) : Prop :=
  (pl ≤ len ∧ wt ≤ pl ∧ (b : Int) ≤ wt ∧ (g : Int) ≤ cm ∧ cm + wc W b wt.toNat + s ≤ pl) ∧ (∀ i : Nat, b ≤ i → (i : Int) < wt → (2 ≤ (W i).toInt / 1048576 ∧ (W i).toInt / 1048576 ≤ 6) ∨ (W i).toInt / 1048576 = 14) ∧ (∀ i, i < b → W i = W0 i) ∧ (∀ k, k < g → C k = C0 k) ∧ CI f (e + wc W b wt.toNat) P C cm.toNat
theorem SJ_s {f g b : Nat} {e s s' : Int} {P : Nat → Prop} {W0 C0 W C : Nat → Int32} {pl len wt cm : Int} (h : SJ f g b e s P W0 C0 pl len wt cm W C) (hs : s' ≤ s) : SJ f g b e s' P W0 C0 pl len wt cm W C := by
  obtain ⟨h1, h2⟩ := h
  exact ⟨by omega, h2⟩
theorem SJ_pl {f g b : Nat} {e s : Int} {P : Nat → Prop} {W0 C0 W C : Nat → Int32} {pl pl' len wt cm : Int} (h : SJ f g b e s P W0 C0 pl len wt cm W C) (h1 : pl ≤ pl') (h2 : pl' ≤ len) : SJ f g b e (s + (pl' - pl)) P W0 C0 pl' len wt cm W C := by
  obtain ⟨h3, h4⟩ := h
  exact ⟨by omega, h4⟩
theorem SJ_note {f g b : Nat} {e e' s : Int} {P : Nat → Prop} {W0 C0 W C C' : Nat → Int32} {pl len wt cm cm' : Int} (h : SJ f g b e s P W0 C0 pl len wt cm W C) (hcm : cm' = cm + 1) (hc : ∀ k, k ≠ cm.toNat → C' k = C k)
    (hn : ((C' cm.toNat).toInt / 1048576 = 0 ∧ e' = e + 1) ∨ ((C' cm.toNat).toInt / 1048576 = 1 ∧ (C' cm.toNat).toInt % 1048576 ≤ 11 ∧ e' = e + 1) ∨ (2 ≤ (C' cm.toNat).toInt / 1048576 ∧ (C' cm.toNat).toInt / 1048576 ≤ 9 ∧ 2 ≤ e + wc W b wt.toNat ∧ e' + 1 = e)) : SJ f g b e' (s - 1) P W0 C0 pl len wt cm' W C' := by
  obtain ⟨h1, h2, h3, h4, h5⟩ := h
  have h6 := CI_pos h5
  refine ⟨by omega, h2, h3, fun k hk => by rw [hc k (by omega)]; exact h4 k hk, ?_⟩
  rw [show cm'.toNat = cm.toNat + 1 by omega]
  refine CI_ext h5 (fun k hk => hc k (by omega)) (fun k _ p => p) (by omega) ?_
  rcases hn with a | a | a
  · exact Or.inl ⟨a.1, by omega⟩
  · exact Or.inr (Or.inl ⟨a.1, a.2.1, by omega⟩)
  · exact Or.inr (Or.inr (Or.inr (Or.inr ⟨a.1, a.2.1, by omega, by omega⟩)))
/-- an operator is laid aside, a sign is taken -/
theorem SJ_push {f g b : Nat} {e s : Int} {P : Nat → Prop} {W0 C0 W W' C : Nat → Int32} {pl pl' len wt wt' cm : Int} (h : SJ f g b e s P W0 C0 pl len wt cm W C) (h1 : wt' = wt + 1) (h2 : pl' = pl + 1) (h3 : pl' ≤ len) (hw : ∀ i, i ≠ wt.toNat → W' i = W i) (h4 : 2 ≤ (W' wt.toNat).toInt / 1048576) (h5 : (W' wt.toNat).toInt / 1048576 ≤ 6) : SJ f g b (e - 1) s P W0 C0 pl' len wt' cm W' C := by
  obtain ⟨g1, g2, g3, g4, g5⟩ := h
  have q1 : wc W' b wt'.toNat = wc W b wt.toNat + 1 := by
    rw [show wt'.toNat = wt.toNat + 1 by omega, wc_y (by omega) h4 h5, wc_cg _ (fun i hi => hw i (by omega))]
  refine ⟨by omega, fun i i1 i2 => ?_, fun i hi => by rw [hw i (by omega)]; exact g3 i hi, g4, ?_⟩
  · by_cases q : i = wt.toNat
    · subst q; exact Or.inl ⟨h4, h5⟩
    · rw [hw i q]; exact g2 i i1 (by omega)
  · rw [q1, show e - 1 + (wc W b wt.toNat + 1) = e + wc W b wt.toNat by omega]; exact g5
theorem SJ_open {f g b : Nat} {e s : Int} {P : Nat → Prop} {W0 C0 W W' C : Nat → Int32} {pl pl' len wt wt' cm : Int} (h : SJ f g b e s P W0 C0 pl len wt cm W C) (h1 : wt' = wt + 1) (h2 : pl' = pl + 1) (h3 : pl' ≤ len) (hw : ∀ i, i ≠ wt.toNat → W' i = W i) (h4 : (W' wt.toNat).toInt / 1048576 = 14) : SJ f g b e s P W0 C0 pl' len wt' cm W' C := by
  obtain ⟨g1, g2, g3, g4, g5⟩ := h
  have q1 : wc W' b wt'.toNat = wc W b wt.toNat := by
    rw [show wt'.toNat = wt.toNat + 1 by omega, wc_n (by omega), wc_cg _ (fun i hi => hw i (by omega))]
  refine ⟨by omega, fun i i1 i2 => ?_, fun i hi => by rw [hw i (by omega)]; exact g3 i hi, g4, ?_⟩
  · by_cases q : i = wt.toNat
    · subst q; exact Or.inr h4
    · rw [hw i q]; exact g2 i i1 (by omega)
  · rw [q1]; exact g5
theorem SJ_pop {f g b : Nat} {e s : Int} {P : Nat → Prop} {W0 C0 W C : Nat → Int32} {pl len wt wt' cm : Int} (h : SJ f g b e s P W0 C0 pl len wt cm W C) (h1 : wt' = wt - 1) (h2 : (b : Int) < wt) (h4 : 2 ≤ (W wt'.toNat).toInt / 1048576) (h5 : (W wt'.toNat).toInt / 1048576 ≤ 6) : SJ f g b (e + 1) (s + 1) P W0 C0 pl len wt' cm W C ∧ 1 ≤ wc W b wt.toNat := by
  obtain ⟨g1, g2, g3, g4, g5⟩ := h
  have q1 : wc W b wt.toNat = wc W b wt'.toNat + 1 := by
    rw [show wt.toNat = wt'.toNat + 1 by omega, wc_y (by omega) h4 h5]
  have q2 := wc_nn (W := W) (b := b) wt'.toNat
  refine ⟨⟨by omega, fun i i1 i2 => g2 i i1 (by omega), g3, g4, ?_⟩, by omega⟩
  rw [show e + 1 + wc W b wt'.toNat = e + wc W b wt.toNat by omega]; exact g5
theorem SJ_popo {f g b : Nat} {e s : Int} {P : Nat → Prop} {W0 C0 W C : Nat → Int32} {pl len wt wt' cm : Int} (h : SJ f g b e s P W0 C0 pl len wt cm W C) (h1 : wt' = wt - 1) (h2 : (b : Int) < wt) (h4 : ¬ (2 ≤ (W wt'.toNat).toInt / 1048576 ∧ (W wt'.toNat).toInt / 1048576 ≤ 6)) : SJ f g b e s P W0 C0 pl len wt' cm W C := by
  obtain ⟨g1, g2, g3, g4, g5⟩ := h
  have q1 : wc W b wt.toNat = wc W b wt'.toNat := by
    rw [show wt.toNat = wt'.toNat + 1 by omega, wc_n h4]
  refine ⟨by omega, fun i i1 i2 => g2 i i1 (by omega), g3, g4, ?_⟩
  rw [← q1]; exact g5

abbrev lQ : List Bx := [(77, 78, 9, 10), (77, 78, 11, 16), (85, 87, 0, 0)]
theorem T_w {M0 M : qM} {s : Nat} {v : Int32} {f : qM → qR} {Q : Int32 → qM → Prop} (hs : s = 9 ∨ (11 ≤ s ∧ s ≤ 15)) (hG : G M) (hS : Sm lQ M0 M) (hr : Rin 77 s v) (h : ∀ m : qM, m 77 s = v → (∀ s2, s2 ≠ s → m 77 s2 = M 77 s2) → (∀ c, c ≠ 77 → m c = M c) → G m → Sm lQ M0 m → qT (f m) Q) : qT (qlm (mu M 77 s v) f) Q := by
  refine h _ mu_at (fun s2 h2 => mu_ne (Or.inr h2)) (fun c hc => mu_nc hc) (G_mu hG hr (by unfold nW; omega)) ?_
  rcases hs with rfl | hs
  · exact hS.mu (i := 0) rfl ⟨by decide, by decide, Or.inr ⟨by decide, by decide⟩⟩
  · exact hS.mu (i := 1) rfl ⟨by decide, by decide, Or.inr ⟨by show 11 ≤ s; omega, by show s < 16; omega⟩⟩
theorem T_r {M0 M : qM} {c i : Nat} {v : Int32} {f : qM → qR} {Q : Int32 → qM → Prop} (hc : c = 85 ∨ c = 86) (hG : G M) (hS : Sm lQ M0 M) (hr : 0 ≤ v.toInt ∧ v.toInt ≤ 20000000) (h : ∀ m : qM, m c i = v → (∀ j, j ≠ i → m c j = M c j) → (∀ c2, c2 ≠ c → m c2 = M c2) → G m → Sm lQ M0 m → qT (f m) Q) : qT (qlm (mu M c i v) f) Q := by
  refine h _ mu_at (fun s2 h2 => mu_ne (Or.inr h2)) (fun c2 hc2 => mu_nc hc2) (G_mu hG ?_ ?_) (hS.mu (i := 2) rfl ⟨?_, ?_, Or.inl rfl⟩)
  · rcases hc with rfl | rfl
    · exact hr
    · exact hr
  · rcases hc with rfl | rfl
    · exact nw_85 _
    · exact nw_86 _
  · show 85 ≤ c; omega
  · show c < 87; omega
theorem m_notes {n : Nat} {M0 : qM} (a b : Int32) (M : qM) (hG : G M) (hS : Sm lQ M0 M) (ha : 0 ≤ a.toInt ∧ a.toInt ≤ 14) (hb : 0 ≤ b.toInt ∧ b.toInt ≤ 999999) (hc : (M 77 14).toInt < 250) : qT (f_X12_notes n a b M) (fun _ m => (m 77 14).toInt = (M 77 14).toInt + 1 ∧ (m 85 (M 77 14).toInt.toNat).toInt = 1048576 * a.toInt + b.toInt ∧ (∀ k, k ≠ (M 77 14).toInt.toNat → m 85 k = M 85 k) ∧ (∀ s, s ≠ 14 → m 77 s = M 77 s) ∧ (∀ c, c ≠ 77 → c ≠ 85 → m c = M c) ∧ G m ∧ Sm lQ M0 m) := by
  have h14 := r_77_14 hG
  unfold f_X12_notes
  refine T_qg rfl (by omega) (by omega) ?_
  have ev : ((1048576 : Int32) * a + b).toInt = 1048576 * a.toInt + b.toInt := i_add (i_mul l_1048576 rfl (by omega) (by omega)) rfl (by omega) (by omega)
  refine T_r (Or.inl rfl) hG hS (by rw [ev]; omega) ?_
  intro m1 e1 e2 e3 g1 s1
  have c1 : m1 77 14 = M 77 14 := by rw [e3 77 (by decide)]
  rw [c1]
  have ew : (M 77 14 + 1).toInt = (M 77 14).toInt + 1 := i_add rfl l_1 (by omega) (by omega)
  refine T_w (Or.inr (by decide)) g1 s1 (i_rng (lo := 0) (hi := 260) ew (by omega) (by omega)) ?_
  intro m2 d1 d2 d3 g2 s2
  refine T_ret ⟨by rw [d1]; exact ew, ?_, fun k hk => ?_, fun s hs => ?_, fun c h1 h2 => ?_, g2, s2⟩
  · rw [d3 85 (by decide)]
    have e4 : m1 85 (M 77 14).toInt.toNat = 1048576 * a + b := e1
    rw [e4]; exact ev
  · rw [d3 85 (by decide)]; exact e2 k hk
  · rw [d2 s hs, e3 77 (by decide)]
  · rw [d3 c h1, e3 c h2]
theorem m_top {n : Nat} (M : qM) (hG : G M) : qT (f_X12_waitTop n M) (fun v m => m = M ∧ ((v.toInt = -1 ∧ (M 77 15).toInt = 0) ∨ (1 ≤ (M 77 15).toInt ∧ v.toInt = (M 86 ((M 77 15).toInt - 1).toNat).toInt / 1048576))) := by
  have h15 := r_77_15 hG
  unfold f_X12_waitTop
  refine T_eq rfl l_0 (fun c => ?_) (fun c => ?_)
  · exact T_ret ⟨rfl, Or.inl ⟨l_m1, c⟩⟩
  · have e1 : (M 77 15 - 1).toInt = (M 77 15).toInt - 1 := i_sub rfl l_1 (by omega) (by omega)
    refine T_qg e1 (by omega) (by omega) (T_ret ⟨rfl, Or.inr ⟨by omega, ?_⟩⟩)
    have h86 := r_86 hG (M 77 15 - 1).toNatClampNeg
    rw [i_div rfl l_1048576 h86.1 (by decide), tnc, e1]
abbrev SI (f g b : Nat) (e s : Int) (P : Nat → Prop) (W0 C0 : Nat → Int32) (M : qM) : Prop := SJ f g b e s P W0 C0 (M 77 9).toInt (M 77 10).toInt (M 77 15).toInt (M 77 14).toInt (M 86) (M 85)
theorem SI_mk {f g b : Nat} {e s : Int} {P : Nat → Prop} {W0 C0 W C : Nat → Int32} {pl len wt cm : Int} {m : qM} (h : SJ f g b e s P W0 C0 pl len wt cm W C) (e1 : (m 77 9).toInt = pl) (e2 : (m 77 10).toInt = len) (e3 : (m 77 15).toInt = wt) (e4 : (m 77 14).toInt = cm) (e5 : m 86 = W) (e6 : m 85 = C) : SI f g b e s P W0 C0 m := by
  subst e1; subst e2; subst e3; subst e4; subst e5; subst e6
  exact h
/-- operators were taken off the top, nothing else -/
def Pm (M1 M : qM) : Prop := M 86 = M1 86 ∧ M 77 9 = M1 77 9 ∧ (M 77 15).toInt ≤ (M1 77 15).toInt ∧ ∀ i : Nat, (M 77 15).toInt ≤ (i : Int) → (i : Int) < (M1 77 15).toInt → 2 ≤ (M1 86 i).toInt / 1048576 ∧ (M1 86 i).toInt / 1048576 ≤ 6
theorem Pm_rf {M : qM} : Pm M M := ⟨rfl, rfl, Int.le_refl _, fun i h1 h2 => absurd h1 (by omega)⟩
abbrev Qc (f g b : Nat) (e s : Int) (P : Nat → Prop) (W0 C0 : Nat → Int32) (a : Int32) (M0 M1 : qM) (M' : qM) : Prop := SI f g b e s P W0 C0 M' ∧ Pm M1 M' ∧ (a.toInt ≠ 0 → (M' 77 15).toInt = 0 ∨ ¬ (2 ≤ (M' 86 ((M' 77 15).toInt - 1).toNat).toInt / 1048576 ∧ (M' 86 ((M' 77 15).toInt - 1).toNat).toInt / 1048576 ≤ 6)) ∧ G M' ∧ Sm lQ M0 M'
theorem m_closes {n : Nat} {f g b : Nat} {e s : Int} {P : Nat → Prop} {W0 C0 : Nat → Int32} (hw : ∀ i, i < b → ¬ (2 ≤ (W0 i).toInt / 1048576 ∧ (W0 i).toInt / 1048576 ≤ 6)) (he : 1 ≤ e) (hs : 0 ≤ s) (a : Int32) {M0 M1 : qM} : ∀ (m : Nat) (M : qM), G M → Sm lQ M0 M → SI f g b e s P W0 C0 M → Pm M1 M → (M 77 15).toInt < (m : Int) → qT (f_X12_closesSums_0 n m a M) (fun _ M' => Qc f g b e s P W0 C0 a M0 M1 M') := by
  intro m
  induction m with
  | zero => intro M hG _ _ _ h; have := r_77_15 hG; exfalso; omega
  | succ m ih =>
    intro M hG hS hI hP hm
    have h15 := r_77_15 hG
    have h10 := r_77_10 hG
    have h14 := r_77_14 hG
    have step : 1 ≤ (M 77 15).toInt → 2 ≤ (M 86 ((M 77 15).toInt - 1).toNat).toInt / 1048576 → (M 86 ((M 77 15).toInt - 1).toNat).toInt / 1048576 ≤ 6 → qT (f_X12_closesSums_37 n (f_X12_closesSums_0 n m) a M) (fun _ M' => Qc f g b e s P W0 C0 a M0 M1 M') := by
      intro k1 k2 k3
      have hI2 := hI
      obtain ⟨j1, j2, j3, j4, j5⟩ := hI2
      have hnn := wc_nn (W := M 86) (b := b) (M 77 15).toInt.toNat
      have hb : (b : Int) < (M 77 15).toInt := by
        apply Classical.byContradiction
        intro q
        have q2 := j3 ((M 77 15).toInt - 1).toNat (by omega)
        rw [q2] at k2 k3
        exact hw _ (by omega) ⟨k2, k3⟩
      unfold f_X12_closesSums_37
      refine T_qc (m_top M hG) ?_
      rintro r1 m2 ⟨rfl, ht⟩
      refine T_qc (m_notes r1 0 m2 hG hS (by omega) (by rw [l_0]; omega) (by omega)) ?_
      rintro _ m3 ⟨d1, d2, d3, d4, d5, g3, s3⟩
      have c15 : m3 77 15 = m2 77 15 := d4 15 (by decide)
      rw [c15]
      have ew : (m2 77 15 - 1).toInt = (m2 77 15).toInt - 1 := i_sub rfl l_1 (by omega) (by omega)
      refine T_w (Or.inr (by decide)) g3 s3 (i_rng (lo := 0) (hi := 260) ew (by omega) (by omega)) ?_
      intro m4 f1 f2 f3 g4 s4
      have w4 : (m4 77 15).toInt = (m2 77 15).toInt - 1 := by rw [f1]; exact ew
      have e86 : m4 86 = m2 86 := by rw [f3 86 (by decide), d5 86 (by decide) (by decide)]
      have e85 : m4 85 = m3 85 := f3 85 (by decide)
      have e9 : m4 77 9 = m2 77 9 := by rw [f2 9 (by decide), d4 9 (by decide)]
      have e10 : m4 77 10 = m2 77 10 := by rw [f2 10 (by decide), d4 10 (by decide)]
      have e14 : m4 77 14 = m3 77 14 := f2 14 (by decide)
      have tk : (m2 86 ((m4 77 15).toInt).toNat).toInt / 1048576 = (m2 86 ((m2 77 15).toInt - 1).toNat).toInt / 1048576 := by rw [w4]
      have p1 := (SJ_pop hI w4 hb (by rw [tk]; exact k2) (by rw [tk]; exact k3)).2
      have q1 := SJ_note (e' := e - 1) hI d1 d3 (by
        rw [d2, l_0]
        right; right
        exact ⟨by omega, by omega, by omega, by omega⟩)
      have q2 := (SJ_pop q1 w4 hb (by rw [tk]; exact k2) (by rw [tk]; exact k3)).1
      rw [show e - 1 + 1 = e by omega, show s - 1 + 1 = s by omega] at q2
      refine ih m4 g4 s4 (SI_mk q2 (by rw [e9]) (by rw [e10]) rfl (by rw [e14]) e86 e85) ⟨?_, ?_, ?_, ?_⟩ (by omega)
      · rw [e86]; exact hP.1
      · rw [e9]; exact hP.2.1
      · have := hP.2.2.1; omega
      · intro i i1 i2
        by_cases q : (m2 77 15).toInt ≤ (i : Int)
        · exact hP.2.2.2 i q i2
        · have q3 : i = ((m2 77 15).toInt - 1).toNat := by omega
          rw [← hP.1, q3]
          exact ⟨k2, k3⟩
    show qT (b_X12_closesSums_0 n (f_X12_closesSums_0 n m) a M) _
    unfold b_X12_closesSums_0
    have s17 : (∀ v : Int, (v = 4 ∨ v = 5 ∨ v = 6) → ¬ (1 ≤ (M 77 15).toInt ∧ v = (M 86 ((M 77 15).toInt - 1).toNat).toInt / 1048576)) → qT (f_X12_closesSums_17 n (f_X12_closesSums_0 n m) a M) (fun _ M' => Qc f g b e s P W0 C0 a M0 M1 M') := by
      intro hno
      unfold f_X12_closesSums_17
      refine T_eq rfl l_0 (fun c => ?_) (fun c => ?_)
      · exact T_ret ⟨hI, hP, fun h => absurd c h, hG, hS⟩
      · refine T_qc (m_top M hG) ?_
        rintro r1 m2 ⟨rfl, ht⟩
        refine T_eq rfl l_2 (fun c2 => ?_) (fun c2 => ?_)
        · exact step (by omega) (by omega) (by omega)
        · refine T_qc (m_top m2 hG) ?_
          rintro r3 m4 ⟨rfl, ht3⟩
          refine T_eq rfl l_3 (fun c3 => ?_) (fun c3 => ?_)
          · exact step (by omega) (by omega) (by omega)
          · refine T_ret ⟨hI, hP, fun _ => ?_, hG, hS⟩
            have n4 := hno 4 (by omega)
            have n5 := hno 5 (by omega)
            have n6 := hno 6 (by omega)
            omega
    refine T_qc (m_top M hG) ?_
    rintro r1 m2 ⟨rfl, ht⟩
    refine T_lt rfl l_4 (fun c => ?_) (fun c => ?_)
    · exact s17 (fun v hv => by omega)
    · refine T_qc (m_top m2 hG) ?_
      rintro r3 m4 ⟨rfl, ht3⟩
      refine T_le rfl l_6 (fun c3 => ?_) (fun c3 => ?_)
      · exact step (by omega) (by omega) (by omega)
      · exact s17 (fun v hv => by omega)

theorem m_opens {n : Nat} {M0 : qM} (hn : 200000 ≤ n) (a : Int32) (M : qM) (hG : G M) (hS : Sm lQ M0 M) (ha : 0 ≤ a.toInt ∧ a.toInt ≤ 14) (hpl : (M 77 9).toInt < (M 77 10).toInt) (hwt : (M 77 15).toInt ≤ (M 77 9).toInt) : qT (f_X12_opens n a M) (fun v m => (0 ≤ v.toInt ∧ v.toInt ≤ 1) ∧ (v.toInt = 0 ∨ ((m 77 15).toInt = (M 77 15).toInt + 1 ∧ (m 77 9).toInt = (M 77 9).toInt + 1 ∧ m 77 10 = M 77 10 ∧ m 77 14 = M 77 14 ∧ (m 86 (M 77 15).toInt.toNat).toInt = 1048576 * a.toInt ∧ (∀ i, i ≠ (M 77 15).toInt.toNat → m 86 i = M 86 i) ∧ m 85 = M 85)) ∧ G m ∧ Sm lQ M0 m) := by
  have h15 := r_77_15 hG
  have h9 := r_77_9 hG
  have h10 := r_77_10 hG
  unfold f_X12_opens
  refine T_eq rfl l_6 (fun c => ?_) (fun c => ?_)
  · refine T_qc (t_X12_wrongAt hn (5 : Int32) (M 77 9) M hG (by decide)) ?_
    rintro r m ⟨hr, hg, hs⟩
    exact T_qb rfl (by omega) (by omega) (T_ret ⟨by omega, Or.inl (by omega), hg, hS.tr (hs.mono rfl)⟩)
  · refine T_w (Or.inr (by decide)) hG hS trivial ?_
    intro m1 a1 a2 a3 g1 s1
    have c15 : m1 77 15 = M 77 15 := a2 15 (by decide)
    rw [c15]
    refine T_qg rfl (by omega) (by omega) ?_
    have ev : ((1048576 : Int32) * a).toInt = 1048576 * a.toInt := i_mul l_1048576 rfl (by omega) (by omega)
    refine T_r (Or.inr rfl) g1 s1 (by rw [ev]; omega) ?_
    intro m2 b1 b2 b3 g2 s2
    have d15 : m2 77 15 = M 77 15 := by rw [b3 77 (by decide), c15]
    rw [d15]
    have ew : (M 77 15 + 1).toInt = (M 77 15).toInt + 1 := i_add rfl l_1 (by omega) (by omega)
    refine T_w (Or.inr (by decide)) g2 s2 (i_rng (lo := 0) (hi := 260) ew (by omega) (by omega)) ?_
    intro m3 c1 c2 c3 g3 s3
    have d9 : m3 77 9 = M 77 9 := by rw [c2 9 (by decide), b3 77 (by decide), a2 9 (by decide)]
    rw [d9]
    have ep : (M 77 9 + 1).toInt = (M 77 9).toInt + 1 := i_add rfl l_1 (by omega) (by omega)
    refine T_w (Or.inl rfl) g3 s3 (i_rng (lo := 0) (hi := 240) ep (by omega) (by omega)) ?_
    intro m4 f1 f2 f3 g4 s4
    refine T_ret ⟨⟨by decide, by decide⟩, Or.inr ⟨?_, ?_, ?_, ?_, ?_, fun i hi => ?_, ?_⟩, g4, s4⟩
    · rw [f2 15 (by decide), c1]; exact ew
    · rw [f1]; exact ep
    · rw [f2 10 (by decide), c2 10 (by decide), b3 77 (by decide), a2 10 (by decide)]
    · rw [f2 14 (by decide), c2 14 (by decide), b3 77 (by decide), a2 14 (by decide)]
    · rw [f3 86 (by decide), c3 86 (by decide)]
      have b4 : m2 86 (M 77 15).toInt.toNat = 1048576 * a := b1
      rw [b4]; exact ev
    · rw [f3 86 (by decide), c3 86 (by decide), b2 i hi, a3 86 (by decide)]
    · rw [f3 85 (by decide), c3 85 (by decide), b3 85 (by decide), a3 85 (by decide)]
abbrev Qf (f g b : Nat) (e s : Int) (P : Nat → Prop) (W0 C0 : Nat → Int32) (M0 M1 : qM) (v : Int32) (M' : qM) : Prop := (0 ≤ v.toInt ∧ v.toInt ≤ 1) ∧ (v.toInt = 0 ∨ (SI f g b (e + 1) s P W0 C0 M' ∧ (M1 77 9).toInt ≤ (M' 77 9).toInt)) ∧ G M' ∧ Sm lQ M0 M'
theorem m_factor {n : Nat} (hn : 200000 ≤ n) {f g b : Nat} {e s : Int} {P : Nat → Prop} {W0 C0 : Nat → Int32} (hs : 0 ≤ s) {M0 M1 : qM} : ∀ (m : Nat) (M : qM), G M → Sm lQ M0 M → SI f g b e s P W0 C0 M → (M1 77 9).toInt ≤ (M 77 9).toInt → 241 - (M 77 9).toInt < (m : Int) → qT (f_X12_readsFactor_0 n m M) (Qf f g b e s P W0 C0 M0 M1) := by
  intro m
  induction m with
  | zero => intro M hG _ _ _ h; have := r_77_9 hG; exfalso; omega
  | succ m ih =>
    intro M hG hS hI hM hm
    have h15 := r_77_15 hG
    have h10 := r_77_10 hG
    have h14 := r_77_14 hG
    have h9 := r_77_9 hG
    have hI2 := hI
    obtain ⟨j1, j2, j3, j4, j5⟩ := hI2
    have hnn := wc_nn (W := M 86) (b := b) (M 77 15).toInt.toNat
    show qT (b_X12_readsFactor_0 n (f_X12_readsFactor_0 n m) M) _
    unfold b_X12_readsFactor_0
    refine T_qc (t_X12_here hn M hG) ?_
    rintro r1 m2 ⟨hr1, he1, hg1, hs1⟩
    have q1 := hs1.nil
    subst q1
    refine T_eq rfl l_91 (fun c => ?_) (fun c => ?_)
    · refine T_qc (m_opens hn (14 : Int32) M hG hS (by rw [l_14]; omega) (by omega) (by omega)) ?_
      rintro r m3 ⟨hr, ho, g3, s3⟩
      refine T_eq rfl l_0 (fun c2 => ?_) (fun c2 => ?_)
      · exact T_ret ⟨⟨by decide, by decide⟩, Or.inl l_0, g3, s3⟩
      · obtain ⟨o1, o2, o3, o4, o5, o6, o7⟩ := ho.resolve_left c2
        rw [l_14] at o5
        have q2 := SJ_open hI o1 o2 (by omega) o6 (by omega)
        exact ih m3 g3 s3 (SI_mk q2 rfl (by rw [o3]) rfl (by rw [o4]) rfl o7) (by omega) (by omega)
    · refine T_qc (t_X12_isDigit hn M hG) ?_
      rintro r3 m4 ⟨hr3, he3, hg3, hs3⟩
      have q3 := hs3.nil
      subst q3
      refine T_eq rfl l_0 (fun c3 => ?_) (fun c3 => ?_)
      · refine T_qc (t_X12_here hn M hG) ?_
        rintro r5 m6 ⟨hr5, he5, hg5, hs5⟩
        have q5 := hs5.nil
        subst q5
        refine T_qc (t_X12_factOf hn r5 M hG) ?_
        rintro r7 m8 ⟨hr7, he7, hg7, hs7⟩
        have q7 := hs7.nil
        subst q7
        refine T_eq rfl l_m1 (fun c7 => ?_) (fun c7 => ?_)
        · refine T_qc (t_X12_wrongAt hn (1 : Int32) (M 77 9) M hG (by decide)) ?_
          rintro r m9 ⟨hr, hg, hs9⟩
          exact T_qb rfl (by omega) (by omega) (T_ret ⟨by omega, Or.inl (by omega), hg, hS.tr (hs9.mono rfl)⟩)
        · refine T_qc (m_notes (1 : Int32) r7 M hG hS (by rw [l_1]; omega) (by omega) (by omega)) ?_
          rintro _ m9 ⟨d1, d2, d3, d4, d5, g9, s9⟩
          rw [l_1] at d2
          have c9 : m9 77 9 = M 77 9 := d4 9 (by decide)
          rw [c9]
          have ep : (M 77 9 + 1).toInt = (M 77 9).toInt + 1 := i_add rfl l_1 (by omega) (by omega)
          refine T_w (Or.inl rfl) g9 s9 (i_rng (lo := 0) (hi := 240) ep (by omega) (by omega)) ?_
          intro m10 f1 f2 f3 g10 s10
          have p10 : (m10 77 9).toInt = (M 77 9).toInt + 1 := by rw [f1]; exact ep
          have q8 := SJ_note (e' := e + 1) hI d1 d3 (by
            rw [d2]
            right; left
            exact ⟨by omega, by omega, rfl⟩)
          have q9 := SJ_pl (pl' := (m10 77 9).toInt) q8 (by omega) (by omega)
          have q10 := SJ_s (s' := s) q9 (by omega)
          exact T_ret ⟨⟨by decide, by decide⟩, Or.inr ⟨SI_mk q10 rfl (by rw [f2 10 (by decide), d4 10 (by decide)]) (by rw [f2 15 (by decide), d4 15 (by decide)]) (by rw [f2 14 (by decide)]) (by rw [f3 86 (by decide), d5 86 (by decide) (by decide)]) (f3 85 (by decide)), by omega⟩, g10, s10⟩
      · refine T_qc (t_X12_readsNumber hn M hG (by omega)) ?_
        rintro r13 m14 ⟨hr13, he13, hg13, hs13⟩
        refine T_eq rfl l_0 (fun c13 => ?_) (fun c13 => ?_)
        · exact T_ret ⟨⟨by decide, by decide⟩, Or.inl l_0, hg13, hS.tr (hs13.mono rfl)⟩
        · have e10 : m14 77 10 = M 77 10 := hs13 77 10 (by decide)
          have e14 : m14 77 14 = M 77 14 := hs13 77 14 (by decide)
          have e15 : m14 77 15 = M 77 15 := hs13 77 15 (by decide)
          have e85 : m14 85 = M 85 := funext (fun s_ => hs13 85 s_ (outc rfl))
          have e86 : m14 86 = M 86 := funext (fun s_ => hs13 86 s_ (outc rfl))
          have e13 := he13.resolve_left c13
          have q8 := SJ_pl (pl' := (m14 77 9).toInt) hI (by omega) (by rw [← e10]; omega)
          have q9 : SI f g b e (s + ((m14 77 9).toInt - (M 77 9).toInt)) P W0 C0 m14 := SI_mk q8 rfl (by rw [e10]) (by rw [e15]) (by rw [e14]) e86 e85
          have h10b := r_77_10 hg13
          refine T_qc (m_notes (0 : Int32) (m14 77 12) m14 hg13 (hS.tr (hs13.mono rfl)) (by rw [l_0]; omega) (by omega) (by rw [e14]; omega)) ?_
          rintro _ m15 ⟨d1, d2, d3, d4, d5, g15, s15⟩
          rw [l_0] at d2
          have q10 := SJ_note (e' := e + 1) q9 d1 d3 (by
            rw [d2]
            left
            exact ⟨by omega, rfl⟩)
          have q11 := SJ_s (s' := s) q10 (by omega)
          exact T_ret ⟨⟨by decide, by decide⟩, Or.inr ⟨SI_mk q11 (by rw [d4 9 (by decide)]) (by rw [d4 10 (by decide)]) (by rw [d4 15 (by decide)]) rfl (d5 86 (by decide) (by decide)) rfl, by rw [d4 9 (by decide)]; omega⟩, g15, s15⟩
theorem m_hasOpen {n : Nat} (a1 : Int32) (h0 : 0 ≤ a1.toInt) : ∀ (m : Nat) (a2 : Int32) (M : qM), G M → a1.toInt ≤ a2.toInt → a2.toInt ≤ 260 → (∀ i : Nat, a1.toInt ≤ (i : Int) → (i : Int) < a2.toInt → (M 86 i).toInt / 1048576 ≠ 14) → 261 - a2.toInt < (m : Int) → qT (f_X12_hasOpenSum_2 n m a2 M) (fun v M' => M' = M ∧ (0 ≤ v.toInt ∧ v.toInt ≤ 1) ∧ ((v.toInt = 0 ∧ ∀ i : Nat, a1.toInt ≤ (i : Int) → (i : Int) < (M 77 15).toInt → (M 86 i).toInt / 1048576 ≠ 14) ∨ (v.toInt ≠ 0 ∧ ∃ i : Nat, a1.toInt ≤ (i : Int) ∧ (i : Int) < (M 77 15).toInt ∧ (M 86 i).toInt / 1048576 = 14))) := by
  intro m
  induction m with
  | zero => intro a2 M hG _ _ _ h; exfalso; omega
  | succ m ih =>
    intro a2 M hG k1 k2 k3 hm
    have h15 := r_77_15 hG
    show qT (b_X12_hasOpenSum_2 n (f_X12_hasOpenSum_2 n m) a2 M) _
    unfold b_X12_hasOpenSum_2
    refine T_le rfl rfl (fun c => ?_) (fun c => ?_)
    · exact T_ret ⟨rfl, ⟨by decide, by decide⟩, Or.inl ⟨l_0, fun i i1 i2 => k3 i i1 (by omega)⟩⟩
    · have h86 := r_86 hG a2.toNatClampNeg
      refine T_qg rfl (by omega) (by omega) ?_
      refine T_eq (i_div rfl l_1048576 h86.1 (by decide)) l_14 (fun d => ?_) (fun d => ?_)
      · exact T_ret ⟨rfl, ⟨by decide, by decide⟩, Or.inr ⟨by rw [l_1]; decide, a2.toNatClampNeg, by rw [tnc]; omega, by rw [tnc]; omega, d⟩⟩
      · refine T_ql (i_add rfl l_1 (by omega) (by omega)) ?_
        intro x hx
        refine ih x M hG (by omega) (by omega) (fun i i1 i2 => ?_) (by omega)
        by_cases q : i = a2.toNatClampNeg
        · rw [q]; exact d
        · rw [tnc] at q
          exact k3 i i1 (by omega)

abbrev Qs (f g b : Nat) (e s : Int) (P : Nat → Prop) (W0 C0 : Nat → Int32) (M0 M1 : qM) (v : Int32) (M' : qM) : Prop := (0 ≤ v.toInt ∧ v.toInt ≤ 1) ∧ (v.toInt = 0 ∨ (SI f g b (e + 1) s P W0 C0 M' ∧ (M' 77 15).toInt = (b : Int) ∧ (M1 77 9).toInt ≤ (M' 77 9).toInt)) ∧ G M' ∧ Sm lQ M0 M'
theorem m_sumend {n : Nat} (hn : 200000 ≤ n) {f g b : Nat} {e s : Int} {P : Nat → Prop} {W0 C0 : Nat → Int32} (hw : ∀ i, i < b → ¬ (2 ≤ (W0 i).toInt / 1048576 ∧ (W0 i).toInt / 1048576 ≤ 6)) (he : 0 ≤ e) (hs : 0 ≤ s) {M0 M1 : qM} (a1 : Int32) (ha : a1.toInt = (b : Int)) (hb : b ≤ 260) (M : qM) (hG : G M) (hS : Sm lQ M0 M) (hI : SI f g b (e + 1) s P W0 C0 M) (hM : (M1 77 9).toInt ≤ (M 77 9).toInt) : qT (f_X12_readsSum_138 n a1 M) (Qs f g b e s P W0 C0 M0 M1) := by
  unfold f_X12_readsSum_138
  unfold f_X12_hasOpenSum
  have h15 := r_77_15 hG
  refine T_qc (m_hasOpen a1 (by omega) n a1 M hG (by omega) (by omega) (fun i i1 i2 => absurd i1 (by omega)) (by omega)) ?_
  rintro r1 m2 ⟨rfl, hr, ho⟩
  refine T_eq rfl l_0 (fun c => ?_) (fun c => ?_)
  · have no := (ho.resolve_right (fun q => q.1 c)).2
    unfold f_X12_closesSums
    refine T_qc (m_closes hw (by omega) hs (1 : Int32) (M1 := m2) n m2 hG hS hI Pm_rf (by omega)) ?_
    rintro _ m3 ⟨k1, k2, k3, g3, s3⟩
    have h3 := k3 (by rw [l_1]; decide)
    have hk := k1
    obtain ⟨j1, j2, j3, j4, j5⟩ := hk
    have hp := k2.2.1
    have hle := k2.2.2.1
    refine T_ret ⟨⟨by decide, by decide⟩, Or.inr ⟨k1, ?_, by rw [hp]; exact hM⟩, g3, s3⟩
    apply Classical.byContradiction
    intro q
    have hj := j2 ((m3 77 15).toInt - 1).toNat (by omega) (by omega)
    rcases h3 with h3 | h3
    · omega
    · rcases hj with hj | hj
      · exact h3 hj
      · rw [k2.1] at hj
        exact no _ (by omega) (by omega) hj
  · refine T_qc (t_X12_wrongAt hn (1 : Int32) (m2 77 9) m2 hG (by decide)) ?_
    rintro r m9 ⟨hr9, hg, hs9⟩
    exact T_qb rfl (by omega) (by omega) (T_ret ⟨by omega, Or.inl (by omega), hg, hS.tr (hs9.mono rfl)⟩)
theorem m_sumloop {n : Nat} (hn : 200000 ≤ n) {f g b : Nat} {e s : Int} {P : Nat → Prop} {W0 C0 : Nat → Int32} (hw : ∀ i, i < b → ¬ (2 ≤ (W0 i).toInt / 1048576 ∧ (W0 i).toInt / 1048576 ≤ 6)) (he : 0 ≤ e) (hs : 0 ≤ s) {M0 M1 : qM} (a1 : Int32) (ha : a1.toInt = (b : Int)) (hb : b ≤ 260) : ∀ (m : Nat) (M : qM), G M → Sm lQ M0 M → SI f g b (e + 1) s P W0 C0 M → (M1 77 9).toInt ≤ (M 77 9).toInt → 241 - (M 77 9).toInt < (m : Int) → qT (f_X12_readsSum_14 n m a1 M) (Qs f g b e s P W0 C0 M0 M1) := by
  intro m
  induction m with
  | zero => intro M hG _ _ _ h; have := r_77_9 hG; exfalso; omega
  | succ m ih =>
    intro M hG hS hI hM hm
    have h15 := r_77_15 hG
    have h10 := r_77_10 hG
    have h9 := r_77_9 hG
    have hend := m_sumend hn hw he hs a1 ha hb M hG hS hI hM
    have push : ∀ (r3 s1 : Int32), 2 ≤ r3.toInt → r3.toInt ≤ 6 → (M 77 9).toInt < (M 77 10).toInt → qT (f_X12_readsSum_38 n (f_X12_readsSum_14 n m) a1 r3 s1 M) (Qs f g b e s P W0 C0 M0 M1) := by
      intro r3 s1 k1 k2 k3
      unfold f_X12_readsSum_38
      unfold f_X12_closesSums
      refine T_qc (m_closes hw (by omega) hs s1 (M1 := M) n M hG hS hI Pm_rf (by omega)) ?_
      rintro _ m1 ⟨i1, i2, _, g1, s1'⟩
      have e9 : m1 77 9 = M 77 9 := i2.2.1
      have h15b := r_77_15 g1
      have h10b := r_77_10 g1
      have hi := i1
      obtain ⟨j1, j2, j3, j4, j5⟩ := hi
      have e10 : (m1 77 10).toInt = (M 77 10).toInt := by
        have w1 := s1' 77 10 (by decide)
        have w2 := hS 77 10 (by decide)
        rw [w1, w2]
      refine T_qg rfl (by omega) (by omega) ?_
      have ev : ((1048576 : Int32) * r3).toInt = 1048576 * r3.toInt := i_mul l_1048576 rfl (by omega) (by omega)
      refine T_r (Or.inr rfl) g1 s1' (by rw [ev]; omega) ?_
      intro m2 b1 b2 b3 g2 s2
      have d15 : m2 77 15 = m1 77 15 := by rw [b3 77 (by decide)]
      rw [d15]
      have ew : (m1 77 15 + 1).toInt = (m1 77 15).toInt + 1 := i_add rfl l_1 (by omega) (by omega)
      refine T_w (Or.inr (by decide)) g2 s2 (i_rng (lo := 0) (hi := 260) ew (by omega) (by omega)) ?_
      intro m3 c1 c2 c3 g3 s3
      have d9 : m3 77 9 = m1 77 9 := by rw [c2 9 (by decide), b3 77 (by decide)]
      rw [d9]
      have ep : (m1 77 9 + 1).toInt = (m1 77 9).toInt + 1 := i_add rfl l_1 (by rw [e9]; omega) (by rw [e9]; omega)
      refine T_w (Or.inl rfl) g3 s3 (i_rng (lo := 0) (hi := 240) ep (by rw [e9]; omega) (by rw [e9]; omega)) ?_
      intro m4 f1 f2 f3 g4 s4
      have p4 : (m4 77 9).toInt = (m1 77 9).toInt + 1 := by rw [f1]; exact ep
      have w4 : (m4 77 15).toInt = (m1 77 15).toInt + 1 := by rw [f2 15 (by decide), c1]; exact ew
      have b4 : m4 86 (m1 77 15).toInt.toNat = 1048576 * r3 := by rw [f3 86 (by decide), c3 86 (by decide)]; exact b1
      have q1 := SJ_push (W' := m4 86) i1 w4 p4 (by rw [p4, e9]; omega) (fun i hi2 => by rw [f3 86 (by decide), c3 86 (by decide)]; exact b2 i hi2) (by rw [b4, ev]; omega) (by rw [b4, ev]; omega)
      rw [show e + 1 - 1 = e by omega] at q1
      have q2 : SI f g b e s P W0 C0 m4 := SI_mk q1 rfl (by rw [f2 10 (by decide), c2 10 (by decide), b3 77 (by decide)]) rfl (by rw [f2 14 (by decide), c2 14 (by decide), b3 77 (by decide)]) rfl (by rw [f3 85 (by decide), c3 85 (by decide), b3 85 (by decide)])
      unfold f_X12_readsFactor
      have h94 := r_77_9 g4
      refine T_qc (m_factor hn hs (M1 := m4) n m4 g4 s4 q2 (Int.le_refl _) (by omega)) ?_
      rintro r5 m6 ⟨t1, t2, t3, t4⟩
      refine T_eq rfl l_0 (fun c => ?_) (fun c => ?_)
      · exact T_ret ⟨⟨by decide, by decide⟩, Or.inl l_0, t3, t4⟩
      · obtain ⟨u1, u2⟩ := t2.resolve_left c
        rw [e9] at p4
        exact ih m6 t3 t4 u1 (by omega) (by omega)
    show qT (b_X12_readsSum_14 n (f_X12_readsSum_14 n m) a1 M) _
    unfold b_X12_readsSum_14
    refine T_qc (t_X12_here hn M hG) ?_
    rintro r1 m2 ⟨hr1, he1, hg1, hs1⟩
    have q1 := hs1.nil
    subst q1
    refine T_qc (t_X12_sumSign hn r1 M hG) ?_
    rintro r3 m4 ⟨hr3, he3, hg3, hs3⟩
    have q3 := hs3.nil
    subst q3
    refine T_eq rfl l_m1 (fun c => ?_) (fun c => ?_)
    · refine T_qc (t_X12_here hn M hG) ?_
      rintro r5 m6 ⟨hr5, he5, hg5, hs5⟩
      have q5 := hs5.nil
      subst q5
      refine T_eq rfl l_93 (fun c5 => ?_) (fun c5 => ?_)
      · unfold f_X12_hasOpenSum
        refine T_qc (m_hasOpen a1 (by omega) n a1 M hG (by omega) (by omega) (fun i i1 i2 => absurd i1 (by omega)) (by omega)) ?_
        rintro r7 m8 ⟨rfl, hr7, ho⟩
        refine T_eq rfl l_0 (fun c7 => ?_) (fun c7 => ?_)
        · exact hend
        · obtain ⟨io, o1, o2, o3⟩ := (ho.resolve_left (fun q => c7 q.1)).2
          clear ho
          unfold f_X12_closesSums
          refine T_qc (m_closes hw (by omega) hs (1 : Int32) (M1 := m8) n m8 hG hS hI Pm_rf (by omega)) ?_
          rintro _ m9 ⟨k1, k2, k3, g9, s9⟩
          have h3 := k3 (by rw [l_1]; decide)
          have e9 : m9 77 9 = m8 77 9 := k2.2.1
          have h15b := r_77_15 g9
          have hlt : (io : Int) < (m9 77 15).toInt := by
            apply Classical.byContradiction
            intro q
            have := k2.2.2.2 io (by omega) o2
            omega
          have ew : (m9 77 15 - 1).toInt = (m9 77 15).toInt - 1 := i_sub rfl l_1 (by omega) (by omega)
          refine T_w (Or.inr (by decide)) g9 s9 (i_rng (lo := 0) (hi := 260) ew (by omega) (by omega)) ?_
          intro m10 x1 x2 x3 g10 s10
          refine T_w (Or.inr (by decide)) g10 s10 trivial ?_
          intro m11 y1 y2 y3 g11 s11
          have d9 : m11 77 9 = m8 77 9 := by rw [y2 9 (by decide), x2 9 (by decide), e9]
          rw [d9]
          have ep : (m8 77 9 + 1).toInt = (m8 77 9).toInt + 1 := i_add rfl l_1 (by omega) (by omega)
          refine T_w (Or.inl rfl) g11 s11 (i_rng (lo := 0) (hi := 240) ep (by omega) (by omega)) ?_
          intro m12 z1 z2 z3 g12 s12
          have p12 : (m12 77 9).toInt = (m8 77 9).toInt + 1 := by rw [z1]; exact ep
          have w12 : (m12 77 15).toInt = (m9 77 15).toInt - 1 := by rw [z2 15 (by decide), y2 15 (by decide), x1]; exact ew
          have e10 : (m9 77 10).toInt = (m8 77 10).toInt := by
            have w1 := s9 77 10 (by decide)
            have w2 := hS 77 10 (by decide)
            rw [w1, w2]
          have q6 := SJ_popo k1 w12 (by omega) (by rw [w12]; exact h3.resolve_left (by omega))
          have q7 := SJ_pl (pl' := (m12 77 9).toInt) q6 (by rw [e9]; omega) (by rw [e10]; omega)
          have q8 := SJ_s (s' := s) q7 (by rw [e9]; omega)
          have q9 : SI f g b (e + 1) s P W0 C0 m12 := SI_mk q8 rfl (by rw [z2 10 (by decide), y2 10 (by decide), x2 10 (by decide)]) rfl (by rw [z2 14 (by decide), y2 14 (by decide), x2 14 (by decide)]) (by rw [z3 86 (by decide), y3 86 (by decide), x3 86 (by decide)]) (by rw [z3 85 (by decide), y3 85 (by decide), x3 85 (by decide)])
          exact ih m12 g12 s12 q9 (by omega) (by omega)
      · exact hend
    · refine T_le l_4 rfl (fun c4 => ?_) (fun c4 => ?_)
      · exact push r3 0 (by omega) (by omega) (by omega)
      · exact push r3 1 (by omega) (by omega) (by omega)
theorem m_sum {n : Nat} (hn : 200000 ≤ n) {f g b : Nat} {e s : Int} {P : Nat → Prop} {W0 C0 : Nat → Int32} (hw : ∀ i, i < b → ¬ (2 ≤ (W0 i).toInt / 1048576 ∧ (W0 i).toInt / 1048576 ≤ 6)) (he : 0 ≤ e) (hs : 0 ≤ s) {M0 : qM} (M : qM) (hG : G M) (hS : Sm lQ M0 M) (hI : SI f g b e s P W0 C0 M) (hb : (M 77 15).toInt = (b : Int)) : qT (f_X12_readsSum n M) (Qs f g b e s P W0 C0 M0 M) := by
  have h15 := r_77_15 hG
  have h9 := r_77_9 hG
  unfold f_X12_readsSum
  refine T_ql rfl ?_
  intro x hx
  unfold f_X12_readsFactor
  refine T_qc (m_factor hn hs (M1 := M) n M hG hS hI (Int.le_refl _) (by omega)) ?_
  rintro r2 m3 ⟨t1, t2, t3, t4⟩
  refine T_eq rfl l_0 (fun c => ?_) (fun c => ?_)
  · exact T_ret ⟨⟨by decide, by decide⟩, Or.inl l_0, t3, t4⟩
  · obtain ⟨u1, u2⟩ := t2.resolve_left c
    have h93 := r_77_9 t3
    exact m_sumloop hn hw he hs x (by omega) (by omega) n m3 t3 t4 u1 u2 (by omega)

