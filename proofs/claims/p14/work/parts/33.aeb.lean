/-! what a text says if it comes to an end -/
def qP (E : qR) (Q : Int32 → qM → Prop) : Prop := ∀ v m, E = some (v, m) → Q v m
theorem P_T {E : qR} {P : Int32 → qM → Prop} (h : qT E P) : qP E P := by
  intro v m e
  obtain ⟨v2, m2, e2, p⟩ := h
  rw [e] at e2
  cases e2
  exact p
theorem T_P {E : qR} {P Q : Int32 → qM → Prop} (h : qT E P) (k : qP E Q) : qT E (fun v m => P v m ∧ Q v m) := by
  obtain ⟨v, m, e, p⟩ := h
  exact ⟨v, m, e, p, k v m e⟩
theorem P_ret {v : Int32} {M : qM} {P : Int32 → qM → Prop} (h : P v M) : qP (some (v, M)) P := by
  intro v2 m2 e
  cases e
  exact h
theorem P_none {P : Int32 → qM → Prop} : qP none P := fun _ _ e => by cases e
theorem P_mono {E : qR} {P Q : Int32 → qM → Prop} (h : qP E P) (k : ∀ v M, P v M → Q v M) : qP E Q := fun v m e => k v m (h v m e)
theorem P_and {E : qR} {P Q : Int32 → qM → Prop} (h : qP E P) (k : qP E Q) : qP E (fun v m => P v m ∧ Q v m) := fun v m e => ⟨h v m e, k v m e⟩
theorem P_lt {a b : Int32} {x y : Int} {A B : qR} {P : Int32 → qM → Prop} (ha : a.toInt = x) (hb : b.toInt = y) (h1 : x < y → qP A P) (h2 : y ≤ x → qP B P) : qP (if a < b then A else B) P := by
  subst ha; subst hb
  by_cases c : a < b
  · rw [if_pos c]; exact h1 (Int32.lt_iff_toInt_lt.mp c)
  · rw [if_neg c]; exact h2 (by rw [Int32.lt_iff_toInt_lt] at c; omega)
theorem P_le {a b : Int32} {x y : Int} {A B : qR} {P : Int32 → qM → Prop} (ha : a.toInt = x) (hb : b.toInt = y) (h1 : x ≤ y → qP A P) (h2 : y < x → qP B P) : qP (if a ≤ b then A else B) P := by
  subst ha; subst hb
  by_cases c : a ≤ b
  · rw [if_pos c]; exact h1 (Int32.le_iff_toInt_le.mp c)
  · rw [if_neg c]; exact h2 (by rw [Int32.le_iff_toInt_le] at c; omega)
theorem P_eq {a b : Int32} {x y : Int} {A B : qR} {P : Int32 → qM → Prop} (ha : a.toInt = x) (hb : b.toInt = y) (h1 : x = y → qP A P) (h2 : ¬ x = y → qP B P) : qP (if a = b then A else B) P := by
  subst ha; subst hb
  by_cases c : a = b
  · rw [if_pos c]; exact h1 (congrArg Int32.toInt c)
  · rw [if_neg c]; exact h2 (fun e => c (Int32.toInt_inj.mp e))
theorem P_qg {j : Int32} {n : Nat} {E : qR} {P : Int32 → qM → Prop} (h : 0 ≤ j.toInt → j.toInt < (n : Int) → qP E P) : qP (qg j n E) P := by
  by_cases c : 0 ≤ j.toInt ∧ j.toInt < (n : Int)
  · rw [qg_ok c.1 (by omega)]; exact h c.1 c.2
  · unfold qg
    have l0 : (0 : Int32).toInt = 0 := rfl
    rw [if_pos]
    · exact P_none
    · rw [Int32.lt_iff_toInt_lt, tnc, l0]
      omega
theorem P_qb {v : Int32} {E : qR} {P : Int32 → qM → Prop} (h : qP E P) : qP (qb v E) P := by
  unfold qb
  by_cases c : v = 0 ∨ v = 1
  · rw [if_pos c]; exact h
  · rw [if_neg c]; exact P_none
theorem P_ql {v : Int32} {x : Int} {f : Int32 → qR} {P : Int32 → qM → Prop} (hv : v.toInt = x) (h : ∀ y : Int32, y.toInt = x → qP (f y) P) : qP (ql v f) P := h v hv
theorem P_qlm {M : qM} {f : qM → qR} {P : Int32 → qM → Prop} (h : qP (f M) P) : qP (qlm M f) P := h
theorem P_qc {F : qR} {f : Int32 → qM → qR} {P Q : Int32 → qM → Prop} (h : qP F Q) (k : ∀ v m, Q v m → qP (f v m) P) : qP (qc F f) P := by
  cases e : F with
  | none => exact fun _ _ q => by cases q
  | some x =>
    obtain ⟨v, m⟩ := x
    rw [qc_v]
    exact k v m (h v m e)
theorem P_w {M0 M : qM} {s : Nat} {v : Int32} {f : qM → qR} {Q : Int32 → qM → Prop} (hs : s = 9 ∨ (11 ≤ s ∧ s ≤ 15)) (hG : G M) (hS : Sm lQ M0 M) (hr : Rin 77 s v) (h : ∀ m : qM, m 77 s = v → (∀ s2, s2 ≠ s → m 77 s2 = M 77 s2) → (∀ c, c ≠ 77 → m c = M c) → G m → Sm lQ M0 m → qP (f m) Q) : qP (qlm (mu M 77 s v) f) Q := by
  refine h _ mu_at (fun s2 h2 => mu_ne (Or.inr h2)) (fun c hc => mu_nc hc) (G_mu hG hr (by unfold nW; omega)) ?_
  rcases hs with rfl | hs
  · exact hS.mu (i := 0) rfl ⟨by decide, by decide, Or.inr ⟨by decide, by decide⟩⟩
  · exact hS.mu (i := 1) rfl ⟨by decide, by decide, Or.inr ⟨by show 11 ≤ s; omega, by show s < 16; omega⟩⟩
theorem P_r {M0 M : qM} {c i : Nat} {v : Int32} {f : qM → qR} {Q : Int32 → qM → Prop} (hc : c = 85 ∨ c = 86) (hG : G M) (hS : Sm lQ M0 M) (hr : 0 ≤ v.toInt ∧ v.toInt ≤ 20000000) (h : ∀ m : qM, m c i = v → (∀ j, j ≠ i → m c j = M c j) → (∀ c2, c2 ≠ c → m c2 = M c2) → G m → Sm lQ M0 m → qP (f m) Q) : qP (qlm (mu M c i v) f) Q := by
  refine h _ mu_at (fun s2 h2 => mu_ne (Or.inr h2)) (fun c2 hc2 => mu_nc hc2) (G_mu hG ?_ ?_) (hS.mu (i := 2) rfl ⟨?_, ?_, Or.inl rfl⟩)
  · rcases hc with rfl | rfl
    · exact hr
    · exact hr
  · rcases hc with rfl | rfl
    · exact nw_85 _
    · exact nw_86 _
  · show 85 ≤ c; omega
  · show c < 87; omega
/-! the model's reader of laws: what waits, as a list -/
def stw (F : Nat → Int32) : Nat → List (Int × Int)
  | 0 => []
  | k + 1 => ((F k).toInt / 1048576, (F k).toInt % 1048576) :: stw F k
theorem stw_cg {F F2 : Nat → Int32} : ∀ k, (∀ i, i < k → F2 i = F i) → stw F2 k = stw F k := by
  intro k
  induction k with
  | zero => intro _; rfl
  | succ k ih =>
    intro h
    show ((F2 k).toInt / 1048576, (F2 k).toInt % 1048576) :: stw F2 k = ((F k).toInt / 1048576, (F k).toInt % 1048576) :: stw F k
    rw [ih (fun i hi => h i (by omega)), h k (by omega)]
theorem stw_len {F : Nat → Int32} : ∀ k, (stw F k).length = k := by
  intro k
  induction k with
  | zero => rfl
  | succ k ih => show (stw F k).length + 1 = k + 1; rw [ih]
theorem stw_pop {F : Nat → Int32} {k : Nat} {q : Int × Int} {r : List (Int × Int)} (h : stw F k = q :: r) : ∃ j, k = j + 1 ∧ stw F j = r ∧ q = ((F j).toInt / 1048576, (F j).toInt % 1048576) := by
  cases k with
  | zero => exact absurd h (by show ¬ [] = q :: r; intro e; cases e)
  | succ j =>
    have h2 : ((F j).toInt / 1048576, (F j).toInt % 1048576) :: stw F j = q :: r := h
    injection h2 with a b
    exact ⟨j, rfl, b, a.symm⟩
def jOk (b : Nat) (W : List (Int × Int)) : Prop := ∀ q, q ∈ W → (q.1 = 11 ∨ q.1 = 12) → 0 ≤ q.2 ∧ q.2 < (b : Int)
theorem jOk_le {b c : Nat} {W : List (Int × Int)} (h : jOk b W) (hc : b ≤ c) : jOk c W := fun q h1 h2 => by have := h q h1 h2; omega
theorem opn_nn : ∀ W : List (Int × Int), 0 ≤ opn W := by
  intro W
  induction W with
  | nil => exact Int.le_refl _
  | cons q r ih =>
    show 0 ≤ opn r + (if _ then 1 else 0)
    by_cases c : q.1 = 10 ∨ q.1 = 13 ∨ q.1 = 14
    · rw [if_pos c]; omega
    · rw [if_neg c]; omega
theorem opn_y {q : Int × Int} {W : List (Int × Int)} (h : q.1 = 10 ∨ q.1 = 13 ∨ q.1 = 14) : opn (q :: W) = opn W + 1 := by show opn W + (if _ then 1 else 0) = _; rw [if_pos h]
theorem opn_n {q : Int × Int} {W : List (Int × Int)} (h : ¬ (q.1 = 10 ∨ q.1 = 13 ∨ q.1 = 14)) : opn (q :: W) = opn W := by show opn W + (if _ then 1 else 0) = _; rw [if_neg h]; omega
/-- the model's memory is a state of the small machine: what it holds beside the due and the sum -/
abbrev Mw (R : Nat → Int32) (len : Int) (M0 : qM) (C : List Int) (W : List (Int × Int)) (M : qM) : Prop := G M ∧ Sm lQ M0 M ∧ M 84 = R ∧ (M 77 10).toInt = len ∧ (M 77 9).toInt ≤ len ∧ (M 77 14).toInt = (C.length : Int) ∧ Fn (fun k => (M 85 k).toInt) C ∧ stw (M 86) (M 77 15).toInt.toNat = W ∧ (M 77 13).toInt = opn W ∧ opn W ≤ 6 ∧ jOk C.length W
abbrev Fx (T : Int → Int) (c0 : Lc) (M0 m : qM) : Prop := Lo T c0 (4, (m 77 11).toInt, 0, [], []) ∧ G m ∧ Sm lQ M0 m
theorem x_wrong {n : Nat} {M0 : qM} (a b : Int32) (M : qM) (hG : G M) (hS : Sm lQ M0 M) (ha : 1 ≤ a.toInt ∧ a.toInt ≤ 6) (hb : 0 ≤ b.toInt ∧ b.toInt ≤ 240) : qP (f_X12_wrongAt n a b M) (fun v m => v.toInt = 0 ∧ (m 77 11).toInt = -1000 * a.toInt - b.toInt ∧ G m ∧ Sm lQ M0 m) := by
  unfold f_X12_wrongAt
  refine P_w (Or.inr (by decide)) hG hS trivial ?_
  intro m e1 e2 e3 g s
  refine P_ret ⟨l_0, ?_, g, s⟩
  rw [e1, i_sub (i_mul l_m1000 rfl (by omega) (by omega)) rfl (by omega) (by omega)]
theorem x_fail {n : Nat} {M0 : qM} {T : Int → Int} {c0 : Lc} {k w : Int} (a b : Int32) (M : qM) (hG : G M) (hS : Sm lQ M0 M) (ha : a.toInt = k) (hb : b.toInt = w) (hk : 1 ≤ k ∧ k ≤ 6) (hw : 0 ≤ w ∧ w ≤ 240) (hL : Lo T c0 (zF k w)) : qP (qc (f_X12_wrongAt n a b M) (fun r m => qb r (some (r, m)))) (fun v m => v.toInt = 0 ∧ Fx T c0 M0 m) := by
  refine P_qc (x_wrong (M0 := M0) a b M hG hS (by omega) (by omega)) ?_
  rintro r m ⟨h0, h1, g, s⟩
  refine P_qb (P_ret ⟨h0, ?_, g, s⟩)
  rw [h1, ha, hb]
  exact hL
theorem x_notes0 {n : Nat} {R : Nat → Int32} {len : Int} {M0 : qM} {C : List Int} {W : List (Int × Int)} (a b : Int32) (M : qM) (hg : G M) (hs : Sm lQ M0 M) (hx : M 84 = R) (hl : (M 77 10).toInt = len) (hp : (M 77 9).toInt ≤ len) (hc : (M 77 14).toInt = (C.length : Int)) (hf : Fn (fun k => (M 85 k).toInt) C) (hw : stw (M 86) (M 77 15).toInt.toNat = W) (ho : (M 77 13).toInt = opn W) (h6 : opn W ≤ 6) (hj : jOk (C.length + 1) W) (ha : 0 ≤ a.toInt ∧ a.toInt ≤ 14) (hb : 0 ≤ b.toInt ∧ b.toInt ≤ 999999) : qP (f_X12_notes n a b M) (fun _ m => Mw R len M0 (C ++ [1048576 * a.toInt + b.toInt]) W m ∧ m 77 9 = M 77 9) := by
  have h14 := r_77_14 hg
  unfold f_X12_notes
  refine P_qg (fun i0 i1 => ?_)
  have ev : ((1048576 : Int32) * a + b).toInt = 1048576 * a.toInt + b.toInt := i_add (i_mul l_1048576 rfl (by omega) (by omega)) rfl (by omega) (by omega)
  refine P_r (Or.inl rfl) hg hs (by rw [ev]; omega) ?_
  intro m1 e1 e2 e3 g1 s1
  have c1 : m1 77 14 = M 77 14 := by rw [e3 77 (by decide)]
  rw [c1]
  have ew : (M 77 14 + 1).toInt = (M 77 14).toInt + 1 := i_add rfl l_1 (by omega) (by omega)
  refine P_w (Or.inr (by decide)) g1 s1 (i_rng (lo := 0) (hi := 260) ew (by omega) (by omega)) ?_
  intro m2 d1 d2 d3 g2 s2
  have ei : (M 77 14).toNatClampNeg = C.length := by rw [tnc, hc]; rfl
  rw [ei] at e1 e2
  refine P_ret ⟨⟨g2, s2, by rw [d3 84 (by decide), e3 84 (by decide)]; exact hx, by rw [d2 10 (by decide), e3 77 (by decide)]; exact hl, by rw [d2 9 (by decide), e3 77 (by decide)]; exact hp, ?_, ?_, ?_, ?_, h6, jOk_le hj (by rw [List.length_append, List.length_singleton]; omega)⟩, by rw [d2 9 (by decide), e3 77 (by decide)]⟩
  · rw [d1, ew, hc, List.length_append, List.length_singleton]; omega
  · refine Fn_app hf (fun k hk => ?_) ?_
    · show (m2 85 k).toInt = (M 85 k).toInt
      rw [d3 85 (by decide), e2 k (by omega)]
    · show (m2 85 C.length).toInt = _
      rw [d3 85 (by decide), e1]; exact ev
  · rw [d3 86 (by decide), e3 86 (by decide), d2 15 (by decide), e3 77 (by decide)]; exact hw
  · rw [d2 13 (by decide), e3 77 (by decide)]; exact ho
theorem x_notes {n : Nat} {R : Nat → Int32} {len : Int} {M0 : qM} {C : List Int} {W : List (Int × Int)} (a b : Int32) (M : qM) (h : Mw R len M0 C W M) (ha : 0 ≤ a.toInt ∧ a.toInt ≤ 14) (hb : 0 ≤ b.toInt ∧ b.toInt ≤ 999999) : qP (f_X12_notes n a b M) (fun _ m => Mw R len M0 (C ++ [1048576 * a.toInt + b.toInt]) W m ∧ m 77 9 = M 77 9) := by
  obtain ⟨hg, hs, hx, hl, hp, hc, hf, hw, ho, h6, hj⟩ := h
  exact x_notes0 a b M hg hs hx hl hp hc hf hw ho h6 (jOk_le hj (by omega)) ha hb
theorem x_top {n : Nat} {R : Nat → Int32} {len : Int} {M0 : qM} {C : List Int} {W : List (Int × Int)} (M : qM) (h : Mw R len M0 C W M) : qP (f_X12_waitTop n M) (fun v m => m = M ∧ v.toInt = tpk W) := by
  obtain ⟨hg, hs, hx, hl, hp, hc, hf, hw, ho, h6, hj⟩ := h
  refine P_mono (P_T (m_top M hg)) ?_
  rintro v m ⟨e, h2⟩
  refine ⟨e, ?_⟩
  rw [← hw]
  rcases h2 with ⟨a, b⟩ | ⟨a, b⟩
  · rw [a, b]; rfl
  · obtain ⟨k, hk⟩ : ∃ k : Nat, (M 77 15).toInt = (k : Int) + 1 := ⟨((M 77 15).toInt - 1).toNat, by omega⟩
    rw [b, hk, show ((k : Int) + 1).toNat = k + 1 by omega, show ((k : Int) + 1 - 1).toNat = k by omega]
    rfl
theorem x_pop {R : Nat → Int32} {len : Int} {M0 : qM} {C : List Int} {q : Int × Int} {W : List (Int × Int)} (M : qM) (h : Mw R len M0 C (q :: W) M) (hq : ¬ (q.1 = 10 ∨ q.1 = 13 ∨ q.1 = 14)) {f : qM → qR} {Q : Int32 → qM → Prop} (k : ∀ m, Mw R len M0 C W m → m 77 9 = M 77 9 → qP (f m) Q) : qP (qlm (mu M 77 15 (M 77 15 - 1)) f) Q := by
  obtain ⟨hg, hs, hx, hl, hp, hc, hf, hw, ho, h6, hj⟩ := h
  have h15 := r_77_15 hg
  obtain ⟨k2, hk2, hw2, hq2⟩ := stw_pop hw
  have e1 : (M 77 15 - 1).toInt = (M 77 15).toInt - 1 := i_sub rfl l_1 (by omega) (by omega)
  refine P_w (Or.inr (by decide)) hg hs (i_rng (lo := 0) (hi := 260) e1 (by omega) (by omega)) ?_
  intro m a1 a2 a3 g s
  rw [opn_n hq] at ho h6
  refine k m ⟨g, s, by rw [a3 84 (by decide)]; exact hx, by rw [a2 10 (by decide)]; exact hl, by rw [a2 9 (by decide)]; exact hp, by rw [a2 14 (by decide)]; exact hc, by rw [a3 85 (by decide)]; exact hf, ?_, by rw [a2 13 (by decide)]; exact ho, h6, fun x hx => hj x (List.mem_cons_of_mem _ hx)⟩ (a2 9 (by decide))
  rw [a3 86 (by decide), a1, e1, show ((M 77 15).toInt - 1).toNat = k2 by omega]
  exact hw2
theorem x_shut {R : Nat → Int32} {len : Int} {M0 : qM} {C : List Int} {q : Int × Int} {W : List (Int × Int)} (M : qM) (h : Mw R len M0 C (q :: W) M) (hq : q.1 = 10 ∨ q.1 = 13 ∨ q.1 = 14) {f : qM → qR} {Q : Int32 → qM → Prop} (k : ∀ m, Mw R len M0 C W m → m 77 9 = M 77 9 → qP (f m) Q) : qP (qlm (mu M 77 15 (M 77 15 - 1)) (fun m1 => qlm (mu m1 77 13 (m1 77 13 - 1)) f)) Q := by
  obtain ⟨hg, hs, hx, hl, hp, hc, hf, hw, ho, h6, hj⟩ := h
  have h15 := r_77_15 hg
  have hnn := opn_nn W
  obtain ⟨k2, hk2, hw2, hq2⟩ := stw_pop hw
  have e1 : (M 77 15 - 1).toInt = (M 77 15).toInt - 1 := i_sub rfl l_1 (by omega) (by omega)
  refine P_w (Or.inr (by decide)) hg hs (i_rng (lo := 0) (hi := 260) e1 (by omega) (by omega)) ?_
  intro m a1 a2 a3 g s
  rw [opn_y hq] at ho h6
  rw [a2 13 (by decide)]
  have e2 : (M 77 13 - 1).toInt = (M 77 13).toInt - 1 := i_sub rfl l_1 (by omega) (by omega)
  refine P_w (Or.inr (by decide)) g s trivial ?_
  intro m2 b1 b2 b3 g2 s2
  refine k m2 ⟨g2, s2, by rw [b3 84 (by decide), a3 84 (by decide)]; exact hx, by rw [b2 10 (by decide), a2 10 (by decide)]; exact hl, by rw [b2 9 (by decide), a2 9 (by decide)]; exact hp, by rw [b2 14 (by decide), a2 14 (by decide)]; exact hc, by rw [b3 85 (by decide), a3 85 (by decide)]; exact hf, ?_, by rw [b1, e2]; omega, by omega, fun x hx => hj x (List.mem_cons_of_mem _ hx)⟩ (by rw [b2 9 (by decide), a2 9 (by decide)])
  rw [b3 86 (by decide), a3 86 (by decide), b2 15 (by decide), a1, e1, show ((M 77 15).toInt - 1).toNat = k2 by omega]
  exact hw2
theorem x_pl {R : Nat → Int32} {len : Int} {M0 : qM} {C : List Int} {W : List (Int × Int)} (M : qM) (h : Mw R len M0 C W M) (hlt : (M 77 9).toInt < len) {f : qM → qR} {Q : Int32 → qM → Prop} (k : ∀ m, Mw R len M0 C W m → (m 77 9).toInt = (M 77 9).toInt + 1 → qP (f m) Q) : qP (qlm (mu M 77 9 (M 77 9 + 1)) f) Q := by
  obtain ⟨hg, hs, hx, hl, hp, hc, hf, hw, ho, h6, hj⟩ := h
  have h9 := r_77_9 hg
  have h10 := r_77_10 hg
  have ep : (M 77 9 + 1).toInt = (M 77 9).toInt + 1 := i_add rfl l_1 (by omega) (by omega)
  refine P_w (Or.inl rfl) hg hs (i_rng (lo := 0) (hi := 240) ep (by omega) (by omega)) ?_
  intro m a1 a2 a3 g s
  exact k m ⟨g, s, by rw [a3 84 (by decide)]; exact hx, by rw [a2 10 (by decide)]; exact hl, by rw [a1, ep]; omega, by rw [a2 14 (by decide)]; exact hc, by rw [a3 85 (by decide)]; exact hf, by rw [a3 86 (by decide), a2 15 (by decide)]; exact hw, by rw [a2 13 (by decide)]; exact ho, h6, hj⟩ (by rw [a1]; exact ep)
theorem x_push {R : Nat → Int32} {len : Int} {M0 : qM} {C : List Int} {W : List (Int × Int)} {k b : Int} (v : Int32) (M : qM) (h : Mw R len M0 C W M) (hv : v.toInt = 1048576 * k + b) (hk : 2 ≤ k ∧ k ≤ 12 ∧ k ≠ 10) (hb : 0 ≤ b ∧ b < 1000) (hb2 : (k = 11 ∨ k = 12) → b < (C.length : Int) + 1) (hi : (M 77 15).toInt < 260) {f : qM → qR} {Q : Int32 → qM → Prop} (kk : ∀ m, (∀ C2 : List Int, C.length < C2.length ∨ (C2 = C ∧ ¬ (k = 11 ∨ k = 12)) → jOk C2.length ((k, b) :: W)) → G m → Sm lQ M0 m → m 84 = R → (m 77 10).toInt = len → m 77 9 = M 77 9 → m 77 14 = M 77 14 → m 85 = M 85 → stw (m 86) (m 77 15).toInt.toNat = (k, b) :: W → (m 77 13).toInt = opn W → qP (f m) Q) : qP (qlm (mu M 86 (M 77 15).toNatClampNeg v) (fun m1 => qlm (mu m1 77 15 (m1 77 15 + 1)) f)) Q := by
  obtain ⟨hg, hs, hx, hl, hp, hc, hf, hw, ho, h6, hj⟩ := h
  have h15 := r_77_15 hg
  refine P_r (Or.inr rfl) hg hs (by rw [hv]; omega) ?_
  intro m1 e1 e2 e3 g1 s1
  have c1 : m1 77 15 = M 77 15 := by rw [e3 77 (by decide)]
  rw [c1]
  have ew : (M 77 15 + 1).toInt = (M 77 15).toInt + 1 := i_add rfl l_1 (by omega) (by omega)
  refine P_w (Or.inr (by decide)) g1 s1 (i_rng (lo := 0) (hi := 260) ew (by omega) (by omega)) ?_
  intro m2 d1 d2 d3 g2 s2
  rw [tnc] at e1 e2
  refine kk m2 ?_ g2 s2 (by rw [d3 84 (by decide), e3 84 (by decide)]; exact hx) (by rw [d2 10 (by decide), e3 77 (by decide)]; exact hl) (by rw [d2 9 (by decide), e3 77 (by decide)]) (by rw [d2 14 (by decide), e3 77 (by decide)]) (by rw [d3 85 (by decide), e3 85 (by decide)]) ?_ (by rw [d2 13 (by decide), e3 77 (by decide)]; exact ho)
  · intro C2 hC2 x hx2 hx3
    rcases List.mem_cons.mp hx2 with rfl | hx4
    · have hx5 : k = 11 ∨ k = 12 := hx3
      have hlt := hb2 hx5
      show 0 ≤ b ∧ b < (C2.length : Int)
      rcases hC2 with q | ⟨_, q⟩
      · omega
      · exact absurd hx5 q
    · have h1 := hj x hx4 hx3
      rcases hC2 with q | ⟨q, _⟩
      · omega
      · rw [q]; exact h1
  · rw [d3 86 (by decide), d1, ew, show ((M 77 15).toInt + 1).toNat = (M 77 15).toInt.toNat + 1 by omega]
    show ((m1 86 (M 77 15).toInt.toNat).toInt / 1048576, (m1 86 (M 77 15).toInt.toNat).toInt % 1048576) :: stw (m1 86) (M 77 15).toInt.toNat = _
    rw [e1, hv, stw_cg (M 77 15).toInt.toNat (fun i hi2 => e2 i (by omega)), hw, show (1048576 * k + b) / 1048576 = k by omega, show (1048576 * k + b) % 1048576 = b by omega]
theorem x_here {n : Nat} (hn : 200000 ≤ n) {R : Nat → Int32} {len : Int} {M0 : qM} {C : List Int} {W : List (Int × Int)} (M : qM) (h : Mw R len M0 C W M) : qP (f_X12_here n M) (fun v m => m = M ∧ v.toInt = tm R len (M 77 9).toInt) := by
  obtain ⟨hg, hs, hx, hl, _⟩ := h
  have := v_here hn M hg
  rw [hx, hl] at this
  exact P_T this
theorem x_sign {n : Nat} (a0 : Int32) (M : qM) : qP (f_X12_sumSign n a0 M) (fun v m => m = M ∧ v.toInt = sg a0.toInt) := by
  refine P_T ?_
  unfold f_X12_sumSign sg
  refine T_eq rfl l_43 (fun c => T_ret ⟨rfl, by rw [if_pos c]; rfl⟩) (fun c1 => ?_)
  rw [if_neg c1]
  refine T_eq rfl l_45 (fun c => T_ret ⟨rfl, by rw [if_pos c]; rfl⟩) (fun c2 => ?_)
  rw [if_neg c2]
  refine T_eq rfl l_42 (fun c => T_ret ⟨rfl, by rw [if_pos c]; rfl⟩) (fun c3 => ?_)
  rw [if_neg c3]
  refine T_eq rfl l_47 (fun c => T_ret ⟨rfl, by rw [if_pos c]; rfl⟩) (fun c4 => ?_)
  rw [if_neg c4]
  refine T_eq rfl l_37 (fun c => T_ret ⟨rfl, by rw [if_pos c]; rfl⟩) (fun c5 => ?_)
  rw [if_neg c5]
  exact T_ret ⟨rfl, l_m1⟩
theorem x_fact {n : Nat} (a0 : Int32) (M : qM) : qP (f_X12_factOf n a0 M) (fun v m => m = M ∧ v.toInt = fa a0.toInt) := by
  refine P_T ?_
  unfold f_X12_factOf
  refine T_sw rfl l_100 (fun q => T_ret ⟨rfl, by rw [q, l_6]; rfl⟩) (fun q100 => ?_)
  refine T_sw rfl l_101 (fun q => T_ret ⟨rfl, by rw [q, l_m1]; rfl⟩) (fun q101 => ?_)
  refine T_sw rfl l_102 (fun q => T_ret ⟨rfl, by rw [q, l_m1]; rfl⟩) (fun q102 => ?_)
  refine T_sw rfl l_103 (fun q => T_ret ⟨rfl, by rw [q, l_m1]; rfl⟩) (fun q103 => ?_)
  refine T_sw rfl l_104 (fun q => T_ret ⟨rfl, by rw [q, l_1]; rfl⟩) (fun q104 => ?_)
  refine T_sw rfl l_105 (fun q => T_ret ⟨rfl, by rw [q, l_m1]; rfl⟩) (fun q105 => ?_)
  refine T_sw rfl l_106 (fun q => T_ret ⟨rfl, by rw [q, l_3]; rfl⟩) (fun q106 => ?_)
  refine T_sw rfl l_107 (fun q => T_ret ⟨rfl, by rw [q, l_0]; rfl⟩) (fun q107 => ?_)
  refine T_sw rfl l_108 (fun q => T_ret ⟨rfl, by rw [q, l_m1]; rfl⟩) (fun q108 => ?_)
  refine T_sw rfl l_109 (fun q => T_ret ⟨rfl, by rw [q, l_5]; rfl⟩) (fun q109 => ?_)
  refine T_sw rfl l_110 (fun q => T_ret ⟨rfl, by rw [q, l_9]; rfl⟩) (fun q110 => ?_)
  refine T_sw rfl l_111 (fun q => T_ret ⟨rfl, by rw [q, l_10]; rfl⟩) (fun q111 => ?_)
  refine T_sw rfl l_112 (fun q => T_ret ⟨rfl, by rw [q, l_7]; rfl⟩) (fun q112 => ?_)
  refine T_sw rfl l_113 (fun q => T_ret ⟨rfl, by rw [q, l_8]; rfl⟩) (fun q113 => ?_)
  refine T_sw rfl l_114 (fun q => T_ret ⟨rfl, by rw [q, l_m1]; rfl⟩) (fun q114 => ?_)
  refine T_sw rfl l_115 (fun q => T_ret ⟨rfl, by rw [q, l_m1]; rfl⟩) (fun q115 => ?_)
  refine T_sw rfl l_116 (fun q => T_ret ⟨rfl, by rw [q, l_m1]; rfl⟩) (fun q116 => ?_)
  refine T_sw rfl l_117 (fun q => T_ret ⟨rfl, by rw [q, l_m1]; rfl⟩) (fun q117 => ?_)
  refine T_sw rfl l_118 (fun q => T_ret ⟨rfl, by rw [q, l_m1]; rfl⟩) (fun q118 => ?_)
  refine T_sw rfl l_119 (fun q => T_ret ⟨rfl, by rw [q, l_11]; rfl⟩) (fun q119 => ?_)
  refine T_sw rfl l_120 (fun q => T_ret ⟨rfl, by rw [q, l_2]; rfl⟩) (fun q120 => ?_)
  refine T_sw rfl l_121 (fun q => T_ret ⟨rfl, by rw [q, l_4]; rfl⟩) (fun q121 => ?_)
  refine T_sw0 (T_ret ⟨rfl, ?_⟩)
  rw [l_m1]
  unfold fa
  rw [if_neg (by omega), if_neg (by omega), if_neg (by omega), if_neg (by omega), if_neg (by omega), if_neg (by omega), if_neg (by omega), if_neg (by omega), if_neg (by omega), if_neg (by omega), if_neg (by omega), if_neg (by omega)]
theorem fa_rng (x : Int) : -1 ≤ fa x ∧ fa x ≤ 11 := by
  unfold fa
  repeat' split
  all_goals omega
theorem x_opens {n : Nat} {R : Nat → Int32} {len : Int} {M0 : qM} {C : List Int} {W : List (Int × Int)} (a : Int32) (M : qM) (h : Mw R len M0 C W M) (ha : a.toInt = 10 ∨ a.toInt = 13 ∨ a.toInt = 14) (hlt : (M 77 9).toInt < len) : qP (f_X12_opens n a M) (fun v m => (v.toInt = 0 ∧ opn W = 6 ∧ (m 77 11).toInt = -1000 * 5 - (M 77 9).toInt ∧ G m ∧ Sm lQ M0 m) ∨ (v.toInt = 1 ∧ opn W ≠ 6 ∧ Mw R len M0 C ((a.toInt, 0) :: W) m ∧ (m 77 9).toInt = (M 77 9).toInt + 1)) := by
  obtain ⟨hg, hs, hx, hl, hp, hc, hf, hw, ho, h6, hj⟩ := h
  have h15 := r_77_15 hg
  have h9 := r_77_9 hg
  have h10 := r_77_10 hg
  have hnn := opn_nn W
  unfold f_X12_opens
  refine P_eq rfl l_6 (fun c => ?_) (fun c => ?_)
  · refine P_qc (x_wrong (M0 := M0) (5 : Int32) (M 77 9) M hg hs (by decide) h9) ?_
    rintro r m ⟨w0, w1, g, s⟩
    exact P_qb (P_ret (Or.inl ⟨w0, by omega, by rw [w1, l_5], g, s⟩))
  · have e13 : (M 77 13 + 1).toInt = (M 77 13).toInt + 1 := i_add rfl l_1 (by omega) (by omega)
    refine P_w (Or.inr (by decide)) hg hs trivial ?_
    intro m1 a1 a2 a3 g1 s1
    have c15 : m1 77 15 = M 77 15 := a2 15 (by decide)
    rw [c15]
    refine P_qg (fun i0 i1 => ?_)
    have ev : ((1048576 : Int32) * a).toInt = 1048576 * a.toInt := i_mul l_1048576 rfl (by omega) (by omega)
    refine P_r (Or.inr rfl) g1 s1 (by rw [ev]; omega) ?_
    intro m2 b1 b2 b3 g2 s2
    rw [tnc] at b1 b2
    have d15 : m2 77 15 = M 77 15 := by rw [b3 77 (by decide), c15]
    rw [d15]
    have ew : (M 77 15 + 1).toInt = (M 77 15).toInt + 1 := i_add rfl l_1 (by omega) (by omega)
    refine P_w (Or.inr (by decide)) g2 s2 (i_rng (lo := 0) (hi := 260) ew (by omega) (by omega)) ?_
    intro m3 c1 c2 c3 g3 s3
    have d9 : m3 77 9 = M 77 9 := by rw [c2 9 (by decide), b3 77 (by decide), a2 9 (by decide)]
    rw [d9]
    have ep : (M 77 9 + 1).toInt = (M 77 9).toInt + 1 := i_add rfl l_1 (by omega) (by omega)
    refine P_w (Or.inl rfl) g3 s3 (i_rng (lo := 0) (hi := 240) ep (by omega) (by omega)) ?_
    intro m4 f1 f2 f3 g4 s4
    refine P_ret (Or.inr ⟨l_1, by omega, ⟨g4, s4, ?_, ?_, ?_, ?_, ?_, ?_, ?_, ?_, ?_⟩, by rw [f1]; exact ep⟩)
    · rw [f3 84 (by decide), c3 84 (by decide), b3 84 (by decide), a3 84 (by decide)]; exact hx
    · rw [f2 10 (by decide), c2 10 (by decide), b3 77 (by decide), a2 10 (by decide)]; exact hl
    · rw [f1, ep]; omega
    · rw [f2 14 (by decide), c2 14 (by decide), b3 77 (by decide), a2 14 (by decide)]; exact hc
    · rw [f3 85 (by decide), c3 85 (by decide), b3 85 (by decide), a3 85 (by decide)]; exact hf
    · rw [f3 86 (by decide), c3 86 (by decide), f2 15 (by decide), c1, ew, show ((M 77 15).toInt + 1).toNat = (M 77 15).toInt.toNat + 1 by omega]
      show ((m2 86 (M 77 15).toInt.toNat).toInt / 1048576, (m2 86 (M 77 15).toInt.toNat).toInt % 1048576) :: stw (m2 86) (M 77 15).toInt.toNat = _
      rw [b1, ev, stw_cg (M 77 15).toInt.toNat (fun i hi2 => b2 i (by omega)), a3 86 (by decide), hw, show (1048576 * a.toInt) / 1048576 = a.toInt by omega, show (1048576 * a.toInt) % 1048576 = 0 by omega]
    · rw [f2 13 (by decide), c2 13 (by decide), b3 77 (by decide), a1, e13, opn_y ha]; omega
    · rw [opn_y ha]; omega
    · intro x hx2 hx3
      rcases List.mem_cons.mp hx2 with rfl | hx4
      · exfalso
        have hx5 : a.toInt = 11 ∨ a.toInt = 12 := hx3
        omega
      · exact hj x hx4 hx3
theorem x_num {n : Nat} (hn : 200000 ≤ n) {R : Nat → Int32} {len : Int} {M0 : qM} {C : List Int} {W : List (Int × Int)} {pl : Int} (a1 : Int32) (ha : a1.toInt = pl) (h0 : 0 ≤ pl ∧ pl ≤ 240) (hd0 : 0 ≤ dq (tm R len pl)) : ∀ (m j : Nat) (M : qM), Mw R len M0 C W M → (M 77 9).toInt = pl + j → j ≤ 5 → (M 77 12).toInt = nv (tm R len) pl j → 0 ≤ (M 77 12).toInt → ((j = 0 ∧ (M 77 12).toInt ≤ 0) ∨ (j = 1 ∧ (M 77 12).toInt ≤ 9) ∨ (j = 2 ∧ (M 77 12).toInt ≤ 99) ∨ (j = 3 ∧ (M 77 12).toInt ≤ 999) ∨ (j = 4 ∧ (M 77 12).toInt ≤ 9999) ∨ (j = 5 ∧ (M 77 12).toInt ≤ 99999)) → (∀ i : Nat, i < j → 0 ≤ dq (tm R len (pl + i))) → qP (f_X12_readsNumber_10 n m a1 M) (fun v m => (v.toInt = 0 ∧ nl (tm R len) pl = 6 ∧ (m 77 11).toInt = -1000 * 2 - (pl + 5) ∧ G m ∧ Sm lQ M0 m) ∨ (v.toInt = 1 ∧ nl (tm R len) pl ≠ 6 ∧ Mw R len M0 C W m ∧ (m 77 9).toInt = pl + nl (tm R len) pl ∧ (m 77 12).toInt = nv (tm R len) pl (nl (tm R len) pl) ∧ 0 ≤ (m 77 12).toInt ∧ (m 77 12).toInt ≤ 99999)) := by
  intro m
  induction m with
  | zero => intro j M _ _ _ _ _ _ _; exact P_none
  | succ m ih =>
    intro j M h hp h5 hv hv0 hb hd
    have h2 := h
    obtain ⟨hg, hs, hx, hl, hpl, hc, hf, hw, ho, h6, hj⟩ := h2
    have h9 := r_77_9 hg
    have hdj := dq_r (tm R len (pl + j))
    have htj := tm_r R len (pl + j)
    show qP (b_X12_readsNumber_10 n (f_X12_readsNumber_10 n m) a1 M) _
    unfold b_X12_readsNumber_10
    refine P_qc (P_T (v_digit hn M hg)) ?_
    rintro r1 m2 ⟨rfl, hr1⟩
    rw [hx, hl, hp] at hr1
    refine P_eq rfl l_0 (fun c => ?_) (fun c => ?_)
    · have hj1 : 1 ≤ j := by
        apply Classical.byContradiction
        intro q
        have e : j = 0 := by omega
        subst e
        rw [show pl + ((0 : Nat) : Int) = pl by omega] at hr1
        omega
      have hnl : nl (tm R len) pl = j := nl_j hd h5 (by omega)
      refine P_ret (Or.inr ⟨l_1, by omega, h, by rw [hnl]; exact hp, by rw [hnl]; exact hv, hv0, by omega⟩)
    · have ea : (a1 + 5).toInt = a1.toInt + 5 := i_add rfl l_5 (by omega) (by omega)
      refine P_eq rfl ea (fun d => ?_) (fun d => ?_)
      · have e5 : j = 5 := by omega
        have hn6 : nl (tm R len) pl = 6 := by
          refine nl_6 (fun i hi => ?_)
          by_cases q : i < j
          · exact hd i q
          · have : i = j := by omega
            rw [this]; omega
        refine P_qc (x_wrong (M0 := M0) (2 : Int32) (m2 77 9) m2 hg hs (by decide) h9) ?_
        rintro r7 m8 ⟨w0, w1, g, s⟩
        exact P_qb (P_ret (Or.inl ⟨w0, hn6, by rw [w1, l_2, hp, e5]; rfl, g, s⟩))
      · refine P_qc (x_here hn m2 h) ?_
        rintro r3 m4 ⟨rfl, hr3⟩
        rw [hp] at hr3
        have e1 : ((10 : Int32) * m4 77 12 + r3 - 48).toInt = 10 * (m4 77 12).toInt + r3.toInt - 48 := i_sub (i_add (i_mul l_10 rfl (by omega) (by omega)) rfl (by omega) (by omega)) l_48 (by omega) (by omega)
        refine P_w (Or.inr (by decide)) hg hs trivial ?_
        intro m5 b1 b2 b3 g5 s5
        have hM5 : Mw R len M0 C W m5 := ⟨g5, s5, by rw [b3 84 (by decide)]; exact hx, by rw [b2 10 (by decide)]; exact hl, by rw [b2 9 (by decide)]; exact hpl, by rw [b2 14 (by decide)]; exact hc, by rw [b3 85 (by decide)]; exact hf, by rw [b3 86 (by decide), b2 15 (by decide)]; exact hw, by rw [b2 13 (by decide)]; exact ho, h6, hj⟩
        refine P_w (Or.inl rfl) g5 s5 ?_ ?_
        · have e9 : (m5 77 9 + 1).toInt = (m5 77 9).toInt + 1 := i_add rfl l_1 (by rw [b2 9 (by decide)]; omega) (by rw [b2 9 (by decide)]; omega)
          exact i_rng (lo := 0) (hi := 240) e9 (by rw [b2 9 (by decide)]; omega) (by rw [b2 9 (by decide)]; have := r_77_10 hg; omega)
        intro m6 d1 d2 d3 g6 s6
        have e9 : (m5 77 9 + 1).toInt = (m5 77 9).toInt + 1 := i_add rfl l_1 (by rw [b2 9 (by decide)]; omega) (by rw [b2 9 (by decide)]; omega)
        have p6 : (m6 77 9).toInt = pl + (j + 1 : Nat) := by rw [d1, e9, b2 9 (by decide), hp]; omega
        have v6 : (m6 77 12).toInt = 10 * (m4 77 12).toInt + r3.toInt - 48 := by rw [d2 12 (by decide), b1]; exact e1
        refine ih (j + 1) m6 ⟨g6, s6, by rw [d3 84 (by decide)]; exact hM5.2.2.1, by rw [d2 10 (by decide)]; exact hM5.2.2.2.1, by rw [p6]; omega, by rw [d2 14 (by decide)]; exact hM5.2.2.2.2.2.1, by rw [d3 85 (by decide)]; exact hM5.2.2.2.2.2.2.1, by rw [d3 86 (by decide), d2 15 (by decide)]; exact hM5.2.2.2.2.2.2.2.1, by rw [d2 13 (by decide)]; exact hM5.2.2.2.2.2.2.2.2.1, h6, hj⟩ p6 (by omega) ?_ (by omega) (by omega) (fun i hi => ?_)
        · show (m6 77 12).toInt = 10 * nv (tm R len) pl j + dq (tm R len (pl + j))
          rw [v6, ← hv]; omega
        · by_cases q : i < j
          · exact hd i q
          · have : i = j := by omega
            rw [this]; omega
/-- all of them are 14 -/
def al14 (A : List (Int × Int)) : Prop := ∀ q, q ∈ A → q.1 = 14
def alS (A : List (Int × Int)) : Prop := ∀ q, q ∈ A → (2 ≤ q.1 ∧ q.1 ≤ 6) ∨ q.1 = 14
/-- what a part of the model's reader says -/
abbrev Xz (T : Int → Int) (R : Nat → Int32) (len : Int) (M0 : qM) (c0 : Lc) (t : Nat) (ph : Int) (pl : Int) (B : List Int → List (Int × Int) → Int → Prop) (v : Int32) (m : qM) : Prop := (v.toInt = 0 ∧ Fx T c0 M0 m) ∨ (v.toInt = 1 ∧ ∃ C W, Mw R len M0 C W m ∧ Lo T c0 (t, (m 77 9).toInt, ph, C, W) ∧ pl ≤ (m 77 9).toInt ∧ B C W (m 77 9).toInt)
theorem x_factor {n : Nat} (hn : 200000 ≤ n) {R : Nat → Int32} {len : Int} {M0 : qM} {c0 : Lc} {ph pl0 : Int} {W0 : List (Int × Int)} : ∀ (m : Nat) (M : qM) (C : List Int) (A : List (Int × Int)), Mw R len M0 C (A ++ W0) M → al14 A → Lo (tm R len) c0 (0, (M 77 9).toInt, ph, C, A ++ W0) → pl0 ≤ (M 77 9).toInt → qP (f_X12_readsFactor_0 n m M) (Xz (tm R len) R len M0 c0 1 ph pl0 (fun _ W _ => ∃ A, W = A ++ W0 ∧ al14 A)) := by
  intro m
  induction m with
  | zero => intro M C A _ _ _ _; exact P_none
  | succ m ih =>
    intro M C A h hA hL hp0
    have h2 := h
    obtain ⟨hg, hs, hx, hl, hpl, hc, hf, hw, ho, h6, hj⟩ := h2
    have h9 := r_77_9 hg
    have ht := tm_r R len (M 77 9).toInt
    have hd := dq_r (tm R len (M 77 9).toInt)
    show qP (b_X12_readsFactor_0 n (f_X12_readsFactor_0 n m) M) _
    unfold b_X12_readsFactor_0
    refine P_qc (x_here hn M h) ?_
    rintro r1 m2 ⟨rfl, hr1⟩
    refine P_eq rfl l_91 (fun c => ?_) (fun c => ?_)
    · have h91 : tm R len (m2 77 9).toInt = 91 := by omega
      refine P_qc (x_opens (14 : Int32) m2 h (Or.inr (Or.inr l_14)) (by omega)) ?_
      rintro r16 m17 (⟨q0, q1, q2, q3, q4⟩ | ⟨q0, q1, q2, q3⟩)
      · refine P_eq rfl l_0 (fun _ => ?_) (fun d => by omega)
        refine P_ret (Or.inl ⟨l_0, Lo_tr hL (Lo_st ?_), q3, q4⟩)
        rw [ls_A]
        unfold zA zO
        rw [if_pos h91, if_pos q1]
        unfold zF
        rw [q2]
      · refine P_eq rfl l_0 (fun d => by omega) (fun d => ?_)
        refine ih m17 C ((14, 0) :: A) q2 ?_ (Lo_tr hL (Lo_st ?_)) (by omega)
        · intro x hx2
          rcases List.mem_cons.mp hx2 with rfl | hx4
          · rfl
          · exact hA x hx4
        · rw [ls_A]
          unfold zA zO
          rw [if_pos h91, if_neg q1, q3]
          rfl
    · refine P_qc (P_T (v_digit hn m2 hg)) ?_
      rintro r3 m4 ⟨rfl, hr3⟩
      rw [hx, hl] at hr3
      refine P_eq rfl l_0 (fun d => ?_) (fun d => ?_)
      · refine P_qc (x_here hn m4 h) ?_
        rintro r5 m6 ⟨rfl, hr5⟩
        refine P_qc (x_fact r5 m6) ?_
        rintro r7 m8 ⟨rfl, hr7⟩
        rw [hr5] at hr7
        refine P_eq rfl l_m1 (fun e => ?_) (fun e => ?_)
        · refine P_mono (x_fail (M0 := M0) (T := tm R len) (c0 := c0) (k := 1) (w := (m8 77 9).toInt) (1 : Int32) (m8 77 9) m8 hg hs l_1 rfl (by decide) h9 (Lo_tr hL (Lo_st ?_))) (fun v m p => Or.inl p)
          rw [ls_A]
          unfold zA
          rw [if_neg (by omega), if_neg (by omega), if_pos (by omega)]
        · have hf9 := fa_rng (tm R len (m8 77 9).toInt)
          refine P_qc (x_notes (1 : Int32) r7 m8 h (by rw [l_1]; decide) (by omega)) ?_
          rintro _ m9 ⟨q2, q3⟩
          have htz := tm_r R len (m8 77 9).toInt
          have hlz : (m8 77 9).toInt < len := by
            rcases htz with z | z
            · have z1 : fa (tm R len (m8 77 9).toInt) = -1 := by rw [z.1]; rfl
              omega
            · omega
          refine x_pl m9 q2 (by rw [q3]; exact hlz) ?_
          intro m10 q4 q5
          rw [q3] at q5
          refine P_ret (Or.inr ⟨l_1, _, _, q4, Lo_tr hL (Lo_st ?_), by omega, A, rfl, hA⟩)
          rw [ls_A]
          unfold zA
          rw [if_neg (by omega), if_neg (by omega), if_neg (by omega), q5, l_1, hr7]
          rfl
      · have d0 : 0 ≤ dq (tm R len (m4 77 9).toInt) := by omega
        have h91 : tm R len (m4 77 9).toInt ≠ 91 := by omega
        unfold f_X12_readsNumber
        refine P_qc (Q := fun v m => (v.toInt = 0 ∧ nl (tm R len) (m4 77 9).toInt = 6 ∧ (m 77 11).toInt = -1000 * 2 - ((m4 77 9).toInt + 5) ∧ G m ∧ Sm lQ M0 m) ∨ (v.toInt = 1 ∧ nl (tm R len) (m4 77 9).toInt ≠ 6 ∧ Mw R len M0 C (A ++ W0) m ∧ (m 77 9).toInt = (m4 77 9).toInt + nl (tm R len) (m4 77 9).toInt ∧ (m 77 12).toInt = nv (tm R len) (m4 77 9).toInt (nl (tm R len) (m4 77 9).toInt) ∧ 0 ≤ (m 77 12).toInt ∧ (m 77 12).toInt ≤ 99999)) ?_ ?_
        · refine P_ql rfl ?_
          intro x1 hx1
          refine P_w (Or.inr (by decide)) hg hs trivial ?_
          intro m5 b1 b2 b3 g5 s5
          exact x_num hn x1 hx1 (by omega) d0 n 0 m5 ⟨g5, s5, by rw [b3 84 (by decide)]; exact hx, by rw [b2 10 (by decide)]; exact hl, by rw [b2 9 (by decide)]; exact hpl, by rw [b2 14 (by decide)]; exact hc, by rw [b3 85 (by decide)]; exact hf, by rw [b3 86 (by decide), b2 15 (by decide)]; exact hw, by rw [b2 13 (by decide)]; exact ho, h6, hj⟩ (by rw [b2 9 (by decide)]; omega) (by omega) (by rw [b1]; rfl) (by rw [b1, l_0]; omega) (by rw [b1, l_0]; omega) (fun i hi => absurd hi (by omega))
        · rintro r13 m14 (⟨q0, q1, q2, q3, q4⟩ | ⟨q0, q1, q2, q3, q4, q5, q6⟩)
          · refine P_eq rfl l_0 (fun _ => ?_) (fun e => by omega)
            refine P_ret (Or.inl ⟨l_0, Lo_tr hL (Lo_st ?_), q3, q4⟩)
            rw [ls_A]
            unfold zA
            rw [if_neg h91, if_pos d0, if_pos q1]
            unfold zF
            rw [q2]
          · refine P_eq rfl l_0 (fun e => by omega) (fun e => ?_)
            refine P_qc (x_notes (0 : Int32) (m14 77 12) m14 q2 (by rw [l_0]; decide) (by omega)) ?_
            rintro _ m15 ⟨q7, q8⟩
            refine P_ret (Or.inr ⟨l_1, _, _, q7, Lo_tr hL (Lo_st ?_), by rw [q8]; omega, A, rfl, hA⟩)
            rw [ls_A]
            unfold zA
            rw [if_neg h91, if_pos d0, if_neg q1, q8, q3, l_0, q4, show (1048576 : Int) * 0 + nv (tm R len) (m4 77 9).toInt (nl (tm R len) (m4 77 9).toInt) = nv (tm R len) (m4 77 9).toInt (nl (tm R len) (m4 77 9).toInt) by omega]
def alP (A : List (Int × Int)) : Prop := ∀ q, q ∈ A → 2 ≤ q.1 ∧ q.1 ≤ 6
theorem alP_nil : alP [] := fun q h => absurd h (by simp)
theorem tpk_pos {W : List (Int × Int)} (h : 0 ≤ tpk W) : ∃ q r, W = q :: r ∧ q.1 = tpk W := by
  cases W with
  | nil => exact absurd h (by show ¬ (0 : Int) ≤ -1; decide)
  | cons q r => exact ⟨q, r, rfl, rfl⟩
theorem spl {W0 W2 : List (Int × Int)} (h0 : ¬ (2 ≤ tpk W0 ∧ tpk W0 ≤ 6)) : ∀ (A2 A : List (Int × Int)), A ++ W0 = A2 ++ W2 → alP A2 → ∃ A3, A = A2 ++ A3 ∧ W2 = A3 ++ W0 := by
  intro A2
  induction A2 with
  | nil => intro A h _; exact ⟨A, rfl, h.symm⟩
  | cons q A2 ih =>
    intro A h hA
    cases A with
    | nil =>
      exfalso
      have e : W0 = q :: (A2 ++ W2) := h
      rw [e] at h0
      exact h0 (hA q (List.mem_cons_self ..))
    | cons q2 A =>
      have e : q2 :: (A ++ W0) = q :: (A2 ++ W2) := h
      injection e with e1 e2
      obtain ⟨A3, h3, h4⟩ := ih A e2 (fun x hx => hA x (List.mem_cons_of_mem _ hx))
      exact ⟨A3, by rw [e1, h3]; rfl, h4⟩
abbrev Qcl (T : Int → Int) (R : Nat → Int32) (len : Int) (M0 : qM) (c0 : Lc) (ph : Int) (a : Int) (W : List (Int × Int)) (M m : qM) : Prop := ∃ C A W2, W = A ++ W2 ∧ alP A ∧ Mw R len M0 C W2 m ∧ m 77 9 = M 77 9 ∧ Lo T c0 (1, (M 77 9).toInt, ph, C, W2) ∧ ¬ (4 ≤ tpk W2 ∧ tpk W2 ≤ 6) ∧ (a ≠ 0 → ¬ (2 ≤ tpk W2 ∧ tpk W2 ≤ 6))
theorem x_closes {n : Nat} {R : Nat → Int32} {len : Int} {M0 : qM} {c0 : Lc} {ph : Int} (a1 : Int32) : ∀ (m : Nat) (M : qM) (C : List Int) (W : List (Int × Int)), Mw R len M0 C W M → Lo (tm R len) c0 (1, (M 77 9).toInt, ph, C, W) → (a1.toInt = 0 ∧ 4 ≤ sg (tm R len (M 77 9).toInt)) ∨ (a1.toInt ≠ 0 ∧ ¬ 4 ≤ sg (tm R len (M 77 9).toInt)) → qP (f_X12_closesSums_0 n m a1 M) (fun _ m => Qcl (tm R len) R len M0 c0 ph a1.toInt W M m) := by
  intro m
  induction m with
  | zero => intro M C W _ _ _; exact P_none
  | succ m ih =>
    intro M C W h hL ha
    have stop : ¬ (4 ≤ tpk W ∧ tpk W ≤ 6) → (a1.toInt ≠ 0 → ¬ (2 ≤ tpk W ∧ tpk W ≤ 6)) → Qcl (tm R len) R len M0 c0 ph a1.toInt W M M := fun h1 h2 => ⟨C, [], W, rfl, alP_nil, h, rfl, hL, h1, h2⟩
    have step : (2 ≤ tpk W ∧ tpk W ≤ 6) → (4 ≤ tpk W ∨ a1.toInt ≠ 0) → qP (f_X12_closesSums_37 n (f_X12_closesSums_0 n m) a1 M) (fun _ m => Qcl (tm R len) R len M0 c0 ph a1.toInt W M m) := by
      intro h1 h2
      obtain ⟨q, r, rfl, hq⟩ := tpk_pos (W := W) (by omega)
      rw [← hq] at h1 h2
      unfold f_X12_closesSums_37
      refine P_qc (x_top M h) ?_
      rintro r1 m2 ⟨rfl, ht⟩
      rw [← hq] at ht
      refine P_qc (x_notes r1 (0 : Int32) m2 h (by omega) (by rw [l_0]; decide)) ?_
      rintro _ m3 ⟨k1, k2⟩
      have ev : 1048576 * r1.toInt + (0 : Int32).toInt = 1048576 * q.1 := by rw [l_0, ht]; omega
      rw [ev] at k1
      refine x_pop m3 k1 (by omega) ?_
      intro m4 k3 k4
      have e9 : m4 77 9 = m2 77 9 := by rw [k4, k2]
      refine P_mono (ih m4 _ r k3 ?_ (by rw [e9]; exact ha)) ?_
      · rw [e9]
        refine Lo_tr hL (Lo_st ?_)
        rw [ls_B, zB_c]
        by_cases c : 4 ≤ q.1 ∧ q.1 ≤ 6
        · rw [if_pos c]
        · rw [if_neg c, if_pos ⟨by omega, by omega⟩]
      · rintro v m5 ⟨C5, A5, W5, p1, p2, p3, p4, p5, p6, p7⟩
        refine ⟨C5, q :: A5, W5, by rw [p1]; rfl, fun x hx => ?_, p3, by rw [p4, e9], by rw [e9] at p5; exact p5, p6, p7⟩
        rcases List.mem_cons.mp hx with rfl | hx2
        · exact h1
        · exact p2 x hx2
    have mid : (¬ (4 ≤ tpk W ∧ tpk W ≤ 6)) → qP (f_X12_closesSums_17 n (f_X12_closesSums_0 n m) a1 M) (fun _ m => Qcl (tm R len) R len M0 c0 ph a1.toInt W M m) := by
      intro h1
      unfold f_X12_closesSums_17
      refine P_eq rfl l_0 (fun c => ?_) (fun c => ?_)
      · exact P_ret (stop h1 (fun q => absurd c q))
      · refine P_qc (x_top M h) ?_
        rintro r1 m2 ⟨rfl, ht⟩
        refine P_eq rfl l_2 (fun d => ?_) (fun d => ?_)
        · exact step (by omega) (Or.inr c)
        · refine P_qc (x_top m2 h) ?_
          rintro r3 m4 ⟨rfl, ht3⟩
          refine P_eq rfl l_3 (fun e => ?_) (fun e => ?_)
          · exact step (by omega) (Or.inr c)
          · exact P_ret (stop h1 (fun _ => by clear stop step; omega))
    show qP (b_X12_closesSums_0 n (f_X12_closesSums_0 n m) a1 M) _
    unfold b_X12_closesSums_0
    refine P_qc (x_top M h) ?_
    rintro r1 m2 ⟨rfl, ht⟩
    refine P_lt rfl l_4 (fun c => ?_) (fun c => ?_)
    · exact mid (by omega)
    · refine P_qc (x_top m2 h) ?_
      rintro r3 m4 ⟨rfl, ht3⟩
      refine P_le rfl l_6 (fun d => ?_) (fun d => ?_)
      · exact step (by omega) (Or.inl (by omega))
      · exact mid (by omega)
theorem stw_mem {F : Nat → Int32} {W0 : List (Int × Int)} : ∀ (A : List (Int × Int)) (k : Nat), stw F k = A ++ W0 → (∀ q, q ∈ A → ∃ i, W0.length ≤ i ∧ i < k ∧ q.1 = (F i).toInt / 1048576) ∧ (∀ i, W0.length ≤ i → i < k → ∃ q, q ∈ A ∧ q.1 = (F i).toInt / 1048576) := by
  intro A
  induction A with
  | nil =>
    intro k h
    have hl := stw_len (F := F) k
    rw [h] at hl
    have hl2 : W0.length = k := hl
    exact ⟨fun q hq => absurd hq (by simp), fun i h1 h2 => by exfalso; omega⟩
  | cons q A ih =>
    intro k h
    obtain ⟨j, rfl, hj, hq⟩ := stw_pop (r := A ++ W0) h
    obtain ⟨i1, i2⟩ := ih j hj
    have hl := stw_len (F := F) j
    rw [hj, List.length_append] at hl
    refine ⟨fun x hx => ?_, fun i h1 h2 => ?_⟩
    · rcases List.mem_cons.mp hx with rfl | hx2
      · exact ⟨j, by omega, by omega, by rw [hq]⟩
      · obtain ⟨i, k1, k2, k3⟩ := i1 x hx2
        exact ⟨i, k1, by omega, k3⟩
    · by_cases c : i = j
      · exact ⟨q, List.mem_cons_self .., by rw [hq, c]⟩
      · obtain ⟨x, k1, k2⟩ := i2 i h1 (by omega)
        exact ⟨x, List.mem_cons_of_mem _ k1, k2⟩
theorem x_has {n : Nat} (hn : 200000 ≤ n) {R : Nat → Int32} {len : Int} {M0 : qM} {C : List Int} {A W0 : List (Int × Int)} (a1 : Int32) (M : qM) (h : Mw R len M0 C (A ++ W0) M) (ha : a1.toInt = (W0.length : Int)) : qP (f_X12_hasOpenSum n a1 M) (fun v m => m = M ∧ ((v.toInt = 0 ∧ ∀ q, q ∈ A → q.1 ≠ 14) ∨ (v.toInt ≠ 0 ∧ ∃ q, q ∈ A ∧ q.1 = 14))) := by
  obtain ⟨hg, hs, hx, hl, hp, hc, hf, hw, ho, h6, hj⟩ := h
  have h15 := r_77_15 hg
  obtain ⟨i1, i2⟩ := stw_mem A _ hw
  have hl2 := stw_len (F := M 86) (M 77 15).toInt.toNat
  rw [hw, List.length_append] at hl2
  unfold f_X12_hasOpenSum
  refine P_mono (P_T (m_hasOpen a1 (by omega) n a1 M hg (Int.le_refl _) (by omega) (fun i j1 j2 => by exfalso; omega) (by omega))) ?_
  rintro v m ⟨rfl, hv, h2⟩
  refine ⟨rfl, ?_⟩
  rcases h2 with ⟨k1, k2⟩ | ⟨k1, i, k2, k3, k4⟩
  · refine Or.inl ⟨k1, fun q hq => ?_⟩
    obtain ⟨i, j1, j2, j3⟩ := i1 q hq
    rw [j3]
    exact k2 i (by omega) (by omega)
  · obtain ⟨q, j1, j2⟩ := i2 i (by omega) (by omega)
    exact Or.inr ⟨k1, q, j1, by rw [j2]; exact k4⟩
/-- a bracket that is not shut is a fault -/
theorem z_bad14 {T : Int → Int} {pl ph : Int} {W0 : List (Int × Int)} (hs : sg (T pl) = -1) (h93 : T pl ≠ 93) : ∀ (A : List (Int × Int)) (C : List Int), alS A → (∃ q, q ∈ A ∧ q.1 = 14) → Lo T (1, pl, ph, C, A ++ W0) (zF 1 pl) := by
  intro A
  induction A with
  | nil => rintro C _ ⟨q, hq, _⟩; exact absurd hq (by simp)
  | cons q A ih =>
    intro C hA hE
    have hz : zS T (1, pl, ph, C, q :: (A ++ W0)) = zB T pl ph C (q :: (A ++ W0)) := rfl
    rcases hA q (List.mem_cons_self ..) with c | c
    · have hE2 : ∃ x, x ∈ A ∧ x.1 = 14 := by
        obtain ⟨x, hx, hx2⟩ := hE
        rcases List.mem_cons.mp hx with rfl | hx3
        · omega
        · exact ⟨x, hx3, hx2⟩
      refine Lo_tr (Lo_st (d := (1, pl, ph, C ++ [1048576 * q.1], A ++ W0)) ?_) (ih _ (fun x hx => hA x (List.mem_cons_of_mem _ hx)) hE2)
      show zS T (1, pl, ph, C, q :: (A ++ W0)) = _
      rw [hz]
      show (if _ then _ else _) = _
      by_cases d : 4 ≤ q.1 ∧ q.1 ≤ 6
      · rw [if_pos d]
      · rw [if_neg d, if_pos ⟨by omega, by omega⟩]
    · refine Lo_st ?_
      show zS T (1, pl, ph, C, q :: (A ++ W0)) = _
      rw [hz]
      show (if _ then _ else _) = _
      rw [if_neg (by omega), if_neg (by omega)]
      unfold zG
      rw [if_neg (by omega), if_pos c, if_neg h93]
abbrev nT (W : List (Int × Int)) : Prop := ¬ (2 ≤ tpk W ∧ tpk W ≤ 6) ∧ tpk W ≠ 14
theorem x_138 {n : Nat} (hn : 200000 ≤ n) {R : Nat → Int32} {len : Int} {M0 : qM} {c0 : Lc} {ph pl0 : Int} {W0 : List (Int × Int)} (h0 : nT W0) (a1 : Int32) (ha : a1.toInt = (W0.length : Int)) (M : qM) (C : List Int) (A : List (Int × Int)) (h : Mw R len M0 C (A ++ W0) M) (hA : alS A) (hL : Lo (tm R len) c0 (1, (M 77 9).toInt, ph, C, A ++ W0)) (hp : pl0 ≤ (M 77 9).toInt) (hs : sg (tm R len (M 77 9).toInt) = -1) (h93 : tm R len (M 77 9).toInt ≠ 93 ∨ ∀ q, q ∈ A → q.1 ≠ 14) : qP (f_X12_readsSum_138 n a1 M) (Xz (tm R len) R len M0 c0 1 ph pl0 (fun _ W p => W = W0 ∧ sg (tm R len p) = -1)) := by
  have h9 := r_77_9 h.1
  unfold f_X12_readsSum_138
  refine P_qc (x_has hn a1 M h ha) ?_
  rintro r1 m2 ⟨rfl, hr⟩
  refine P_eq rfl l_0 (fun c => ?_) (fun c => ?_)
  · have hno : ∀ q, q ∈ A → q.1 ≠ 14 := by
      rcases hr with ⟨_, k⟩ | ⟨k, _⟩
      · exact k
      · exact absurd c k
    unfold f_X12_closesSums
    refine P_qc (x_closes (1 : Int32) n m2 C (A ++ W0) h hL (Or.inr ⟨by rw [l_1]; decide, by omega⟩)) ?_
    rintro _ m3 ⟨C3, A2, W2, k1, k2, k3, k4, k5, k6, k7⟩
    have k8 := k7 (by rw [l_1]; decide)
    obtain ⟨A3, j1, j2⟩ := spl h0.1 A2 A k1 k2
    have hW : W2 = W0 := by
      cases A3 with
      | nil => exact j2
      | cons q A4 =>
        exfalso
        have hq : q ∈ A := by rw [j1]; exact List.mem_append_right _ (List.mem_cons_self ..)
        rw [j2] at k8
        have k9 : ¬ (2 ≤ q.1 ∧ q.1 ≤ 6) := k8
        have := hno q hq
        rcases hA q hq with d | d
        · exact k9 d
        · exact this d
    subst hW
    exact P_ret (Or.inr ⟨l_1, C3, W2, k3, by rw [k4]; exact k5, by rw [k4]; exact hp, rfl, by rw [k4]; exact hs⟩)
  · obtain ⟨hc, hE⟩ := hr.resolve_left (fun q => c q.1)
    have h93b : tm R len (m2 77 9).toInt ≠ 93 := by
      rcases h93 with q | q
      · exact q
      · obtain ⟨x, hx, hx2⟩ := hE
        exact absurd hx2 (q x hx)
    exact P_mono (x_fail (M0 := M0) (T := tm R len) (c0 := c0) (k := 1) (w := (m2 77 9).toInt) (1 : Int32) (m2 77 9) m2 h.1 h.2.1 l_1 rfl (by decide) h9 (Lo_tr hL (z_bad14 hs h93b A C hA hE))) (fun v m p => Or.inl p)
theorem x_38 {n : Nat} (hn : 200000 ≤ n) {R : Nat → Int32} {len : Int} {M0 : qM} {c0 : Lc} {ph pl0 : Int} {W0 : List (Int × Int)} (h0 : nT W0) {K : Int32 → qM → qR} (a1 : Int32)
    (hK : ∀ (M : qM) (C : List Int) (A : List (Int × Int)), Mw R len M0 C (A ++ W0) M → alS A → Lo (tm R len) c0 (1, (M 77 9).toInt, ph, C, A ++ W0) → pl0 ≤ (M 77 9).toInt → qP (K a1 M) (Xz (tm R len) R len M0 c0 1 ph pl0 (fun _ W p => W = W0 ∧ sg (tm R len p) = -1)))
    (a2 s1 : Int32) (M : qM) (C : List Int) (A : List (Int × Int)) (h : Mw R len M0 C (A ++ W0) M) (hA : alS A) (hL : Lo (tm R len) c0 (1, (M 77 9).toInt, ph, C, A ++ W0)) (hp : pl0 ≤ (M 77 9).toInt) (h2 : a2.toInt = sg (tm R len (M 77 9).toInt)) (hs : 0 ≤ sg (tm R len (M 77 9).toInt)) (hs1 : (s1.toInt = 0 ∧ 4 ≤ sg (tm R len (M 77 9).toInt)) ∨ (s1.toInt ≠ 0 ∧ ¬ 4 ≤ sg (tm R len (M 77 9).toInt))) : qP (f_X12_readsSum_38 n K a1 a2 s1 M) (Xz (tm R len) R len M0 c0 1 ph pl0 (fun _ W p => W = W0 ∧ sg (tm R len p) = -1)) := by
  have hsr := sg_r (tm R len (M 77 9).toInt)
  have ht := tm_r R len (M 77 9).toInt
  unfold f_X12_readsSum_38 f_X12_closesSums
  refine P_qc (x_closes s1 n M C (A ++ W0) h hL hs1) ?_
  rintro _ m1 ⟨C1, A2, W2, k1, k2, k3, k4, k5, k6, k7⟩
  obtain ⟨A3, j1, j2⟩ := spl h0.1 A2 A k1 k2
  refine P_qg (fun i0 i1 => ?_)
  have ev : ((1048576 : Int32) * a2).toInt = 1048576 * sg (tm R len (M 77 9).toInt) + 0 := by rw [i_mul l_1048576 h2 (by omega) (by omega)]; omega
  refine x_push (k := sg (tm R len (M 77 9).toInt)) (b := 0) _ m1 k3 ev (by omega) (by decide) (fun q => by omega) (by omega) ?_
  intro m3 b1 g3 s3 b4 b5 b6 b7 b8 b9 b10
  have hno : ¬ ((sg (tm R len (M 77 9).toInt), (0 : Int)).1 = 10 ∨ (sg (tm R len (M 77 9).toInt), (0 : Int)).1 = 13 ∨ (sg (tm R len (M 77 9).toInt), (0 : Int)).1 = 14) := by
    show ¬ (sg (tm R len (M 77 9).toInt) = 10 ∨ sg (tm R len (M 77 9).toInt) = 13 ∨ sg (tm R len (M 77 9).toInt) = 14)
    omega
  have hM3 : Mw R len M0 C1 ((sg (tm R len (M 77 9).toInt), 0) :: W2) m3 := ⟨g3, s3, b4, b5, by rw [b6, k4]; exact h.2.2.2.2.1, by rw [b7]; exact k3.2.2.2.2.2.1, by rw [b8]; exact k3.2.2.2.2.2.2.1, b9, by rw [opn_n hno]; exact b10, by rw [opn_n hno]; exact k3.2.2.2.2.2.2.2.2.2.1, b1 C1 (Or.inr ⟨rfl, by omega⟩)⟩
  refine x_pl m3 hM3 (by rw [b6, k4]; omega) ?_
  intro m4 hM4 e4
  rw [b6, k4] at e4
  have hst : Lo (tm R len) c0 (0, (m4 77 9).toInt, ph, C1, [] ++ ((sg (tm R len (M 77 9).toInt), 0) :: W2)) := by
    refine Lo_tr k5 (Lo_st ?_)
    rw [ls_B, e4]
    cases W2 with
    | nil =>
      show zG _ _ _ _ _ _ _ = _
      unfold zG
      rw [if_pos hs]; rfl
    | cons q r =>
      have k6b : ¬ (4 ≤ q.1 ∧ q.1 ≤ 6) := k6
      show (if _ then _ else _) = _
      rw [if_neg k6b, if_neg]
      · unfold zG
        rw [if_pos hs]; rfl
      · rintro ⟨q1, q2⟩
        have k7b : s1.toInt ≠ 0 → ¬ (2 ≤ q.1 ∧ q.1 ≤ 6) := k7
        exact k7b (by omega) (by omega)
  unfold f_X12_readsFactor
  refine P_qc (x_factor hn (W0 := (sg (tm R len (M 77 9).toInt), 0) :: W2) (pl0 := pl0) n m4 C1 [] hM4 (fun q hq => absurd hq (by simp)) hst (by omega)) ?_
  rintro r5 m6 (⟨q0, q1⟩ | ⟨q0, C6, W6, q1, q2, q3, A6, q4, q5⟩)
  · exact P_eq rfl l_0 (fun _ => P_ret (Or.inl ⟨l_0, q1⟩)) (fun e => by omega)
  · refine P_eq rfl l_0 (fun e => by omega) (fun _ => ?_)
    have e6 : W6 = (A6 ++ (sg (tm R len (M 77 9).toInt), 0) :: A3) ++ W0 := by rw [q4, j2, List.append_assoc]; rfl
    rw [e6] at q1 q2
    refine hK m6 C6 _ q1 (fun x hx => ?_) q2 q3
    rcases List.mem_append.mp hx with hx2 | hx2
    · exact Or.inr (q5 x hx2)
    · rcases List.mem_cons.mp hx2 with rfl | hx3
      · refine Or.inl ?_
        show 2 ≤ sg (tm R len (M 77 9).toInt) ∧ sg (tm R len (M 77 9).toInt) ≤ 6
        omega
      · exact hA x (by rw [j1]; exact List.mem_append_right _ hx3)
theorem x_sum14 {n : Nat} (hn : 200000 ≤ n) {R : Nat → Int32} {len : Int} {M0 : qM} {c0 : Lc} {ph pl0 : Int} {W0 : List (Int × Int)} (h0 : nT W0) (a1 : Int32) (ha : a1.toInt = (W0.length : Int)) : ∀ (m : Nat) (M : qM) (C : List Int) (A : List (Int × Int)), Mw R len M0 C (A ++ W0) M → alS A → Lo (tm R len) c0 (1, (M 77 9).toInt, ph, C, A ++ W0) → pl0 ≤ (M 77 9).toInt → qP (f_X12_readsSum_14 n m a1 M) (Xz (tm R len) R len M0 c0 1 ph pl0 (fun _ W p => W = W0 ∧ sg (tm R len p) = -1)) := by
  intro m
  induction m with
  | zero => intro M C A _ _ _ _; exact P_none
  | succ m ih =>
    intro M C A h hA hL hp
    have hsr := sg_r (tm R len (M 77 9).toInt)
    have ht := tm_r R len (M 77 9).toInt
    show qP (b_X12_readsSum_14 n (f_X12_readsSum_14 n m) a1 M) _
    unfold b_X12_readsSum_14
    refine P_qc (x_here hn M h) ?_
    rintro r1 m2 ⟨rfl, hr1⟩
    refine P_qc (x_sign r1 m2) ?_
    rintro r3 m4 ⟨rfl, hr3⟩
    rw [hr1] at hr3
    refine P_eq rfl l_m1 (fun c => ?_) (fun c => ?_)
    · have hs : sg (tm R len (m4 77 9).toInt) = -1 := by omega
      refine P_qc (x_here hn m4 h) ?_
      rintro r5 m6 ⟨rfl, hr5⟩
      refine P_eq rfl l_93 (fun d => ?_) (fun d => ?_)
      · have h93 : tm R len (m6 77 9).toInt = 93 := by omega
        refine P_qc (x_has hn a1 m6 h ha) ?_
        rintro r7 m8 ⟨rfl, hr7⟩
        refine P_eq rfl l_0 (fun e => ?_) (fun e => ?_)
        · refine x_138 hn h0 a1 ha m8 C A h hA hL hp hs (Or.inr ?_)
          rcases hr7 with ⟨_, k⟩ | ⟨k, _⟩
          · exact k
          · exact absurd e k
        · obtain ⟨_, q14, hq14, e14⟩ := hr7.resolve_left (fun q => e q.1)
          unfold f_X12_closesSums
          refine P_qc (x_closes (1 : Int32) n m8 C (A ++ W0) h hL (Or.inr ⟨by rw [l_1]; decide, by omega⟩)) ?_
          rintro _ m9 ⟨C9, A2, W2, k1, k2, k3, k4, k5, k6, k7⟩
          have k8 := k7 (by rw [l_1]; decide)
          obtain ⟨A3, j1, j2⟩ := spl h0.1 A2 A k1 k2
          cases A3 with
          | nil =>
            exfalso
            rw [j1, List.append_nil] at hq14
            have := k2 q14 hq14
            omega
          | cons q A4 =>
            have hqA : q ∈ A := by rw [j1]; exact List.mem_append_right _ (List.mem_cons_self ..)
            have j3 : W2 = q :: (A4 ++ W0) := j2
            subst j3
            have k9 : ¬ (2 ≤ q.1 ∧ q.1 ≤ 6) := k8
            have hq1 : q.1 = 14 := by
              rcases hA q hqA with d2 | d2
              · exact absurd d2 k9
              · exact d2
            refine x_shut m9 k3 (Or.inr (Or.inr hq1)) ?_
            intro m11 hM11 e11
            refine x_pl m11 hM11 (by rw [e11, k4]; omega) ?_
            intro m12 hM12 e12
            rw [e11, k4] at e12
            refine ih m12 C9 A4 hM12 (fun x hx => hA x (by rw [j1]; exact List.mem_append_right _ (List.mem_cons_of_mem _ hx))) (Lo_tr k5 (Lo_st ?_)) (by omega)
            rw [ls_B, e12]
            show (if _ then _ else _) = _
            rw [if_neg (by omega), if_neg (by omega)]
            unfold zG
            rw [if_neg (by omega), if_pos hq1, if_pos h93]
      · exact x_138 hn h0 a1 ha m6 C A h hA hL hp hs (Or.inl (by omega))
    · refine P_le l_4 rfl (fun d => ?_) (fun d => ?_)
      · exact x_38 hn h0 a1 (fun M2 C2 A2 q1 q2 q3 q4 => ih M2 C2 A2 q1 q2 q3 q4) r3 (0 : Int32) m4 C A h hA hL hp hr3 (by omega) (Or.inl ⟨l_0, by omega⟩)
      · exact x_38 hn h0 a1 (fun M2 C2 A2 q1 q2 q3 q4 => ih M2 C2 A2 q1 q2 q3 q4) r3 (1 : Int32) m4 C A h hA hL hp hr3 (by omega) (Or.inr ⟨by rw [l_1]; decide, by omega⟩)
theorem x_sum {n : Nat} (hn : 200000 ≤ n) {R : Nat → Int32} {len : Int} {M0 : qM} {c0 : Lc} {ph : Int} {W0 : List (Int × Int)} (h0 : nT W0) (M : qM) (C : List Int) (h : Mw R len M0 C W0 M) (hL : Lo (tm R len) c0 (0, (M 77 9).toInt, ph, C, W0)) : qP (f_X12_readsSum n M) (Xz (tm R len) R len M0 c0 1 ph (M 77 9).toInt (fun _ W p => W = W0 ∧ sg (tm R len p) = -1)) := by
  have h15 := r_77_15 h.1
  have hl2 := stw_len (F := M 86) (M 77 15).toInt.toNat
  rw [h.2.2.2.2.2.2.2.1] at hl2
  unfold f_X12_readsSum
  refine P_ql rfl ?_
  intro x1 hx1
  unfold f_X12_readsFactor
  refine P_qc (x_factor hn (W0 := W0) (pl0 := (M 77 9).toInt) n M C [] h (fun q hq => absurd hq (by simp)) hL (Int.le_refl _)) ?_
  rintro r2 m3 (⟨q0, q1⟩ | ⟨q0, C3, W3, q1, q2, q3, A3, q4, q5⟩)
  · exact P_eq rfl l_0 (fun _ => P_ret (Or.inl ⟨l_0, q1⟩)) (fun e => by omega)
  · refine P_eq rfl l_0 (fun e => by omega) (fun _ => ?_)
    rw [q4] at q1 q2
    exact x_sum14 hn h0 x1 (by omega) n m3 C3 A3 q1 (fun x hx => Or.inr (q5 x hx)) q2 q3
/-! the model's conditions -/
def cOk : List (Int × Int) → Prop
  | [] => True
  | q :: r => (10 ≤ q.1 ∧ q.1 ≤ 13) ∧ ((q.1 = 11 ∨ q.1 = 12) → tpk r ≠ 10) ∧ (r = [] → q.1 = 13) ∧ cOk r
theorem cOk_top {W : List (Int × Int)} (h : cOk W) (hn : W ≠ []) : 10 ≤ tpk W ∧ tpk W ≤ 13 := by
  cases W with
  | nil => exact absurd rfl hn
  | cons q r => exact h.1
theorem cOk_nT {W : List (Int × Int)} (h : cOk W) (hn : W ≠ []) : nT W := by
  have := cOk_top h hn
  exact ⟨by omega, by omega⟩
abbrev cW (W : List (Int × Int)) : Prop := cOk W ∧ W ≠ []
abbrev dW (W : List (Int × Int)) : Prop := cOk W ∧ W ≠ [] ∧ tpk W ≠ 10
theorem x_ends {n : Nat} {R : Nat → Int32} {len : Int} {M0 : qM} {c0 : Lc} : ∀ (m : Nat) (M : qM) (C : List Int) (W : List (Int × Int)), Mw R len M0 C W M → cW W → Lo (tm R len) c0 (3, (M 77 9).toInt, 0, C, W) → qP (f_X12_endsPiece_0 n m M) (fun _ m => ∃ C W, Mw R len M0 C W m ∧ dW W ∧ Lo (tm R len) c0 (3, (m 77 9).toInt, 0, C, W) ∧ m 77 9 = M 77 9) := by
  intro m
  induction m with
  | zero => intro M C W _ _ _; exact P_none
  | succ m ih =>
    intro M C W h hW hL
    show qP (b_X12_endsPiece_0 n (f_X12_endsPiece_0 n m) M) _
    unfold b_X12_endsPiece_0
    refine P_qc (x_top M h) ?_
    rintro r1 m2 ⟨rfl, ht⟩
    refine P_eq rfl l_10 (fun c => ?_) (fun c => ?_)
    · obtain ⟨q, r, rfl, hq⟩ := tpk_pos (W := W) (by omega)
      have hq10 : q.1 = 10 := by omega
      obtain ⟨⟨k1, k2, k3, k4⟩, _⟩ := hW
      have hr : r ≠ [] := fun e => by have := k3 e; omega
      refine P_qc (x_notes (10 : Int32) (0 : Int32) m2 h (by rw [l_10]; decide) (by rw [l_0]; decide)) ?_
      rintro _ m3 ⟨j1, j2⟩
      refine x_shut m3 j1 (Or.inl hq10) ?_
      intro m5 j3 j4
      have e9 : m5 77 9 = m2 77 9 := by rw [j4, j2]
      refine P_mono (ih m5 _ r j3 ⟨k4, hr⟩ ?_) ?_
      · rw [e9]
        refine Lo_tr hL (Lo_st ?_)
        rw [ls_D, l_10, l_0]
        show (if _ then _ else _) = _
        rw [if_pos hq10]
        rfl
      · rintro v m6 ⟨C6, W6, p1, p2, p3, p4⟩
        exact ⟨C6, W6, p1, p2, p3, by rw [p4, e9]⟩
    · exact P_ret ⟨C, W, h, ⟨hW.1, hW.2, by omega⟩, hL, rfl⟩
theorem x_lands {n : Nat} {R : Nat → Int32} {len : Int} {M0 : qM} {c0 : Lc} (a1 : Int32) : ∀ (m : Nat) (M : qM) (C : List Int) (W : List (Int × Int)), Mw R len M0 C W M → dW W → Lo (tm R len) c0 (3, (M 77 9).toInt, 0, C, W) → (a1.toInt ≠ 0 → tm R len (M 77 9).toInt ≠ 38) → qP (f_X12_lands_0 n m a1 M) (fun _ m => ∃ C W, Mw R len M0 C W m ∧ dW W ∧ Lo (tm R len) c0 (3, (M 77 9).toInt, 0, C, W) ∧ m 77 9 = M 77 9 ∧ tpk W ≠ 11 ∧ (a1.toInt ≠ 0 → tpk W ≠ 12)) := by
  intro m
  induction m with
  | zero => intro M C W _ _ _ _; exact P_none
  | succ m ih =>
    intro M C W h hW hL h38
    have step : (tpk W = 11 ∨ (tpk W = 12 ∧ a1.toInt ≠ 0)) → qP (f_X12_lands_22 n (f_X12_lands_0 n m) a1 M) (fun _ m => ∃ C W, Mw R len M0 C W m ∧ dW W ∧ Lo (tm R len) c0 (3, (M 77 9).toInt, 0, C, W) ∧ m 77 9 = M 77 9 ∧ tpk W ≠ 11 ∧ (a1.toInt ≠ 0 → tpk W ≠ 12)) := by
      intro h1
      obtain ⟨q, r, rfl, hq⟩ := tpk_pos (W := W) (by omega)
      rw [← hq] at h1
      obtain ⟨⟨k1, k2, k3, k4⟩, k5, k6⟩ := hW
      have hr : r ≠ [] := fun e => by have := k3 e; omega
      have hM := h
      obtain ⟨hg, hs, hx, hl, hp, hc, hf, hw, ho, h6, hj⟩ := hM
      have h15 := r_77_15 hg
      have h14 := r_77_14 hg
      obtain ⟨k, hk, hw2, hq2⟩ := stw_pop hw
      have hjq := hj q (List.mem_cons_self ..) (by omega)
      unfold f_X12_lands_22
      have e1 : (M 77 15 - 1).toInt = (M 77 15).toInt - 1 := i_sub rfl l_1 (by omega) (by omega)
      refine P_qg (fun i0 i1 => ?_)
      have ei : (M 77 15 - 1).toNatClampNeg = k := by rw [tnc, e1]; omega
      rw [ei]
      have h86 := r_86 hg k
      refine P_ql (i_sub rfl (i_mul (i_div rfl l_1048576 h86.1 (by decide)) l_1048576 (by omega) (by omega)) (by omega) (by omega)) ?_
      intro x hx1
      have q2 : q.2 = (M 86 k).toInt % 1048576 := by rw [hq2]
      have hx2 : x.toInt = q.2 := by omega
      refine P_qg (fun _ _ => P_qg (fun _ _ => ?_))
      have ej : x.toNatClampNeg = q.2.toNat := by rw [tnc, hx2]
      rw [ej]
      have hjl : q.2.toNat < C.length := by omega
      have h85 := r_85 hg q.2.toNat
      have ev : ((1048576 : Int32) * (M 85 q.2.toNat / 1048576) + M 77 14).toInt = 1048576 * ((M 85 q.2.toNat).toInt / 1048576) + (M 77 14).toInt := i_add (i_mul l_1048576 (i_div rfl l_1048576 h85.1 (by decide)) (by omega) (by omega)) rfl (by omega) (by omega)
      refine P_r (Or.inl rfl) hg hs (by rw [ev]; omega) ?_
      intro m2 b1 b2 b3 g2 s2
      have hget : C.getD q.2.toNat 0 = (M 85 q.2.toNat).toInt := by
        rw [List.getD_eq_getElem?_getD, hf _ hjl]; rfl
      have hM2 : Mw R len M0 (C.set q.2.toNat (1048576 * (C.getD q.2.toNat 0 / 1048576) + (C.length : Int))) (q :: r) m2 := by
        refine ⟨g2, s2, by rw [b3 84 (by decide)]; exact hx, by rw [b3 77 (by decide)]; exact hl, by rw [b3 77 (by decide)]; exact hp, by rw [b3 77 (by decide), List.length_set]; exact hc, ?_, by rw [b3 86 (by decide), b3 77 (by decide)]; exact hw, by rw [b3 77 (by decide)]; exact ho, h6, by rw [List.length_set]; exact hj⟩
        refine Fn_set hf hjl (fun i _ hi => ?_) ?_
        · show (m2 85 i).toInt = (M 85 i).toInt
          rw [b2 i hi]
        · show (m2 85 q.2.toNat).toInt = _
          rw [b1, ev, hget, hc]
      refine x_pop m2 hM2 (by omega) ?_
      intro m3 j3 j4
      have e9 : m3 77 9 = M 77 9 := by rw [j4, b3 77 (by decide)]
      refine P_mono (ih m3 _ r j3 ⟨k4, hr, k2 (by omega)⟩ ?_ (by rw [e9]; exact h38)) ?_
      · rw [e9]
        refine Lo_tr hL (Lo_st ?_)
        rw [ls_D, zD_c]
        rw [if_neg (by omega)]
        by_cases c : q.1 = 11
        · rw [if_pos c]
        · rw [if_neg c, if_pos ⟨by omega, h38 (by omega)⟩]
      · rintro v m6 ⟨C6, W6, p1, p2, p3, p4, p5, p6⟩
        exact ⟨C6, W6, p1, p2, by rw [e9] at p3; exact p3, by rw [p4, e9], p5, p6⟩
    show qP (b_X12_lands_0 n (f_X12_lands_0 n m) a1 M) _
    unfold b_X12_lands_0
    refine P_qc (x_top M h) ?_
    rintro r1 m2 ⟨rfl, ht⟩
    refine P_eq rfl l_11 (fun c => ?_) (fun c => ?_)
    · exact step (by omega)
    · refine P_eq rfl l_0 (fun c0 => ?_) (fun c0 => ?_)
      · exact P_ret ⟨C, W, h, hW, hL, rfl, by omega, fun q => absurd c0 q⟩
      · refine P_qc (x_top m2 h) ?_
        rintro r3 m4 ⟨rfl, ht3⟩
        refine P_eq rfl l_12 (fun c3 => ?_) (fun c3 => ?_)
        · exact step (by omega)
        · exact P_ret ⟨C, W, h, hW, hL, rfl, by omega, fun _ => by omega⟩
theorem x_jumps {n : Nat} {R : Nat → Int32} {len : Int} {M0 : qM} {C : List Int} {W : List (Int × Int)} {k : Int} (a1 : Int32) (M : qM) (h : Mw R len M0 C W M) (ha : a1.toInt = k) (hk : k = 11 ∨ k = 12) (hlt : (M 77 9).toInt < len) : qP (f_X12_jumps n a1 M) (fun _ m => Mw R len M0 (C ++ [1048576 * k]) ((k, (C.length : Int)) :: W) m ∧ (m 77 9).toInt = (M 77 9).toInt + 1) := by
  have hM := h
  obtain ⟨hg, hs, hx, hl, hp, hc, hf, hw, ho, h6, hj⟩ := hM
  have h14 := r_77_14 hg
  unfold f_X12_jumps
  refine P_qg (fun i0 i1 => ?_)
  have ev : ((1048576 : Int32) * a1 + M 77 14).toInt = 1048576 * k + (C.length : Int) := by rw [i_add (i_mul l_1048576 ha (by omega) (by omega)) rfl (by omega) (by omega), hc]
  refine x_push (k := k) (b := (C.length : Int)) _ M h ev (by omega) (by omega) (fun _ => by omega) (by omega) ?_
  intro m2 b1 g2 s2 b4 b5 b6 b7 b8 b9 b10
  have hno : ¬ ((k, (C.length : Int)).1 = 10 ∨ (k, (C.length : Int)).1 = 13 ∨ (k, (C.length : Int)).1 = 14) := by
    show ¬ (k = 10 ∨ k = 13 ∨ k = 14)
    omega
  refine P_qc (x_notes0 (R := R) (len := len) (M0 := M0) (C := C) (W := (k, (C.length : Int)) :: W) a1 (0 : Int32) m2 g2 s2 b4 b5 (by rw [b6]; exact hp) (by rw [b7]; exact hc) (by rw [b8]; exact hf) b9 (by rw [opn_n hno]; exact b10) (by rw [opn_n hno]; exact h6) ?_ (by omega) (by rw [l_0]; decide)) ?_
  · have := b1 (C ++ [0]) (Or.inl (by rw [List.length_append, List.length_singleton]; omega))
    rw [List.length_append, List.length_singleton] at this
    exact this
  · rintro _ m3 ⟨j1, j2⟩
    have ev2 : 1048576 * a1.toInt + (0 : Int32).toInt = 1048576 * k := by rw [l_0, ha]; omega
    rw [ev2] at j1
    refine x_pl m3 j1 (by rw [j2, b6]; exact hlt) ?_
    intro m4 j3 j4
    exact P_ret ⟨j3, by rw [j4, j2, b6]⟩
theorem z_end {T : Int → Int} {pl ph : Int} {C : List Int} {W : List (Int × Int)} (hW : nT W) (hs : sg (T pl) = -1) : zS T (1, pl, ph, C, W) = zE T pl ph C W := by
  rw [ls_B]
  cases W with
  | nil =>
    show zG _ _ _ _ _ _ _ = _
    unfold zG
    rw [if_neg (by omega), if_neg (by decide)]
  | cons q r =>
    have h1 : ¬ (2 ≤ q.1 ∧ q.1 ≤ 6) := hW.1
    have h2 : q.1 ≠ 14 := hW.2
    show (if _ then _ else _) = _
    rw [if_neg (by omega), if_neg (by omega)]
    unfold zG
    rw [if_neg (by omega), if_neg h2]
theorem x_cmp52 {n : Nat} (hn : 200000 ≤ n) {R : Nat → Int32} {len pl0 : Int} {M0 : qM} {c0 : Lc} (s0 : Int32) (M : qM) (C : List Int) (W : List (Int × Int)) (h : Mw R len M0 C W M) (hW : cW W) (hp0 : pl0 ≤ (M 77 9).toInt) (hs0 : s0.toInt = cp (tm R len (M 77 9).toInt)) (hL : Lo (tm R len) c0 (zE (tm R len) (M 77 9).toInt 1 C W)) : qP (f_X12_readsCompared_52 n s0 M) (Xz (tm R len) R len M0 c0 3 0 pl0 (fun _ W _ => dW W)) := by
  have hcr := cp_r (tm R len (M 77 9).toInt)
  have ht := tm_r R len (M 77 9).toInt
  have h9 := r_77_9 h.1
  unfold f_X12_readsCompared_52
  refine P_eq rfl l_m1 (fun c => ?_) (fun c => ?_)
  · refine P_mono (x_fail (M0 := M0) (T := tm R len) (c0 := c0) (k := 1) (w := (M 77 9).toInt) (1 : Int32) (M 77 9) M h.1 h.2.1 l_1 rfl (by decide) h9 ?_) (fun v m p => Or.inl p)
    unfold zE at hL
    rw [if_neg (by decide), if_pos rfl, if_pos (by omega)] at hL
    exact hL
  · unfold zE at hL
    rw [if_neg (by decide), if_pos rfl, if_neg (by omega)] at hL
    refine x_pl M h (by omega) ?_
    intro m1 h1 e1
    rw [← e1] at hL
    refine P_qc (x_sum hn (cOk_nT hW.1 hW.2) m1 C h1 hL) ?_
    rintro r2 m3 (⟨q0, q1⟩ | ⟨q0, C3, W3, q1, q2, q3, rfl, q5⟩)
    · exact P_eq rfl l_0 (fun _ => P_ret (Or.inl ⟨l_0, q1⟩)) (fun e => by omega)
    · refine P_eq rfl l_0 (fun e => by omega) (fun _ => ?_)
      refine P_qc (x_notes s0 (0 : Int32) m3 q1 (by omega) (by rw [l_0]; decide)) ?_
      rintro _ m4 ⟨j1, j2⟩
      have hL4 : Lo (tm R len) c0 (3, (m4 77 9).toInt, 0, C3 ++ [1048576 * s0.toInt + (0 : Int32).toInt], W3) := by
        refine Lo_tr q2 (Lo_st ?_)
        rw [z_end (cOk_nT hW.1 hW.2) q5]
        unfold zE
        rw [if_neg (by omega), if_neg (by omega), j2, l_0, hs0]
        rw [show (1048576 : Int) * cp (tm R len (M 77 9).toInt) + 0 = 1048576 * cp (tm R len (M 77 9).toInt) by omega]
      unfold f_X12_endsPiece
      refine P_qc (x_ends n m4 _ W3 j1 hW hL4) ?_
      rintro _ m5 ⟨C5, W5, p1, p2, p3, p4⟩
      exact P_ret (Or.inr ⟨l_1, C5, W5, p1, p3, by rw [p4, j2]; omega, p2⟩)
theorem x_cmp {n : Nat} (hn : 200000 ≤ n) {R : Nat → Int32} {len pl0 : Int} {M0 : qM} {c0 : Lc} (M : qM) (C : List Int) (W : List (Int × Int)) (h : Mw R len M0 C W M) (hW : cW W) (hp0 : pl0 ≤ (M 77 9).toInt) (hL : Lo (tm R len) c0 (0, (M 77 9).toInt, 1, C, W)) : qP (f_X12_readsCompared n M) (Xz (tm R len) R len M0 c0 3 0 pl0 (fun _ W _ => dW W)) := by
  unfold f_X12_readsCompared
  refine P_qc (x_sum hn (cOk_nT hW.1 hW.2) M C h hL) ?_
  rintro r1 m2 (⟨q0, q1⟩ | ⟨q0, C3, W3, q1, q2, q3, rfl, q5⟩)
  · exact P_eq rfl l_0 (fun _ => P_ret (Or.inl ⟨l_0, q1⟩)) (fun e => by omega)
  · refine P_eq rfl l_0 (fun e => by omega) (fun _ => ?_)
    have hL2 : Lo (tm R len) c0 (zE (tm R len) (m2 77 9).toInt 1 C3 W3) := Lo_tr q2 (Lo_st (z_end (cOk_nT hW.1 hW.2) q5))
    refine P_qc (x_here hn m2 q1) ?_
    rintro r3 m4 ⟨rfl, hr3⟩
    have hcr := cp_r (tm R len (m4 77 9).toInt)
    refine P_eq rfl l_60 (fun c => ?_) (fun c => ?_)
    · exact x_cmp52 hn (7 : Int32) m4 C3 W3 q1 hW (by omega) (by rw [l_7]; omega) hL2
    · refine P_qc (x_here hn m4 q1) ?_
      rintro r5 m6 ⟨rfl, hr5⟩
      refine P_eq rfl l_62 (fun d => ?_) (fun d => ?_)
      · exact x_cmp52 hn (8 : Int32) m6 C3 W3 q1 hW (by omega) (by rw [l_8]; omega) hL2
      · refine P_qc (x_here hn m6 q1) ?_
        rintro r7 m8 ⟨rfl, hr7⟩
        refine P_eq rfl l_61 (fun e => ?_) (fun e => ?_)
        · exact x_cmp52 hn (9 : Int32) m8 C3 W3 q1 hW (by omega) (by rw [l_9]; omega) hL2
        · exact x_cmp52 hn (-1 : Int32) m8 C3 W3 q1 hW (by omega) (by rw [l_m1]; omega) hL2
theorem z_badD {T : Int → Int} {pl : Int} (h1 : T pl ≠ 41) (h2 : T pl ≠ 38) (h3 : T pl ≠ 124) : ∀ (W : List (Int × Int)) (C : List Int), Lo T (3, pl, 0, C, W) (zF 1 pl) := by
  intro W
  induction W with
  | nil => intro C; exact Lo_st rfl
  | cons q r ih =>
    intro C
    by_cases c10 : q.1 = 10
    · refine Lo_tr (Lo_st (d := (3, pl, 0, C ++ [1048576 * 10], r)) ?_) (ih _)
      rw [ls_D, zD_c]
      rw [if_pos c10]
    · by_cases c11 : q.1 = 11
      · refine Lo_tr (Lo_st (d := (3, pl, 0, C.set q.2.toNat (1048576 * (C.getD q.2.toNat 0 / 1048576) + C.length), r)) ?_) (ih _)
        rw [ls_D, zD_c]
        rw [if_neg c10, if_pos c11]
      · by_cases c12 : q.1 = 12
        · refine Lo_tr (Lo_st (d := (3, pl, 0, C.set q.2.toNat (1048576 * (C.getD q.2.toNat 0 / 1048576) + C.length), r)) ?_) (ih _)
          rw [ls_D, zD_c]
          rw [if_neg c10, if_neg c11, if_pos ⟨c12, h2⟩]
        · refine Lo_st ?_
          rw [ls_D, zD_c]
          rw [if_neg c10, if_neg c11, if_neg (fun x => c12 x.1)]
          unfold zH
          rw [if_neg (fun x => h1 x.1), if_neg h2, if_neg h3]
abbrev Xc (R : Nat → Int32) (len : Int) (M0 : qM) (c0 : Lc) (pl0 : Int) : Int32 → qM → Prop := Xz (tm R len) R len M0 c0 6 0 pl0 (fun _ W _ => W = [])
theorem x_c180 {n : Nat} (hn : 200000 ≤ n) {R : Nat → Int32} {len pl0 : Int} {M0 : qM} {c0 : Lc} {K : qM → qR}
    (hK : ∀ (M : qM) (C : List Int) (W : List (Int × Int)), Mw R len M0 C W M → cW W → Lo (tm R len) c0 (2, (M 77 9).toInt, 0, C, W) → pl0 ≤ (M 77 9).toInt → qP (K M) (Xc R len M0 c0 pl0))
    (M : qM) (C : List Int) (W : List (Int × Int)) (h : Mw R len M0 C W M) (hW : dW W) (hL : Lo (tm R len) c0 (3, (M 77 9).toInt, 0, C, W)) (hp0 : pl0 ≤ (M 77 9).toInt) (hT : tm R len (M 77 9).toInt = 38 ∨ tm R len (M 77 9).toInt = 124) : qP (f_X12_readsCondition_180 n K M) (Xc R len M0 c0 pl0) := by
  have ht := tm_r R len (M 77 9).toInt
  have go : ∀ s1 : Int32, (s1.toInt ≠ 0 ∧ tm R len (M 77 9).toInt = 124) ∨ (s1.toInt = 0 ∧ tm R len (M 77 9).toInt = 38) → qP (f_X12_readsCondition_195 n K s1 M) (Xc R len M0 c0 pl0) := by
    intro s1 hs1
    unfold f_X12_readsCondition_195 f_X12_lands
    refine P_qc (x_lands s1 n M C W h hW hL (fun q => by omega)) ?_
    rintro _ m1 ⟨C1, W1, p1, p2, p3, p4, p5, p6⟩
    have hct := cOk_top p2.1 p2.2.1
    have hp10 := p2.2.2
    obtain ⟨q, r, rfl, hq⟩ := tpk_pos (W := W1) (by omega)
    refine P_qc (x_here hn m1 p1) ?_
    rintro r2 m3 ⟨rfl, hr2⟩
    rw [p4] at hr2
    have fin : ∀ (a : Int32) (k : Int), a.toInt = k → ((k = 11 ∧ tm R len (M 77 9).toInt = 38) ∨ (k = 12 ∧ tm R len (M 77 9).toInt = 124)) → qP (f_X12_readsCondition_215 n K a m3) (Xc R len M0 c0 pl0) := by
      intro a k hak hk
      unfold f_X12_readsCondition_215
      refine P_qc (x_jumps (k := k) a m3 p1 hak (by omega) (by rw [p4]; omega)) ?_
      rintro _ m4 ⟨j1, j2⟩
      rw [p4] at j2
      refine hK m4 _ _ j1 ⟨⟨?_, fun _ => p2.2.2, (fun e => by cases e), p2.1⟩, by simp⟩ (Lo_tr p3 (Lo_st ?_)) (by omega)
      · show 10 ≤ k ∧ k ≤ 13
        omega
      · rw [ls_D, j2]
        show (if _ then _ else _) = _
        rcases hk with ⟨k1, k2⟩ | ⟨k1, k2⟩
        · rw [if_neg (by omega), if_neg (by omega), if_neg (fun x => x.2 k2)]
          unfold zH
          rw [if_neg (by omega), if_pos k2, k1]
        · have h12 : q.1 ≠ 12 := by
            have := p6 (by omega)
            omega
          rw [if_neg (by omega), if_neg (by omega), if_neg (fun x => h12 x.1)]
          unfold zH
          rw [if_neg (by omega), if_neg (by omega), if_pos k2, k1]
    refine P_eq rfl l_38 (fun c => ?_) (fun c => ?_)
    · exact fin (11 : Int32) 11 l_11 (Or.inl ⟨rfl, by omega⟩)
    · exact fin (12 : Int32) 12 l_12 (Or.inr ⟨rfl, by omega⟩)
  unfold f_X12_readsCondition_180
  refine P_qc (x_here hn M h) ?_
  rintro r1 m2 ⟨rfl, hr1⟩
  refine P_eq rfl l_124 (fun c => ?_) (fun c => ?_)
  · exact go (1 : Int32) (Or.inl ⟨by rw [l_1]; decide, by omega⟩)
  · exact go (0 : Int32) (Or.inr ⟨l_0, by omega⟩)
theorem x_c92 {n : Nat} (hn : 200000 ≤ n) {R : Nat → Int32} {len pl0 : Int} {M0 : qM} {c0 : Lc} {K : qM → qR}
    (hK : ∀ (M : qM) (C : List Int) (W : List (Int × Int)), Mw R len M0 C W M → cW W → Lo (tm R len) c0 (2, (M 77 9).toInt, 0, C, W) → pl0 ≤ (M 77 9).toInt → qP (K M) (Xc R len M0 c0 pl0)) :
    ∀ (m : Nat) (M : qM) (C : List Int) (W : List (Int × Int)), Mw R len M0 C W M → dW W → Lo (tm R len) c0 (3, (M 77 9).toInt, 0, C, W) → pl0 ≤ (M 77 9).toInt → qP (f_X12_readsCondition_92 n K m M) (Xc R len M0 c0 pl0) := by
  intro m
  induction m with
  | zero => intro M C W _ _ _ _; exact P_none
  | succ m ih =>
    intro M C W h hW hL hp0
    have ht := tm_r R len (M 77 9).toInt
    have h9 := r_77_9 h.1
    show qP (b_X12_readsCondition_92 n K (f_X12_readsCondition_92 n K m) M) _
    unfold b_X12_readsCondition_92
    refine P_qc (x_here hn M h) ?_
    rintro r1 m2 ⟨rfl, hr1⟩
    refine P_eq rfl l_41 (fun c => ?_) (fun c => ?_)
    · have h41 : tm R len (m2 77 9).toInt = 41 := by omega
      unfold f_X12_lands
      refine P_qc (x_lands (1 : Int32) n m2 C W h hW hL (fun _ => by omega)) ?_
      rintro _ m9 ⟨C1, W1, p1, p2, p3, p4, p5, p6⟩
      have hct := cOk_top p2.1 p2.2.1
      have hp10 := p2.2.2
      have hp12 := p6 (by rw [l_1]; decide)
      obtain ⟨q, r, rfl, hq⟩ := tpk_pos (W := W1) (by omega)
      have hq13 : q.1 = 13 := by omega
      refine x_shut m9 p1 (Or.inr (Or.inl hq13)) ?_
      intro m11 j1 j2
      refine x_pl m11 j1 (by rw [j2, p4]; omega) ?_
      intro m12 j3 j4
      rw [j2, p4] at j4
      have hl2 := stw_len (F := m12 86) (m12 77 15).toInt.toNat
      rw [j3.2.2.2.2.2.2.2.1] at hl2
      have h15 := r_77_15 j3.1
      have hz : zS (tm R len) (3, (m2 77 9).toInt, 0, C1, q :: r) = (if r = [] then (6, (m2 77 9).toInt + 1, 0, C1, []) else (3, (m2 77 9).toInt + 1, 0, C1, r)) := by
        rw [ls_D, zD_c]
        rw [if_neg (by omega), if_neg (by omega), if_neg (by omega)]
        unfold zH
        rw [if_pos ⟨h41, hq13⟩]
      refine P_eq rfl l_0 (fun d => ?_) (fun d => ?_)
      · have hr : r = [] := List.eq_nil_of_length_eq_zero (by omega)
        subst hr
        refine P_ret (Or.inr ⟨l_1, C1, [], j3, Lo_tr p3 (Lo_st ?_), by omega, rfl⟩)
        rw [hz, if_pos rfl, j4]
      · have hr : r ≠ [] := fun e => by rw [e] at hl2; have hl3 : (0 : Nat) = (m12 77 15).toInt.toNat := hl2; omega
        unfold f_X12_endsPiece
        refine P_qc (x_ends n m12 C1 r j3 ⟨p2.1.2.2.2, hr⟩ (Lo_tr p3 (Lo_st ?_))) ?_
        · rw [hz, if_neg hr, j4]
        · rintro _ m13 ⟨C3, W3, q1, q2, q3, q4⟩
          exact ih m13 C3 W3 q1 q2 q3 (by rw [q4]; omega)
    · refine P_qc (x_here hn m2 h) ?_
      rintro r3 m4 ⟨rfl, hr3⟩
      refine P_eq rfl l_38 (fun d => ?_) (fun d => ?_)
      · exact x_c180 hn hK m4 C W h hW hL hp0 (Or.inl (by omega))
      · refine P_qc (x_here hn m4 h) ?_
        rintro r5 m6 ⟨rfl, hr5⟩
        refine P_eq rfl l_124 (fun e => ?_) (fun e => ?_)
        · exact x_c180 hn hK m6 C W h hW hL hp0 (Or.inr (by omega))
        · exact P_mono (x_fail (M0 := M0) (T := tm R len) (c0 := c0) (k := 1) (w := (m6 77 9).toInt) (1 : Int32) (m6 77 9) m6 h.1 h.2.1 l_1 rfl (by decide) h9 (Lo_tr hL (z_badD (by omega) (by omega) (by omega) W C))) (fun v m p => Or.inl p)
theorem x_c40 {n : Nat} (hn : 200000 ≤ n) {R : Nat → Int32} {len pl0 : Int} {M0 : qM} {c0 : Lc} : ∀ (m : Nat) (M : qM) (C : List Int) (W : List (Int × Int)), Mw R len M0 C W M → cW W → Lo (tm R len) c0 (2, (M 77 9).toInt, 0, C, W) → pl0 ≤ (M 77 9).toInt → qP (f_X12_readsCondition_40 n m M) (Xc R len M0 c0 pl0) := by
  intro m
  induction m with
  | zero => intro M C W _ _ _ _; exact P_none
  | succ m ih =>
    intro M C W h hW hL hp0
    have ht := tm_r R len (M 77 9).toInt
    have hop : ∀ (a : Int32) (k : Int), a.toInt = k → ((k = 10 ∧ tm R len (M 77 9).toInt = 33) ∨ (k = 13 ∧ tm R len (M 77 9).toInt = 40)) → qP (f_X12_readsCondition_75 n (f_X12_readsCondition_40 n m) a M) (Xc R len M0 c0 pl0) := by
      intro a k hak hk
      unfold f_X12_readsCondition_75
      refine P_qc (x_opens a M h (by omega) (by omega)) ?_
      have hz : zS (tm R len) (2, (M 77 9).toInt, 0, C, W) = zO (M 77 9).toInt 0 k C W 2 := by
        rw [ls_C]
        unfold zC
        rcases hk with ⟨k1, k2⟩ | ⟨k1, k2⟩
        · rw [if_pos k2, k1]
        · rw [if_neg (by omega), if_pos k2, k1]
      rintro r1 m2 (⟨q0, q1, q2, q3, q4⟩ | ⟨q0, q1, q2, q3⟩)
      · refine P_eq rfl l_0 (fun _ => ?_) (fun e => by omega)
        refine P_ret (Or.inl ⟨l_0, Lo_tr hL (Lo_st ?_), q3, q4⟩)
        rw [hz]
        unfold zO
        rw [if_pos q1]
        unfold zF
        rw [q2]
      · refine P_eq rfl l_0 (fun e => by omega) (fun _ => ?_)
        refine ih m2 C _ q2 ⟨⟨?_, fun e => ?_, fun e => absurd e hW.2, hW.1⟩, by simp⟩ (Lo_tr hL (Lo_st ?_)) (by omega)
        · show 10 ≤ a.toInt ∧ a.toInt ≤ 13
          omega
        · have e2 : a.toInt = 11 ∨ a.toInt = 12 := e
          omega
        · rw [hz]
          unfold zO
          rw [if_neg q1, q3, hak]
    have h58 : tm R len (M 77 9).toInt = 33 ∨ tm R len (M 77 9).toInt = 40 → qP (f_X12_readsCondition_58 n (f_X12_readsCondition_40 n m) M) (Xc R len M0 c0 pl0) := by
      intro h1
      unfold f_X12_readsCondition_58
      refine P_qc (x_here hn M h) ?_
      rintro r1 m2 ⟨rfl, hr1⟩
      refine P_eq rfl l_33 (fun c => ?_) (fun c => ?_)
      · exact hop (10 : Int32) 10 l_10 (Or.inl ⟨rfl, by omega⟩)
      · exact hop (13 : Int32) 13 l_13 (Or.inr ⟨rfl, by omega⟩)
    show qP (b_X12_readsCondition_40 n (f_X12_readsCondition_40 n m) M) _
    unfold b_X12_readsCondition_40
    refine P_qc (x_here hn M h) ?_
    rintro r1 m2 ⟨rfl, hr1⟩
    refine P_eq rfl l_33 (fun c => ?_) (fun c => ?_)
    · exact h58 (Or.inl (by omega))
    · refine P_qc (x_here hn m2 h) ?_
      rintro r3 m4 ⟨rfl, hr3⟩
      refine P_eq rfl l_40 (fun d => ?_) (fun d => ?_)
      · exact h58 (Or.inr (by omega))
      · refine P_qc (x_cmp hn (pl0 := pl0) (c0 := c0) m4 C W h hW hp0 (Lo_tr hL (Lo_st ?_))) ?_
        · rw [ls_C]
          unfold zC
          rw [if_neg (by omega), if_neg (by omega)]
        · rintro r5 m6 (⟨q0, q1⟩ | ⟨q0, C6, W6, q1, q2, q3, q4⟩)
          · exact P_eq rfl l_0 (fun _ => P_ret (Or.inl ⟨l_0, q1⟩)) (fun e => by omega)
          · refine P_eq rfl l_0 (fun e => by omega) (fun _ => ?_)
            exact x_c92 hn (fun M2 C2 W2 k1 k2 k3 k4 => ih M2 C2 W2 k1 k2 k3 k4) n m6 C6 W6 q1 q4 q2 q3
theorem x_cond {n : Nat} (hn : 200000 ≤ n) {R : Nat → Int32} {len : Int} {M0 : qM} (M : qM) (C : List Int) (hg : G M) (hs : Sm lQ M0 M) (hx : M 84 = R) (hl : (M 77 10).toInt = len) (hp : (M 77 9).toInt ≤ len) (hc : (M 77 14).toInt = (C.length : Int)) (hf : Fn (fun k => (M 85 k).toInt) C) : qP (f_X12_readsCondition n M) (fun v m => (v.toInt = 0 ∧ tm R len (M 77 9).toInt ≠ 40 ∧ (m 77 11).toInt = -1000 * 1 - (M 77 9).toInt ∧ G m ∧ Sm lQ M0 m) ∨ (tm R len (M 77 9).toInt = 40 ∧ Xc R len M0 (2, (M 77 9).toInt + 1, 0, C, [(13, 0)]) (M 77 9).toInt v m)) := by
  have ht := tm_r R len (M 77 9).toInt
  have h9 := r_77_9 hg
  have hv := v_here hn M hg
  rw [hx, hl] at hv
  unfold f_X12_readsCondition
  refine P_qc (P_T hv) ?_
  rintro r1 m2 ⟨rfl, hr1⟩
  refine P_eq rfl l_40 (fun c => ?_) (fun c => ?_)
  · have h40 : tm R len (m2 77 9).toInt = 40 := by omega
    refine P_w (Or.inr (by decide)) hg hs trivial ?_
    intro m3 a1 a2 a3 g3 s3
    refine P_w (Or.inr (by decide)) g3 s3 (i_rng (lo := 0) (hi := 260) l_0 (by omega) (by omega)) ?_
    intro m4 b1 b2 b3 g4 s4
    have e9 : m4 77 9 = m2 77 9 := by rw [b2 9 (by decide), a2 9 (by decide)]
    have hM4 : Mw R len M0 C [] m4 := ⟨g4, s4, by rw [b3 84 (by decide), a3 84 (by decide)]; exact hx, by rw [b2 10 (by decide), a2 10 (by decide)]; exact hl, by rw [e9]; exact hp, by rw [b2 14 (by decide), a2 14 (by decide)]; exact hc, by rw [b3 85 (by decide), a3 85 (by decide)]; exact hf, by rw [b1]; rfl, by rw [b2 13 (by decide), a1]; rfl, by show (0 : Int) ≤ 6; decide, fun q hq => absurd hq (by simp)⟩
    refine P_qc (x_opens (13 : Int32) m4 hM4 (Or.inr (Or.inl l_13)) (by rw [e9]; omega)) ?_
    rintro r5 m6 (⟨q0, q1, q2, q3, q4⟩ | ⟨q0, q1, q2, q3⟩)
    · exact absurd q1 (by show ¬ (0 : Int) = 6; decide)
    · refine P_eq rfl l_0 (fun e => by omega) (fun _ => ?_)
      rw [e9] at q3
      rw [l_13] at q2
      refine P_mono (x_c40 hn (c0 := (2, (m2 77 9).toInt + 1, 0, C, [(13, 0)])) (pl0 := (m2 77 9).toInt) n m6 C [(13, 0)] q2 ⟨⟨by decide, fun e => absurd e (by decide), fun _ => rfl, trivial⟩, by simp⟩ (by rw [q3]; exact Lo_rf) (by omega)) (fun v m p => Or.inr ⟨h40, p⟩)
  · refine P_qc (x_wrong (M0 := M0) (1 : Int32) (m2 77 9) m2 hg hs (by decide) h9) ?_
    rintro r7 m8 ⟨w0, w1, g, s⟩
    exact P_qb (P_ret (Or.inl ⟨w0, by omega, by rw [w1, l_1], g, s⟩))
/-! the model's clauses -/
theorem P_g {M : qM} {c s : Nat} {v : Int32} {f : qM → qR} {Q : Int32 → qM → Prop} (hG : G M) (hr : Rin c s v) (hw : nW c s) (h : ∀ m : qM, m c s = v → (∀ s2, s2 ≠ s → m c s2 = M c s2) → (∀ c2, c2 ≠ c → m c2 = M c2) → G m → qP (f m) Q) : qP (qlm (mu M c s v) f) Q := h _ mu_at (fun s2 h2 => mu_ne (Or.inr h2)) (fun c2 hc2 => mu_nc hc2) (G_mu hG hr hw)
abbrev Mq (R : Nat → Int32) (len : Int) (C : List Int) (K : List Kl) (M : qM) : Prop := G M ∧ M 84 = R ∧ (M 77 10).toInt = len ∧ (M 77 9).toInt ≤ len ∧ (M 77 14).toInt = (C.length : Int) ∧ Fn (fun k => (M 85 k).toInt) C ∧ (M 77 16).toInt = (K.length : Int) ∧ Fk (eK 87 88 89 90 M) K
abbrev Xk (R : Nat → Int32) (len : Int) (d0 : Ld) (K : List Kl) (v : Int32) (m : qM) : Prop := (v.toInt = 0 ∧ G m ∧ Yo (tm R len) len d0 ((4, (m 77 11).toInt, 0, [], []), (0, 0, 0), [])) ∨ (v.toInt = 1 ∧ ∃ C X, Yo (tm R len) len d0 ((6, (m 77 9).toInt, 0, C, []), X, K) ∧ Mq R len C (K ++ [(X.1, X.2.1, X.2.2, (C.length : Int))]) m)
theorem x_c99 {n : Nat} (hn : 200000 ≤ n) {R : Nat → Int32} {len x s : Int} {d0 : Ld} (M : qM) (C : List Int) (K : List Kl) (h : Mq R len C K M) (h16 : K.length < 16) (hb : (M 77 14).toInt ≤ (M 77 9).toInt) (hx : (M 87 K.length).toInt = x) (hs : (M 88 K.length).toInt = s) (hY : Yo (tm R len) len d0 ((5, (M 77 9).toInt, 0, C, []), (x, s, 0), K)) : qP (f_X12_readsClause_99 n M) (Xk R len d0 K) := by
  obtain ⟨hG, h84, hl, hp, hc, hf, hk, hF⟩ := h
  have h10 := r_77_10 hG
  have h14 := r_77_14 hG
  have ei : (M 77 16).toNatClampNeg = K.length := by rw [tnc, hk]; rfl
  unfold f_X12_readsClause_99
  refine P_qg (fun _ _ => ?_)
  rw [ei]
  refine P_g hG (i_rng (lo := 0) (hi := 250) rfl (by omega) (by omega)) (by unfold nW; omega) ?_
  intro m1 a1 a2 a3 g1
  have a77 : m1 77 = M 77 := a3 77 (by decide)
  have a85 : m1 85 = M 85 := a3 85 (by decide)
  refine P_qc (P_and (x_cond hn (R := R) (len := len) (M0 := m1) m1 C g1 Sm.rf (by rw [a3 84 (by decide)]; exact h84) (by rw [a77]; exact hl) (by rw [a77]; exact hp) (by rw [a77]; exact hc) (by rw [a85]; exact hf)) (P_T (m_cond hn m1 g1 (Sm.rf (M := m1)) (by rw [a77]; exact hb) (by rw [a77]; omega)))) ?_
  rw [a77, a85]
  rintro r2 m3 ⟨hx3, t1, t2, g3, s3⟩
  rcases hx3 with ⟨q0, q1, q2, q3, _⟩ | ⟨q1, hx3⟩
  · refine P_eq rfl l_0 (fun _ => ?_) (fun e => by omega)
    refine P_ret (Or.inl ⟨l_0, q3, Yo_tr hY (Yo_st ?_)⟩)
    rw [ys_5]
    unfold y5
    rw [if_neg q1]
    unfold yF zF
    rw [q2]
  · have hst : Yo (tm R len) len d0 ((2, (M 77 9).toInt + 1, 0, C, [(13, 0)]), (x, s, (C.length : Int)), K) := by
      refine Yo_tr hY (Yo_st ?_)
      rw [ys_5]
      unfold y5
      rw [if_pos q1]
    rcases hx3 with ⟨q0, q2, q3, _⟩ | ⟨q0, C3, W3, q2, q3, q4, rfl⟩
    · refine P_eq rfl l_0 (fun _ => ?_) (fun e => by omega)
      exact P_ret (Or.inl ⟨l_0, q3, Yo_bad hst q2⟩)
    · refine P_eq rfl l_0 (fun e => by omega) (fun e => ?_)
      obtain ⟨u1, u2, u3, u4, u5, u6⟩ := t2.resolve_left e
      obtain ⟨_, _, e84, e10, e9, ec, ef, _, _, _, _⟩ := q2
      have h103 := r_77_10 g3
      have h143 := r_77_14 g3
      have b16 : m3 77 16 = M 77 16 := by rw [s3 77 16 (by decide), a77]
      have b87 : m3 87 = M 87 := by rw [funext (fun s_ => s3 87 s_ (outc rfl)), a3 87 (by decide)]
      have b88 : m3 88 = M 88 := by rw [funext (fun s_ => s3 88 s_ (outc rfl)), a3 88 (by decide)]
      have b89 : m3 89 = m1 89 := funext (fun s_ => s3 89 s_ (outc rfl))
      have b90 : m3 90 = M 90 := by rw [funext (fun s_ => s3 90 s_ (outc rfl)), a3 90 (by decide)]
      rw [b16]
      refine P_qg (fun _ _ => ?_)
      rw [ei]
      refine P_g g3 (i_rng (lo := 0) (hi := 250) rfl (by omega) (by omega)) (by unfold nW; omega) ?_
      intro m4 c1 c2 c3 g4
      have c77 : m4 77 = m3 77 := c3 77 (by decide)
      rw [c77, b16]
      have ew : (M 77 16 + 1).toInt = (M 77 16).toInt + 1 := i_add rfl l_1 (by omega) (by omega)
      refine P_g g4 (i_rng (lo := 0) (hi := 16) ew (by omega) (by omega)) (by unfold nW; omega) ?_
      intro m5 d1 d2 d3 g5
      have f9 : m5 77 9 = m3 77 9 := by rw [d2 9 (by decide), c77]
      have f87 : m5 87 = M 87 := by rw [d3 87 (by decide), c3 87 (by decide), b87]
      have f88 : m5 88 = M 88 := by rw [d3 88 (by decide), c3 88 (by decide), b88]
      have f89 : m5 89 = m1 89 := by rw [d3 89 (by decide), c3 89 (by decide), b89]
      have f90 : m5 90 = m4 90 := d3 90 (by decide)
      refine P_ret (Or.inr ⟨l_1, C3, (x, s, (C.length : Int)), by rw [f9]; exact Yo_tr hst (Yo_in q3), g5, by rw [d3 84 (by decide), c3 84 (by decide)]; exact e84, by rw [d2 10 (by decide), c77]; exact e10, by rw [f9]; exact e9, by rw [d2 14 (by decide), c77]; exact ec, by rw [d3 85 (by decide), c3 85 (by decide)]; exact ef, ?_, ?_⟩)
      · rw [d1, ew, hk, List.length_append, List.length_singleton]; omega
      · refine Fk_app hF (fun k hk2 => ?_) ?_
        · show (_, _, _, _) = (_, _, _, _)
          rw [f87, f88, f89, f90, a2 k (by omega), c2 k (by omega), b90]
        · show (_, _, _, _) = (_, _, _, _)
          rw [f87, f88, f89, f90, a1, c1, hx, hs, hc, ec]
theorem x_isCl {n : Nat} (a0 : Int32) (M : qM) : qP (f_X12_isClause n a0 M) (fun v m => m = M ∧ ((v.toInt = 1 ∧ isCl a0.toInt) ∨ (v.toInt = 0 ∧ ¬ isCl a0.toInt))) := by
  refine P_T ?_
  unfold f_X12_isClause
  refine T_eq rfl l_97 (fun c => T_ret ⟨rfl, Or.inl ⟨l_1, Or.inl c⟩⟩) (fun c1 => ?_)
  refine T_eq rfl l_118 (fun c => T_ret ⟨rfl, Or.inl ⟨l_1, Or.inr (Or.inl c)⟩⟩) (fun c2 => ?_)
  refine T_eq rfl l_102 (fun c => T_ret ⟨rfl, Or.inl ⟨l_1, Or.inr (Or.inr (Or.inl c))⟩⟩) (fun c3 => ?_)
  refine T_eq rfl l_99 (fun c => T_ret ⟨rfl, Or.inl ⟨l_1, Or.inr (Or.inr (Or.inr c))⟩⟩) (fun c4 => ?_)
  exact T_ret ⟨rfl, Or.inr ⟨l_0, fun q => by rcases q with q | q | q | q <;> omega⟩⟩
theorem x_clause {n : Nat} (hn : 200000 ≤ n) {R : Nat → Int32} {len : Int} {d0 : Ld} (M : qM) (C : List Int) (K : List Kl) (h : Mq R len C K M) (hb : (M 77 14).toInt ≤ (M 77 9).toInt) (hY : Yo (tm R len) len d0 ((7, (M 77 9).toInt, 0, C, []), (0, 0, 0), K)) : qP (f_X12_readsClause n M) (Xk R len d0 K) := by
  obtain ⟨hG, h84, hl, hp, hc, hf, hk, hF⟩ := h
  have h10 := r_77_10 hG
  have h14 := r_77_14 hG
  have h16 := r_77_16 hG
  have h9 := r_77_9 hG
  have ht := tm_r R len (M 77 9).toInt
  have ei : (M 77 16).toNatClampNeg = K.length := by rw [tnc, hk]; rfl
  have hv := v_here hn M hG
  rw [h84, hl] at hv
  have bad : ∀ (a : Int32) (k : Int), a.toInt = k → 1 ≤ k ∧ k ≤ 6 → y7 (tm R len) (M 77 9).toInt C K = yF k (M 77 9).toInt → qP (qc (f_X12_wrongAt n a (M 77 9) M) (fun r m => qb r (some (r, m)))) (Xk R len d0 K) := by
    intro a k hak hk6 hy
    refine P_qc (x_wrong (M0 := M) a (M 77 9) M hG Sm.rf (by omega) h9) ?_
    rintro r m ⟨w0, w1, g, _⟩
    refine P_qb (P_ret (Or.inl ⟨w0, g, Yo_tr hY (Yo_st ?_)⟩))
    rw [ys_7, hy, w1, hak]
    rfl
  unfold f_X12_readsClause
  refine P_qc (P_T hv) ?_
  rintro r1 m2 ⟨rfl, hr1⟩
  refine P_qc (x_isCl r1 m2) ?_
  rintro r3 m4 ⟨rfl, hr3⟩
  rw [hr1] at hr3
  refine P_eq rfl l_0 (fun c => ?_) (fun c => ?_)
  · refine bad (1 : Int32) 1 l_1 (by decide) ?_
    unfold y7
    rw [if_pos (by rcases hr3 with ⟨q, _⟩ | ⟨_, q⟩; exact absurd q (by omega); exact q)]
  · have hcl : isCl (tm R len (m4 77 9).toInt) := by
      rcases hr3 with ⟨_, q⟩ | ⟨q, _⟩
      · exact q
      · exact absurd q c
    have hcl2 : tm R len (m4 77 9).toInt = 97 ∨ tm R len (m4 77 9).toInt = 118 ∨ tm R len (m4 77 9).toInt = 102 ∨ tm R len (m4 77 9).toInt = 99 := hcl
    refine P_eq rfl l_16 (fun c6 => ?_) (fun c6 => ?_)
    · refine bad (4 : Int32) 4 l_4 (by decide) ?_
      unfold y7
      rw [if_neg (fun q => q hcl), if_pos (by omega)]
    · have hK16 : K.length < 16 := by omega
      refine P_qg (fun _ _ => ?_)
      rw [ei]
      refine P_g hG trivial (by unfold nW; omega) ?_
      intro m5 a1 a2 a3 g5
      have a77 : m5 77 = m4 77 := a3 77 (by decide)
      rw [a77]
      have ep : (m4 77 9 + 1).toInt = (m4 77 9).toInt + 1 := i_add rfl l_1 (by omega) (by omega)
      refine P_g g5 (i_rng (lo := 0) (hi := 240) ep (by omega) (by omega)) (by unfold nW; omega) ?_
      intro m6 b1 b2 b3 g6
      have b16 : m6 77 16 = m4 77 16 := by rw [b2 16 (by decide), a77]
      have b14 : m6 77 14 = m4 77 14 := by rw [b2 14 (by decide), a77]
      rw [b16]
      refine P_qg (fun _ _ => ?_)
      rw [b14, ei]
      refine P_g g6 (i_rng (lo := 0) (hi := 250) rfl (by omega) (by omega)) (by unfold nW; omega) ?_
      intro m7 c1 c2 c3 g7
      refine P_g g7 trivial (by unfold nW; omega) ?_
      intro m8 d1 d2 d3 g8
      refine P_g g8 (i_rng (lo := 0) (hi := 260) l_0 (by omega) (by omega)) (by unfold nW; omega) ?_
      intro m9 f1 f2 f3 g9
      have w9 : (m9 77 15).toInt = 0 := by rw [f1]; rfl
      have w13 : (m9 77 13).toInt = 0 := by rw [f2 13 (by decide), d1]; rfl
      have e16 : m9 77 16 = m4 77 16 := by rw [f2 16 (by decide), d2 16 (by decide), c3 77 (by decide), b16]
      have e14 : m9 77 14 = m4 77 14 := by rw [f2 14 (by decide), d2 14 (by decide), c3 77 (by decide), b14]
      have e10 : m9 77 10 = m4 77 10 := by rw [f2 10 (by decide), d2 10 (by decide), c3 77 (by decide), b2 10 (by decide), a77]
      have e9 : (m9 77 9).toInt = (m4 77 9).toInt + 1 := by rw [f2 9 (by decide), d2 9 (by decide), c3 77 (by decide), b1]; exact ep
      have e84 : m9 84 = R := by rw [f3 84 (by decide), d3 84 (by decide), c3 84 (by decide), b3 84 (by decide), a3 84 (by decide)]; exact h84
      have e85 : m9 85 = m4 85 := by rw [f3 85 (by decide), d3 85 (by decide), c3 85 (by decide), b3 85 (by decide), a3 85 (by decide)]
      have e87 : m9 87 = m5 87 := by rw [f3 87 (by decide), d3 87 (by decide), c3 87 (by decide), b3 87 (by decide)]
      have e88 : m9 88 = m7 88 := by rw [f3 88 (by decide), d3 88 (by decide)]
      have m688 : m6 88 = m4 88 := by rw [b3 88 (by decide), a3 88 (by decide)]
      have e89 : m9 89 = m4 89 := by rw [f3 89 (by decide), d3 89 (by decide), c3 89 (by decide), b3 89 (by decide), a3 89 (by decide)]
      have e90 : m9 90 = m4 90 := by rw [f3 90 (by decide), d3 90 (by decide), c3 90 (by decide), b3 90 (by decide), a3 90 (by decide)]
      have hF9 : Fk (eK 87 88 89 90 m9) K := by
        refine Fk_cg hF (fun k hk2 => ?_)
        show (_, _, _, _) = (_, _, _, _)
        rw [e87, e88, e89, e90, a2 k (by omega), c2 k (by omega), m688]
      have hM9 : Mq R len C K m9 := ⟨g9, e84, by rw [e10]; exact hl, by rw [e9]; omega, by rw [e14]; exact hc, by rw [e85]; exact hf, by rw [e16]; exact hk, hF9⟩
      have hx9 : (m9 87 K.length).toInt = tm R len (m4 77 9).toInt := by rw [e87, a1]; exact hr1
      have hs9 : (m9 88 K.length).toInt = (C.length : Int) := by rw [e88, c1]; exact hc
      refine P_eq rfl l_97 (fun c7 => ?_) (fun c7 => ?_)
      · refine x_c99 hn m9 C K hM9 hK16 (by rw [e14, e9]; omega) hx9 hs9 (Yo_tr hY (Yo_st ?_))
        rw [ys_7]
        unfold y7
        rw [if_neg (fun q => q hcl), if_neg (by omega), if_pos (by omega), e9, show tm R len (m4 77 9).toInt = 97 by omega]
      · have hMw : Mw R len m9 C [] m9 := ⟨g9, Sm.rf, e84, hM9.2.2.1, hM9.2.2.2.1, hM9.2.2.2.2.1, hM9.2.2.2.2.2.1, by rw [w9]; rfl, by rw [w13]; rfl, by show (0 : Int) ≤ 6; decide, fun q hq => absurd hq (by simp)⟩
        have hwc : wc (m9 86) 0 (m9 77 15).toInt.toNat = 0 := by rw [w9]; rfl
        have hI : SI (m9 77 14).toInt.toNat (m9 77 14).toInt.toNat 0 0 0 (fun _ => False) (m9 86) (m9 85) m9 := by
          refine ⟨?_, fun i _ i2 => absurd i2 (by omega), fun i hi => rfl, fun _ _ => rfl, ?_⟩
          · rw [hwc, e14, e9, e10]; omega
          · rw [hwc]; exact CI_init
        have hst : Yo (tm R len) len d0 ((0, (m9 77 9).toInt, 0, C, []), (tm R len (m4 77 9).toInt, (C.length : Int), 0), K) := by
          refine Yo_tr hY (Yo_st ?_)
          rw [ys_7]
          unfold y7
          rw [if_neg (fun q => q hcl), if_neg (by omega), if_neg (by omega), e9]
        refine P_qc (P_and (x_sum hn (W0 := []) (c0 := (0, (m9 77 9).toInt, 0, C, [])) (ph := 0) ⟨by show ¬ ((2 : Int) ≤ -1 ∧ (-1 : Int) ≤ 6); decide, by show (-1 : Int) ≠ 14; decide⟩ m9 C hMw Lo_rf) (P_T (m_sum hn (fun i hi => absurd hi (by omega)) (by omega) (by omega) m9 g9 (Sm.rf (M := m9)) hI (by rw [w9]; rfl)))) ?_
        rintro r10 m11 ⟨hx11, t1, t2, g11, s11⟩
        rcases hx11 with ⟨q0, q2, q3, _⟩ | ⟨q0, C3, W3, q2, q3, q4, rfl, q5⟩
        · refine P_eq rfl l_0 (fun _ => ?_) (fun e => by omega)
          exact P_ret (Or.inl ⟨l_0, q3, Yo_bad hst q2⟩)
        · refine P_eq rfl l_0 (fun e => by omega) (fun e => ?_)
          obtain ⟨u1, u2, u3⟩ := t2.resolve_left e
          obtain ⟨j1, j2, j3, j4, j5⟩ := u1
          have u2b : (m11 77 15).toInt = 0 := u2
          have hwc2 : wc (m11 86) 0 (m11 77 15).toInt.toNat = 0 := by rw [u2b]; rfl
          rw [hwc2] at j1
          obtain ⟨_, _, k84, k10, k9, kc, kf, _, _, _, _⟩ := q2
          have k16 : m11 77 16 = m4 77 16 := by rw [s11 77 16 (by decide), e16]
          have k87 : m11 87 = m9 87 := funext (fun s_ => s11 87 s_ (outc rfl))
          have k88 : m11 88 = m9 88 := funext (fun s_ => s11 88 s_ (outc rfl))
          have k89 : m11 89 = m9 89 := funext (fun s_ => s11 89 s_ (outc rfl))
          have k90 : m11 90 = m9 90 := funext (fun s_ => s11 90 s_ (outc rfl))
          have hM11 : Mq R len C3 K m11 := ⟨g11, k84, k10, k9, kc, kf, by rw [k16]; exact hk, Fk_cg hF9 (fun k _ => by show (_, _, _, _) = (_, _, _, _); rw [k87, k88, k89, k90])⟩
          refine x_c99 hn m11 C3 K hM11 hK16 (by omega) (by rw [k87]; exact hx9) (by rw [k88]; exact hs9) (Yo_tr hst (Yo_in (Lo_tr q3 (Lo_st ?_))))
          rw [z_end ⟨by show ¬ ((2 : Int) ≤ -1 ∧ (-1 : Int) ≤ 6); decide, by show (-1 : Int) ≠ 14; decide⟩ q5]
          unfold zE
          rw [if_pos rfl]
/-! the model's law: its answer and what it keeps -/
theorem P_m {M : qM} {c s : Nat} {v : Int32} {f : qM → qR} {Q : Int32 → qM → Prop} (h : ∀ m : qM, m c s = v → (∀ s2, s2 ≠ s → m c s2 = M c s2) → (∀ c2, c2 ≠ c → m c2 = M c2) → qP (f m) Q) : qP (qlm (mu M c s v) f) Q := h _ mu_at (fun s2 h2 => mu_ne (Or.inr h2)) (fun c2 hc2 => mu_nc hc2)
theorem x_law138 {n : Nat} : ∀ (m : Nat) (a3 : Int32) (M : qM), 0 ≤ a3.toInt → qP (f_X12_law_138 n m a3 M) (fun v m' => v = M 77 16 ∧ (∀ c, c < 92 ∨ 95 < c → m' c = M c) ∧ ∀ i : Nat, ((i : Int) < a3.toInt → eK 92 93 94 95 m' i = eK 92 93 94 95 M i) ∧ (a3.toInt ≤ (i : Int) → (i : Int) < (M 77 16).toInt → eK 92 93 94 95 m' i = eK 87 88 89 90 M i)) := by
  intro m
  induction m with
  | zero => intro a3 M _; exact P_none
  | succ m ih =>
    intro a3 M h0
    show qP (b_X12_law_138 n (f_X12_law_138 n m) a3 M) _
    unfold b_X12_law_138
    refine P_le rfl rfl (fun h => P_ret ⟨rfl, fun _ _ => rfl, fun i => ⟨fun _ => rfl, fun h1 h2 => by omega⟩⟩) (fun hlt => ?_)
    refine P_qg (fun _ hg => P_qg (fun _ _ => P_m (fun m1 a1 a2 a3' => ?_)))
    refine P_qg (fun _ _ => P_qg (fun _ _ => P_m (fun m2 b1 b2 b3 => ?_)))
    refine P_qg (fun _ _ => P_qg (fun _ _ => P_m (fun m3 c1 c2 c3 => ?_)))
    refine P_qg (fun _ _ => P_qg (fun _ _ => P_m (fun m4 d1 d2 d3 => ?_)))
    refine P_ql (i_add rfl l_1 (by omega) (by omega)) (fun x5 hx5 => ?_)
    refine P_mono (ih x5 m4 (by omega)) (fun v m' h => ?_)
    obtain ⟨e0, e1, e2⟩ := h
    have q77 : m4 77 = M 77 := by rw [d3 77 (by decide), c3 77 (by decide), b3 77 (by decide), a3' 77 (by decide)]
    refine ⟨by rw [e0, q77], fun c hc => by rw [e1 c hc, d3 c (by omega), c3 c (by omega), b3 c (by omega), a3' c (by omega)], fun i => ⟨fun hi => ?_, fun h1 h2 => ?_⟩⟩
    · have hne : i ≠ a3.toNatClampNeg := by rw [tnc]; omega
      rw [(e2 i).1 (by omega)]
      show (_, _, _, _) = (_, _, _, _)
      rw [d3 92 (by decide), c3 92 (by decide), b3 92 (by decide), a2 i hne, d3 93 (by decide), c3 93 (by decide), b2 i hne, a3' 93 (by decide), d3 94 (by decide), c2 i hne, b3 94 (by decide), a3' 94 (by decide), d2 i hne, c3 95 (by decide), b3 95 (by decide), a3' 95 (by decide)]
    · by_cases q : i = a3.toNatClampNeg
      · rw [(e2 i).1 (by rw [q, tnc]; omega)]
        subst q
        show (_, _, _, _) = (_, _, _, _)
        rw [d3 92 (by decide), c3 92 (by decide), b3 92 (by decide), a1, d3 93 (by decide), c3 93 (by decide), b1, a3' 88 (by decide), d3 94 (by decide), c1, b3 89 (by decide), a3' 89 (by decide), d1, c3 90 (by decide), b3 90 (by decide), a3' 90 (by decide)]
      · rw [(e2 i).2 (by rw [tnc] at q; omega) (by rw [q77]; exact h2)]
        show (_, _, _, _) = (_, _, _, _)
        rw [d3 87 (by decide), c3 87 (by decide), b3 87 (by decide), a3' 87 (by decide), d3 88 (by decide), c3 88 (by decide), b3 88 (by decide), a3' 88 (by decide), d3 89 (by decide), c3 89 (by decide), b3 89 (by decide), a3' 89 (by decide), d3 90 (by decide), c3 90 (by decide), b3 90 (by decide), a3' 90 (by decide)]
theorem x_law110 {n : Nat} : ∀ (m : Nat) (a3 : Int32) (M : qM), 0 ≤ a3.toInt → qP (f_X12_law_110 n m a3 M) (fun v m' => v = M 77 16 ∧ (∀ c, c < 91 ∨ 95 < c → m' c = M c) ∧ (∀ i : Nat, ((i : Int) < a3.toInt → m' 91 i = M 91 i) ∧ (a3.toInt ≤ (i : Int) → (i : Int) < (M 77 14).toInt → m' 91 i = M 85 i)) ∧ ∀ i : Nat, (i : Int) < (M 77 16).toInt → eK 92 93 94 95 m' i = eK 87 88 89 90 M i) := by
  intro m
  induction m with
  | zero => intro a3 M _; exact P_none
  | succ m ih =>
    intro a3 M h0
    show qP (b_X12_law_110 n (f_X12_law_110 n m) a3 M) _
    unfold b_X12_law_110
    refine P_le rfl rfl (fun hle => P_mono (x_law138 n 0 M (by rw [l_0]; omega)) (fun v m' h => ?_)) (fun hlt => ?_)
    · obtain ⟨e0, e1, e2⟩ := h
      refine ⟨e0, fun c hc => e1 c (by omega), fun i => ⟨fun _ => by rw [e1 91 (by omega)], fun h1 h2 => by omega⟩, fun i hi => (e2 i).2 (by rw [l_0]; omega) hi⟩
    · refine P_qg (fun _ hg => P_qg (fun _ _ => P_m (fun m1 a1 a2 a3' => ?_)))
      refine P_ql (i_add rfl l_1 (by omega) (by omega)) (fun x2 hx2 => ?_)
      refine P_mono (ih x2 m1 (by omega)) (fun v m' h => ?_)
      obtain ⟨e0, e1, e2, e3⟩ := h
      have q77 : m1 77 = M 77 := a3' 77 (by decide)
      refine ⟨by rw [e0, q77], fun c hc => by rw [e1 c hc, a3' c (by omega)], fun i => ⟨fun hi => ?_, fun h1 h2 => ?_⟩, fun i hi => ?_⟩
      · rw [(e2 i).1 (by omega), a2 i (by rw [tnc]; omega)]
      · by_cases q : i = a3.toNatClampNeg
        · rw [(e2 i).1 (by rw [q, tnc]; omega)]
          subst q
          exact a1
        · rw [(e2 i).2 (by rw [tnc] at q; omega) (by rw [q77]; exact h2), a3' 85 (by decide)]
      · rw [e3 i (by rw [q77]; exact hi)]
        show (_, _, _, _) = (_, _, _, _)
        rw [a3' 87 (by decide), a3' 88 (by decide), a3' 89 (by decide), a3' 90 (by decide)]
abbrev d00 : Ld := ((7, 0, 0, [], []), (0, 0, 0), [])
/-- the model's rows hold a law -/
abbrev LM (m : qM) (C : List Int) (K : List Kl) : Prop := Fn (fun k => (m 91 k).toInt) C ∧ (m 77 17).toInt = (K.length : Int) ∧ Fk (eK 92 93 94 95 m) K
abbrev Af (A m : qM) : Prop := (∀ c, 91 ≤ c → c ≤ 95 → m c = A c) ∧ m 77 17 = A 77 17
/-- what the model's answer is, and what it keeps -/
abbrev Qm (A : qM) (T : Int → Int) (len : Int) (v : Int32) (m : qM) : Prop := (Yo T len d00 ((4, v.toInt, 0, [], []), (0, 0, 0), []) ∧ Af A m) ∨ ∃ C K p, Yo T len d00 ((8, p, 0, C, []), (0, 0, 0), K) ∧ v.toInt = (K.length : Int) ∧ LM m C K
/-- what the Java side's answer is, and what its reader keeps -/
abbrev Qj (r : Nat) (T : Int → Int) (len : Int) (v : Int32) (m : qM) : Prop := Yo T len d00 ((4, v.toInt, 0, [], []), (0, 0, 0), []) ∨ ∃ C K p, Yo T len d00 ((8, p, 0, C, []), (0, 0, 0), K) ∧ v.toInt = (K.length : Int) ∧ CR r m C ∧ KRw r m K
/-- both: the same answer; either nothing is kept, or the same law -/
theorem Qjm {A m1 m2 : qM} {r : Nat} {T : Int → Int} {len : Int} {v w : Int32} (h : Qj r T len v m1) (k : Qm A T len w m2) : v = w ∧ ((Yo T len d00 ((4, v.toInt, 0, [], []), (0, 0, 0), []) ∧ Af A m2) ∨ ∃ C K p, Yo T len d00 ((8, p, 0, C, []), (0, 0, 0), K) ∧ v.toInt = (K.length : Int) ∧ CR r m1 C ∧ KRw r m1 K ∧ LM m2 C K) := by
  rcases h with h | ⟨C, K, p, h, hv, h3, h4⟩ <;> rcases k with ⟨k, k2⟩ | ⟨C2, K2, p2, k, hw, k3⟩
  · have := Yo_det h k rfl rfl
    injection this with q
    injection q with _ q
    injection q with q
    exact ⟨Int32.toInt_inj.mp q, Or.inl ⟨h, k2⟩⟩
  · have := Yo_det h k rfl rfl
    injection this with q
    injection q with q
    exact absurd q (by decide)
  · have := Yo_det h k rfl rfl
    injection this with q
    injection q with q
    exact absurd q (by decide)
  · have := Yo_det h k rfl rfl
    injection this with q1 q
    injection q with _ q
    injection q1 with _ q1
    injection q1 with _ q1
    injection q1 with _ q1
    injection q1 with q1
    subst q
    subst q1
    exact ⟨Int32.toInt_inj.mp (by rw [hv, hw]), Or.inr ⟨C, K, p, h, hv, h3, h4, k3⟩⟩
abbrev Xl (R : Nat → Int32) (len : Int) (a2 : Int32) (M : qM) : Prop := (a2.toInt = 0 ∧ G M ∧ Yo (tm R len) len d00 ((4, (M 77 11).toInt, 0, [], []), (0, 0, 0), [])) ∨ (a2.toInt = 1 ∧ (∃ C X K, Yo (tm R len) len d00 ((6, (M 77 9).toInt, 0, C, []), X, K) ∧ Mq R len C (K ++ [(X.1, X.2.1, X.2.2, (C.length : Int))]) M) ∧ CSn (M 77 16).toInt M ∧ (M 77 14).toInt ≤ (M 77 9).toInt ∧ (M 77 9).toInt ≤ (M 77 10).toInt)
theorem x_law86 {n : Nat} {A : qM} {R : Nat → Int32} {len : Int} (a2 : Int32) (M : qM) (hA : Af A M) (h : Xl R len a2 M) (hend : a2.toInt = 0 ∨ (M 77 10).toInt ≤ (M 77 9).toInt) : qP (f_X12_law_86 n a2 M) (Qm A (tm R len) len) := by
  unfold f_X12_law_86
  refine P_m (fun m1 a1 b1 c1 => P_eq rfl l_0 (fun c => ?_) (fun c => ?_))
  · rcases h with ⟨_, _, h⟩ | ⟨h, _⟩
    · refine P_ret (Or.inl ⟨?_, fun c2 q1 q2 => by rw [c1 c2 (by omega)]; exact hA.1 c2 q1 q2, by rw [b1 17 (by decide)]; exact hA.2⟩)
      rw [b1 11 (by decide)]
      exact h
    · omega
  · obtain ⟨_, ⟨C, X, K, hY, hM⟩, _, _, _⟩ := h.resolve_left (fun q => c q.1)
    obtain ⟨hG, h84, hl, hp, hc, hf, hk, hF⟩ := hM
    have ht := tm_r R len (M 77 9).toInt
    refine P_m (fun m2 a2' b2 c2 => P_mono (x_law110 n 0 m2 (by rw [l_0]; omega)) (fun v m e => ?_))
    obtain ⟨e0, e1, e2, e3⟩ := e
    have q14 : m2 77 14 = M 77 14 := by rw [b2 14 (by decide), b1 14 (by decide)]
    have q16 : m2 77 16 = M 77 16 := by rw [b2 16 (by decide), b1 16 (by decide)]
    refine Or.inr ⟨C, K ++ [(X.1, X.2.1, X.2.2, (C.length : Int))], (M 77 9).toInt, Yo_tr hY (Yo_st ?_), by rw [e0, q16]; exact hk, ?_, ?_, ?_⟩
    · rw [ys_6]
      unfold y6
      rw [if_neg (by omega), if_pos (by omega)]
    · refine Fn_cg hf (fun k hk2 => ?_)
      show (m 91 k).toInt = (M 85 k).toInt
      rw [(e2 k).2 (by rw [l_0]; omega) (by rw [q14, hc]; omega), c2 85 (by decide), c1 85 (by decide)]
    · rw [e1 77 (by omega), a2', b1 16 (by decide)]; exact hk
    · refine Fk_cg hF (fun k hk2 => ?_)
      rw [e3 k (by rw [q16, hk]; omega)]
      show (_, _, _, _) = (_, _, _, _)
      rw [c2 87 (by decide), c1 87 (by decide), c2 88 (by decide), c1 88 (by decide), c2 89 (by decide), c1 89 (by decide), c2 90 (by decide), c1 90 (by decide)]
theorem lC_out {c s : Nat} (h : 91 ≤ c) : ∀ b ∈ lC, ¬ inB b c s := by
  intro b hb hi
  obtain ⟨h1, h2, _⟩ := hi
  rcases List.mem_cons.mp hb with rfl | hb
  · have q : c < (78 : Nat) := h2
    omega
  · rcases List.mem_cons.mp hb with rfl | hb
    · have q : c < (78 : Nat) := h2
      omega
    · rw [List.mem_singleton] at hb
      subst hb
      have q : c < (91 : Nat) := h2
      omega
theorem x_law46 {n : Nat} (hn : 200000 ≤ n) {A : qM} {R : Nat → Int32} {len : Int} : ∀ (m : Nat) (a2 : Int32) (M : qM), Af A M → Xl R len a2 M → qP (f_X12_law_46 n m a2 M) (Qm A (tm R len) len) := by
  intro m
  induction m with
  | zero => intro a2 M _ _; exact P_none
  | succ m ih =>
    intro a2 M hA h
    show qP (b_X12_law_46 n (f_X12_law_46 n m) a2 M) _
    unfold b_X12_law_46
    refine P_eq rfl l_0 (fun c => x_law86 a2 M hA h (Or.inl c)) (fun c => ?_)
    refine P_le rfl rfl (fun d => x_law86 a2 M hA h (Or.inr d)) (fun d => ?_)
    obtain ⟨_, ⟨C, X, K, hY, hM⟩, hC, hb, hle⟩ := h.resolve_left (fun q => c q.1)
    have hM2 := hM
    obtain ⟨hG, h84, hl, hp, hc, hf, hk, hF⟩ := hM2
    have h9 := r_77_9 hG
    refine P_qc (P_T (v_takes hn (M0 := M) (59 : Int32) M hG Sm.rf (by decide))) ?_
    rintro r1 m2 ⟨ho, z1, z2, g2, _⟩
    rw [h84, hl, l_59] at ho
    have hA2 : Af A m2 := ⟨fun c q1 q2 => by rw [z2 c (by omega)]; exact hA.1 c q1 q2, by rw [z1 17 (by decide) (by decide)]; exact hA.2⟩
    refine P_eq rfl l_0 (fun e => ?_) (fun e => ?_)
    · refine ih (0 : Int32) m2 hA2 (Or.inl ⟨l_0, g2, Yo_tr hY (Yo_st ?_)⟩)
      rw [ys_6]
      unfold y6
      rw [if_neg (by omega), if_neg (by omega)]
      unfold yF zF
      have : (m2 77 11).toInt = -1000 - (M 77 9).toInt := by omega
      rw [this]
      rfl
    · have e9 : (m2 77 9).toInt = (M 77 9).toInt + 1 := by omega
      have hst : Yo (tm R len) len d00 ((7, (m2 77 9).toInt, 0, C, []), (0, 0, 0), K ++ [(X.1, X.2.1, X.2.2, (C.length : Int))]) := by
        refine Yo_tr hY (Yo_st ?_)
        rw [ys_6]
        unfold y6
        rw [if_pos (by omega), e9]
      have hM2b : Mq R len C (K ++ [(X.1, X.2.1, X.2.2, (C.length : Int))]) m2 := ⟨g2, by rw [z2 84 (by decide)]; exact h84, by rw [z1 10 (by decide) (by decide)]; exact hl, by omega, by rw [z1 14 (by decide) (by decide)]; exact hc, by rw [z2 85 (by decide)]; exact hf, by rw [z1 16 (by decide) (by decide)]; exact hk, Fk_cg hF (fun k _ => by show (_, _, _, _) = (_, _, _, _); rw [z2 87 (by decide), z2 88 (by decide), z2 89 (by decide), z2 90 (by decide)])⟩
      have e14 : m2 77 14 = M 77 14 := z1 14 (by decide) (by decide)
      have e10 : m2 77 10 = M 77 10 := z1 10 (by decide) (by decide)
      have e16 : m2 77 16 = M 77 16 := z1 16 (by decide) (by decide)
      have hC2 : CSn (m2 77 16).toInt m2 := by
        rw [e16]
        exact CSn_cg hC (fun q _ => by rw [z2 88 (by decide)]) (fun q _ => by rw [z2 89 (by decide)]) (fun q _ => by rw [z2 90 (by decide)]) (fun k _ => by rw [z2 85 (by decide)]) (by rw [e14]; exact Int.le_refl _)
      refine P_qc (P_and (x_clause hn m2 C _ hM2b (by rw [e14]; omega) hst) (P_T (m_clause hn m2 g2 hC2 (by rw [e14]; omega) (by rw [e10]; omega)))) ?_
      rintro r3 m4 ⟨hx4, t1, t2, g4, s4⟩
      have hA4 : Af A m4 := ⟨fun c q1 q2 => by rw [show m4 c = m2 c from funext (fun s_ => s4 c s_ (lC_out q1))]; exact hA2.1 c q1 q2, by rw [s4 77 17 (by decide)]; exact hA2.2⟩
      refine P_eq rfl l_0 (fun f => ?_) (fun f => ?_)
      · rcases hx4 with ⟨q0, q1, q2⟩ | ⟨q0, _⟩
        · exact ih (0 : Int32) m4 hA4 (Or.inl ⟨l_0, q1, q2⟩)
        · omega
      · obtain ⟨q0, C4, X4, q2, q3⟩ := hx4.resolve_left (fun q => f q.1)
        obtain ⟨u1, u2, u3, u4⟩ := t2.resolve_left f
        exact ih (1 : Int32) m4 hA4 (Or.inr ⟨l_1, ⟨C4, X4, _, q2, q3⟩, u1, u2, u3⟩)
theorem x_law {n : Nat} (hn : 200000 ≤ n) (a1 : Int32) (M : qM) (hG : G M) (ha : 1 ≤ a1.toInt ∧ a1.toInt ≤ 240 ∧ a1.toInt ≤ (M 77 8).toInt) : qP (f_X12_law n a1 M) (Qm M (tm (M 84) a1.toInt) a1.toInt) := by
  unfold f_X12_law
  have cin : (if a1 < (1 : Int32) ∨ (240 : Int32) < a1 then (0 : Int32) else 1) = 1 := if_neg (by rw [Int32.lt_iff_toInt_lt, Int32.lt_iff_toInt_lt, l_1, l_240]; omega)
  rw [in_eq, cin, qc_v, if_neg (show ¬ (1 : Int32) = 0 by decide), if_pos (show a1 ≤ M 77 8 by rw [Int32.le_iff_toInt_le]; omega)]
  refine P_g hG (i_rng (lo := 0) (hi := 240) l_0 (by omega) (by omega)) (by unfold nW; omega) ?_
  intro m3 a3 b3 c3 g3
  refine P_g g3 (i_rng (lo := 0) (hi := 240) rfl (by omega) (by omega)) (by unfold nW; omega) ?_
  intro m4 a4 b4 c4 g4
  refine P_g g4 (i_rng (lo := 0) (hi := 260) l_0 (by omega) (by omega)) (by unfold nW; omega) ?_
  intro m5 a5 b5 c5 g5
  refine P_g g5 (i_rng (lo := 0) (hi := 16) l_0 (by omega) (by omega)) (by unfold nW; omega) ?_
  intro m6 a6 b6 c6 g6
  have e9 : (m6 77 9).toInt = 0 := by rw [b6 9 (by decide), b5 9 (by decide), b4 9 (by decide), a3]; rfl
  have e10 : (m6 77 10).toInt = a1.toInt := by rw [b6 10 (by decide), b5 10 (by decide), a4]
  have e14 : (m6 77 14).toInt = 0 := by rw [b6 14 (by decide), a5]; rfl
  have e16 : (m6 77 16).toInt = 0 := by rw [a6]; rfl
  have e84 : m6 84 = M 84 := by rw [c6 84 (by decide), c5 84 (by decide), c4 84 (by decide), c3 84 (by decide)]
  have hM6 : Mq (M 84) a1.toInt [] [] m6 := ⟨g6, e84, e10, by rw [e9]; omega, e14, Fn_nil, e16, fun k hk => absurd hk (by simp)⟩
  refine P_qc (P_and (x_clause hn (d0 := d00) m6 [] [] hM6 (by omega) (by rw [e9]; exact Yo_rf)) (P_T (m_clause hn m6 g6 (fun q hq => by exfalso; rw [e16] at hq; omega) (by omega) (by omega)))) ?_
  rintro r7 m8 ⟨hx8, t1, t2, g8, s8⟩
  have hA8 : Af M m8 := ⟨fun c q1 q2 => by rw [show m8 c = m6 c from funext (fun s_ => s8 c s_ (lC_out q1)), c6 c (by omega), c5 c (by omega), c4 c (by omega), c3 c (by omega)], by rw [s8 77 17 (by decide), b6 17 (by decide), b5 17 (by decide), b4 17 (by decide), b3 17 (by decide)]⟩
  refine x_law46 hn n r7 m8 hA8 ?_
  rcases hx8 with ⟨q0, q1, q2⟩ | ⟨q0, C, X, q2, q3⟩
  · exact Or.inl ⟨q0, q1, q2⟩
  · obtain ⟨u1, u2, u3, u4⟩ := t2.resolve_left (by omega)
    exact Or.inr ⟨q0, ⟨C, X, _, q2, q3⟩, u1, u2, u3⟩
/-- the Java side's answer -/
theorem w_law {n : Nat} (hn : 200000 ≤ n) {j r : Nat} (hr : q_isLaw r) (a1 : Int32) (M : qM) (hG : G M) (ha : 1 ≤ a1.toInt ∧ a1.toInt ≤ 240 ∧ a1.toInt ≤ (M 1 1).toInt) : qP (f_X11_law n j r a1 M) (fun v m => Qj r (tq (M 2) a1.toInt) a1.toInt v m ∧ v.toInt ≤ 0) ∧ qP (f_X11_lawS n j r a1 M) (fun v m => Qj r (tq (M 2) a1.toInt) a1.toInt v m ∧ 0 < v.toInt) := by
  have hq : ∀ (v : Int32) (m m3 : qM), Ll (M 2) a1.toInt r v m → (∀ c, c ≠ 1 → m3 c = m c) → Qj r (tq (M 2) a1.toInt) a1.toInt v m3 := by
    rintro v m m3 ⟨_, h | ⟨C, K, p, h, hv, h3, h4⟩⟩ e
    · exact Or.inl h
    · exact Or.inr ⟨C, K, p, h, hv, CR_1 hr h3 e, KR_1 hr h4 e⟩
  have hcl : ∀ m : qM, qP (f_X9_clear n m) (fun _ m3 => ∀ c, c ≠ 1 → m3 c = m c) := fun m => by
    unfold f_X9_clear
    exact P_m (fun m1 _ _ c1 => P_ret c1)
  have c1 : ¬ a1 < (1 : Int32) := by rw [Int32.lt_iff_toInt_lt, l_1]; omega
  have c2 : ¬ (240 : Int32) < a1 := by rw [Int32.lt_iff_toInt_lt, l_240]; omega
  have c3 : a1 ≤ M 1 1 := by rw [Int32.le_iff_toInt_le]; omega
  unfold f_X11_law f_X11_lawS
  rw [if_neg c1, if_neg c1, if_neg c2, if_neg c2, if_pos c3, if_pos c3]
  refine ⟨P_qc (P_T (w_read hn hr a1 M hG ⟨ha.1, ha.2.1⟩ ha.2.2)) ?_, P_qc (P_T (w_read hn hr a1 M hG ⟨ha.1, ha.2.1⟩ ha.2.2)) ?_⟩
  · intro v m hl
    refine P_qc (hcl m) ?_
    intro v2 m2 e2
    exact P_le rfl l_0 (fun q => P_ret ⟨hq v m m2 hl e2, q⟩) (fun _ => P_none)
  · intro v m hl
    refine P_qc (hcl m) ?_
    intro v2 m2 e2
    exact P_le rfl l_0 (fun _ => P_none) (fun q => P_ret ⟨hq v m m2 hl e2, q⟩)
/-- where the tapes and their sizes agree, so do the answers of law -/
theorem law_ag {n : Nat} (hn : 200000 ≤ n) {j r : Nat} (hr : q_isLaw r) {a1 v1 v2 : Int32} {M m1 m2 : qM} (hG : G M) (hG1 : G m1) (hT : TR M) (hs : (M 1 1).toInt = (m1 77 8).toInt) (h84 : m1 84 = M 84) (e1 : f_X11_law n j r a1 M = some (v1, m1) ∨ f_X11_lawS n j r a1 M = some (v1, m1)) (e2 : f_X12_law n a1 m1 = some (v2, m2)) : v1 = v2 := by
  have no : ∀ {v : Int32} {M : qM} {w : Int32} {m : qM}, (some (v, M) : qR) = some (w, m) → v = w := by
    intro v M w m h
    injection h with h; injection h
  by_cases h2 : 1 ≤ a1.toInt ∧ a1.toInt ≤ 240 ∧ a1.toInt ≤ (M 1 1).toInt
  · have q2 := x_law hn a1 m1 hG1 ⟨h2.1, h2.2.1, by omega⟩ v2 m2 e2
    rw [h84, ← TR_t hT h2.2.2] at q2
    rcases e1 with e1 | e1
    · exact (Qjm ((w_law hn (j := j) hr a1 M hG h2).1 v1 m1 e1).1 q2).1
    · exact (Qjm ((w_law hn (j := j) hr a1 M hG h2).2 v1 m1 e1).1 q2).1
  · have r2 : v2 = -1 := by
      unfold f_X12_law at e2
      by_cases c1 : a1 < (1 : Int32) ∨ (240 : Int32) < a1
      · have cin : (if a1 < (1 : Int32) ∨ (240 : Int32) < a1 then (0 : Int32) else 1) = 0 := if_pos c1
        rw [in_eq, cin, qc_v, if_pos rfl] at e2; exact (no e2).symm
      · have cin : (if a1 < (1 : Int32) ∨ (240 : Int32) < a1 then (0 : Int32) else 1) = 1 := if_neg c1
        rw [in_eq, cin, qc_v, if_neg (show ¬ (1 : Int32) = 0 by decide)] at e2
        rw [Int32.lt_iff_toInt_lt, Int32.lt_iff_toInt_lt, l_1, l_240] at c1
        rw [if_neg (show ¬ a1 ≤ m1 77 8 by rw [Int32.le_iff_toInt_le]; omega)] at e2
        exact (no e2).symm
    rw [r2]
    rcases e1 with e1 | e1
    · unfold f_X11_law at e1
      by_cases c1 : a1 < (1 : Int32)
      · rw [if_pos c1] at e1; exact (no e1).symm
      · rw [if_neg c1] at e1
        by_cases c2 : (240 : Int32) < a1
        · rw [if_pos c2] at e1; exact (no e1).symm
        · rw [if_neg c2] at e1
          rw [Int32.lt_iff_toInt_lt, l_1] at c1
          rw [Int32.lt_iff_toInt_lt, l_240] at c2
          rw [if_neg (by rw [Int32.le_iff_toInt_le]; omega)] at e1
          exact (no e1).symm
    · exfalso
      unfold f_X11_lawS at e1
      by_cases c1 : a1 < (1 : Int32)
      · rw [if_pos c1] at e1; cases e1
      · rw [if_neg c1] at e1
        by_cases c2 : (240 : Int32) < a1
        · rw [if_pos c2] at e1; cases e1
        · rw [if_neg c2] at e1
          rw [Int32.lt_iff_toInt_lt, l_1] at c1
          rw [Int32.lt_iff_toInt_lt, l_240] at c2
          rw [if_neg (by rw [Int32.le_iff_toInt_le]; omega)] at e1
          cases e1
