/-! what a text says if it comes to an end -/
def qP (E : qR) (Q : Int32 → qM → Prop) : Prop := ∀ v m, E = some (v, m) → Q v m
theorem P_T {E : qR} {P : Int32 → qM → Prop} (h : qT E P) : qP E P := by
  intro v m e
  obtain ⟨v2, m2, e2, p⟩ := h
  rw [e] at e2
  cases e2
  exact p
theorem T_P {E : qR} {P Q : Int32 → qM → Prop} (h : qT E P) (k : qP E Q) : qT E (fun v m => P v m ∧ Q v m) := by
  obtain ⟨v, m, e, p⟩ := h
  exact ⟨v, m, e, p, k v m e⟩
theorem P_ret {v : Int32} {M : qM} {P : Int32 → qM → Prop} (h : P v M) : qP (some (v, M)) P := by
  intro v2 m2 e
  cases e
  exact h
theorem P_none {P : Int32 → qM → Prop} : qP none P := fun _ _ e => by cases e
theorem P_mono {E : qR} {P Q : Int32 → qM → Prop} (h : qP E P) (k : ∀ v M, P v M → Q v M) : qP E Q := fun v m e => k v m (h v m e)
theorem P_and {E : qR} {P Q : Int32 → qM → Prop} (h : qP E P) (k : qP E Q) : qP E (fun v m => P v m ∧ Q v m) := fun v m e => ⟨h v m e, k v m e⟩
theorem P_lt {a b : Int32} {x y : Int} {A B : qR} {P : Int32 → qM → Prop} (ha : a.toInt = x) (hb : b.toInt = y) (h1 : x < y → qP A P) (h2 : y ≤ x → qP B P) : qP (if a < b then A else B) P := by
  subst ha; subst hb
  by_cases c : a < b
  · rw [if_pos c]; exact h1 (Int32.lt_iff_toInt_lt.mp c)
  · rw [if_neg c]; exact h2 (by rw [Int32.lt_iff_toInt_lt] at c; omega)
theorem P_le {a b : Int32} {x y : Int} {A B : qR} {P : Int32 → qM → Prop} (ha : a.toInt = x) (hb : b.toInt = y) (h1 : x ≤ y → qP A P) (h2 : y < x → qP B P) : qP (if a ≤ b then A else B) P := by
  subst ha; subst hb
  by_cases c : a ≤ b
  · rw [if_pos c]; exact h1 (Int32.le_iff_toInt_le.mp c)
  · rw [if_neg c]; exact h2 (by rw [Int32.le_iff_toInt_le] at c; omega)
theorem P_eq {a b : Int32} {x y : Int} {A B : qR} {P : Int32 → qM → Prop} (ha : a.toInt = x) (hb : b.toInt = y) (h1 : x = y → qP A P) (h2 : ¬ x = y → qP B P) : qP (if a = b then A else B) P := by
  subst ha; subst hb
  by_cases c : a = b
  · rw [if_pos c]; exact h1 (congrArg Int32.toInt c)
  · rw [if_neg c]; exact h2 (fun e => c (Int32.toInt_inj.mp e))
theorem P_qg {j : Int32} {n : Nat} {E : qR} {P : Int32 → qM → Prop} (h : 0 ≤ j.toInt → j.toInt < (n : Int) → qP E P) : qP (qg j n E) P := by
  by_cases c : 0 ≤ j.toInt ∧ j.toInt < (n : Int)
  · rw [qg_ok c.1 (by omega)]; exact h c.1 c.2
  · unfold qg
    have l0 : (0 : Int32).toInt = 0 := rfl
    rw [if_pos]
    · exact P_none
    · rw [Int32.lt_iff_toInt_lt, tnc, l0]
      omega
theorem P_qb {v : Int32} {E : qR} {P : Int32 → qM → Prop} (h : qP E P) : qP (qb v E) P := by
  unfold qb
  by_cases c : v = 0 ∨ v = 1
  · rw [if_pos c]; exact h
  · rw [if_neg c]; exact P_none
theorem P_ql {v : Int32} {x : Int} {f : Int32 → qR} {P : Int32 → qM → Prop} (hv : v.toInt = x) (h : ∀ y : Int32, y.toInt = x → qP (f y) P) : qP (ql v f) P := h v hv
theorem P_qlm {M : qM} {f : qM → qR} {P : Int32 → qM → Prop} (h : qP (f M) P) : qP (qlm M f) P := h
theorem P_qc {F : qR} {f : Int32 → qM → qR} {P Q : Int32 → qM → Prop} (h : qP F Q) (k : ∀ v m, Q v m → qP (f v m) P) : qP (qc F f) P := by
  cases e : F with
  | none => exact fun _ _ q => by cases q
  | some x =>
    obtain ⟨v, m⟩ := x
    rw [qc_v]
    exact k v m (h v m e)
theorem P_w {M0 M : qM} {s : Nat} {v : Int32} {f : qM → qR} {Q : Int32 → qM → Prop} (hs : s = 9 ∨ (11 ≤ s ∧ s ≤ 15)) (hG : G M) (hS : Sm lQ M0 M) (hr : Rin 77 s v) (h : ∀ m : qM, m 77 s = v → (∀ s2, s2 ≠ s → m 77 s2 = M 77 s2) → (∀ c, c ≠ 77 → m c = M c) → G m → Sm lQ M0 m → qP (f m) Q) : qP (qlm (mu M 77 s v) f) Q := by
  refine h _ mu_at (fun s2 h2 => mu_ne (Or.inr h2)) (fun c hc => mu_nc hc) (G_mu hG hr (by unfold nW; omega)) ?_
  rcases hs with rfl | hs
  · exact hS.mu (i := 0) rfl ⟨by decide, by decide, Or.inr ⟨by decide, by decide⟩⟩
  · exact hS.mu (i := 1) rfl ⟨by decide, by decide, Or.inr ⟨by show 11 ≤ s; omega, by show s < 16; omega⟩⟩
theorem P_r {M0 M : qM} {c i : Nat} {v : Int32} {f : qM → qR} {Q : Int32 → qM → Prop} (hc : c = 85 ∨ c = 86) (hG : G M) (hS : Sm lQ M0 M) (hr : 0 ≤ v.toInt ∧ v.toInt ≤ 20000000) (h : ∀ m : qM, m c i = v → (∀ j, j ≠ i → m c j = M c j) → (∀ c2, c2 ≠ c → m c2 = M c2) → G m → Sm lQ M0 m → qP (f m) Q) : qP (qlm (mu M c i v) f) Q := by
  refine h _ mu_at (fun s2 h2 => mu_ne (Or.inr h2)) (fun c2 hc2 => mu_nc hc2) (G_mu hG ?_ ?_) (hS.mu (i := 2) rfl ⟨?_, ?_, Or.inl rfl⟩)
  · rcases hc with rfl | rfl
    · exact hr
    · exact hr
  · rcases hc with rfl | rfl
    · exact nw_85 _
    · exact nw_86 _
  · show 85 ≤ c; omega
  · show c < 87; omega
/-! the model's reader of laws: what waits, as a list -/
def stw (F : Nat → Int32) : Nat → List (Int × Int)
  | 0 => []
  | k + 1 => ((F k).toInt / 1048576, (F k).toInt % 1048576) :: stw F k
theorem stw_cg {F F2 : Nat → Int32} : ∀ k, (∀ i, i < k → F2 i = F i) → stw F2 k = stw F k := by
  intro k
  induction k with
  | zero => intro _; rfl
  | succ k ih =>
    intro h
    show ((F2 k).toInt / 1048576, (F2 k).toInt % 1048576) :: stw F2 k = ((F k).toInt / 1048576, (F k).toInt % 1048576) :: stw F k
    rw [ih (fun i hi => h i (by omega)), h k (by omega)]
theorem stw_len {F : Nat → Int32} : ∀ k, (stw F k).length = k := by
  intro k
  induction k with
  | zero => rfl
  | succ k ih => show (stw F k).length + 1 = k + 1; rw [ih]
theorem stw_pop {F : Nat → Int32} {k : Nat} {q : Int × Int} {r : List (Int × Int)} (h : stw F k = q :: r) : ∃ j, k = j + 1 ∧ stw F j = r ∧ q = ((F j).toInt / 1048576, (F j).toInt % 1048576) := by
  cases k with
  | zero => exact absurd h (by show ¬ [] = q :: r; intro e; cases e)
  | succ j =>
    have h2 : ((F j).toInt / 1048576, (F j).toInt % 1048576) :: stw F j = q :: r := h
    injection h2 with a b
    exact ⟨j, rfl, b, a.symm⟩
def jOk (b : Nat) (W : List (Int × Int)) : Prop := ∀ q, q ∈ W → (q.1 = 11 ∨ q.1 = 12) → 0 ≤ q.2 ∧ q.2 < (b : Int)
theorem jOk_le {b c : Nat} {W : List (Int × Int)} (h : jOk b W) (hc : b ≤ c) : jOk c W := fun q h1 h2 => by have := h q h1 h2; omega
theorem opn_nn : ∀ W : List (Int × Int), 0 ≤ opn W := by
  intro W
  induction W with
  | nil => exact Int.le_refl _
  | cons q r ih =>
    show 0 ≤ opn r + (if _ then 1 else 0)
    by_cases c : q.1 = 10 ∨ q.1 = 13 ∨ q.1 = 14
    · rw [if_pos c]; omega
    · rw [if_neg c]; omega
theorem opn_y {q : Int × Int} {W : List (Int × Int)} (h : q.1 = 10 ∨ q.1 = 13 ∨ q.1 = 14) : opn (q :: W) = opn W + 1 := by show opn W + (if _ then 1 else 0) = _; rw [if_pos h]
theorem opn_n {q : Int × Int} {W : List (Int × Int)} (h : ¬ (q.1 = 10 ∨ q.1 = 13 ∨ q.1 = 14)) : opn (q :: W) = opn W := by show opn W + (if _ then 1 else 0) = _; rw [if_neg h]; omega
/-- the model's memory is a state of the small machine: what it holds beside the due and the sum -/
abbrev Mw (R : Nat → Int32) (len : Int) (M0 : qM) (C : List Int) (W : List (Int × Int)) (M : qM) : Prop := G M ∧ Sm lQ M0 M ∧ M 84 = R ∧ (M 77 10).toInt = len ∧ (M 77 9).toInt ≤ len ∧ (M 77 14).toInt = (C.length : Int) ∧ Fn (fun k => (M 85 k).toInt) C ∧ stw (M 86) (M 77 15).toInt.toNat = W ∧ (M 77 13).toInt = opn W ∧ opn W ≤ 6 ∧ jOk C.length W
abbrev Fx (T : Int → Int) (c0 : Lc) (M0 m : qM) : Prop := Lo T c0 (4, (m 77 11).toInt, 0, [], []) ∧ G m ∧ Sm lQ M0 m
theorem x_wrong {n : Nat} {M0 : qM} (a b : Int32) (M : qM) (hG : G M) (hS : Sm lQ M0 M) (ha : 1 ≤ a.toInt ∧ a.toInt ≤ 6) (hb : 0 ≤ b.toInt ∧ b.toInt ≤ 240) : qP (f_X12_wrongAt n a b M) (fun v m => v.toInt = 0 ∧ (m 77 11).toInt = -1000 * a.toInt - b.toInt ∧ G m ∧ Sm lQ M0 m) := by
  unfold f_X12_wrongAt
  refine P_w (Or.inr (by decide)) hG hS trivial ?_
  intro m e1 e2 e3 g s
  refine P_ret ⟨l_0, ?_, g, s⟩
  rw [e1, i_sub (i_mul l_m1000 rfl (by omega) (by omega)) rfl (by omega) (by omega)]
theorem x_fail {n : Nat} {M0 : qM} {T : Int → Int} {c0 : Lc} {k w : Int} (a b : Int32) (M : qM) (hG : G M) (hS : Sm lQ M0 M) (ha : a.toInt = k) (hb : b.toInt = w) (hk : 1 ≤ k ∧ k ≤ 6) (hw : 0 ≤ w ∧ w ≤ 240) (hL : Lo T c0 (zF k w)) : qP (qc (f_X12_wrongAt n a b M) (fun r m => qb r (some (r, m)))) (fun v m => v.toInt = 0 ∧ Fx T c0 M0 m) := by
  refine P_qc (x_wrong (M0 := M0) a b M hG hS (by omega) (by omega)) ?_
  rintro r m ⟨h0, h1, g, s⟩
  refine P_qb (P_ret ⟨h0, ?_, g, s⟩)
  rw [h1, ha, hb]
  exact hL
theorem x_notes0 {n : Nat} {R : Nat → Int32} {len : Int} {M0 : qM} {C : List Int} {W : List (Int × Int)} (a b : Int32) (M : qM) (hg : G M) (hs : Sm lQ M0 M) (hx : M 84 = R) (hl : (M 77 10).toInt = len) (hp : (M 77 9).toInt ≤ len) (hc : (M 77 14).toInt = (C.length : Int)) (hf : Fn (fun k => (M 85 k).toInt) C) (hw : stw (M 86) (M 77 15).toInt.toNat = W) (ho : (M 77 13).toInt = opn W) (h6 : opn W ≤ 6) (hj : jOk (C.length + 1) W) (ha : 0 ≤ a.toInt ∧ a.toInt ≤ 14) (hb : 0 ≤ b.toInt ∧ b.toInt ≤ 999999) : qP (f_X12_notes n a b M) (fun _ m => Mw R len M0 (C ++ [1048576 * a.toInt + b.toInt]) W m ∧ m 77 9 = M 77 9) := by
  have h14 := r_77_14 hg
  unfold f_X12_notes
  refine P_qg (fun i0 i1 => ?_)
  have ev : ((1048576 : Int32) * a + b).toInt = 1048576 * a.toInt + b.toInt := i_add (i_mul l_1048576 rfl (by omega) (by omega)) rfl (by omega) (by omega)
  refine P_r (Or.inl rfl) hg hs (by rw [ev]; omega) ?_
  intro m1 e1 e2 e3 g1 s1
  have c1 : m1 77 14 = M 77 14 := by rw [e3 77 (by decide)]
  rw [c1]
  have ew : (M 77 14 + 1).toInt = (M 77 14).toInt + 1 := i_add rfl l_1 (by omega) (by omega)
  refine P_w (Or.inr (by decide)) g1 s1 (i_rng (lo := 0) (hi := 260) ew (by omega) (by omega)) ?_
  intro m2 d1 d2 d3 g2 s2
  have ei : (M 77 14).toNatClampNeg = C.length := by rw [tnc, hc]; rfl
  rw [ei] at e1 e2
  refine P_ret ⟨⟨g2, s2, by rw [d3 84 (by decide), e3 84 (by decide)]; exact hx, by rw [d2 10 (by decide), e3 77 (by decide)]; exact hl, by rw [d2 9 (by decide), e3 77 (by decide)]; exact hp, ?_, ?_, ?_, ?_, h6, jOk_le hj (by rw [List.length_append, List.length_singleton]; omega)⟩, by rw [d2 9 (by decide), e3 77 (by decide)]⟩
  · rw [d1, ew, hc, List.length_append, List.length_singleton]; omega
  · refine Fn_app hf (fun k hk => ?_) ?_
    · show (m2 85 k).toInt = (M 85 k).toInt
      rw [d3 85 (by decide), e2 k (by omega)]
    · show (m2 85 C.length).toInt = _
      rw [d3 85 (by decide), e1]; exact ev
  · rw [d3 86 (by decide), e3 86 (by decide), d2 15 (by decide), e3 77 (by decide)]; exact hw
  · rw [d2 13 (by decide), e3 77 (by decide)]; exact ho
theorem x_notes {n : Nat} {R : Nat → Int32} {len : Int} {M0 : qM} {C : List Int} {W : List (Int × Int)} (a b : Int32) (M : qM) (h : Mw R len M0 C W M) (ha : 0 ≤ a.toInt ∧ a.toInt ≤ 14) (hb : 0 ≤ b.toInt ∧ b.toInt ≤ 999999) : qP (f_X12_notes n a b M) (fun _ m => Mw R len M0 (C ++ [1048576 * a.toInt + b.toInt]) W m ∧ m 77 9 = M 77 9) := by
  obtain ⟨hg, hs, hx, hl, hp, hc, hf, hw, ho, h6, hj⟩ := h
  exact x_notes0 a b M hg hs hx hl hp hc hf hw ho h6 (jOk_le hj (by omega)) ha hb
theorem x_top {n : Nat} {R : Nat → Int32} {len : Int} {M0 : qM} {C : List Int} {W : List (Int × Int)} (M : qM) (h : Mw R len M0 C W M) : qP (f_X12_waitTop n M) (fun v m => m = M ∧ v.toInt = tpk W) := by
  obtain ⟨hg, hs, hx, hl, hp, hc, hf, hw, ho, h6, hj⟩ := h
  refine P_mono (P_T (m_top M hg)) ?_
  rintro v m ⟨e, h2⟩
  refine ⟨e, ?_⟩
  rw [← hw]
  rcases h2 with ⟨a, b⟩ | ⟨a, b⟩
  · rw [a, b]; rfl
  · obtain ⟨k, hk⟩ : ∃ k : Nat, (M 77 15).toInt = (k : Int) + 1 := ⟨((M 77 15).toInt - 1).toNat, by omega⟩
    rw [b, hk, show ((k : Int) + 1).toNat = k + 1 by omega, show ((k : Int) + 1 - 1).toNat = k by omega]
    rfl
theorem x_pop {R : Nat → Int32} {len : Int} {M0 : qM} {C : List Int} {q : Int × Int} {W : List (Int × Int)} (M : qM) (h : Mw R len M0 C (q :: W) M) (hq : ¬ (q.1 = 10 ∨ q.1 = 13 ∨ q.1 = 14)) {f : qM → qR} {Q : Int32 → qM → Prop} (k : ∀ m, Mw R len M0 C W m → m 77 9 = M 77 9 → qP (f m) Q) : qP (qlm (mu M 77 15 (M 77 15 - 1)) f) Q := by
  obtain ⟨hg, hs, hx, hl, hp, hc, hf, hw, ho, h6, hj⟩ := h
  have h15 := r_77_15 hg
  obtain ⟨k2, hk2, hw2, hq2⟩ := stw_pop hw
  have e1 : (M 77 15 - 1).toInt = (M 77 15).toInt - 1 := i_sub rfl l_1 (by omega) (by omega)
  refine P_w (Or.inr (by decide)) hg hs (i_rng (lo := 0) (hi := 260) e1 (by omega) (by omega)) ?_
  intro m a1 a2 a3 g s
  rw [opn_n hq] at ho h6
  refine k m ⟨g, s, by rw [a3 84 (by decide)]; exact hx, by rw [a2 10 (by decide)]; exact hl, by rw [a2 9 (by decide)]; exact hp, by rw [a2 14 (by decide)]; exact hc, by rw [a3 85 (by decide)]; exact hf, ?_, by rw [a2 13 (by decide)]; exact ho, h6, fun x hx => hj x (List.mem_cons_of_mem _ hx)⟩ (a2 9 (by decide))
  rw [a3 86 (by decide), a1, e1, show ((M 77 15).toInt - 1).toNat = k2 by omega]
  exact hw2
theorem x_shut {R : Nat → Int32} {len : Int} {M0 : qM} {C : List Int} {q : Int × Int} {W : List (Int × Int)} (M : qM) (h : Mw R len M0 C (q :: W) M) (hq : q.1 = 10 ∨ q.1 = 13 ∨ q.1 = 14) {f : qM → qR} {Q : Int32 → qM → Prop} (k : ∀ m, Mw R len M0 C W m → m 77 9 = M 77 9 → qP (f m) Q) : qP (qlm (mu M 77 15 (M 77 15 - 1)) (fun m1 => qlm (mu m1 77 13 (m1 77 13 - 1)) f)) Q := by
  obtain ⟨hg, hs, hx, hl, hp, hc, hf, hw, ho, h6, hj⟩ := h
  have h15 := r_77_15 hg
  have hnn := opn_nn W
  obtain ⟨k2, hk2, hw2, hq2⟩ := stw_pop hw
  have e1 : (M 77 15 - 1).toInt = (M 77 15).toInt - 1 := i_sub rfl l_1 (by omega) (by omega)
  refine P_w (Or.inr (by decide)) hg hs (i_rng (lo := 0) (hi := 260) e1 (by omega) (by omega)) ?_
  intro m a1 a2 a3 g s
  rw [opn_y hq] at ho h6
  rw [a2 13 (by decide)]
  have e2 : (M 77 13 - 1).toInt = (M 77 13).toInt - 1 := i_sub rfl l_1 (by omega) (by omega)
  refine P_w (Or.inr (by decide)) g s trivial ?_
  intro m2 b1 b2 b3 g2 s2
  refine k m2 ⟨g2, s2, by rw [b3 84 (by decide), a3 84 (by decide)]; exact hx, by rw [b2 10 (by decide), a2 10 (by decide)]; exact hl, by rw [b2 9 (by decide), a2 9 (by decide)]; exact hp, by rw [b2 14 (by decide), a2 14 (by decide)]; exact hc, by rw [b3 85 (by decide), a3 85 (by decide)]; exact hf, ?_, by rw [b1, e2]; omega, by omega, fun x hx => hj x (List.mem_cons_of_mem _ hx)⟩ (by rw [b2 9 (by decide), a2 9 (by decide)])
  rw [b3 86 (by decide), a3 86 (by decide), b2 15 (by decide), a1, e1, show ((M 77 15).toInt - 1).toNat = k2 by omega]
  exact hw2
theorem x_pl {R : Nat → Int32} {len : Int} {M0 : qM} {C : List Int} {W : List (Int × Int)} (M : qM) (h : Mw R len M0 C W M) (hlt : (M 77 9).toInt < len) {f : qM → qR} {Q : Int32 → qM → Prop} (k : ∀ m, Mw R len M0 C W m → (m 77 9).toInt = (M 77 9).toInt + 1 → qP (f m) Q) : qP (qlm (mu M 77 9 (M 77 9 + 1)) f) Q := by
  obtain ⟨hg, hs, hx, hl, hp, hc, hf, hw, ho, h6, hj⟩ := h
  have h9 := r_77_9 hg
  have h10 := r_77_10 hg
  have ep : (M 77 9 + 1).toInt = (M 77 9).toInt + 1 := i_add rfl l_1 (by omega) (by omega)
  refine P_w (Or.inl rfl) hg hs (i_rng (lo := 0) (hi := 240) ep (by omega) (by omega)) ?_
  intro m a1 a2 a3 g s
  exact k m ⟨g, s, by rw [a3 84 (by decide)]; exact hx, by rw [a2 10 (by decide)]; exact hl, by rw [a1, ep]; omega, by rw [a2 14 (by decide)]; exact hc, by rw [a3 85 (by decide)]; exact hf, by rw [a3 86 (by decide), a2 15 (by decide)]; exact hw, by rw [a2 13 (by decide)]; exact ho, h6, hj⟩ (by rw [a1]; exact ep)
theorem x_push {R : Nat → Int32} {len : Int} {M0 : qM} {C : List Int} {W : List (Int × Int)} {k b : Int} (v : Int32) (M : qM) (h : Mw R len M0 C W M) (hv : v.toInt = 1048576 * k + b) (hk : 2 ≤ k ∧ k ≤ 12 ∧ k ≠ 10) (hb : 0 ≤ b ∧ b < 1000) (hb2 : (k = 11 ∨ k = 12) → b < (C.length : Int) + 1) (hi : (M 77 15).toInt < 260) {f : qM → qR} {Q : Int32 → qM → Prop} (kk : ∀ m, (∀ C2 : List Int, C.length < C2.length ∨ (C2 = C ∧ ¬ (k = 11 ∨ k = 12)) → jOk C2.length ((k, b) :: W)) → G m → Sm lQ M0 m → m 84 = R → (m 77 10).toInt = len → m 77 9 = M 77 9 → m 77 14 = M 77 14 → m 85 = M 85 → stw (m 86) (m 77 15).toInt.toNat = (k, b) :: W → (m 77 13).toInt = opn W → qP (f m) Q) : qP (qlm (mu M 86 (M 77 15).toNatClampNeg v) (fun m1 => qlm (mu m1 77 15 (m1 77 15 + 1)) f)) Q := by
  obtain ⟨hg, hs, hx, hl, hp, hc, hf, hw, ho, h6, hj⟩ := h
  have h15 := r_77_15 hg
  refine P_r (Or.inr rfl) hg hs (by rw [hv]; omega) ?_
  intro m1 e1 e2 e3 g1 s1
  have c1 : m1 77 15 = M 77 15 := by rw [e3 77 (by decide)]
  rw [c1]
  have ew : (M 77 15 + 1).toInt = (M 77 15).toInt + 1 := i_add rfl l_1 (by omega) (by omega)
  refine P_w (Or.inr (by decide)) g1 s1 (i_rng (lo := 0) (hi := 260) ew (by omega) (by omega)) ?_
  intro m2 d1 d2 d3 g2 s2
  rw [tnc] at e1 e2
  refine kk m2 ?_ g2 s2 (by rw [d3 84 (by decide), e3 84 (by decide)]; exact hx) (by rw [d2 10 (by decide), e3 77 (by decide)]; exact hl) (by rw [d2 9 (by decide), e3 77 (by decide)]) (by rw [d2 14 (by decide), e3 77 (by decide)]) (by rw [d3 85 (by decide), e3 85 (by decide)]) ?_ (by rw [d2 13 (by decide), e3 77 (by decide)]; exact ho)
  · intro C2 hC2 x hx2 hx3
    rcases List.mem_cons.mp hx2 with rfl | hx4
    · have hx5 : k = 11 ∨ k = 12 := hx3
      have hlt := hb2 hx5
      show 0 ≤ b ∧ b < (C2.length : Int)
      rcases hC2 with q | ⟨_, q⟩
      · omega
      · exact absurd hx5 q
    · have h1 := hj x hx4 hx3
      rcases hC2 with q | ⟨q, _⟩
      · omega
      · rw [q]; exact h1
  · rw [d3 86 (by decide), d1, ew, show ((M 77 15).toInt + 1).toNat = (M 77 15).toInt.toNat + 1 by omega]
    show ((m1 86 (M 77 15).toInt.toNat).toInt / 1048576, (m1 86 (M 77 15).toInt.toNat).toInt % 1048576) :: stw (m1 86) (M 77 15).toInt.toNat = _
    rw [e1, hv, stw_cg (M 77 15).toInt.toNat (fun i hi2 => e2 i (by omega)), hw, show (1048576 * k + b) / 1048576 = k by omega, show (1048576 * k + b) % 1048576 = b by omega]
theorem x_here {n : Nat} (hn : 200000 ≤ n) {R : Nat → Int32} {len : Int} {M0 : qM} {C : List Int} {W : List (Int × Int)} (M : qM) (h : Mw R len M0 C W M) : qP (f_X12_here n M) (fun v m => m = M ∧ v.toInt = tm R len (M 77 9).toInt) := by
  obtain ⟨hg, hs, hx, hl, _⟩ := h
  have := v_here hn M hg
  rw [hx, hl] at this
  exact P_T this
theorem x_sign {n : Nat} (a0 : Int32) (M : qM) : qP (f_X12_sumSign n a0 M) (fun v m => m = M ∧ v.toInt = sg a0.toInt) := by
  refine P_T ?_
  unfold f_X12_sumSign sg
  refine T_eq rfl l_43 (fun c => T_ret ⟨rfl, by rw [if_pos c]; rfl⟩) (fun c1 => ?_)
  rw [if_neg c1]
  refine T_eq rfl l_45 (fun c => T_ret ⟨rfl, by rw [if_pos c]; rfl⟩) (fun c2 => ?_)
  rw [if_neg c2]
  refine T_eq rfl l_42 (fun c => T_ret ⟨rfl, by rw [if_pos c]; rfl⟩) (fun c3 => ?_)
  rw [if_neg c3]
  refine T_eq rfl l_47 (fun c => T_ret ⟨rfl, by rw [if_pos c]; rfl⟩) (fun c4 => ?_)
  rw [if_neg c4]
  refine T_eq rfl l_37 (fun c => T_ret ⟨rfl, by rw [if_pos c]; rfl⟩) (fun c5 => ?_)
  rw [if_neg c5]
  exact T_ret ⟨rfl, l_m1⟩
theorem x_fact {n : Nat} (a0 : Int32) (M : qM) : qP (f_X12_factOf n a0 M) (fun v m => m = M ∧ v.toInt = fa a0.toInt) := by
  refine P_T ?_
  unfold f_X12_factOf
  refine T_sw rfl l_100 (fun q => T_ret ⟨rfl, by rw [q, l_6]; rfl⟩) (fun q100 => ?_)
  refine T_sw rfl l_101 (fun q => T_ret ⟨rfl, by rw [q, l_m1]; rfl⟩) (fun q101 => ?_)
  refine T_sw rfl l_102 (fun q => T_ret ⟨rfl, by rw [q, l_m1]; rfl⟩) (fun q102 => ?_)
  refine T_sw rfl l_103 (fun q => T_ret ⟨rfl, by rw [q, l_m1]; rfl⟩) (fun q103 => ?_)
  refine T_sw rfl l_104 (fun q => T_ret ⟨rfl, by rw [q, l_1]; rfl⟩) (fun q104 => ?_)
  refine T_sw rfl l_105 (fun q => T_ret ⟨rfl, by rw [q, l_m1]; rfl⟩) (fun q105 => ?_)
  refine T_sw rfl l_106 (fun q => T_ret ⟨rfl, by rw [q, l_3]; rfl⟩) (fun q106 => ?_)
  refine T_sw rfl l_107 (fun q => T_ret ⟨rfl, by rw [q, l_0]; rfl⟩) (fun q107 => ?_)
  refine T_sw rfl l_108 (fun q => T_ret ⟨rfl, by rw [q, l_m1]; rfl⟩) (fun q108 => ?_)
  refine T_sw rfl l_109 (fun q => T_ret ⟨rfl, by rw [q, l_5]; rfl⟩) (fun q109 => ?_)
  refine T_sw rfl l_110 (fun q => T_ret ⟨rfl, by rw [q, l_9]; rfl⟩) (fun q110 => ?_)
  refine T_sw rfl l_111 (fun q => T_ret ⟨rfl, by rw [q, l_10]; rfl⟩) (fun q111 => ?_)
  refine T_sw rfl l_112 (fun q => T_ret ⟨rfl, by rw [q, l_7]; rfl⟩) (fun q112 => ?_)
  refine T_sw rfl l_113 (fun q => T_ret ⟨rfl, by rw [q, l_8]; rfl⟩) (fun q113 => ?_)
  refine T_sw rfl l_114 (fun q => T_ret ⟨rfl, by rw [q, l_m1]; rfl⟩) (fun q114 => ?_)
  refine T_sw rfl l_115 (fun q => T_ret ⟨rfl, by rw [q, l_m1]; rfl⟩) (fun q115 => ?_)
  refine T_sw rfl l_116 (fun q => T_ret ⟨rfl, by rw [q, l_m1]; rfl⟩) (fun q116 => ?_)
  refine T_sw rfl l_117 (fun q => T_ret ⟨rfl, by rw [q, l_m1]; rfl⟩) (fun q117 => ?_)
  refine T_sw rfl l_118 (fun q => T_ret ⟨rfl, by rw [q, l_m1]; rfl⟩) (fun q118 => ?_)
  refine T_sw rfl l_119 (fun q => T_ret ⟨rfl, by rw [q, l_11]; rfl⟩) (fun q119 => ?_)
  refine T_sw rfl l_120 (fun q => T_ret ⟨rfl, by rw [q, l_2]; rfl⟩) (fun q120 => ?_)
  refine T_sw rfl l_121 (fun q => T_ret ⟨rfl, by rw [q, l_4]; rfl⟩) (fun q121 => ?_)
  refine T_sw0 (T_ret ⟨rfl, ?_⟩)
  rw [l_m1]
  unfold fa
  rw [if_neg (by omega), if_neg (by omega), if_neg (by omega), if_neg (by omega), if_neg (by omega), if_neg (by omega), if_neg (by omega), if_neg (by omega), if_neg (by omega), if_neg (by omega), if_neg (by omega), if_neg (by omega)]
theorem fa_rng (x : Int) : -1 ≤ fa x ∧ fa x ≤ 11 := by
  unfold fa
  repeat' split
  all_goals omega
