/-! LAWS: clauses, around the small machine. A state: (the small machine's state, (letter, where its sum begins, where its condition begins), the clauses so far).
 due, more: 7 a clause begins, 8 the law is read -/
abbrev Kl : Type := Int × Int × Int × Int
abbrev Ld : Type := Lc × (Int × Int × Int) × List Kl
abbrev isCl (x : Int) : Prop := x = 97 ∨ x = 118 ∨ x = 102 ∨ x = 99
def yF (k w : Int) : Ld := (zF k w, (0, 0, 0), [])
def y5 (T : Int → Int) (pl : Int) (C : List Int) (X : Int × Int × Int) (K : List Kl) : Ld := if T pl = 40 then ((2, pl + 1, 0, C, [(13, 0)]), (X.1, X.2.1, (C.length : Int)), K) else yF 1 pl
def y6 (T : Int → Int) (len pl : Int) (C : List Int) (X : Int × Int × Int) (K : List Kl) : Ld :=
  if T pl = 59 then ((7, pl + 1, 0, C, []), (0, 0, 0), K ++ [(X.1, X.2.1, X.2.2, (C.length : Int))]) else if len ≤ pl then ((8, pl, 0, C, []), (0, 0, 0), K ++ [(X.1, X.2.1, X.2.2, (C.length : Int))]) else yF 1 pl
def y7 (T : Int → Int) (pl : Int) (C : List Int) (K : List Kl) : Ld :=
  if ¬ isCl (T pl) then yF 1 pl else if K.length = 16 then yF 4 pl else if T pl = 97 then ((5, pl + 1, 0, C, []), (97, (C.length : Int), 0), K) else ((0, pl + 1, 0, C, []), (T pl, (C.length : Int), 0), K)
def yS (T : Int → Int) (len : Int) (d : Ld) : Ld := if d.1.1 = 5 then y5 T d.1.2.1 d.1.2.2.2.1 d.2.1 d.2.2 else if d.1.1 = 6 then y6 T len d.1.2.1 d.1.2.2.2.1 d.2.1 d.2.2 else if d.1.1 = 7 then y7 T d.1.2.1 d.1.2.2.2.1 d.2.2 else if d.1.1 = 4 then (d.1, (0, 0, 0), []) else (zS T d.1, d.2)
def yI (T : Int → Int) (len : Int) : Nat → Ld → Ld
  | 0, d => d
  | n + 1, d => yI T len n (yS T len d)
theorem yI_add {T : Int → Int} {len : Int} : ∀ (n m : Nat) (c : Ld), yI T len (n + m) c = yI T len m (yI T len n c) := by
  intro n
  induction n with
  | zero => intro m c; rw [Nat.zero_add]; rfl
  | succ n ih =>
    intro m c
    rw [show n + 1 + m = (n + m) + 1 by omega]
    show yI T len (n + m) (yS T len c) = _
    rw [ih]
    rfl
def Yo (T : Int → Int) (len : Int) (c c' : Ld) : Prop := ∃ n, yI T len n c = c'
theorem Yo_rf {T : Int → Int} {len : Int} {c : Ld} : Yo T len c c := ⟨0, rfl⟩
theorem Yo_tr {T : Int → Int} {len : Int} {c d e : Ld} (h : Yo T len c d) (k : Yo T len d e) : Yo T len c e := by
  obtain ⟨n, rfl⟩ := h
  obtain ⟨m, rfl⟩ := k
  exact ⟨n + m, yI_add n m c⟩
theorem Yo_st {T : Int → Int} {len : Int} {c d : Ld} (h : yS T len c = d) : Yo T len c d := ⟨1, h⟩
theorem yI_fix {T : Int → Int} {len : Int} {c : Ld} (h : yS T len c = c) : ∀ n, yI T len n c = c := by
  intro n
  induction n with
  | zero => rfl
  | succ n ih =>
    show yI T len n (yS T len c) = c
    rw [h]; exact ih
theorem Yo_det {T : Int → Int} {len : Int} {c d e : Ld} (h : Yo T len c d) (k : Yo T len c e) (h1 : yS T len d = d) (k1 : yS T len e = e) : d = e := by
  obtain ⟨n, hn⟩ := h
  obtain ⟨m, hm⟩ := k
  by_cases q : n ≤ m
  · obtain ⟨j, rfl⟩ : ∃ j, m = n + j := ⟨m - n, by omega⟩
    rw [yI_add, hn, yI_fix h1] at hm
    exact hm
  · obtain ⟨j, rfl⟩ : ∃ j, n = m + j := ⟨n - m, by omega⟩
    rw [yI_add, hm, yI_fix k1] at hn
    exact hn.symm
theorem zS_big {T : Int → Int} {c : Lc} (h : 4 ≤ c.1) : zS T c = c := by
  unfold zS
  rw [if_neg (by omega), if_neg (by omega), if_neg (by omega), if_neg (by omega)]
theorem yS_in {T : Int → Int} {len : Int} {c : Lc} {X : Int × Int × Int} {K : List Kl} (h : c.1 ≤ 3) : yS T len (c, X, K) = (zS T c, X, K) := by
  unfold yS
  rw [if_neg (by show ¬ c.1 = 5; omega), if_neg (by show ¬ c.1 = 6; omega), if_neg (by show ¬ c.1 = 7; omega), if_neg (by show ¬ c.1 = 4; omega)]
/-- the small machine's way is a way of the whole -/
theorem Yo_in {T : Int → Int} {len : Int} {c c' : Lc} {X : Int × Int × Int} {K : List Kl} (h : Lo T c c') : Yo T len (c, X, K) (c', X, K) := by
  obtain ⟨n, hn⟩ := h
  induction n generalizing c with
  | zero => exact ⟨0, by rw [show c = c' from hn]; rfl⟩
  | succ n ih =>
    by_cases q : c.1 ≤ 3
    · have hn2 : zI T n (zS T c) = c' := hn
      exact Yo_tr (Yo_st (yS_in q)) (ih hn2)
    · rw [zI_fix (zS_big (by omega))] at hn
      exact ⟨0, by rw [hn]; rfl⟩
theorem ys_4 {T : Int → Int} {len f ph : Int} {C : List Int} {W : List (Int × Int)} {X : Int × Int × Int} {K : List Kl} : yS T len ((4, f, ph, C, W), X, K) = ((4, f, ph, C, W), (0, 0, 0), []) := rfl
theorem ys_5 {T : Int → Int} {len pl ph : Int} {C : List Int} {W : List (Int × Int)} {X : Int × Int × Int} {K : List Kl} : yS T len ((5, pl, ph, C, W), X, K) = y5 T pl C X K := rfl
theorem ys_6 {T : Int → Int} {len pl ph : Int} {C : List Int} {W : List (Int × Int)} {X : Int × Int × Int} {K : List Kl} : yS T len ((6, pl, ph, C, W), X, K) = y6 T len pl C X K := rfl
theorem ys_7 {T : Int → Int} {len pl ph : Int} {C : List Int} {W : List (Int × Int)} {X : Int × Int × Int} {K : List Kl} : yS T len ((7, pl, ph, C, W), X, K) = y7 T pl C K := rfl
theorem ys_8 {T : Int → Int} {len pl ph : Int} {C : List Int} {W : List (Int × Int)} {X : Int × Int × Int} {K : List Kl} : yS T len ((8, pl, ph, C, W), X, K) = ((8, pl, ph, C, W), X, K) := rfl
/-- a fault of the small machine is one of the whole -/
theorem Yo_bad {T : Int → Int} {len f : Int} {d : Ld} {c : Lc} {X : Int × Int × Int} {K : List Kl} (h : Yo T len d (c, X, K)) (k : Lo T c (4, f, 0, [], [])) : Yo T len d ((4, f, 0, [], []), (0, 0, 0), []) := Yo_tr h (Yo_tr (Yo_in k) (Yo_st ys_4))
/-- rows of clauses as a list -/
def Fk (f : Nat → Kl) (K : List Kl) : Prop := ∀ k, k < K.length → K[k]? = some (f k)
theorem Fk_app {f g : Nat → Kl} {K : List Kl} {x : Kl} (h : Fk f K) (h1 : ∀ k, k < K.length → g k = f k) (h2 : g K.length = x) : Fk g (K ++ [x]) := by
  intro k hk
  rw [List.length_append, List.length_singleton] at hk
  by_cases q : k < K.length
  · rw [List.getElem?_append_left q, h k q, h1 k q]
  · have e : k = K.length := by omega
    subst e
    rw [List.getElem?_append_right (Nat.le_refl _), Nat.sub_self, h2]
    rfl
theorem Fk_cg {f g : Nat → Kl} {K : List Kl} (h : Fk f K) (h1 : ∀ k, k < K.length → g k = f k) : Fk g K := fun k hk => by rw [h k hk, h1 k hk]
abbrev eK (a b c d : Nat) (M : qM) (k : Nat) : Kl := ((M a k).toInt, (M b k).toInt, (M c k).toInt, (M d k).toInt)
abbrev KRw (w : Nat) (M : qM) (K : List Kl) : Prop := (M w 7).toInt = (K.length : Int) ∧ Fk (eK (w + 3) (w + 4) (w + 5) (w + 6) M) K
theorem w_addc {n : Nat} {w : Nat} (hw : q_isLaw w) {C : List Int} {K : List Kl} (a1 a2 a3 : Int32) (M : qM) (hG : G M) (hC : CR w M C) (hK : KRw w M K) (hlt : K.length < 16) (pa2 : 0 ≤ a2.toInt ∧ a2.toInt ≤ 240) (pa3 : 0 ≤ a3.toInt ∧ a3.toInt ≤ 240) : qT (f_X3_addClause n w a1 a2 a3 M) (fun _ m => CR w m C ∧ KRw w m (K ++ [(a1.toInt, a2.toInt, a3.toInt, (C.length : Int))]) ∧ (∀ c, c < w ∨ w + 6 < c → m c = M c) ∧ G m) := by
  have h6 := rw_0_6 hw hG
  have h7 := rw_0_7 hw hG
  have hk := hK.1
  have ei : (M w 7).toNatClampNeg = K.length := by rw [tnc, hk]; rfl
  unfold f_X3_addClause
  refine T_le l_16 rfl (fun c => by exfalso; omega) (fun c => ?_)
  refine T_qg rfl (by omega) (by omega) (T_qlm ?_)
  have e1 : ∀ c s, c ≠ w + 3 ∨ s ≠ K.length → mu M (w + 3) (M w 7).toNatClampNeg a1 c s = M c s := fun c s q => by rw [ei]; exact mu_ne q
  have f1 : mu M (w + 3) (M w 7).toNatClampNeg a1 (w + 3) K.length = a1 := by rw [ei]; exact mu_at
  have g1 := G_lr (k := 3) (s := (M w 7).toNatClampNeg) (v := a1) hw hG (by omega) (Or.inl rfl)
  generalize mu M (w + 3) (M w 7).toNatClampNeg a1 = m1 at e1 f1 g1 ⊢
  rw [e1 w 7 (Or.inl (by omega))]
  refine T_qg rfl (by omega) (by omega) (T_qlm ?_)
  have e2 : ∀ c s, c ≠ w + 4 ∨ s ≠ K.length → mu m1 (w + 4) (M w 7).toNatClampNeg a2 c s = m1 c s := fun c s q => by rw [ei]; exact mu_ne q
  have f2 : mu m1 (w + 4) (M w 7).toNatClampNeg a2 (w + 4) K.length = a2 := by rw [ei]; exact mu_at
  have g2 := G_lr (k := 4) (s := (M w 7).toNatClampNeg) (v := a2) hw g1 (by omega) (Or.inr pa2)
  generalize mu m1 (w + 4) (M w 7).toNatClampNeg a2 = m2 at e2 f2 g2 ⊢
  rw [e2 w 7 (Or.inl (by omega)), e1 w 7 (Or.inl (by omega))]
  refine T_qg rfl (by omega) (by omega) (T_qlm ?_)
  have e3 : ∀ c s, c ≠ w + 5 ∨ s ≠ K.length → mu m2 (w + 5) (M w 7).toNatClampNeg a3 c s = m2 c s := fun c s q => by rw [ei]; exact mu_ne q
  have f3 : mu m2 (w + 5) (M w 7).toNatClampNeg a3 (w + 5) K.length = a3 := by rw [ei]; exact mu_at
  have g3 := G_lr (k := 5) (s := (M w 7).toNatClampNeg) (v := a3) hw g2 (by omega) (Or.inr pa3)
  generalize mu m2 (w + 5) (M w 7).toNatClampNeg a3 = m3 at e3 f3 g3 ⊢
  have w7 : m3 w 7 = M w 7 := by rw [e3 w 7 (Or.inl (by omega)), e2 w 7 (Or.inl (by omega)), e1 w 7 (Or.inl (by omega))]
  have w6 : m3 w 6 = M w 6 := by rw [e3 w 6 (Or.inl (by omega)), e2 w 6 (Or.inl (by omega)), e1 w 6 (Or.inl (by omega))]
  rw [w7, w6]
  refine T_qg rfl (by omega) (by omega) (T_qlm ?_)
  have e4 : ∀ c s, c ≠ w + 6 ∨ s ≠ K.length → mu m3 (w + 6) (M w 7).toNatClampNeg (M w 6) c s = m3 c s := fun c s q => by rw [ei]; exact mu_ne q
  have f4 : mu m3 (w + 6) (M w 7).toNatClampNeg (M w 6) (w + 6) K.length = M w 6 := by rw [ei]; exact mu_at
  have g4 := G_lr (k := 6) (s := (M w 7).toNatClampNeg) (v := M w 6) hw g3 (by omega) (Or.inr h6)
  generalize mu m3 (w + 6) (M w 7).toNatClampNeg (M w 6) = m4 at e4 f4 g4 ⊢
  refine T_qlm ?_
  rw [e4 w 7 (Or.inl (by omega)), w7]
  have e5 : (M w 7 + 1).toInt = (M w 7).toInt + 1 := i_add rfl l_1 (by omega) (by omega)
  have g5 := G_lw hw g4 (s := 7) (v := M w 7 + 1) (fun q => absurd q (by decide)) (fun _ => by rw [e5]; omega) (Or.inr rfl)
  have all : ∀ c s, (c ≠ w ∨ s ≠ 7) → (c ≠ w + 3 ∨ s ≠ K.length) → (c ≠ w + 4 ∨ s ≠ K.length) → (c ≠ w + 5 ∨ s ≠ K.length) → (c ≠ w + 6 ∨ s ≠ K.length) → mu m4 w 7 (M w 7 + 1) c s = M c s := by
    intro c s q0 q1 q2 q3 q4
    rw [mu_ne q0, e4 c s q4, e3 c s q3, e2 c s q2, e1 c s q1]
  refine T_ret ⟨⟨?_, ?_⟩, ⟨?_, ?_⟩, fun c hc => ?_, g5⟩
  · rw [all w 6 (Or.inr (by decide)) (Or.inl (by omega)) (Or.inl (by omega)) (Or.inl (by omega)) (Or.inl (by omega))]; exact hC.1
  · refine Fn_cg hC.2 (fun k _ => ?_)
    show enc _ _ = enc _ _
    rw [all (w + 1) k (Or.inl (by omega)) (Or.inl (by omega)) (Or.inl (by omega)) (Or.inl (by omega)) (Or.inl (by omega)), all (w + 2) k (Or.inl (by omega)) (Or.inl (by omega)) (Or.inl (by omega)) (Or.inl (by omega)) (Or.inl (by omega))]
  · rw [mu_at, e5, hk, List.length_append, List.length_singleton]; omega
  · refine Fk_app hK.2 (fun k hk2 => ?_) ?_
    · have : k ≠ K.length := by omega
      show (_, _, _, _) = (_, _, _, _)
      rw [all (w + 3) k (Or.inl (by omega)) (Or.inr this) (Or.inl (by omega)) (Or.inl (by omega)) (Or.inl (by omega)), all (w + 4) k (Or.inl (by omega)) (Or.inl (by omega)) (Or.inr this) (Or.inl (by omega)) (Or.inl (by omega)), all (w + 5) k (Or.inl (by omega)) (Or.inl (by omega)) (Or.inl (by omega)) (Or.inr this) (Or.inl (by omega)), all (w + 6) k (Or.inl (by omega)) (Or.inl (by omega)) (Or.inl (by omega)) (Or.inl (by omega)) (Or.inr this)]
    · have u3 : mu m4 w 7 (M w 7 + 1) (w + 3) K.length = a1 := by rw [mu_ne (Or.inl (by omega)), e4 _ _ (Or.inl (by omega)), e3 _ _ (Or.inl (by omega)), e2 _ _ (Or.inl (by omega)), f1]
      have u4 : mu m4 w 7 (M w 7 + 1) (w + 4) K.length = a2 := by rw [mu_ne (Or.inl (by omega)), e4 _ _ (Or.inl (by omega)), e3 _ _ (Or.inl (by omega)), f2]
      have u5 : mu m4 w 7 (M w 7 + 1) (w + 5) K.length = a3 := by rw [mu_ne (Or.inl (by omega)), e4 _ _ (Or.inl (by omega)), f3]
      have u6 : mu m4 w 7 (M w 7 + 1) (w + 6) K.length = M w 6 := by rw [mu_ne (Or.inl (by omega)), f4]
      show (_, _, _, _) = (_, _, _, _)
      rw [u3, u4, u5, u6, hC.1]
  · funext s
    exact all c s (Or.inl (by omega)) (Or.inl (by omega)) (Or.inl (by omega)) (Or.inl (by omega)) (Or.inl (by omega))
