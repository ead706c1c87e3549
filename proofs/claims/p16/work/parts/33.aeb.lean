/-! the Java side's reader of laws follows the small machine: codes as a list -/
def Fn (f : Nat → Int) (C : List Int) : Prop := ∀ k, k < C.length → C[k]? = some (f k)
theorem Fn_nil {f : Nat → Int} : Fn f [] := fun k hk => absurd hk (by simp)
theorem Fn_app {f g : Nat → Int} {C : List Int} {x : Int} (h : Fn f C) (h1 : ∀ k, k < C.length → g k = f k) (h2 : g C.length = x) : Fn g (C ++ [x]) := by
  intro k hk
  rw [List.length_append, List.length_singleton] at hk
  by_cases q : k < C.length
  · rw [List.getElem?_append_left q, h k q, h1 k q]
  · have e : k = C.length := by omega
    subst e
    rw [List.getElem?_append_right (Nat.le_refl _), Nat.sub_self, h2]
    rfl
theorem Fn_set {f g : Nat → Int} {C : List Int} {j : Nat} {x : Int} (h : Fn f C) (hj : j < C.length) (h1 : ∀ k, k < C.length → k ≠ j → g k = f k) (h2 : g j = x) : Fn g (C.set j x) := by
  intro k hk
  rw [List.length_set] at hk
  by_cases q : k = j
  · subst q
    rw [List.getElem?_set_self hk, h2]
  · rw [List.getElem?_set_ne (fun e => q e.symm), h k hk, h1 k hk q]
theorem Fn_cg {f g : Nat → Int} {C : List Int} (h : Fn f C) (h1 : ∀ k, k < C.length → g k = f k) : Fn g C := fun k hk => by rw [h k hk, h1 k hk]
/-- a code of the Java side as the model's number -/
def enc (o a : Int) : Int := if o = 0 then a else if o = 1 then 1048576 + a else if o = 2 then 1048576 * 10 else if o = 3 then (if a = 0 then 1048576 * 11 else 1048576 * 11 + (a + 1)) else if o = 4 then (if a = 0 then 1048576 * 12 else 1048576 * 12 + (a + 1)) else if 0 ≤ sg o then 1048576 * sg o else 1048576 * cp o
abbrev eC (w : Nat) (M : qM) (k : Nat) : Int := enc (M (w + 1) k).toInt (M (w + 2) k).toInt
abbrev CR (w : Nat) (M : qM) (C : List Int) : Prop := (M w 6).toInt = (C.length : Int) ∧ Fn (eC w M) C
abbrev lW : List Bx := [(1, 2, 3, 5), (37, 53, 0, 0)]
theorem T_both {E : qR} {P Q : Int32 → qM → Prop} (h : qT E P) (k : qT E Q) : qT E (fun v m => P v m ∧ Q v m) := by
  obtain ⟨v, m, e, p⟩ := h
  obtain ⟨v2, m2, e2, q⟩ := k
  rw [e] at e2
  cases e2
  exact ⟨v, m, e, p, q⟩
theorem w_add {n : Nat} {w : Nat} (hw : q_isLaw w) {C : List Int} (a1 a2 : Int32) (M : qM) (hG : G M) (hC : CR w M C) (hlt : (C.length : Int) < 240) (pa2 : 0 ≤ a2.toInt ∧ a2.toInt ≤ 1000000) (pe : a1.toInt = 1 → a2.toInt ≤ 11) : qT (f_X3_add n w a1 a2 M) (fun v m => v.toInt = (C.length : Int) ∧ CR w m (C ++ [enc a1.toInt a2.toInt]) ∧ (m (w + 1) C.length).toInt = a1.toInt ∧ (∀ c, c ≠ w → c ≠ w + 1 → c ≠ w + 2 → m c = M c) ∧ (∀ s, s ≠ 6 → m w s = M w s) ∧ G m) := by
  have h6 := rw_0_6 hw hG
  have hlen := hC.1
  have ei : (M w 6).toNatClampNeg = C.length := by rw [tnc, hlen]; rfl
  unfold f_X3_add
  refine T_le l_240 rfl (fun c => by exfalso; omega) (fun c => ?_)
  refine T_qg rfl (by omega) (by omega) (T_qlm ?_)
  have e1 : mu M (w + 1) (M w 6).toNatClampNeg a1 w 6 = M w 6 := mu_ne (Or.inl (by omega))
  rw [e1]
  refine T_qg rfl (by omega) (by omega) (T_qlm ?_)
  have hG2 := G_law hw hG (s := (M w 6).toNatClampNeg) (a1 := a1) (a2 := a2) pa2 pe
  have e2 : mu (mu M (w + 1) (M w 6).toNatClampNeg a1) (w + 2) (M w 6).toNatClampNeg a2 w 6 = M w 6 := by rw [mu_ne (Or.inl (by omega)), e1]
  refine T_qlm ?_
  rw [e2, mu_at]
  have e4 : (M w 6 + 1).toInt = (M w 6).toInt + 1 := i_add rfl l_1 (by omega) (by omega)
  have e6 : M w 6 + 1 - 1 = M w 6 := Int32.toInt_inj.mp (by rw [i_sub e4 l_1 (by omega) (by omega)]; omega)
  rw [e6, ei]
  rw [ei] at hG2
  refine T_ret ⟨hlen, ⟨?_, ?_⟩, ?_, fun c q1 q2 q3 => ?_, fun s hs => ?_, G_lw hw hG2 (fun _ => by rw [e4]; omega) (fun q => absurd q (by decide)) (Or.inl rfl)⟩
  · rw [mu_at, e4, hlen, List.length_append, List.length_singleton]; omega
  · refine Fn_app hC.2 (fun k hk => ?_) ?_
    · show enc _ _ = enc _ _
      rw [mu_ne (Or.inl (by omega)), mu_ne (Or.inl (by omega)), mu_ne (Or.inr (by omega)), mu_ne (Or.inl (by omega)), mu_ne (Or.inr (by omega)), mu_ne (Or.inl (by omega))]
    · show enc _ _ = enc _ _
      rw [mu_ne (Or.inl (by omega)), mu_ne (Or.inl (by omega)), mu_at, mu_ne (Or.inl (by omega)), mu_at]
  · rw [mu_ne (Or.inl (by omega)), mu_ne (Or.inl (by omega)), mu_at]
  · rw [mu_nc q1, mu_nc q3, mu_nc q2]
  · rw [mu_ne (Or.inr hs), mu_ne (Or.inl (by omega)), mu_ne (Or.inl (by omega))]
theorem w_skip {n : Nat} {w : Nat} (hw : q_isLaw w) {C : List Int} {j : Nat} {k : Int} (a1 : Int32) (M : qM) (hG : G M) (hC : CR w M C) (ha : a1.toInt = (j : Int)) (hj : j + 1 < C.length) (h240 : (C.length : Int) ≤ 240) (hop : ((M (w + 1) j).toInt = 3 ∧ k = 11) ∨ ((M (w + 1) j).toInt = 4 ∧ k = 12)) : qT (f_X3_skipToHere n w a1 M) (fun v m => (C.getD j 0 / 1048576 = k ∧ CR w m (C.set j (1048576 * k + C.length))) ∧ (∀ c, c ≠ w + 2 → m c = M c) ∧ G m) := by
  have h6 := rw_0_6 hw hG
  have hlen := hC.1
  unfold f_X3_skipToHere
  refine T_lt rfl l_0 (fun c => by exfalso; omega) (fun c => ?_)
  refine T_le rfl rfl (fun d => by exfalso; omega) (fun d => ?_)
  refine T_qg rfl (by omega) (by omega) (T_qlm ?_)
  have ei : a1.toNatClampNeg = j := by rw [tnc, ha]; rfl
  rw [ei]
  have e4 : (M w 6 - 1).toInt = (M w 6).toInt - 1 := i_sub rfl l_1 (by omega) (by omega)
  have hG2 := G_law hw hG (s := j) (a1 := M (w + 1) j) (a2 := M w 6 - 1) (by rw [e4]; omega) (fun q => by omega)
  have e0 : mu M (w + 1) j (M (w + 1) j) = M := by
    funext c2 s2
    unfold mu
    by_cases q : c2 = w + 1 ∧ s2 = j
    · rw [if_pos q, q.1, q.2]
    · rw [if_neg q]
  rw [e0] at hG2
  have h2 := rw_2 hw hG j
  refine T_ret ⟨⟨?_, ?_, ?_⟩, fun c q => mu_nc q, hG2⟩
  · rw [List.getD_eq_getElem?_getD, hC.2 j (by omega)]
    show enc _ _ / 1048576 = k
    unfold enc
    rcases hop with ⟨o1, o2⟩ | ⟨o1, o2⟩
    · rw [o1, o2, if_neg (by decide), if_neg (by decide), if_neg (by decide), if_pos rfl]
      by_cases q : (M (w + 2) j).toInt = 0
      · rw [if_pos q]; omega
      · rw [if_neg q]; omega
    · rw [o1, o2, if_neg (by decide), if_neg (by decide), if_neg (by decide), if_neg (by decide), if_pos rfl]
      by_cases q : (M (w + 2) j).toInt = 0
      · rw [if_pos q]; omega
      · rw [if_neg q]; omega
  · rw [mu_ne (Or.inl (by omega)), List.length_set]; exact hlen
  · refine Fn_set hC.2 (by omega) (fun i hi hij => ?_) ?_
    · show enc _ _ = enc _ _
      rw [mu_ne (Or.inl (by omega)), mu_ne (Or.inr hij)]
    · show enc _ _ = _
      rw [mu_ne (Or.inl (by omega)), mu_at, e4, hlen]
      unfold enc
      rcases hop with ⟨o1, o2⟩ | ⟨o1, o2⟩
      · rw [o1, o2, if_neg (by decide), if_neg (by decide), if_neg (by decide), if_pos rfl, if_neg (by omega)]; omega
      · rw [o1, o2, if_neg (by decide), if_neg (by decide), if_neg (by decide), if_neg (by decide), if_pos rfl, if_neg (by omega)]; omega
