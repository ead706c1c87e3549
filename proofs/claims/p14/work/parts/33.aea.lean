/-! LAWS: a small machine that both readers follow. A state: (what is due, place, which sum, codes so far, what waits).
 due: 0 a factor, 1 behind a factor, 2 a piece, 3 behind a piece, 4 a fault (its number in the place), 5 the clause's sum is read, 6 the condition is read.
 which sum: 0 the clause's, 1 the left one of a comparison, 7 to 9 the right one -/
abbrev Lc : Type := Nat × Int × Int × List Int × List (Int × Int)
def zF (k w : Int) : Lc := (4, -1000 * k - w, 0, [], [])
def opn : List (Int × Int) → Int
  | [] => 0
  | q :: r => opn r + (if q.1 = 10 ∨ q.1 = 13 ∨ q.1 = 14 then 1 else 0)
/-- the sign of a sum, the model's number of it; -1: none -/
def sg (x : Int) : Int := if x = 43 then 2 else if x = 45 then 3 else if x = 42 then 4 else if x = 47 then 5 else if x = 37 then 6 else -1
def cp (x : Int) : Int := if x = 60 then 7 else if x = 62 then 8 else if x = 61 then 9 else -1
def fa (x : Int) : Int := if x = 107 then 0 else if x = 104 then 1 else if x = 120 then 2 else if x = 106 then 3 else if x = 121 then 4 else if x = 109 then 5 else if x = 100 then 6 else if x = 112 then 7 else if x = 113 then 8 else if x = 110 then 9 else if x = 111 then 10 else if x = 119 then 11 else -1
def nv (T : Int → Int) (pl : Int) : Nat → Int
  | 0 => 0
  | j + 1 => 10 * nv T pl j + dq (T (pl + j))
/-- how many digits stand from a place on, 6 for more than 5 -/
def nl (T : Int → Int) (pl : Int) : Nat := if dq (T pl) < 0 then 0 else if dq (T (pl + 1)) < 0 then 1 else if dq (T (pl + 2)) < 0 then 2 else if dq (T (pl + 3)) < 0 then 3 else if dq (T (pl + 4)) < 0 then 4 else if dq (T (pl + 5)) < 0 then 5 else 6
def zO (pl ph : Int) (k : Int) (C : List Int) (W : List (Int × Int)) (t : Nat) : Lc := if opn W = 6 then zF 5 pl else (t, pl + 1, ph, C, (k, 0) :: W)
def zA (T : Int → Int) (pl ph : Int) (C : List Int) (W : List (Int × Int)) : Lc :=
  if T pl = 91 then zO pl ph 14 C W 0
  else if 0 ≤ dq (T pl) then (if nl T pl = 6 then zF 2 (pl + 5) else (1, pl + nl T pl, ph, C ++ [nv T pl (nl T pl)], W))
  else if fa (T pl) = -1 then zF 1 pl else (1, pl + 1, ph, C ++ [1048576 + fa (T pl)], W)
/-- a sum has come to its end -/
def zE (T : Int → Int) (pl ph : Int) (C : List Int) (W : List (Int × Int)) : Lc :=
  if ph = 0 then (5, pl, 0, C, W) else if ph = 1 then (if cp (T pl) = -1 then zF 1 pl else (0, pl + 1, cp (T pl), C, W)) else (3, pl, 0, C ++ [1048576 * ph], W)
def zG (T : Int → Int) (pl ph : Int) (C : List Int) (W : List (Int × Int)) (top : Int) (W' : List (Int × Int)) : Lc :=
  if 0 ≤ sg (T pl) then (0, pl + 1, ph, C, (sg (T pl), 0) :: W) else if top = 14 then (if T pl = 93 then (1, pl + 1, ph, C, W') else zF 1 pl) else zE T pl ph C W
def zB (T : Int → Int) (pl ph : Int) (C : List Int) : List (Int × Int) → Lc
  | [] => zG T pl ph C [] (-1) []
  | q :: r => if 4 ≤ q.1 ∧ q.1 ≤ 6 then (1, pl, ph, C ++ [1048576 * q.1], r) else if (2 ≤ q.1 ∧ q.1 ≤ 3) ∧ ¬ (4 ≤ sg (T pl)) then (1, pl, ph, C ++ [1048576 * q.1], r) else zG T pl ph C (q :: r) q.1 r
def zC (T : Int → Int) (pl : Int) (C : List Int) (W : List (Int × Int)) : Lc := if T pl = 33 then zO pl 0 10 C W 2 else if T pl = 40 then zO pl 0 13 C W 2 else (0, pl, 1, C, W)
def zH (T : Int → Int) (pl : Int) (C : List Int) (W : List (Int × Int)) (top : Int) (W' : List (Int × Int)) : Lc :=
  if T pl = 41 ∧ top = 13 then (if W' = [] then (6, pl + 1, 0, C, []) else (3, pl + 1, 0, C, W')) else if T pl = 38 then (2, pl + 1, 0, C ++ [1048576 * 11], (11, (C.length : Int)) :: W) else if T pl = 124 then (2, pl + 1, 0, C ++ [1048576 * 12], (12, (C.length : Int)) :: W) else zF 1 pl
def zD (T : Int → Int) (pl : Int) (C : List Int) : List (Int × Int) → Lc
  | [] => zF 1 pl
  | q :: r => if q.1 = 10 then (3, pl, 0, C ++ [1048576 * 10], r) else if q.1 = 11 then (3, pl, 0, C.set q.2.toNat (1048576 * (C.getD q.2.toNat 0 / 1048576) + C.length), r) else if q.1 = 12 ∧ T pl ≠ 38 then (3, pl, 0, C.set q.2.toNat (1048576 * (C.getD q.2.toNat 0 / 1048576) + C.length), r) else zH T pl C (q :: r) q.1 r
def zS (T : Int → Int) (c : Lc) : Lc := if c.1 = 0 then zA T c.2.1 c.2.2.1 c.2.2.2.1 c.2.2.2.2 else if c.1 = 1 then zB T c.2.1 c.2.2.1 c.2.2.2.1 c.2.2.2.2 else if c.1 = 2 then zC T c.2.1 c.2.2.2.1 c.2.2.2.2 else if c.1 = 3 then zD T c.2.1 c.2.2.2.1 c.2.2.2.2 else c
def zI (T : Int → Int) : Nat → Lc → Lc
  | 0, c => c
  | n + 1, c => zI T n (zS T c)
theorem zI_add {T : Int → Int} : ∀ (n m : Nat) (c : Lc), zI T (n + m) c = zI T m (zI T n c) := by
  intro n
  induction n with
  | zero => intro m c; rw [Nat.zero_add]; rfl
  | succ n ih =>
    intro m c
    rw [show n + 1 + m = (n + m) + 1 by omega]
    show zI T (n + m) (zS T c) = _
    rw [ih]
    rfl
def Lo (T : Int → Int) (c c' : Lc) : Prop := ∃ n, zI T n c = c'
theorem Lo_rf {T : Int → Int} {c : Lc} : Lo T c c := ⟨0, rfl⟩
theorem Lo_tr {T : Int → Int} {c d e : Lc} (h : Lo T c d) (k : Lo T d e) : Lo T c e := by
  obtain ⟨n, rfl⟩ := h
  obtain ⟨m, rfl⟩ := k
  exact ⟨n + m, zI_add n m c⟩
theorem Lo_st {T : Int → Int} {c d : Lc} (h : zS T c = d) : Lo T c d := ⟨1, h⟩
theorem zI_fix {T : Int → Int} {c : Lc} (h : zS T c = c) : ∀ n, zI T n c = c := by
  intro n
  induction n with
  | zero => rfl
  | succ n ih =>
    show zI T n (zS T c) = c
    rw [h]; exact ih
theorem Lo_det {T : Int → Int} {c d e : Lc} (h : Lo T c d) (k : Lo T c e) (h1 : zS T d = d) (k1 : zS T e = e) : d = e := by
  obtain ⟨n, hn⟩ := h
  obtain ⟨m, hm⟩ := k
  by_cases q : n ≤ m
  · obtain ⟨j, rfl⟩ : ∃ j, m = n + j := ⟨m - n, by omega⟩
    rw [zI_add, hn, zI_fix h1] at hm
    exact hm
  · obtain ⟨j, rfl⟩ : ∃ j, n = m + j := ⟨n - m, by omega⟩
    rw [zI_add, hm, zI_fix k1] at hn
    exact hn.symm
theorem ls_A {T : Int → Int} {pl ph : Int} {C : List Int} {W : List (Int × Int)} : zS T (0, pl, ph, C, W) = zA T pl ph C W := rfl
theorem ls_B {T : Int → Int} {pl ph : Int} {C : List Int} {W : List (Int × Int)} : zS T (1, pl, ph, C, W) = zB T pl ph C W := rfl
theorem ls_C {T : Int → Int} {pl ph : Int} {C : List Int} {W : List (Int × Int)} : zS T (2, pl, ph, C, W) = zC T pl C W := rfl
theorem ls_D {T : Int → Int} {pl ph : Int} {C : List Int} {W : List (Int × Int)} : zS T (3, pl, ph, C, W) = zD T pl C W := rfl
theorem ls_4 {T : Int → Int} {pl ph : Int} {C : List Int} {W : List (Int × Int)} : zS T (4, pl, ph, C, W) = (4, pl, ph, C, W) := rfl
theorem ls_5 {T : Int → Int} {pl ph : Int} {C : List Int} {W : List (Int × Int)} : zS T (5, pl, ph, C, W) = (5, pl, ph, C, W) := rfl
theorem ls_6 {T : Int → Int} {pl ph : Int} {C : List Int} {W : List (Int × Int)} : zS T (6, pl, ph, C, W) = (6, pl, ph, C, W) := rfl
theorem zB_c {T : Int → Int} {pl ph : Int} {C : List Int} {q : Int × Int} {r : List (Int × Int)} : zB T pl ph C (q :: r) = (if 4 ≤ q.1 ∧ q.1 ≤ 6 then (1, pl, ph, C ++ [1048576 * q.1], r) else if (2 ≤ q.1 ∧ q.1 ≤ 3) ∧ ¬ (4 ≤ sg (T pl)) then (1, pl, ph, C ++ [1048576 * q.1], r) else zG T pl ph C (q :: r) q.1 r) := rfl
theorem zD_c {T : Int → Int} {pl : Int} {C : List Int} {q : Int × Int} {r : List (Int × Int)} : zD T pl C (q :: r) = (if q.1 = 10 then (3, pl, 0, C ++ [1048576 * 10], r) else if q.1 = 11 then (3, pl, 0, C.set q.2.toNat (1048576 * (C.getD q.2.toNat 0 / 1048576) + C.length), r) else if q.1 = 12 ∧ T pl ≠ 38 then (3, pl, 0, C.set q.2.toNat (1048576 * (C.getD q.2.toNat 0 / 1048576) + C.length), r) else zH T pl C (q :: r) q.1 r) := rfl
/-! the Java side's reader of laws follows the small machine: codes as a list -/
def Fn (f : Nat → Int) (C : List Int) : Prop := ∀ k, k < C.length → C[k]? = some (f k)
theorem Fn_nil {f : Nat → Int} : Fn f [] := fun k hk => absurd hk (by simp)
theorem Fn_app {f g : Nat → Int} {C : List Int} {x : Int} (h : Fn f C) (h1 : ∀ k, k < C.length → g k = f k) (h2 : g C.length = x) : Fn g (C ++ [x]) := by
  intro k hk
  rw [List.length_append, List.length_singleton] at hk
  by_cases q : k < C.length
  · rw [List.getElem?_append_left q, h k q, h1 k q]
  · have e : k = C.length := by omega
    subst e
    rw [List.getElem?_append_right (Nat.le_refl _), Nat.sub_self, h2]
    rfl
theorem Fn_set {f g : Nat → Int} {C : List Int} {j : Nat} {x : Int} (h : Fn f C) (hj : j < C.length) (h1 : ∀ k, k < C.length → k ≠ j → g k = f k) (h2 : g j = x) : Fn g (C.set j x) := by
  intro k hk
  rw [List.length_set] at hk
  by_cases q : k = j
  · subst q
    rw [List.getElem?_set_self hk, h2]
  · rw [List.getElem?_set_ne (fun e => q e.symm), h k hk, h1 k hk q]
theorem Fn_cg {f g : Nat → Int} {C : List Int} (h : Fn f C) (h1 : ∀ k, k < C.length → g k = f k) : Fn g C := fun k hk => by rw [h k hk, h1 k hk]
/-- a code of the Java side as the model's number -/
def enc (o a : Int) : Int := if o = 0 then a else if o = 1 then 1048576 + a else if o = 2 then 1048576 * 10 else if o = 3 then (if a = 0 then 1048576 * 11 else 1048576 * 11 + (a + 1)) else if o = 4 then (if a = 0 then 1048576 * 12 else 1048576 * 12 + (a + 1)) else if 0 ≤ sg o then 1048576 * sg o else 1048576 * cp o
abbrev eC (w : Nat) (M : qM) (k : Nat) : Int := enc (M (w + 1) k).toInt (M (w + 2) k).toInt
abbrev CR (w : Nat) (M : qM) (C : List Int) : Prop := (M w 6).toInt = (C.length : Int) ∧ Fn (eC w M) C
abbrev lW : List Bx := [(1, 2, 3, 5), (37, 53, 0, 0)]
theorem T_both {E : qR} {P Q : Int32 → qM → Prop} (h : qT E P) (k : qT E Q) : qT E (fun v m => P v m ∧ Q v m) := by
  obtain ⟨v, m, e, p⟩ := h
  obtain ⟨v2, m2, e2, q⟩ := k
  rw [e] at e2
  cases e2
  exact ⟨v, m, e, p, q⟩
theorem w_add {n : Nat} {w : Nat} (hw : q_isLaw w) {C : List Int} (a1 a2 : Int32) (M : qM) (hG : G M) (hC : CR w M C) (hlt : (C.length : Int) < 240) (pa2 : 0 ≤ a2.toInt ∧ a2.toInt ≤ 1000000) (pe : a1.toInt = 1 → a2.toInt ≤ 11) : qT (f_X3_add n w a1 a2 M) (fun v m => v.toInt = (C.length : Int) ∧ CR w m (C ++ [enc a1.toInt a2.toInt]) ∧ (m (w + 1) C.length).toInt = a1.toInt ∧ (∀ c, c ≠ w → c ≠ w + 1 → c ≠ w + 2 → m c = M c) ∧ (∀ s, s ≠ 6 → m w s = M w s) ∧ G m) := by
  have h6 := rw_0_6 hw hG
  have hlen := hC.1
  have ei : (M w 6).toNatClampNeg = C.length := by rw [tnc, hlen]; rfl
  unfold f_X3_add
  refine T_le l_240 rfl (fun c => by exfalso; omega) (fun c => ?_)
  refine T_qg rfl (by omega) (by omega) (T_qlm ?_)
  have e1 : mu M (w + 1) (M w 6).toNatClampNeg a1 w 6 = M w 6 := mu_ne (Or.inl (by omega))
  rw [e1]
  refine T_qg rfl (by omega) (by omega) (T_qlm ?_)
  have hG2 := G_law hw hG (s := (M w 6).toNatClampNeg) (a1 := a1) (a2 := a2) pa2 pe
  have e2 : mu (mu M (w + 1) (M w 6).toNatClampNeg a1) (w + 2) (M w 6).toNatClampNeg a2 w 6 = M w 6 := by rw [mu_ne (Or.inl (by omega)), e1]
  refine T_qlm ?_
  rw [e2, mu_at]
  have e4 : (M w 6 + 1).toInt = (M w 6).toInt + 1 := i_add rfl l_1 (by omega) (by omega)
  have e6 : M w 6 + 1 - 1 = M w 6 := Int32.toInt_inj.mp (by rw [i_sub e4 l_1 (by omega) (by omega)]; omega)
  rw [e6, ei]
  rw [ei] at hG2
  refine T_ret ⟨hlen, ⟨?_, ?_⟩, ?_, fun c q1 q2 q3 => ?_, fun s hs => ?_, G_lw hw hG2 (fun _ => by rw [e4]; omega) (fun q => absurd q (by decide)) (Or.inl rfl)⟩
  · rw [mu_at, e4, hlen, List.length_append, List.length_singleton]; omega
  · refine Fn_app hC.2 (fun k hk => ?_) ?_
    · show enc _ _ = enc _ _
      rw [mu_ne (Or.inl (by omega)), mu_ne (Or.inl (by omega)), mu_ne (Or.inr (by omega)), mu_ne (Or.inl (by omega)), mu_ne (Or.inr (by omega)), mu_ne (Or.inl (by omega))]
    · show enc _ _ = enc _ _
      rw [mu_ne (Or.inl (by omega)), mu_ne (Or.inl (by omega)), mu_at, mu_ne (Or.inl (by omega)), mu_at]
  · rw [mu_ne (Or.inl (by omega)), mu_ne (Or.inl (by omega)), mu_at]
  · rw [mu_nc q1, mu_nc q3, mu_nc q2]
  · rw [mu_ne (Or.inr hs), mu_ne (Or.inl (by omega)), mu_ne (Or.inl (by omega))]
theorem w_skip {n : Nat} {w : Nat} (hw : q_isLaw w) {C : List Int} {j : Nat} {k : Int} (a1 : Int32) (M : qM) (hG : G M) (hC : CR w M C) (ha : a1.toInt = (j : Int)) (hj : j + 1 < C.length) (h240 : (C.length : Int) ≤ 240) (hop : ((M (w + 1) j).toInt = 3 ∧ k = 11) ∨ ((M (w + 1) j).toInt = 4 ∧ k = 12)) : qT (f_X3_skipToHere n w a1 M) (fun v m => (C.getD j 0 / 1048576 = k ∧ CR w m (C.set j (1048576 * k + C.length))) ∧ (∀ c, c ≠ w + 2 → m c = M c) ∧ G m) := by
  have h6 := rw_0_6 hw hG
  have hlen := hC.1
  unfold f_X3_skipToHere
  refine T_lt rfl l_0 (fun c => by exfalso; omega) (fun c => ?_)
  refine T_le rfl rfl (fun d => by exfalso; omega) (fun d => ?_)
  refine T_qg rfl (by omega) (by omega) (T_qlm ?_)
  have ei : a1.toNatClampNeg = j := by rw [tnc, ha]; rfl
  rw [ei]
  have e4 : (M w 6 - 1).toInt = (M w 6).toInt - 1 := i_sub rfl l_1 (by omega) (by omega)
  have hG2 := G_law hw hG (s := j) (a1 := M (w + 1) j) (a2 := M w 6 - 1) (by rw [e4]; omega) (fun q => by omega)
  have e0 : mu M (w + 1) j (M (w + 1) j) = M := by
    funext c2 s2
    unfold mu
    by_cases q : c2 = w + 1 ∧ s2 = j
    · rw [if_pos q, q.1, q.2]
    · rw [if_neg q]
  rw [e0] at hG2
  have h2 := rw_2 hw hG j
  refine T_ret ⟨⟨?_, ?_, ?_⟩, fun c q => mu_nc q, hG2⟩
  · rw [List.getD_eq_getElem?_getD, hC.2 j (by omega)]
    show enc _ _ / 1048576 = k
    unfold enc
    rcases hop with ⟨o1, o2⟩ | ⟨o1, o2⟩
    · rw [o1, o2, if_neg (by decide), if_neg (by decide), if_neg (by decide), if_pos rfl]
      by_cases q : (M (w + 2) j).toInt = 0
      · rw [if_pos q]; omega
      · rw [if_neg q]; omega
    · rw [o1, o2, if_neg (by decide), if_neg (by decide), if_neg (by decide), if_neg (by decide), if_pos rfl]
      by_cases q : (M (w + 2) j).toInt = 0
      · rw [if_pos q]; omega
      · rw [if_neg q]; omega
  · rw [mu_ne (Or.inl (by omega)), List.length_set]; exact hlen
  · refine Fn_set hC.2 (by omega) (fun i hi hij => ?_) ?_
    · show enc _ _ = enc _ _
      rw [mu_ne (Or.inl (by omega)), mu_ne (Or.inr hij)]
    · show enc _ _ = _
      rw [mu_ne (Or.inl (by omega)), mu_at, e4, hlen]
      unfold enc
      rcases hop with ⟨o1, o2⟩ | ⟨o1, o2⟩
      · rw [o1, o2, if_neg (by decide), if_neg (by decide), if_neg (by decide), if_pos rfl, if_neg (by omega)]; omega
      · rw [o1, o2, if_neg (by decide), if_neg (by decide), if_neg (by decide), if_neg (by decide), if_pos rfl, if_neg (by omega)]; omega
/-- what a part of the Java side's reader says: from c the small machine comes to a state with what was read, or to the fault -/
abbrev Lz (R : Nat → Int32) (len : Int) (r : Nat) (c : Lc) (pl : Int) (C : List Int) (t : Nat) (ph : Int) (W : List (Int × Int)) (E : Int → Prop) (v : Int32) (m : qM) : Prop := (Cx R len m ∧ G m) ∧ ((v.toInt = 0 ∧ Lo (tq R len) c (4, (m 1 4).toInt, 0, [], [])) ∨ (v.toInt = 1 ∧ ∃ C', Lo (tq R len) c (t, (m 1 3).toInt, ph, C', W) ∧ CR r m C' ∧ ((C'.length : Int) + pl ≤ (C.length : Int) + (m 1 3).toInt ∧ (C.length : Int) + 1 ≤ (C'.length : Int)) ∧ pl < (m 1 3).toInt ∧ (m 1 3).toInt ≤ len ∧ E (tq R len (m 1 3).toInt)))
abbrev Ly (R : Nat → Int32) (len : Int) (r : Nat) (C : List Int) (M : qM) : Prop := G M ∧ Cx R len M ∧ CR r M C ∧ (C.length : Int) ≤ (M 1 3).toInt ∧ (M 1 3).toInt ≤ len
theorem CR_1 {r : Nat} (hr : q_isLaw r) {M m : qM} {C : List Int} (h : CR r M C) (e : ∀ c, c ≠ 1 → m c = M c) : CR r m C := by
  have h1 : r ≠ 1 := by rcases hr with rfl | rfl <;> decide
  have h2 : r + 1 ≠ 1 := by rcases hr with rfl | rfl <;> decide
  have h3 : r + 2 ≠ 1 := by rcases hr with rfl | rfl <;> decide
  refine ⟨by rw [e r h1]; exact h.1, Fn_cg h.2 (fun k _ => ?_)⟩
  show enc _ _ = enc _ _
  rw [e _ h2, e _ h3]
theorem nr {r : Nat} (hr : q_isLaw r) : (1 ≠ r ∧ 1 ≠ r + 1 ∧ 1 ≠ r + 2) ∧ (2 ≠ r ∧ 2 ≠ r + 1 ∧ 2 ≠ r + 2) := by rcases hr with rfl | rfl <;> decide
/-- a place further on -/
theorem w_pl {M : qM} {f : qM → qR} {Q : Int32 → qM → Prop} (hG : G M) (hlt : (M 1 3).toInt < 240) (h : ∀ m : qM, (m 1 3).toInt = (M 1 3).toInt + 1 → (∀ s2, s2 ≠ 3 → m 1 s2 = M 1 s2) → (∀ c, c ≠ 1 → m c = M c) → G m → qT (f m) Q) : qT (qlm (mu M 1 3 (M 1 3 + 1)) f) Q := by
  have h13 := r_1_3 hG
  have ep : (M 1 3 + 1).toInt = (M 1 3).toInt + 1 := i_add rfl l_1 (by omega) (by omega)
  exact h _ (by rw [mu_at]; exact ep) (fun s2 h2 => mu_ne (Or.inr h2)) (fun c hc => mu_nc hc) (G_mu hG (i_rng (lo := 0) (hi := 240) ep (by omega) (by omega)) (nw_1 _))
theorem w_fails {n : Nat} (a b : Int32) (M : qM) (hG : G M) (ha : 1 ≤ a.toInt ∧ a.toInt ≤ 6) (hb : 0 ≤ b.toInt ∧ b.toInt ≤ 240) : qT (f_X9_fails n a b M) (fun v m => v.toInt = 0 ∧ (m 1 4).toInt = -1000 * a.toInt - b.toInt ∧ (∀ s2, s2 ≠ 4 → m 1 s2 = M 1 s2) ∧ (∀ c, c ≠ 1 → m c = M c) ∧ G m) :=
  T_mono (u_fails (M0 := M) a b M hG Sm.rf ha hb) (fun _ _ p => ⟨p.1, p.2.1, p.2.2.1, p.2.2.2.1, p.2.2.2.2.1⟩)
/-- the numbers -/
theorem nl_j {T : Int → Int} {pl : Int} {j : Nat} (h : ∀ i : Nat, i < j → 0 ≤ dq (T (pl + i))) (hj : j ≤ 5) (hn : dq (T (pl + j)) < 0) : nl T pl = j := by
  have e : ∀ k : Nat, k < j → 0 ≤ dq (T (pl + (k : Int))) := h
  have h0 : (T (pl + ((0 : Nat) : Int))) = T pl := by rw [show pl + ((0 : Nat) : Int) = pl by omega]
  unfold nl
  rcases (show j = 0 ∨ j = 1 ∨ j = 2 ∨ j = 3 ∨ j = 4 ∨ j = 5 by omega) with rfl | rfl | rfl | rfl | rfl | rfl
  · rw [h0] at hn; rw [if_pos hn]
  · have a0 := e 0 (by decide); rw [h0] at a0
    rw [if_neg (by omega), if_pos (show dq (T (pl + 1)) < 0 from hn)]
  · have a0 := e 0 (by decide); rw [h0] at a0
    have a1 := e 1 (by decide)
    rw [if_neg (by omega), if_neg (show ¬ dq (T (pl + 1)) < 0 from by have : pl + 1 = pl + ((1 : Nat) : Int) := rfl; rw [this]; omega), if_pos (show dq (T (pl + 2)) < 0 from hn)]
  · have a0 := e 0 (by decide); rw [h0] at a0
    have a1 : 0 ≤ dq (T (pl + 1)) := e 1 (by decide)
    have a2 : 0 ≤ dq (T (pl + 2)) := e 2 (by decide)
    rw [if_neg (by omega), if_neg (by omega), if_neg (by omega), if_pos (show dq (T (pl + 3)) < 0 from hn)]
  · have a0 := e 0 (by decide); rw [h0] at a0
    have a1 : 0 ≤ dq (T (pl + 1)) := e 1 (by decide)
    have a2 : 0 ≤ dq (T (pl + 2)) := e 2 (by decide)
    have a3 : 0 ≤ dq (T (pl + 3)) := e 3 (by decide)
    rw [if_neg (by omega), if_neg (by omega), if_neg (by omega), if_neg (by omega), if_pos (show dq (T (pl + 4)) < 0 from hn)]
  · have a0 := e 0 (by decide); rw [h0] at a0
    have a1 : 0 ≤ dq (T (pl + 1)) := e 1 (by decide)
    have a2 : 0 ≤ dq (T (pl + 2)) := e 2 (by decide)
    have a3 : 0 ≤ dq (T (pl + 3)) := e 3 (by decide)
    have a4 : 0 ≤ dq (T (pl + 4)) := e 4 (by decide)
    rw [if_neg (by omega), if_neg (by omega), if_neg (by omega), if_neg (by omega), if_neg (by omega), if_pos (show dq (T (pl + 5)) < 0 from hn)]
theorem nl_6 {T : Int → Int} {pl : Int} (h : ∀ i : Nat, i < 6 → 0 ≤ dq (T (pl + i))) : nl T pl = 6 := by
  have a0 : 0 ≤ dq (T pl) := by have := h 0 (by decide); rw [show pl + ((0 : Nat) : Int) = pl by omega] at this; exact this
  have a1 : 0 ≤ dq (T (pl + 1)) := h 1 (by decide)
  have a2 : 0 ≤ dq (T (pl + 2)) := h 2 (by decide)
  have a3 : 0 ≤ dq (T (pl + 3)) := h 3 (by decide)
  have a4 : 0 ≤ dq (T (pl + 4)) := h 4 (by decide)
  have a5 : 0 ≤ dq (T (pl + 5)) := h 5 (by decide)
  unfold nl
  rw [if_neg (by omega), if_neg (by omega), if_neg (by omega), if_neg (by omega), if_neg (by omega), if_neg (by omega)]
theorem w_num52 {n : Nat} (hn : 200000 ≤ n) {r : Nat} (hr : q_isLaw r) {R : Nat → Int32} {len pl ph : Int} {C : List Int} {W : List (Int × Int)} (hl : len ≤ 240) (h0 : 0 ≤ pl) (h91 : tq R len pl ≠ 91) (hC0 : (C.length : Int) ≤ pl) {j : Nat} (h1j : 1 ≤ j) (h5j : j ≤ 5) (hj : ∀ i : Nat, i < j → 0 ≤ dq (tq R len (pl + i))) (a1 : Int32) (M : qM) (hG : G M) (hX : Cx R len M) (hC : CR r M C) (hp : (M 1 3).toInt = pl + j) (hpl : (M 1 3).toInt ≤ len) (ha : a1.toInt = nv (tq R len) pl j) (hb : 0 ≤ a1.toInt ∧ a1.toInt ≤ 99999) (hend : dq (tq R len (pl + j)) < 0 ∨ j = 5) : qT (f_X4_readNumber_52 n r a1 M) (Lz R len r (0, pl, ph, C, W) pl C 1 ph W (fun _ => True)) := by
  have h13 := r_1_3 hG
  have d0 : 0 ≤ dq (tq R len pl) := by have := hj 0 (by omega); rw [show pl + ((0 : Nat) : Int) = pl by omega] at this; exact this
  have hdj := dq_r (tq R len (pl + j))
  unfold f_X4_readNumber_52
  refine T_qc (u_digit hn M hG) ?_
  rintro r1 m2 ⟨rfl, hr1⟩
  rw [hX.1, hX.2, hp] at hr1
  refine T_eq rfl l_m1 (fun c => ?_) (fun c => ?_)
  · have hnl : nl (tq R len) pl = j := nl_j hj h5j (by omega)
    refine T_qc (w_add hr (C := C) (0 : Int32) a1 m2 hG hC (by omega) (by omega) (fun q => absurd q (by decide))) ?_
    rintro r3 m4 ⟨q1, q2, q3, q4, q5, g4⟩
    obtain ⟨⟨n1, n2, n3⟩, n4, n5, n6⟩ := nr hr
    have e1 : m4 1 = m2 1 := q4 1 n1 n2 n3
    have e2 : m4 2 = m2 2 := q4 2 n4 n5 n6
    refine T_ret ⟨⟨⟨by rw [e2]; exact hX.1, by rw [e1]; exact hX.2⟩, g4⟩, Or.inr ⟨l_1, _, Lo_st ?_, q2, ?_, by rw [e1]; omega, by rw [e1]; exact hpl, trivial⟩⟩
    · rw [ls_A]
      unfold zA
      rw [if_neg h91, if_pos d0, hnl, if_neg (by omega), e1, hp]
      unfold enc
      rw [l_0, if_pos rfl, ha]
    · rw [List.length_append, List.length_singleton, e1]; omega
  · have h6 : nl (tq R len) pl = 6 := by
      refine nl_6 (fun i hi => ?_)
      by_cases q : i < j
      · exact hj i q
      · have : i = j := by omega
        rw [this]; omega
    have e5 : j = 5 := by omega
    refine T_qc (w_fails (2 : Int32) (m2 1 3) m2 hG (by decide) h13) ?_
    rintro r5 m6 ⟨w0, w1, w2, w3, g6⟩
    rw [l_2] at w1
    refine T_qb rfl (by omega) (by omega) (T_ret ⟨⟨⟨by rw [w3 2 (by decide)]; exact hX.1, by rw [w2 2 (by decide)]; exact hX.2⟩, g6⟩, Or.inl ⟨w0, Lo_st ?_⟩⟩)
    rw [ls_A]
    unfold zA
    rw [if_neg h91, if_pos d0, if_pos h6]
    unfold zF
    rw [w1, hp, e5]
    rfl
theorem w_num4 {n : Nat} (hn : 200000 ≤ n) {r : Nat} (hr : q_isLaw r) {R : Nat → Int32} {len pl ph : Int} {C : List Int} {W : List (Int × Int)} (hl : len ≤ 240) (h0 : 0 ≤ pl) (h91 : tq R len pl ≠ 91) (hd0 : 0 ≤ dq (tq R len pl)) (hC0 : (C.length : Int) ≤ pl) : ∀ (m j : Nat) (a1 a2 : Int32) (M : qM), G M → Cx R len M → CR r M C → (M 1 3).toInt = pl + j → (M 1 3).toInt ≤ len → a2.toInt = (j : Int) → a1.toInt = nv (tq R len) pl j → 0 ≤ a1.toInt → ((j = 0 ∧ a1.toInt ≤ 0) ∨ (j = 1 ∧ a1.toInt ≤ 9) ∨ (j = 2 ∧ a1.toInt ≤ 99) ∨ (j = 3 ∧ a1.toInt ≤ 999) ∨ (j = 4 ∧ a1.toInt ≤ 9999) ∨ (j = 5 ∧ a1.toInt ≤ 99999)) → (∀ i : Nat, i < j → 0 ≤ dq (tq R len (pl + i))) → 6 - j < m → qT (f_X4_readNumber_4 n r m a1 a2 M) (Lz R len r (0, pl, ph, C, W) pl C 1 ph W (fun _ => True)) := by
  intro m
  induction m with
  | zero => intro j a1 a2 M _ _ _ _ _ _ _ _ _ _ h; exfalso; omega
  | succ m ih =>
    intro j a1 a2 M hG hX hC hp hpl h2 ha hb0 hb hj hm
    have hdj := dq_r (tq R len (pl + j))
    have htj := tq_r R len (pl + j)
    show qT (b_X4_readNumber_4 n r (f_X4_readNumber_4 n r m) a1 a2 M) _
    unfold b_X4_readNumber_4
    refine T_le l_5 rfl (fun c => ?_) (fun c => ?_)
    · exact w_num52 hn hr hl h0 h91 hC0 (j := j) (by omega) (by omega) hj a1 M hG hX hC hp hpl ha (by omega) (Or.inr (by omega))
    · refine T_qc (u_digit hn M hG) ?_
      rintro r1 m2 ⟨rfl, hr1⟩
      rw [hX.1, hX.2, hp] at hr1
      refine T_eq rfl l_m1 (fun d => ?_) (fun d => ?_)
      · have hj1 : 1 ≤ j := by
          apply Classical.byContradiction
          intro q
          have : j = 0 := by omega
          subst this
          rw [show pl + ((0 : Nat) : Int) = pl by omega] at hr1
          omega
        exact w_num52 hn hr hl h0 h91 hC0 (j := j) hj1 (by omega) hj a1 m2 hG hX hC hp hpl ha (by omega) (Or.inl (by omega))
      · refine T_qc (u_digit hn m2 hG) ?_
        rintro r3 m4 ⟨rfl, hr3⟩
        rw [hX.1, hX.2, hp] at hr3
        refine T_ql (i_add (i_mul l_10 rfl (by omega) (by omega)) rfl (by omega) (by omega)) ?_
        intro x5 hx5
        refine w_pl hG (by omega) ?_
        intro m6 y1 y2 y3 g6
        refine T_ql (i_add rfl l_1 (by omega) (by omega)) ?_
        intro x7 hx7
        refine ih (j + 1) x5 x7 m6 g6 ⟨by rw [y3 2 (by decide)]; exact hX.1, by rw [y2 2 (by decide)]; exact hX.2⟩ (CR_1 hr hC y3) (by rw [y1, hp]; omega) (by omega) (by omega) ?_ (by omega) (by omega) (fun i hi => ?_) (by omega)
        · show x5.toInt = 10 * nv (tq R len) pl j + dq (tq R len (pl + j))
          rw [hx5, ha, hr3]
        · by_cases q : i < j
          · exact hj i q
          · have : i = j := by omega
            rw [this]; omega
def topS (W : List (Int × Int)) : Prop := ∀ q r, W = q :: r → ¬ (2 ≤ q.1 ∧ q.1 ≤ 6)
def topP (W : List (Int × Int)) : Prop := ∀ q r, W = q :: r → ¬ (4 ≤ q.1 ∧ q.1 ≤ 6)
theorem sg_r (x : Int) : (sg x = -1 ∧ x ≠ 43 ∧ x ≠ 45 ∧ x ≠ 42 ∧ x ≠ 47 ∧ x ≠ 37) ∨ (x = 43 ∧ sg x = 2) ∨ (x = 45 ∧ sg x = 3) ∨ (x = 42 ∧ sg x = 4) ∨ (x = 47 ∧ sg x = 5) ∨ (x = 37 ∧ sg x = 6) := by
  unfold sg
  by_cases h1 : x = 43
  · rw [if_pos h1]; omega
  · rw [if_neg h1]
    by_cases h2 : x = 45
    · rw [if_pos h2]; omega
    · rw [if_neg h2]
      by_cases h3 : x = 42
      · rw [if_pos h3]; omega
      · rw [if_neg h3]
        by_cases h4 : x = 47
        · rw [if_pos h4]; omega
        · rw [if_neg h4]
          by_cases h5 : x = 37
          · rw [if_pos h5]; omega
          · rw [if_neg h5]; omega
theorem cp_r (x : Int) : (cp x = -1 ∧ x ≠ 60 ∧ x ≠ 62 ∧ x ≠ 61) ∨ (x = 60 ∧ cp x = 7) ∨ (x = 62 ∧ cp x = 8) ∨ (x = 61 ∧ cp x = 9) := by
  unfold cp
  by_cases h1 : x = 60
  · rw [if_pos h1]; omega
  · rw [if_neg h1]
    by_cases h2 : x = 62
    · rw [if_pos h2]; omega
    · rw [if_neg h2]
      by_cases h3 : x = 61
      · rw [if_pos h3]; omega
      · rw [if_neg h3]; omega
theorem enc_s {o : Int} (h : 0 ≤ sg o) : enc o 0 = 1048576 * sg o := by
  have := sg_r o
  unfold enc
  rw [if_neg (by omega), if_neg (by omega), if_neg (by omega), if_neg (by omega), if_neg (by omega), if_pos h]
theorem enc_c {o : Int} (h : 0 ≤ cp o) : enc o 0 = 1048576 * cp o := by
  have h1 := cp_r o
  have h2 := sg_r o
  unfold enc
  rw [if_neg (by omega), if_neg (by omega), if_neg (by omega), if_neg (by omega), if_neg (by omega), if_neg (by omega)]
theorem fa_q : ∀ k : Nat, k < 12 → fa (q_let k).toInt = (k : Int) := by decide +kernel
theorem fa_n {x : Int} (h : ∀ k : Nat, k < 12 → (q_let k).toInt ≠ x) : fa x = -1 := by
  have a0 : x ≠ 107 := fun e => h 0 (by decide) (by rw [e]; decide)
  have a1 : x ≠ 104 := fun e => h 1 (by decide) (by rw [e]; decide)
  have a2 : x ≠ 120 := fun e => h 2 (by decide) (by rw [e]; decide)
  have a3 : x ≠ 106 := fun e => h 3 (by decide) (by rw [e]; decide)
  have a4 : x ≠ 121 := fun e => h 4 (by decide) (by rw [e]; decide)
  have a5 : x ≠ 109 := fun e => h 5 (by decide) (by rw [e]; decide)
  have a6 : x ≠ 100 := fun e => h 6 (by decide) (by rw [e]; decide)
  have a7 : x ≠ 112 := fun e => h 7 (by decide) (by rw [e]; decide)
  have a8 : x ≠ 113 := fun e => h 8 (by decide) (by rw [e]; decide)
  have a9 : x ≠ 110 := fun e => h 9 (by decide) (by rw [e]; decide)
  have b0 : x ≠ 111 := fun e => h 10 (by decide) (by rw [e]; decide)
  have b1 : x ≠ 119 := fun e => h 11 (by decide) (by rw [e]; decide)
  unfold fa
  rw [if_neg a0, if_neg a1, if_neg a2, if_neg a3, if_neg a4, if_neg a5, if_neg a6, if_neg a7, if_neg a8, if_neg a9, if_neg b0, if_neg b1]
theorem w_opens {n : Nat} (a : Int32) (M : qM) (hG : G M) (hlt : (M 1 3).toInt < 240) : qT (f_X4_opens n a M) (fun v m => ((v.toInt = 1 ∧ a.toInt < 6 ∧ (m 1 3).toInt = (M 1 3).toInt + 1) ∨ (v.toInt = 0 ∧ 6 ≤ a.toInt ∧ (m 1 4).toInt = -5000 - (M 1 3).toInt)) ∧ (∀ s2, s2 ≠ 3 → s2 ≠ 4 → m 1 s2 = M 1 s2) ∧ (∀ c, c ≠ 1 → m c = M c) ∧ G m) := by
  unfold f_X4_opens
  refine T_lt rfl l_6 (fun c => ?_) (fun c => ?_)
  · refine w_pl hG hlt ?_
    intro m y1 y2 y3 g
    exact T_ret ⟨Or.inl ⟨l_1, c, y1⟩, fun s2 q1 _ => y2 s2 q1, y3, g⟩
  · refine T_qc (w_fails (5 : Int32) (M 1 3) M hG (by decide) (r_1_3 hG)) ?_
    rintro r m ⟨w0, w1, w2, w3, g⟩
    rw [l_5] at w1
    exact T_qb rfl (by omega) (by omega) (T_ret ⟨Or.inr ⟨w0, c, by omega⟩, fun s2 _ q2 => w2 s2 q2, w3, g⟩)
theorem w_must {n : Nat} (hn : 200000 ≤ n) (a : Int32) (M : qM) (hG : G M) (ha : 0 ≤ a.toInt) : qT (f_X9_mustTake n a M) (fun v m => ((v.toInt = 1 ∧ tq (M 2) (M 1 2).toInt (M 1 3).toInt = a.toInt ∧ (M 1 3).toInt < (M 1 2).toInt ∧ (m 1 3).toInt = (M 1 3).toInt + 1) ∨ (v.toInt = 0 ∧ tq (M 2) (M 1 2).toInt (M 1 3).toInt ≠ a.toInt ∧ (m 1 4).toInt = -1000 - (M 1 3).toInt)) ∧ (∀ s2, s2 ≠ 3 → s2 ≠ 4 → m 1 s2 = M 1 s2) ∧ (∀ c, c ≠ 1 → m c = M c) ∧ G m) :=
  T_mono (u_must hn (M0 := M) a M hG Sm.rf ha) (fun _ _ p => ⟨p.1, p.2.1, p.2.2.1, p.2.2.2.1⟩)
theorem w_fac68 {n : Nat} (hn : 200000 ≤ n) {r : Nat} (hr : q_isLaw r) {F : Int32 → qM → qR} {R : Nat → Int32} {len ph : Int} {C : List Int} {W : List (Int × Int)} (hl : len ≤ 240) (M : qM) (hL : Ly R len r C M) (h91 : tq R len (M 1 3).toInt ≠ 91) (hd : dq (tq R len (M 1 3).toInt) < 0) (a2 : Int32) (h2 : a2.toInt = tq R len (M 1 3).toInt) : ∀ (m k : Nat) (a3 : Int32), a3.toInt = (k : Int) → k ≤ 12 → (∀ i : Nat, i < k → (q_let i).toInt ≠ tq R len (M 1 3).toInt) → 13 - k < m → qT (f_X4_readFactor_68 n r F m a2 a3 M) (Lz R len r (0, (M 1 3).toInt, ph, C, W) (M 1 3).toInt C 1 ph W (fun _ => True)) := by
  obtain ⟨hG, hX, hC, hcp, hpl⟩ := hL
  have h13 := r_1_3 hG
  have ht := tq_r R len (M 1 3).toInt
  intro m
  induction m with
  | zero => intro k a3 _ _ _ h; exfalso; omega
  | succ m ih =>
    intro k a3 h3 hk hno hm
    show qT (b_X4_readFactor_68 n r F (f_X4_readFactor_68 n r F m) a2 a3 M) _
    unfold b_X4_readFactor_68
    refine T_le l_12 rfl (fun c => ?_) (fun c => ?_)
    · have hfa := fa_n (x := tq R len (M 1 3).toInt) (fun i hi => hno i (by omega))
      refine T_qc (w_fails (1 : Int32) (M 1 3) M hG (by decide) h13) ?_
      rintro r5 m6 ⟨w0, w1, w2, w3, g6⟩
      rw [l_1] at w1
      refine T_qb rfl (by omega) (by omega) (T_ret ⟨⟨⟨by rw [w3 2 (by decide)]; exact hX.1, by rw [w2 2 (by decide)]; exact hX.2⟩, g6⟩, Or.inl ⟨w0, Lo_st ?_⟩⟩)
      rw [ls_A]
      unfold zA
      rw [if_neg h91, if_neg (by omega), if_pos hfa]
      unfold zF
      rw [w1]
    · refine T_qg rfl (by omega) (by omega) ?_
      have ei : a3.toNatClampNeg = k := by rw [tnc, h3]; rfl
      rw [ei]
      have hq := q_let_a k (by omega)
      refine T_eq rfl rfl (fun d => ?_) (fun d => ?_)
      · have hfa : fa (tq R len (M 1 3).toInt) = (k : Int) := by rw [← h2, ← d]; exact fa_q k (by omega)
        refine w_pl hG (by omega) ?_
        intro m4 y1 y2 y3 g4
        refine T_qc (w_add hr (C := C) (1 : Int32) a3 m4 g4 (CR_1 hr hC y3) (by omega) (by omega) (fun _ => by omega)) ?_
        rintro r5 m6 ⟨q1, q2, q3, q4, q5, g6⟩
        obtain ⟨⟨n1, n2, n3⟩, n4, n5, n6⟩ := nr hr
        have e1 : m6 1 = m4 1 := q4 1 n1 n2 n3
        have e2 : m6 2 = m4 2 := q4 2 n4 n5 n6
        refine T_ret ⟨⟨⟨by rw [e2, y3 2 (by decide)]; exact hX.1, by rw [e1, y2 2 (by decide)]; exact hX.2⟩, g6⟩, Or.inr ⟨l_1, _, Lo_st ?_, q2, ?_, by rw [e1]; omega, by rw [e1]; omega, trivial⟩⟩
        · rw [ls_A]
          unfold zA
          rw [if_neg h91, if_neg (by omega), if_neg (by omega), hfa, e1, y1]
          unfold enc
          rw [l_1, if_neg (by decide), if_pos rfl, h3]
        · rw [List.length_append, List.length_singleton, e1]; omega
      · refine T_ql (i_add rfl l_1 (by omega) (by omega)) ?_
        intro x hx
        refine ih (k + 1) x (by omega) (by omega) (fun i hi => ?_) (by omega)
        by_cases q : i = k
        · rw [q]; omega
        · exact hno i (by omega)
theorem w_factor {n : Nat} (hn : 200000 ≤ n) {r : Nat} (hr : q_isLaw r) {R : Nat → Int32} {len : Int} (hl : len ≤ 240) {F : Int32 → qM → qR} {B : Nat}
    (hF : ∀ (a1 : Int32) (M : qM) (C : List Int) (ph : Int) (W : List (Int × Int)), Ly R len r C M → opn W = a1.toInt → 0 ≤ a1.toInt ∧ a1.toInt ≤ 6 → topS W → 3 * (6 - a1.toInt) + 2 < (B : Int) → qT (F a1 M) (Lz R len r (0, (M 1 3).toInt, ph, C, W) (M 1 3).toInt C 1 ph W (fun x => sg x = -1)))
    (a1 : Int32) (M : qM) (C : List Int) (ph : Int) (W : List (Int × Int)) (hL : Ly R len r C M) (ho : opn W = a1.toInt) (ha : 0 ≤ a1.toInt ∧ a1.toInt ≤ 6) (hB : 3 * (6 - a1.toInt) < (B : Int) + 1) : qT (fo_X4_readFactor n r F a1 M) (Lz R len r (0, (M 1 3).toInt, ph, C, W) (M 1 3).toInt C 1 ph W (fun _ => True)) := by
  have hL2 := hL
  obtain ⟨hG, hX, hC, hcp, hpl⟩ := hL2
  have h13 := r_1_3 hG
  have ht := tq_r R len (M 1 3).toInt
  have hd := dq_r (tq R len (M 1 3).toInt)
  unfold fo_X4_readFactor
  refine T_qc (u_sign hn M hG) ?_
  rintro r1 m2 ⟨rfl, hr1⟩
  rw [hX.1, hX.2] at hr1
  refine T_eq rfl l_91 (fun c => ?_) (fun c => ?_)
  · have h91 : tq R len (m2 1 3).toInt = 91 := by omega
    refine T_qc (w_opens a1 m2 hG (by omega)) ?_
    rintro r7 m8 ⟨ho8, z2, z3, g8⟩
    have hX8 : Cx R len m8 := ⟨by rw [z3 2 (by decide)]; exact hX.1, by rw [z2 2 (by decide) (by decide)]; exact hX.2⟩
    refine T_eq rfl l_0 (fun d => ?_) (fun d => ?_)
    · refine T_ret ⟨⟨hX8, g8⟩, Or.inl ⟨l_0, Lo_st ?_⟩⟩
      rw [ls_A]
      unfold zA zO
      rw [if_pos h91, if_pos (by omega)]
      unfold zF
      have : (m8 1 4).toInt = -5000 - (m2 1 3).toInt := by omega
      rw [this]
      rfl
    · have e3 : (m8 1 3).toInt = (m2 1 3).toInt + 1 := by omega
      have hst : Lo (tq R len) (0, (m2 1 3).toInt, ph, C, W) (0, (m8 1 3).toInt, ph, C, (14, 0) :: W) := by
        refine Lo_st ?_
        rw [ls_A]
        unfold zA zO
        rw [if_pos h91, if_neg (by omega), e3]
      have ea : (a1 + 1).toInt = a1.toInt + 1 := i_add rfl l_1 (by omega) (by omega)
      refine T_qc (hF (a1 + 1) m8 C ph ((14, 0) :: W) ⟨g8, hX8, CR_1 hr hC z3, by omega, by omega⟩ (by show opn W + _ = _; rw [if_pos (Or.inr (Or.inr rfl)), ea, ho]) (by omega) (fun q q2 e => by cases e; decide) (by omega)) ?_
      rintro r9 m10 ⟨⟨hX10, g10⟩, ho10⟩
      refine T_eq rfl l_0 (fun e => ?_) (fun e => ?_)
      · rcases ho10 with ⟨q1, q2⟩ | ⟨q1, q2⟩
        · exact T_ret ⟨⟨hX10, g10⟩, Or.inl ⟨l_0, Lo_tr hst q2⟩⟩
        · omega
      · obtain ⟨q1, C', q2, q3, q4, q5, q6, q7⟩ := ho10.resolve_left (fun q => e q.1)
        clear ho10
        refine T_qc (w_must hn (93 : Int32) m10 g10 (by decide)) ?_
        rintro r11 m12 ⟨ho12, v2, v3, g12⟩
        rw [hX10.1, hX10.2, l_93] at ho12
        have hX12 : Cx R len m12 := ⟨by rw [v3 2 (by decide)]; exact hX10.1, by rw [v2 2 (by decide) (by decide)]; exact hX10.2⟩
        have hzB : zS (tq R len) (1, (m10 1 3).toInt, ph, C', (14, 0) :: W) = (if tq R len (m10 1 3).toInt = 93 then (1, (m10 1 3).toInt + 1, ph, C', W) else zF 1 (m10 1 3).toInt) := by
          rw [ls_B, zB_c]
          rw [if_neg (by decide), if_neg (fun q => absurd q.1 (by decide))]
          unfold zG
          rw [if_neg (by omega), if_pos rfl]
        refine T_eq rfl l_0 (fun f => ?_) (fun f => ?_)
        · refine T_ret ⟨⟨hX12, g12⟩, Or.inl ⟨l_0, Lo_tr hst (Lo_tr q2 (Lo_st ?_))⟩⟩
          rw [hzB, if_neg (by omega)]
          unfold zF
          have : (m12 1 4).toInt = -1000 - (m10 1 3).toInt := by omega
          rw [this]
          rfl
        · have e12 : (m12 1 3).toInt = (m10 1 3).toInt + 1 := by omega
          refine T_ret ⟨⟨hX12, g12⟩, Or.inr ⟨l_1, C', Lo_tr hst (Lo_tr q2 (Lo_st ?_)), CR_1 hr q3 v3, by omega, by omega, by omega, trivial⟩⟩
          rw [hzB, if_pos (by omega), e12]
  · refine T_qc (u_digit hn m2 hG) ?_
    rintro r3 m4 ⟨rfl, hr3⟩
    rw [hX.1, hX.2] at hr3
    refine T_eq rfl l_m1 (fun d => ?_) (fun d => ?_)
    · exact w_fac68 hn hr hl m4 hL (by omega) (by omega) r1 (by omega) n 0 0 (by rw [l_0]; rfl) (by omega) (fun i hi => absurd hi (by omega)) (by omega)
    · unfold f_X4_readNumber
      refine T_qc (w_num4 hn hr (pl := (m4 1 3).toInt) (ph := ph) (W := W) hl h13.1 (by omega) (by omega) hcp n 0 0 0 m4 hG hX hC (by omega) hpl (by rw [l_0]; rfl) (by rw [l_0]; rfl) (by rw [l_0]; omega) (by rw [l_0]; omega) (fun i hi => absurd hi (by omega)) (by omega)) ?_
      rintro r5 m6 ⟨hx6, ho6⟩
      refine T_qb rfl ?_ ?_ (T_ret ⟨hx6, ho6⟩)
      · rcases ho6 with q | q <;> omega
      · rcases ho6 with q | q <;> omega
/-- a sign's code is added, whether the reading went well or not -/
theorem w_addx {n : Nat} (hn : 200000 ≤ n) {r : Nat} (hr : q_isLaw r) {R : Nat → Int32} {len : Int} (a1 a2 : Int32) (M : qM) (hG : G M) (hX : Cx R len M) (pa2 : 0 ≤ a2.toInt ∧ a2.toInt ≤ 1000000) (pe : a1.toInt = 1 → a2.toInt ≤ 11) : qT (f_X3_add n r a1 a2 M) (fun _ m => m 1 = M 1 ∧ Cx R len m ∧ G m) := by
  refine T_mono (t_X3_add hn hr a1 a2 M hG pa2 pe) ?_
  rintro v m ⟨_, _, _, g, s⟩
  have e1 : m 1 = M 1 := funext (fun s_ => s 1 s_ (outc rfl))
  have e2 : m 2 = M 2 := funext (fun s_ => s 2 s_ (outc rfl))
  exact ⟨e1, ⟨by rw [e2]; exact hX.1, by rw [e1]; exact hX.2⟩, g⟩
theorem w_prod8 {n : Nat} (hn : 200000 ≤ n) {r : Nat} (hr : q_isLaw r) {R : Nat → Int32} {len : Int} (hl : len ≤ 240) {F : Int32 → qM → qR} (a1 : Int32) {c0 : Lc} {pl0 ph : Int} {C0 : List Int} {W : List (Int × Int)} (hW : topP W) (h0 : 0 ≤ pl0) (hC00 : (C0.length : Int) ≤ pl0)
    (hF : ∀ (M : qM) (C : List Int) (W : List (Int × Int)), Ly R len r C M → opn W = a1.toInt → qT (F a1 M) (Lz R len r (0, (M 1 3).toInt, ph, C, W) (M 1 3).toInt C 1 ph W (fun _ => True))) (ho : opn W = a1.toInt) :
    ∀ (m : Nat) (a2 a3 : Int32) (M : qM), 0 ≤ a3.toInt → a3.toInt ≤ 240 → Lz R len r c0 pl0 C0 1 ph W (fun _ => True) a2 M → (a2.toInt = 0 ∨ 2 * a3.toInt + 1 ≤ (M 1 3).toInt) → (a2.toInt = 0 ∨ 241 - a3.toInt < (m : Int)) → 0 < m → qT (f_X4_readProduct_8 n r F m a1 a2 a3 M) (Lz R len r c0 pl0 C0 1 ph W (fun x => ¬ 4 ≤ sg x)) := by
  intro m
  induction m with
  | zero => intro a2 a3 M _ _ _ _ _ h; exfalso; omega
  | succ m ih =>
    intro a2 a3 M ha3 ha4 hL h2 h4 hm
    obtain ⟨⟨hX, hG⟩, hor⟩ := hL
    have h13 := r_1_3 hG
    have hlen := hX.2
    show qT (b_X4_readProduct_8 n r F (f_X4_readProduct_8 n r F m) a1 a2 a3 M) _
    unfold b_X4_readProduct_8
    refine T_le l_240 rfl (fun c => ?_) (fun c => ?_)
    · rcases hor with ⟨q1, q2⟩ | ⟨q1, C', q2, q3, q4, q5, q6, _⟩
      · exact T_qb rfl (by omega) (by omega) (T_ret ⟨⟨hX, hG⟩, Or.inl ⟨q1, q2⟩⟩)
      · exfalso; omega
    · refine T_eq rfl l_0 (fun d => ?_) (fun d => ?_)
      · rcases hor with ⟨q1, q2⟩ | ⟨q1, q2⟩
        · exact T_qb rfl (by omega) (by omega) (T_ret ⟨⟨hX, hG⟩, Or.inl ⟨q1, q2⟩⟩)
        · omega
      · obtain ⟨q1, C', q2, q3, q4, q5, q6, _⟩ := hor.resolve_left (fun q => d q.1)
        clear hor
        refine T_qc (u_sign hn M hG) ?_
        rintro r1 m2 ⟨rfl, hr1⟩
        rw [hX.1, hX.2] at hr1
        have hs := sg_r (tq R len (m2 1 3).toInt)
        have ht := tq_r R len (m2 1 3).toInt
        have go : 4 ≤ sg (tq R len (m2 1 3).toInt) → qT (f_X4_readProduct_51 n r F (f_X4_readProduct_8 n r F m) a1 a3 r1 m2) (Lz R len r c0 pl0 C0 1 ph W (fun x => ¬ 4 ≤ sg x)) := by
          intro h4s
          unfold f_X4_readProduct_51
          refine w_pl hG (by omega) ?_
          intro m1 y1 y2 y3 g1
          have hX1 : Cx R len m1 := ⟨by rw [y3 2 (by decide)]; exact hX.1, by rw [y2 2 (by decide)]; exact hX.2⟩
          have hst : Lo (tq R len) c0 (0, (m1 1 3).toInt, ph, C', (sg (tq R len (m2 1 3).toInt), 0) :: W) := by
            refine Lo_tr q2 (Lo_st ?_)
            rw [ls_B, y1]
            cases W with
            | nil =>
              show zG _ _ _ _ _ _ _ = _
              unfold zG
              rw [if_pos (by omega)]
            | cons x y =>
              have hx := hW x y rfl
              show (if _ then _ else _) = _
              rw [if_neg hx, if_neg (fun q => q.2 h4s)]
              unfold zG
              rw [if_pos (by omega)]
          refine T_qc (hF m1 C' ((sg (tq R len (m2 1 3).toInt), 0) :: W) ⟨g1, hX1, CR_1 hr q3 y3, by omega, by omega⟩ (by show opn W + _ = _; rw [if_neg (by show ¬ (sg (tq R len (m2 1 3).toInt) = 10 ∨ sg (tq R len (m2 1 3).toInt) = 13 ∨ sg (tq R len (m2 1 3).toInt) = 14); omega)]; omega)) ?_
          rintro r2 m3 ⟨⟨hX3, g3⟩, ho3⟩
          rcases ho3 with ⟨u1, u2⟩ | ⟨u1, C2, u2, u3, u4, u5, u6, _⟩
          · refine T_qc (w_addx hn hr r1 0 m3 g3 hX3 (by rw [l_0]; omega) (fun q => by rw [l_0]; omega)) ?_
            rintro _ m5 ⟨e1, hX5, g5⟩
            refine T_ql (i_add rfl l_1 (by omega) (by omega)) ?_
            intro x6 hx6
            exact ih r2 x6 m5 (by omega) (by omega) ⟨⟨hX5, g5⟩, Or.inl ⟨u1, by rw [e1]; exact Lo_tr hst u2⟩⟩ (Or.inl u1) (Or.inl u1) (by omega)
          · refine T_qc (w_add hr (C := C2) r1 0 m3 g3 u3 (by omega) (by rw [l_0]; omega) (fun q => by rw [l_0]; omega)) ?_
            rintro _ m5 ⟨v1, v2, v3, v4, v5, g5⟩
            obtain ⟨⟨n1, n2, n3⟩, n4, n5, n6⟩ := nr hr
            have e1 : m5 1 = m3 1 := v4 1 n1 n2 n3
            have e2 : m5 2 = m3 2 := v4 2 n4 n5 n6
            refine T_ql (i_add rfl l_1 (by omega) (by omega)) ?_
            intro x6 hx6
            have h13b := r_1_3 g5
            refine ih r2 x6 m5 (by omega) (by omega) ⟨⟨⟨by rw [e2]; exact hX3.1, by rw [e1]; exact hX3.2⟩, g5⟩, Or.inr ⟨u1, C2 ++ [enc r1.toInt ((0 : Int32)).toInt], Lo_tr hst (Lo_tr u2 (Lo_st ?_)), v2, ?_, by rw [e1]; omega, by rw [e1]; exact u6, trivial⟩⟩ (Or.inr (by rw [e1]; omega)) (Or.inr (by rw [e1] at h13b; omega)) (by omega)
            · rw [ls_B, zB_c]
              rw [if_pos (by show 4 ≤ sg _ ∧ sg _ ≤ 6; omega), e1, l_0, show r1.toInt = tq R len (m2 1 3).toInt from hr1, enc_s (by omega)]
            · rw [List.length_append, List.length_singleton, e1]; omega
        refine T_eq rfl l_42 (fun f => go (by omega)) (fun f => ?_)
        refine T_eq rfl l_47 (fun f2 => go (by omega)) (fun f2 => ?_)
        refine T_eq rfl l_37 (fun f3 => go (by omega)) (fun f3 => ?_)
        exact T_ret ⟨⟨hX, hG⟩, Or.inr ⟨l_1, C', q2, q3, q4, q5, q6, by omega⟩⟩
theorem w_prod {n : Nat} (hn : 200000 ≤ n) {r : Nat} (hr : q_isLaw r) {R : Nat → Int32} {len : Int} (hl : len ≤ 240) {F : Int32 → qM → qR} (a1 : Int32) {ph : Int}
    (hF : ∀ (M : qM) (C : List Int) (W : List (Int × Int)), Ly R len r C M → opn W = a1.toInt → qT (F a1 M) (Lz R len r (0, (M 1 3).toInt, ph, C, W) (M 1 3).toInt C 1 ph W (fun _ => True))) (M : qM) (C : List Int) (W : List (Int × Int)) (hL : Ly R len r C M) (ho : opn W = a1.toInt) (hW : topP W) : qT (fo_X4_readProduct n r F a1 M) (Lz R len r (0, (M 1 3).toInt, ph, C, W) (M 1 3).toInt C 1 ph W (fun x => ¬ 4 ≤ sg x)) := by
  unfold fo_X4_readProduct
  have h13 := r_1_3 hL.1
  refine T_qc (hF M C W hL ho) ?_
  rintro r1 m2 hz
  have hz2 := hz
  obtain ⟨_, hor⟩ := hz2
  refine w_prod8 hn hr hl a1 hW h13.1 hL.2.2.2.1 hF ho n r1 0 m2 (by rw [l_0]; omega) (by rw [l_0]; omega) hz ?_ (Or.inr (by rw [l_0]; omega)) (by omega)
  rcases hor with q | ⟨q1, C', q2, q3, q4, q5, q6, _⟩
  · exact Or.inl q.1
  · exact Or.inr (by rw [l_0]; omega)
theorem w_sum8 {n : Nat} (hn : 200000 ≤ n) {r : Nat} (hr : q_isLaw r) {R : Nat → Int32} {len : Int} (hl : len ≤ 240) {F : Int32 → qM → qR} (a1 : Int32) {c0 : Lc} {pl0 ph : Int} {C0 : List Int} {W : List (Int × Int)} (hW : topS W) (h0 : 0 ≤ pl0) (hC00 : (C0.length : Int) ≤ pl0)
    (hF : ∀ (M : qM) (C : List Int) (W : List (Int × Int)), Ly R len r C M → opn W = a1.toInt → topP W → qT (F a1 M) (Lz R len r (0, (M 1 3).toInt, ph, C, W) (M 1 3).toInt C 1 ph W (fun x => ¬ 4 ≤ sg x))) (ho : opn W = a1.toInt) :
    ∀ (m : Nat) (a2 a3 : Int32) (M : qM), 0 ≤ a3.toInt → a3.toInt ≤ 240 → Lz R len r c0 pl0 C0 1 ph W (fun x => ¬ 4 ≤ sg x) a2 M → (a2.toInt = 0 ∨ 2 * a3.toInt + 1 ≤ (M 1 3).toInt) → (a2.toInt = 0 ∨ 241 - a3.toInt < (m : Int)) → 0 < m → qT (f_X4_readSum_8 n r F m a1 a2 a3 M) (Lz R len r c0 pl0 C0 1 ph W (fun x => sg x = -1)) := by
  intro m
  induction m with
  | zero => intro a2 a3 M _ _ _ _ _ h; exfalso; omega
  | succ m ih =>
    intro a2 a3 M ha3 ha4 hL h2 h4 hm
    obtain ⟨⟨hX, hG⟩, hor⟩ := hL
    have h13 := r_1_3 hG
    have hlen := hX.2
    show qT (b_X4_readSum_8 n r F (f_X4_readSum_8 n r F m) a1 a2 a3 M) _
    unfold b_X4_readSum_8
    refine T_le l_240 rfl (fun c => ?_) (fun c => ?_)
    · rcases hor with ⟨q1, q2⟩ | ⟨q1, C', q2, q3, q4, q5, q6, _⟩
      · exact T_qb rfl (by omega) (by omega) (T_ret ⟨⟨hX, hG⟩, Or.inl ⟨q1, q2⟩⟩)
      · exfalso; omega
    · refine T_eq rfl l_0 (fun d => ?_) (fun d => ?_)
      · rcases hor with ⟨q1, q2⟩ | ⟨q1, q2⟩
        · exact T_qb rfl (by omega) (by omega) (T_ret ⟨⟨hX, hG⟩, Or.inl ⟨q1, q2⟩⟩)
        · omega
      · obtain ⟨q1, C', q2, q3, q4, q5, q6, q7⟩ := hor.resolve_left (fun q => d q.1)
        clear hor
        refine T_qc (u_sign hn M hG) ?_
        rintro r1 m2 ⟨rfl, hr1⟩
        rw [hX.1, hX.2] at hr1
        have hs := sg_r (tq R len (m2 1 3).toInt)
        have ht := tq_r R len (m2 1 3).toInt
        have go : (2 ≤ sg (tq R len (m2 1 3).toInt) ∧ sg (tq R len (m2 1 3).toInt) ≤ 3) → qT (f_X4_readSum_44 n r F (f_X4_readSum_8 n r F m) a1 a3 r1 m2) (Lz R len r c0 pl0 C0 1 ph W (fun x => sg x = -1)) := by
          intro h4s
          unfold f_X4_readSum_44
          refine w_pl hG (by omega) ?_
          intro m1 y1 y2 y3 g1
          have hX1 : Cx R len m1 := ⟨by rw [y3 2 (by decide)]; exact hX.1, by rw [y2 2 (by decide)]; exact hX.2⟩
          have hst : Lo (tq R len) c0 (0, (m1 1 3).toInt, ph, C', (sg (tq R len (m2 1 3).toInt), 0) :: W) := by
            refine Lo_tr q2 (Lo_st ?_)
            rw [ls_B, y1]
            cases W with
            | nil =>
              show zG _ _ _ _ _ _ _ = _
              unfold zG
              rw [if_pos (by omega)]
            | cons x y =>
              have hx := hW x y rfl
              show (if _ then _ else _) = _
              rw [if_neg (by omega), if_neg (fun q => hx ⟨q.1.1, by omega⟩)]
              unfold zG
              rw [if_pos (by omega)]
          refine T_qc (hF m1 C' ((sg (tq R len (m2 1 3).toInt), 0) :: W) ⟨g1, hX1, CR_1 hr q3 y3, by omega, by omega⟩ (by show opn W + _ = _; rw [if_neg (by show ¬ (sg (tq R len (m2 1 3).toInt) = 10 ∨ sg (tq R len (m2 1 3).toInt) = 13 ∨ sg (tq R len (m2 1 3).toInt) = 14); omega)]; omega) (fun q q2 e => by cases e; show ¬ (4 ≤ sg _ ∧ sg _ ≤ 6); omega)) ?_
          rintro r2 m3 ⟨⟨hX3, g3⟩, ho3⟩
          rcases ho3 with ⟨u1, u2⟩ | ⟨u1, C2, u2, u3, u4, u5, u6, u7⟩
          · refine T_qc (w_addx hn hr r1 0 m3 g3 hX3 (by rw [l_0]; omega) (fun q => by rw [l_0]; omega)) ?_
            rintro _ m5 ⟨e1, hX5, g5⟩
            refine T_ql (i_add rfl l_1 (by omega) (by omega)) ?_
            intro x6 hx6
            exact ih r2 x6 m5 (by omega) (by omega) ⟨⟨hX5, g5⟩, Or.inl ⟨u1, by rw [e1]; exact Lo_tr hst u2⟩⟩ (Or.inl u1) (Or.inl u1) (by omega)
          · refine T_qc (w_add hr (C := C2) r1 0 m3 g3 u3 (by omega) (by rw [l_0]; omega) (fun q => by rw [l_0]; omega)) ?_
            rintro _ m5 ⟨v1, v2, v3, v4, v5, g5⟩
            obtain ⟨⟨n1, n2, n3⟩, n4, n5, n6⟩ := nr hr
            have e1 : m5 1 = m3 1 := v4 1 n1 n2 n3
            have e2 : m5 2 = m3 2 := v4 2 n4 n5 n6
            refine T_ql (i_add rfl l_1 (by omega) (by omega)) ?_
            intro x6 hx6
            have h13b := r_1_3 g5
            refine ih r2 x6 m5 (by omega) (by omega) ⟨⟨⟨by rw [e2]; exact hX3.1, by rw [e1]; exact hX3.2⟩, g5⟩, Or.inr ⟨u1, C2 ++ [enc r1.toInt ((0 : Int32)).toInt], Lo_tr hst (Lo_tr u2 (Lo_st ?_)), v2, ?_, by rw [e1]; omega, by rw [e1]; exact u6, by rw [e1]; exact u7⟩⟩ (Or.inr (by rw [e1]; omega)) (Or.inr (by rw [e1] at h13b; omega)) (by omega)
            · rw [ls_B, zB_c]
              rw [if_neg (by show ¬ (4 ≤ sg _ ∧ sg _ ≤ 6); omega), if_pos ⟨h4s, u7⟩, e1, l_0, show r1.toInt = tq R len (m2 1 3).toInt from hr1, enc_s (by omega)]
            · rw [List.length_append, List.length_singleton, e1]; omega
        refine T_eq rfl l_43 (fun f => go (by omega)) (fun f => ?_)
        refine T_eq rfl l_45 (fun f2 => go (by omega)) (fun f2 => ?_)
        exact T_ret ⟨⟨hX, hG⟩, Or.inr ⟨l_1, C', q2, q3, q4, q5, q6, by omega⟩⟩
theorem w_sumrc {n : Nat} (hn : 200000 ≤ n) {r : Nat} (hr : q_isLaw r) {R : Nat → Int32} {len : Int} (hl : len ≤ 240) : ∀ m : Nat,
    (∀ (a1 : Int32) (M : qM) (C : List Int) (ph : Int) (W : List (Int × Int)), Ly R len r C M → opn W = a1.toInt → 0 ≤ a1.toInt ∧ a1.toInt ≤ 6 → 3 * (6 - a1.toInt) < (m : Int) → qT (rc_X4_readFactor n r m 0 a1 M) (Lz R len r (0, (M 1 3).toInt, ph, C, W) (M 1 3).toInt C 1 ph W (fun _ => True))) ∧
    (∀ (a1 : Int32) (M : qM) (C : List Int) (ph : Int) (W : List (Int × Int)), Ly R len r C M → opn W = a1.toInt → 0 ≤ a1.toInt ∧ a1.toInt ≤ 6 → topP W → 3 * (6 - a1.toInt) + 1 < (m : Int) → qT (rc_X4_readFactor n r m 1 a1 M) (Lz R len r (0, (M 1 3).toInt, ph, C, W) (M 1 3).toInt C 1 ph W (fun x => ¬ 4 ≤ sg x))) ∧
    (∀ (a1 : Int32) (M : qM) (C : List Int) (ph : Int) (W : List (Int × Int)), Ly R len r C M → opn W = a1.toInt → 0 ≤ a1.toInt ∧ a1.toInt ≤ 6 → topS W → 3 * (6 - a1.toInt) + 2 < (m : Int) → qT (rc_X4_readFactor n r m 2 a1 M) (Lz R len r (0, (M 1 3).toInt, ph, C, W) (M 1 3).toInt C 1 ph W (fun x => sg x = -1))) := by
  intro m
  induction m with
  | zero => exact ⟨fun a1 M C ph W _ _ q h => by exfalso; omega, fun a1 M C ph W _ _ q _ h => by exfalso; omega, fun a1 M C ph W _ _ q _ h => by exfalso; omega⟩
  | succ m ih =>
    refine ⟨fun a1 M C ph W hL ho ha hm => ?_, fun a1 M C ph W hL ho ha hW hm => ?_, fun a1 M C ph W hL ho ha hW hm => ?_⟩
    · show qT (fo_X4_readFactor n r (rc_X4_readFactor n r m 2) a1 M) _
      exact w_factor hn hr hl (B := m) ih.2.2 a1 M C ph W hL ho ha (by omega)
    · show qT (fo_X4_readProduct n r (rc_X4_readFactor n r m 0) a1 M) _
      exact w_prod hn hr hl a1 (fun M2 C2 W2 h h2 => ih.1 a1 M2 C2 ph W2 h h2 ha (by omega)) M C W hL ho hW
    · show qT (fo_X4_readSum n r (rc_X4_readFactor n r m 1) a1 M) _
      unfold fo_X4_readSum
      have h13 := r_1_3 hL.1
      refine T_qc (ih.2.1 a1 M C ph W hL ho ha (fun q q2 e => fun h => hW q q2 e ⟨by omega, h.2⟩) (by omega)) ?_
      rintro r1 m2 hz
      have hz2 := hz
      obtain ⟨_, hor⟩ := hz2
      refine w_sum8 hn hr hl a1 hW h13.1 hL.2.2.2.1 (fun M2 C2 W2 h h2 h3 => ih.2.1 a1 M2 C2 ph W2 h h2 ha h3 (by omega)) ho n r1 0 m2 (by rw [l_0]; omega) (by rw [l_0]; omega) hz ?_ (Or.inr (by rw [l_0]; omega)) (by omega)
      rcases hor with q | ⟨q1, C', q2, q3, q4, q5, q6, _⟩
      · exact Or.inl q.1
      · exact Or.inr (by rw [l_0]; omega)
theorem w_sum {n : Nat} (hn : 200000 ≤ n) {r : Nat} (hr : q_isLaw r) {R : Nat → Int32} {len : Int} (hl : len ≤ 240) (a1 : Int32) (M : qM) (C : List Int) (ph : Int) (W : List (Int × Int)) (hL : Ly R len r C M) (ho : opn W = a1.toInt) (ha : 0 ≤ a1.toInt ∧ a1.toInt ≤ 6) (hW : topS W) : qT (f_X4_readSum n r a1 M) (Lz R len r (0, (M 1 3).toInt, ph, C, W) (M 1 3).toInt C 1 ph W (fun x => sg x = -1)) := by
  unfold f_X4_readSum
  exact (w_sumrc hn hr hl 30).2.2 a1 M C ph W hL ho ha hW (by omega)
/-- top of what waits -/
def tpk (W : List (Int × Int)) : Int := match W with
  | [] => -1
  | q :: _ => q.1
theorem tpk_S {W : List (Int × Int)} (h : 10 ≤ tpk W) : topS W := by
  intro q r e
  subst e
  have : 10 ≤ q.1 := h
  omega
theorem w_piece {n : Nat} (hn : 200000 ≤ n) {r : Nat} (hr : q_isLaw r) {R : Nat → Int32} {len : Int} (hl : len ≤ 240) {FC FP : Int32 → qM → qR} {B : Nat}
    (hFC : ∀ (a1 : Int32) (M : qM) (C : List Int) (W : List (Int × Int)), Ly R len r C M → opn W = a1.toInt → 0 ≤ a1.toInt ∧ a1.toInt ≤ 6 → tpk W = 13 → 3 * (6 - a1.toInt) + 2 < (B : Int) → qT (FC a1 M) (Lz R len r (2, (M 1 3).toInt, 0, C, W) (M 1 3).toInt C 3 0 W (fun x => x ≠ 38 ∧ x ≠ 124)))
    (hFP : ∀ (a1 : Int32) (M : qM) (C : List Int) (W : List (Int × Int)), Ly R len r C M → opn W = a1.toInt → 0 ≤ a1.toInt ∧ a1.toInt ≤ 6 → 10 ≤ tpk W → tpk W ≠ 14 → 3 * (6 - a1.toInt) < (B : Int) → qT (FP a1 M) (Lz R len r (2, (M 1 3).toInt, 0, C, W) (M 1 3).toInt C 3 0 W (fun _ => True)))
    (a1 : Int32) (M : qM) (C : List Int) (W : List (Int × Int)) (hL : Ly R len r C M) (ho : opn W = a1.toInt) (ha : 0 ≤ a1.toInt ∧ a1.toInt ≤ 6) (hW : 10 ≤ tpk W) (h14 : tpk W ≠ 14) (hB : 3 * (6 - a1.toInt) < (B : Int) + 1) : qT (fo_X4_readPiece n r FC FP a1 M) (Lz R len r (2, (M 1 3).toInt, 0, C, W) (M 1 3).toInt C 3 0 W (fun _ => True)) := by
  have hL2 := hL
  obtain ⟨hG, hX, hC, hcp, hpl⟩ := hL2
  have h13 := r_1_3 hG
  have ht := tq_r R len (M 1 3).toInt
  have hWne : ∃ q w, W = q :: w := by
    cases W with
    | nil => exact absurd hW (by show ¬ (10 : Int) ≤ -1; decide)
    | cons q w => exact ⟨q, w, rfl⟩
  have hop : ∀ (k : Int), (k = 10 ∨ k = 13) → (tq R len (M 1 3).toInt = (if k = 10 then 33 else 40)) → zS (tq R len) (2, (M 1 3).toInt, 0, C, W) = (if opn W = 6 then zF 5 (M 1 3).toInt else (2, (M 1 3).toInt + 1, 0, C, (k, 0) :: W)) := by
    intro k hk hT
    rw [ls_C]
    unfold zC zO
    rcases hk with rfl | rfl
    · rw [if_pos rfl] at hT
      rw [if_pos hT]
    · rw [if_neg (by decide)] at hT
      rw [if_neg (by omega), if_pos hT]
  unfold fo_X4_readPiece
  refine T_qc (u_sign hn M hG) ?_
  rintro r1 m2 ⟨rfl, hr1⟩
  rw [hX.1, hX.2] at hr1
  refine T_eq rfl l_40 (fun c => ?_) (fun c => ?_)
  · have hz := hop 13 (Or.inr rfl) (by rw [if_neg (by decide)]; omega)
    refine T_qc (w_opens a1 m2 hG (by omega)) ?_
    rintro r7 m8 ⟨ho8, z2, z3, g8⟩
    have hX8 : Cx R len m8 := ⟨by rw [z3 2 (by decide)]; exact hX.1, by rw [z2 2 (by decide) (by decide)]; exact hX.2⟩
    refine T_eq rfl l_0 (fun d => ?_) (fun d => ?_)
    · refine T_ret ⟨⟨hX8, g8⟩, Or.inl ⟨l_0, Lo_st ?_⟩⟩
      rw [hz, if_pos (by omega)]
      unfold zF
      have : (m8 1 4).toInt = -5000 - (m2 1 3).toInt := by omega
      rw [this]
      rfl
    · have e3 : (m8 1 3).toInt = (m2 1 3).toInt + 1 := by omega
      have hst : Lo (tq R len) (2, (m2 1 3).toInt, 0, C, W) (2, (m8 1 3).toInt, 0, C, (13, 0) :: W) := by
        refine Lo_st ?_
        rw [hz, if_neg (by omega), e3]
      have ea : (a1 + 1).toInt = a1.toInt + 1 := i_add rfl l_1 (by omega) (by omega)
      refine T_qc (hFC (a1 + 1) m8 C ((13, 0) :: W) ⟨g8, hX8, CR_1 hr hC z3, by omega, by omega⟩ (by show opn W + _ = _; rw [if_pos (Or.inr (Or.inl rfl)), ea, ho]) (by omega) rfl (by omega)) ?_
      rintro r9 m10 ⟨⟨hX10, g10⟩, ho10⟩
      refine T_eq rfl l_0 (fun e => ?_) (fun e => ?_)
      · rcases ho10 with ⟨q1, q2⟩ | ⟨q1, q2⟩
        · exact T_ret ⟨⟨hX10, g10⟩, Or.inl ⟨l_0, Lo_tr hst q2⟩⟩
        · omega
      · obtain ⟨q1, C', q2, q3, q4, q5, q6, q7⟩ := ho10.resolve_left (fun q => e q.1)
        clear ho10
        refine T_qc (w_must hn (41 : Int32) m10 g10 (by decide)) ?_
        rintro r11 m12 ⟨ho12, v2, v3, g12⟩
        rw [hX10.1, hX10.2, l_41] at ho12
        have hX12 : Cx R len m12 := ⟨by rw [v3 2 (by decide)]; exact hX10.1, by rw [v2 2 (by decide) (by decide)]; exact hX10.2⟩
        have hzD : zS (tq R len) (3, (m10 1 3).toInt, 0, C', (13, 0) :: W) = (if tq R len (m10 1 3).toInt = 41 then (3, (m10 1 3).toInt + 1, 0, C', W) else zF 1 (m10 1 3).toInt) := by
          rw [ls_D, zD_c]
          rw [if_neg (by decide), if_neg (by decide), if_neg (fun q => absurd q.1 (by decide))]
          unfold zH
          by_cases h41 : tq R len (m10 1 3).toInt = 41
          · rw [if_pos ⟨h41, rfl⟩, if_pos h41, if_neg (by obtain ⟨x, w, e⟩ := hWne; rw [e]; exact List.cons_ne_nil _ _)]
          · rw [if_neg (fun q => h41 q.1), if_neg h41, if_neg q7.1, if_neg q7.2]
        refine T_eq rfl l_0 (fun f => ?_) (fun f => ?_)
        · refine T_ret ⟨⟨hX12, g12⟩, Or.inl ⟨l_0, Lo_tr hst (Lo_tr q2 (Lo_st ?_))⟩⟩
          rw [hzD, if_neg (by omega)]
          unfold zF
          have : (m12 1 4).toInt = -1000 - (m10 1 3).toInt := by omega
          rw [this]
          rfl
        · have e12 : (m12 1 3).toInt = (m10 1 3).toInt + 1 := by omega
          refine T_ret ⟨⟨hX12, g12⟩, Or.inr ⟨l_1, C', Lo_tr hst (Lo_tr q2 (Lo_st ?_)), CR_1 hr q3 v3, by omega, by omega, by omega, trivial⟩⟩
          rw [hzD, if_pos (by omega), e12]
  · refine T_qc (u_sign hn m2 hG) ?_
    rintro r3 m4 ⟨rfl, hr3⟩
    rw [hX.1, hX.2] at hr3
    refine T_eq rfl l_33 (fun d => ?_) (fun d => ?_)
    · have hz := hop 10 (Or.inl rfl) (by rw [if_pos rfl]; omega)
      refine T_qc (w_opens a1 m4 hG (by omega)) ?_
      rintro r11 m12 ⟨ho12, z2, z3, g12⟩
      have hX12 : Cx R len m12 := ⟨by rw [z3 2 (by decide)]; exact hX.1, by rw [z2 2 (by decide) (by decide)]; exact hX.2⟩
      have bad : ∀ (m : qM), G m → Cx R len m → Lo (tq R len) (2, (m4 1 3).toInt, 0, C, W) (4, (m 1 4).toInt, 0, [], []) → qT (f_X4_readPiece_82 n r FC FP m) (Lz R len r (2, (m4 1 3).toInt, 0, C, W) (m4 1 3).toInt C 3 0 W (fun _ => True)) := by
        intro m g hX' hLo
        unfold f_X4_readPiece_82 f_X4_readPiece_83
        refine T_qc (w_addx hn hr (2 : Int32) 0 m g hX' (by rw [l_0]; omega) (fun q => absurd q (by decide))) ?_
        rintro _ m5 ⟨e1, hX5, g5⟩
        exact T_qb l_0 (by omega) (by omega) (T_ret ⟨⟨hX5, g5⟩, Or.inl ⟨l_0, by rw [e1]; exact hLo⟩⟩)
      refine T_eq rfl l_0 (fun e => ?_) (fun e => ?_)
      · refine bad m12 g12 hX12 (Lo_st ?_)
        rw [hz, if_pos (by omega)]
        unfold zF
        have : (m12 1 4).toInt = -5000 - (m4 1 3).toInt := by omega
        rw [this]
        rfl
      · have e3 : (m12 1 3).toInt = (m4 1 3).toInt + 1 := by omega
        have hst : Lo (tq R len) (2, (m4 1 3).toInt, 0, C, W) (2, (m12 1 3).toInt, 0, C, (10, 0) :: W) := by
          refine Lo_st ?_
          rw [hz, if_neg (by omega), e3]
        have ea : (a1 + 1).toInt = a1.toInt + 1 := i_add rfl l_1 (by omega) (by omega)
        refine T_qc (hFP (a1 + 1) m12 C ((10, 0) :: W) ⟨g12, hX12, CR_1 hr hC z3, by omega, by omega⟩ (by show opn W + _ = _; rw [if_pos (Or.inl rfl), ea, ho]) (by omega) (by show (10 : Int) ≤ 10; decide) (by show (10 : Int) ≠ 14; decide) (by omega)) ?_
        rintro r13 m14 ⟨⟨hX14, g14⟩, ho14⟩
        refine T_eq rfl l_0 (fun f => ?_) (fun f => ?_)
        · rcases ho14 with ⟨q1, q2⟩ | ⟨q1, q2⟩
          · exact bad m14 g14 hX14 (Lo_tr hst q2)
          · omega
        · obtain ⟨q1, C', q2, q3, q4, q5, q6, q7⟩ := ho14.resolve_left (fun q => f q.1)
          clear ho14
          unfold f_X4_readPiece_83
          refine T_qc (w_add hr (C := C') (2 : Int32) 0 m14 g14 q3 (by omega) (by rw [l_0]; omega) (fun q => absurd q (by decide))) ?_
          rintro _ m5 ⟨v1, v2, v3, v4, v5, g5⟩
          obtain ⟨⟨n1, n2, n3⟩, n4, n5, n6⟩ := nr hr
          have e1 : m5 1 = m14 1 := v4 1 n1 n2 n3
          have e2 : m5 2 = m14 2 := v4 2 n4 n5 n6
          refine T_qb l_1 (by omega) (by omega) (T_ret ⟨⟨⟨by rw [e2]; exact hX14.1, by rw [e1]; exact hX14.2⟩, g5⟩, Or.inr ⟨l_1, _, Lo_tr hst (Lo_tr q2 (Lo_st ?_)), v2, ?_, by rw [e1]; omega, by rw [e1]; exact q6, trivial⟩⟩)
          · rw [ls_D, zD_c]
            rw [if_pos rfl, e1]
            unfold enc
            rw [l_2, if_neg (by decide), if_neg (by decide), if_pos rfl]
          · rw [List.length_append, List.length_singleton, e1]; omega
    · have hst : Lo (tq R len) (2, (m4 1 3).toInt, 0, C, W) (0, (m4 1 3).toInt, 1, C, W) := by
        refine Lo_st ?_
        rw [ls_C]
        unfold zC
        rw [if_neg (by omega), if_neg (by omega)]
      have hsE : ∀ (pl ph : Int) (C' : List Int), sg (tq R len pl) = -1 → zS (tq R len) (1, pl, ph, C', W) = zE (tq R len) pl ph C' W := by
        intro pl ph C' hs
        obtain ⟨q, w, e⟩ := hWne
        subst e
        have hq : 10 ≤ q.1 := hW
        have hq14 : q.1 ≠ 14 := h14
        rw [ls_B, zB_c]
        rw [if_neg (by omega), if_neg (fun x => absurd x.1.2 (by omega))]
        unfold zG
        rw [if_neg (by omega), if_neg hq14]
      refine T_qc (w_sum hn hr hl a1 m4 C 1 W hL ho ha (tpk_S hW)) ?_
      rintro r5 m6 ⟨⟨hX6, g6⟩, ho6⟩
      refine T_eq rfl l_0 (fun e => ?_) (fun e => ?_)
      · rcases ho6 with ⟨q1, q2⟩ | ⟨q1, q2⟩
        · exact T_ret ⟨⟨hX6, g6⟩, Or.inl ⟨l_0, Lo_tr hst q2⟩⟩
        · omega
      · obtain ⟨q1, C', q2, q3, q4, q5, q6, q7⟩ := ho6.resolve_left (fun q => e q.1)
        clear ho6
        have hcp6 := cp_r (tq R len (m6 1 3).toInt)
        have ht6 := tq_r R len (m6 1 3).toInt
        have h136 := r_1_3 g6
        have hE1 := hsE (m6 1 3).toInt 1 C' q7
        refine T_qc (u_sign hn m6 g6) ?_
        rintro r7 m8 ⟨rfl, hr7⟩
        rw [hX6.1, hX6.2] at hr7
        have go : 0 ≤ cp (tq R len (m8 1 3).toInt) → qT (f_X4_readPiece_148 n r FC FP a1 r7 m8) (Lz R len r (2, (m4 1 3).toInt, 0, C, W) (m4 1 3).toInt C 3 0 W (fun _ => True)) := by
          intro hcpos
          unfold f_X4_readPiece_148
          refine w_pl g6 (by omega) ?_
          intro m1 y1 y2 y3 g1
          have hX1 : Cx R len m1 := ⟨by rw [y3 2 (by decide)]; exact hX6.1, by rw [y2 2 (by decide)]; exact hX6.2⟩
          have hst2 : Lo (tq R len) (2, (m4 1 3).toInt, 0, C, W) (0, (m1 1 3).toInt, cp (tq R len (m8 1 3).toInt), C', W) := by
            refine Lo_tr hst (Lo_tr q2 (Lo_st ?_))
            rw [hE1]
            unfold zE
            rw [if_neg (by decide), if_pos rfl, if_neg (by omega), y1]
          refine T_qc (w_sum hn hr hl a1 m1 C' (cp (tq R len (m8 1 3).toInt)) W ⟨g1, hX1, CR_1 hr q3 y3, by omega, by omega⟩ ho ha (tpk_S hW)) ?_
          rintro r2 m3 ⟨⟨hX3, g3⟩, ho3⟩
          rcases ho3 with ⟨u1, u2⟩ | ⟨u1, C2, u2, u3, u4, u5, u6, u7⟩
          · refine T_qc (w_addx hn hr r7 0 m3 g3 hX3 (by rw [l_0]; omega) (fun q => by rw [l_0]; omega)) ?_
            rintro _ m5 ⟨e1, hX5, g5⟩
            exact T_qb rfl (by omega) (by omega) (T_ret ⟨⟨hX5, g5⟩, Or.inl ⟨u1, by rw [e1]; exact Lo_tr hst2 u2⟩⟩)
          · refine T_qc (w_add hr (C := C2) r7 0 m3 g3 u3 (by omega) (by rw [l_0]; omega) (fun q => by rw [l_0]; omega)) ?_
            rintro _ m5 ⟨v1, v2, v3, v4, v5, g5⟩
            obtain ⟨⟨n1, n2, n3⟩, n4, n5, n6⟩ := nr hr
            have e1 : m5 1 = m3 1 := v4 1 n1 n2 n3
            have e2 : m5 2 = m3 2 := v4 2 n4 n5 n6
            refine T_qb rfl (by omega) (by omega) (T_ret ⟨⟨⟨by rw [e2]; exact hX3.1, by rw [e1]; exact hX3.2⟩, g5⟩, Or.inr ⟨u1, _, Lo_tr hst2 (Lo_tr u2 (Lo_st ?_)), v2, ?_, by rw [e1]; omega, by rw [e1]; exact u6, trivial⟩⟩)
            · rw [hsE _ _ _ u7]
              unfold zE
              rw [if_neg (by omega), if_neg (by omega), e1, l_0, show r7.toInt = tq R len (m8 1 3).toInt from hr7, enc_c hcpos]
            · rw [List.length_append, List.length_singleton, e1]; omega
        refine T_eq rfl l_60 (fun f => go (by omega)) (fun f => ?_)
        refine T_eq rfl l_62 (fun f2 => go (by omega)) (fun f2 => ?_)
        refine T_eq rfl l_61 (fun f3 => go (by omega)) (fun f3 => ?_)
        refine T_qc (w_fails (1 : Int32) (m8 1 3) m8 g6 (by decide) h136) ?_
        rintro r9 m10 ⟨w0, w1, w2, w3, g10⟩
        rw [l_1] at w1
        refine T_qb rfl (by omega) (by omega) (T_ret ⟨⟨⟨by rw [w3 2 (by decide)]; exact hX6.1, by rw [w2 2 (by decide)]; exact hX6.2⟩, g10⟩, Or.inl ⟨w0, Lo_tr hst (Lo_tr q2 (Lo_st ?_))⟩⟩)
        rw [hE1]
        unfold zE
        rw [if_neg (by decide), if_pos rfl, if_pos (by omega)]
        unfold zF
        rw [w1]
/-- parts and conditions: what is read behind & and | is jumped over. k: 11, 12; o: the Java side's op 3, 4; sgn: the sign -/
theorem w_jump {n : Nat} (hn : 200000 ≤ n) {r : Nat} (hr : q_isLaw r) {R : Nat → Int32} {len : Int} (hl : len ≤ 240) {F : Int32 → qM → qR} (a1 : Int32) {W : List (Int × Int)} {k o sgn : Int} (hko : (k = 11 ∧ o = 3 ∧ sgn = 38 ∧ (tpk W = 12 ∨ tpk W = 13)) ∨ (k = 12 ∧ o = 4 ∧ sgn = 124 ∧ tpk W = 13)) {E : Int → Prop}
    (hF : ∀ (M : qM) (C : List Int), Ly R len r C M → qT (F a1 M) (fun v m => Lz R len r (2, (M 1 3).toInt, 0, C, (k, (C.length : Int) - 1) :: W) (M 1 3).toInt C 3 0 ((k, (C.length : Int) - 1) :: W) E v m ∧ Lf r M m))
    (hE : ∀ x, E x → k = 12 → x ≠ 38) (M : qM) (C : List Int) (hG : G M) (hX : Cx R len M) (hC : CR r M C) (hcp : (C.length : Int) ≤ (M 1 3).toInt) (hpl : (M 1 3).toInt < len) (hT : tq R len (M 1 3).toInt = sgn) (hopW : True) {c0 : Lc} {pl0 : Int} {C0 : List Int} (hst : Lo (tq R len) c0 (3, (M 1 3).toInt, 0, C, W)) (hsl : ((C.length : Int) + pl0 ≤ (C0.length : Int) + (M 1 3).toInt ∧ (C0.length : Int) + 1 ≤ (C.length : Int))) (hp0 : pl0 < (M 1 3).toInt) (ao : Int32) (hao : ao.toInt = o) {Q : Int32 → qM → Prop} {K : qM → qR} (m2 : qM) (e3 : (m2 1 3).toInt = (M 1 3).toInt + 1) (z2 : ∀ s2, s2 ≠ 3 → m2 1 s2 = M 1 s2) (z3 : ∀ c, c ≠ 1 → m2 c = M c) (g2 : G m2)
    (hbad : ∀ (m : qM), G m → Cx R len m → Lo (tq R len) c0 (4, (m 1 4).toInt, 0, [], []) → qT (some ((0 : Int32), m)) Q)
    (hgood : ∀ (m : qM) (C' : List Int), G m → Cx R len m → CR r m C' → Lo (tq R len) c0 (3, (m 1 3).toInt, 0, C', W) → ((C'.length : Int) + pl0 ≤ (C0.length : Int) + (m 1 3).toInt ∧ (C0.length : Int) + 1 ≤ (C'.length : Int)) → (M 1 3).toInt + 1 < (m 1 3).toInt → (m 1 3).toInt ≤ len → E (tq R len (m 1 3).toInt) → qT (K m) Q) :
    qT (qc (f_X3_add n r ao 0 m2) (fun r3 m4 => qc (F a1 m4) (fun r5 m6 => if r5 = (0 : Int32) then some ((0 : Int32), m6) else qc (f_X3_skipToHere n r r3 m6) (fun _ m7 => K m7)))) Q := by
  have hX2 : Cx R len m2 := ⟨by rw [z3 2 (by decide)]; exact hX.1, by rw [z2 2 (by decide)]; exact hX.2⟩
  have h3 : o = 3 ∨ o = 4 := by omega
  refine T_qc (w_add hr (C := C) ao 0 m2 g2 (CR_1 hr hC z3) (by omega) (by rw [l_0]; omega) (fun q => by omega)) ?_
  rintro r3 m4 ⟨v1, v2, v3, v4, v5, g4⟩
  obtain ⟨⟨n1, n2, n3⟩, n4, n5, n6⟩ := nr hr
  have e1 : m4 1 = m2 1 := v4 1 n1 n2 n3
  have e2 : m4 2 = m2 2 := v4 2 n4 n5 n6
  have hX4 : Cx R len m4 := ⟨by rw [e2]; exact hX2.1, by rw [e1]; exact hX2.2⟩
  have henc : enc ao.toInt ((0 : Int32)).toInt = 1048576 * k := by
    rw [l_0, hao]
    unfold enc
    rcases hko with ⟨k1, k2, k3, k4⟩ | ⟨k1, k2, k3, k4⟩
    · rw [k2, k1, if_neg (by decide), if_neg (by decide), if_neg (by decide), if_pos rfl, if_pos rfl]
    · rw [k2, k1, if_neg (by decide), if_neg (by decide), if_neg (by decide), if_neg (by decide), if_pos rfl, if_pos rfl]
  rw [henc] at v2
  have hlen4 : ((C ++ [1048576 * k]).length : Int) = (C.length : Int) + 1 := by rw [List.length_append, List.length_singleton]; omega
  have hstep : Lo (tq R len) c0 (2, (m4 1 3).toInt, 0, C ++ [1048576 * k], (k, ((C ++ [1048576 * k]).length : Int) - 1) :: W) := by
    refine Lo_tr hst (Lo_st ?_)
    rw [ls_D, hlen4, show (C.length : Int) + 1 - 1 = (C.length : Int) by omega, e1, e3]
    cases W with
    | nil =>
      exfalso
      rcases hko with ⟨_, _, _, k4⟩ | ⟨_, _, _, k4⟩
      · rcases k4 with k4 | k4 <;> exact absurd k4 (by show ¬ (-1 : Int) = _; decide)
      · exact absurd k4 (by show ¬ (-1 : Int) = _; decide)
    | cons q w =>
      rcases hko with ⟨k1, k2, k3, k4⟩ | ⟨k1, k2, k3, k4⟩
      · have hq : q.1 = 12 ∨ q.1 = 13 := k4
        show (if _ then _ else _) = _
        rw [if_neg (by omega), if_neg (by omega), if_neg (fun x => x.2 (by omega))]
        unfold zH
        rw [if_neg (by omega), if_pos (by omega), k1]
      · have hq : q.1 = 13 := k4
        show (if _ then _ else _) = _
        rw [if_neg (by omega), if_neg (by omega), if_neg (by omega)]
        unfold zH
        rw [if_neg (by omega), if_neg (by omega), if_pos (by omega), k1]
  refine T_qc (hF m4 (C ++ [1048576 * k]) ⟨g4, hX4, v2, by rw [hlen4, e1]; omega, by rw [e1]; omega⟩) ?_
  rintro r5 m6 ⟨⟨⟨hX6, g6⟩, ho6⟩, hLf⟩
  refine T_eq rfl l_0 (fun d => ?_) (fun d => ?_)
  · rcases ho6 with ⟨q1, q2⟩ | ⟨q1, q2⟩
    · exact hbad m6 g6 hX6 (Lo_tr hstep q2)
    · omega
  · obtain ⟨q1, C', q2, q3, q4, q5, q6, q7⟩ := ho6.resolve_left (fun q => d q.1)
    clear ho6
    have hop6 : (m6 (r + 1) C.length).toInt = o := by
      rw [hLf.2.1 C.length (by rw [v2.1, hlen4]; omega), v3, hao]
    refine T_qc (w_skip hr (C := C') (j := C.length) (k := k) r3 m6 g6 q3 v1 (by rw [hlen4] at q4; omega) (by have h6_ := rw_0_6 hr g6; have h7_ := q3.1; omega) (by rw [hop6]; omega)) ?_
    rintro _ m7 ⟨⟨hgd, u1⟩, u2, g7⟩
    have f1 : m7 1 = m6 1 := u2 1 n3
    have f2 : m7 2 = m6 2 := u2 2 n6
    refine hgood m7 _ g7 ⟨by rw [f2]; exact hX6.1, by rw [f1]; exact hX6.2⟩ u1 (Lo_tr hstep (Lo_tr q2 (Lo_st ?_))) ?_ (by rw [f1]; rw [e1, e3] at q5; omega) (by rw [f1]; exact q6) (by rw [f1]; exact q7)
    · rw [ls_D, hlen4, show (C.length : Int) + 1 - 1 = (C.length : Int) by omega, f1]
      show (if _ then _ else _) = _
      rcases hko with ⟨k1, k2, k3, k4⟩ | ⟨k1, k2, k3, k4⟩
      · rw [if_neg (by show ¬ k = 10; omega), if_pos k1]
        show (3, (m6 1 3).toInt, (0 : Int), C'.set C.length (1048576 * (C'.getD C.length 0 / 1048576) + C'.length), W) = _
        rw [hgd]
      · rw [if_neg (by show ¬ k = 10; omega), if_neg (by show ¬ k = 11; omega), if_pos ⟨k1, hE _ q7 k1⟩]
        show (3, (m6 1 3).toInt, (0 : Int), C'.set C.length (1048576 * (C'.getD C.length 0 / 1048576) + C'.length), W) = _
        rw [hgd]
    · rw [List.length_set, f1]
      rw [hlen4, e1, e3] at q4
      omega
theorem w_part12 {n : Nat} (hn : 200000 ≤ n) {r : Nat} (hr : q_isLaw r) {R : Nat → Int32} {len : Int} (hl : len ≤ 240) {F : Int32 → qM → qR} (a1 : Int32) {W : List (Int × Int)} (hW : tpk W = 12 ∨ tpk W = 13) (ho : opn W = a1.toInt)
    (hF : ∀ (M : qM) (C : List Int) (W : List (Int × Int)), Ly R len r C M → opn W = a1.toInt → 10 ≤ tpk W → tpk W ≠ 14 → qT (F a1 M) (fun v m => Lz R len r (2, (M 1 3).toInt, 0, C, W) (M 1 3).toInt C 3 0 W (fun _ => True) v m ∧ Lf r M m)) {c0 : Lc} {pl0 : Int} {C0 : List Int} (h0 : 0 ≤ pl0) (hC0 : (C0.length : Int) ≤ pl0) :
    ∀ (m : Nat) (a2 : Int32) (M : qM) (C : List Int), 0 ≤ a2.toInt → a2.toInt ≤ 240 → G M → Cx R len M → CR r M C → Lo (tq R len) c0 (3, (M 1 3).toInt, 0, C, W) → ((C.length : Int) + pl0 ≤ (C0.length : Int) + (M 1 3).toInt ∧ (C0.length : Int) + 1 ≤ (C.length : Int)) → pl0 < (M 1 3).toInt → (M 1 3).toInt ≤ len → 2 * a2.toInt + 1 ≤ (M 1 3).toInt → 241 - a2.toInt < (m : Int) → qT (f_X4_readPart_12 n r F m a1 a2 M) (Lz R len r c0 pl0 C0 3 0 W (fun x => x ≠ 38)) := by
  intro m
  induction m with
  | zero => intro a2 M C _ _ hG _ _ _ _ _ _ _ h; have := r_1_3 hG; exfalso; omega
  | succ m ih =>
    intro a2 M C h2 h240 hG hX hC hLo hsl hp0 hpl hpc hm
    have h13 := r_1_3 hG
    show qT (b_X4_readPart_12 n r F (f_X4_readPart_12 n r F m) a1 a2 M) _
    unfold b_X4_readPart_12
    refine T_le l_240 rfl (fun c => by exfalso; omega) (fun c => ?_)
    refine T_qc (u_takes hn (M0 := M) (38 : Int32) M hG Sm.rf (by decide)) ?_
    rintro r1 m2 ⟨ho2, z2, z3, g2, _⟩
    rw [hX.1, hX.2, l_38] at ho2
    refine T_eq rfl l_0 (fun d => ?_) (fun d => ?_)
    · have e3 : (m2 1 3).toInt = (M 1 3).toInt := by omega
      exact T_ret ⟨⟨⟨by rw [z3 2 (by decide)]; exact hX.1, by rw [z2 2 (by decide)]; exact hX.2⟩, g2⟩, Or.inr ⟨l_1, C, by rw [e3]; exact hLo, CR_1 hr hC z3, by rw [e3]; exact hsl, by omega, by omega, by rw [e3]; omega⟩⟩
    · refine w_jump hn hr hl a1 (k := 11) (o := 3) (sgn := 38) (W := W) (E := fun _ => True) (Or.inl ⟨rfl, rfl, rfl, hW⟩) (fun M3 C3 h3 => hF M3 C3 _ h3 (by show opn W + _ = _; rw [if_neg (by show ¬ ((11 : Int) = 10 ∨ (11 : Int) = 13 ∨ (11 : Int) = 14); decide)]; omega) (by show (10 : Int) ≤ 11; decide) (by show (11 : Int) ≠ 14; decide)) (fun _ _ q => absurd q (by decide)) M C hG hX hC (by omega) (by omega) (by omega) trivial hLo hsl hp0 3 l_3 m2 (by omega) z2 z3 g2 ?_ ?_
      · intro m6 g6 hX6 hb
        exact T_ret ⟨⟨hX6, g6⟩, Or.inl ⟨l_0, hb⟩⟩
      · intro m7 C7 g7 hX7 hC7 hLo7 hsl7 hlt hle _
        refine T_ql (i_add rfl l_1 (by omega) (by omega)) ?_
        intro x hx
        exact ih x m7 C7 (by omega) (by omega) g7 hX7 hC7 hLo7 hsl7 (by omega) hle (by omega) (by omega)
theorem w_cond12 {n : Nat} (hn : 200000 ≤ n) {r : Nat} (hr : q_isLaw r) {R : Nat → Int32} {len : Int} (hl : len ≤ 240) {F : Int32 → qM → qR} (a1 : Int32) {W : List (Int × Int)} (hW : tpk W = 13) (ho : opn W = a1.toInt)
    (hF : ∀ (M : qM) (C : List Int) (W : List (Int × Int)), Ly R len r C M → opn W = a1.toInt → (tpk W = 12 ∨ tpk W = 13) → qT (F a1 M) (fun v m => Lz R len r (2, (M 1 3).toInt, 0, C, W) (M 1 3).toInt C 3 0 W (fun x => x ≠ 38) v m ∧ Lf r M m)) {c0 : Lc} {pl0 : Int} {C0 : List Int} (h0 : 0 ≤ pl0) (hC0 : (C0.length : Int) ≤ pl0) :
    ∀ (m : Nat) (a2 : Int32) (M : qM) (C : List Int), 0 ≤ a2.toInt → a2.toInt ≤ 240 → G M → Cx R len M → CR r M C → Lo (tq R len) c0 (3, (M 1 3).toInt, 0, C, W) → ((C.length : Int) + pl0 ≤ (C0.length : Int) + (M 1 3).toInt ∧ (C0.length : Int) + 1 ≤ (C.length : Int)) → pl0 < (M 1 3).toInt → (M 1 3).toInt ≤ len → 2 * a2.toInt + 1 ≤ (M 1 3).toInt → tq R len (M 1 3).toInt ≠ 38 → 241 - a2.toInt < (m : Int) → qT (f_X4_readCondition_12 n r F m a1 a2 M) (Lz R len r c0 pl0 C0 3 0 W (fun x => x ≠ 38 ∧ x ≠ 124)) := by
  intro m
  induction m with
  | zero => intro a2 M C _ _ hG _ _ _ _ _ _ _ _ h; have := r_1_3 hG; exfalso; omega
  | succ m ih =>
    intro a2 M C h2 h240 hG hX hC hLo hsl hp0 hpl hpc h38 hm
    have h13 := r_1_3 hG
    show qT (b_X4_readCondition_12 n r F (f_X4_readCondition_12 n r F m) a1 a2 M) _
    unfold b_X4_readCondition_12
    refine T_le l_240 rfl (fun c => by exfalso; omega) (fun c => ?_)
    refine T_qc (u_takes hn (M0 := M) (124 : Int32) M hG Sm.rf (by decide)) ?_
    rintro r1 m2 ⟨ho2, z2, z3, g2, _⟩
    rw [hX.1, hX.2, l_124] at ho2
    refine T_eq rfl l_0 (fun d => ?_) (fun d => ?_)
    · have e3 : (m2 1 3).toInt = (M 1 3).toInt := by omega
      exact T_ret ⟨⟨⟨by rw [z3 2 (by decide)]; exact hX.1, by rw [z2 2 (by decide)]; exact hX.2⟩, g2⟩, Or.inr ⟨l_1, C, by rw [e3]; exact hLo, CR_1 hr hC z3, by rw [e3]; exact hsl, by omega, by omega, by rw [e3]; exact ⟨h38, by omega⟩⟩⟩
    · refine w_jump hn hr hl a1 (k := 12) (o := 4) (sgn := 124) (W := W) (E := fun x => x ≠ 38) (Or.inr ⟨rfl, rfl, rfl, hW⟩) (fun M3 C3 h3 => hF M3 C3 _ h3 (by show opn W + _ = _; rw [if_neg (by show ¬ ((12 : Int) = 10 ∨ (12 : Int) = 13 ∨ (12 : Int) = 14); decide)]; omega) (Or.inl rfl)) (fun _ q _ => q) M C hG hX hC (by omega) (by omega) (by omega) trivial hLo hsl hp0 4 l_4 m2 (by omega) z2 z3 g2 ?_ ?_
      · intro m6 g6 hX6 hb
        exact T_ret ⟨⟨hX6, g6⟩, Or.inl ⟨l_0, hb⟩⟩
      · intro m7 C7 g7 hX7 hC7 hLo7 hsl7 hlt hle hne
        refine T_ql (i_add rfl l_1 (by omega) (by omega)) ?_
        intro x hx
        exact ih x m7 C7 (by omega) (by omega) g7 hX7 hC7 hLo7 hsl7 (by omega) hle (by omega) hne (by omega)
theorem w_condrc {n : Nat} (hn : 200000 ≤ n) {r : Nat} (hr : q_isLaw r) {R : Nat → Int32} {len : Int} (hl : len ≤ 240) : ∀ m : Nat,
    (∀ (a1 : Int32) (M : qM) (C : List Int) (W : List (Int × Int)), Ly R len r C M → opn W = a1.toInt → 0 ≤ a1.toInt ∧ a1.toInt ≤ 6 → 10 ≤ tpk W → tpk W ≠ 14 → 3 * (6 - a1.toInt) < (m : Int) → qT (rc_X4_readPiece n r m 0 a1 M) (fun v m => Lz R len r (2, (M 1 3).toInt, 0, C, W) (M 1 3).toInt C 3 0 W (fun _ => True) v m ∧ Lf r M m)) ∧
    (∀ (a1 : Int32) (M : qM) (C : List Int) (W : List (Int × Int)), Ly R len r C M → opn W = a1.toInt → 0 ≤ a1.toInt ∧ a1.toInt ≤ 6 → (tpk W = 12 ∨ tpk W = 13) → 3 * (6 - a1.toInt) + 1 < (m : Int) → qT (rc_X4_readPiece n r m 1 a1 M) (fun v m => Lz R len r (2, (M 1 3).toInt, 0, C, W) (M 1 3).toInt C 3 0 W (fun x => x ≠ 38) v m ∧ Lf r M m)) ∧
    (∀ (a1 : Int32) (M : qM) (C : List Int) (W : List (Int × Int)), Ly R len r C M → opn W = a1.toInt → 0 ≤ a1.toInt ∧ a1.toInt ≤ 6 → tpk W = 13 → 3 * (6 - a1.toInt) + 2 < (m : Int) → qT (rc_X4_readPiece n r m 2 a1 M) (fun v m => Lz R len r (2, (M 1 3).toInt, 0, C, W) (M 1 3).toInt C 3 0 W (fun x => x ≠ 38 ∧ x ≠ 124) v m ∧ Lf r M m)) := by
  intro m
  induction m with
  | zero => exact ⟨fun a1 M C W _ _ q _ _ h => by exfalso; omega, fun a1 M C W _ _ q _ h => by exfalso; omega, fun a1 M C W _ _ q _ h => by exfalso; omega⟩
  | succ m ih =>
    have hpre : ∀ (M : qM) (C : List Int), Ly R len r C M → (M 1 3).toInt ≤ (M 1 2).toInt ∧ (M r 6).toInt ≤ (M 1 3).toInt := by
      intro M C hL
      obtain ⟨hG, hX, hC, hcp, hpl⟩ := hL
      have h1 := hX.2
      have h2 := hC.1
      omega
    refine ⟨fun a1 M C W hL ho ha hW h14 hm => ?_, fun a1 M C W hL ho ha hW hm => ?_, fun a1 M C W hL ho ha hW hm => ?_⟩
    · refine T_mono (T_both (P := Lz R len r (2, (M 1 3).toInt, 0, C, W) (M 1 3).toInt C 3 0 W (fun _ => True)) ?_ ((trc_X4_readPiece hn hr (m + 1)).1 a1 M hL.1 ha (hpre M C hL) (by omega))) (fun v m p => ⟨p.1, p.2.2.2.1⟩)
      show qT (fo_X4_readPiece n r (rc_X4_readPiece n r m 2) (rc_X4_readPiece n r m 0) a1 M) _
      exact w_piece hn hr hl (B := m) (fun a M2 C2 W2 q1 q2 q3 q4 q5 => T_mono (ih.2.2 a M2 C2 W2 q1 q2 q3 q4 q5) (fun _ _ p => p.1)) (fun a M2 C2 W2 q1 q2 q3 q4 q5 q6 => T_mono (ih.1 a M2 C2 W2 q1 q2 q3 q4 q5 q6) (fun _ _ p => p.1)) a1 M C W hL ho ha hW h14 (by omega)
    · refine T_mono (T_both (P := Lz R len r (2, (M 1 3).toInt, 0, C, W) (M 1 3).toInt C 3 0 W (fun x => x ≠ 38)) ?_ ((trc_X4_readPiece hn hr (m + 1)).2.1 a1 M hL.1 ha (hpre M C hL) (by omega))) (fun v m p => ⟨p.1, p.2.2.2.1⟩)
      show qT (fo_X4_readPart n r (rc_X4_readPiece n r m 0) a1 M) _
      unfold fo_X4_readPart
      have h13 := r_1_3 hL.1
      refine T_qc (ih.1 a1 M C W hL ho ha (by omega) (by omega) (by omega)) ?_
      rintro r1 m2 ⟨⟨⟨hX2, g2⟩, hor⟩, _⟩
      refine T_eq rfl l_0 (fun c => ?_) (fun c => ?_)
      · rcases hor with ⟨q1, q2⟩ | ⟨q1, q2⟩
        · exact T_ret ⟨⟨hX2, g2⟩, Or.inl ⟨l_0, q2⟩⟩
        · omega
      · obtain ⟨q1, C', q2, q3, q4, q5, q6, _⟩ := hor.resolve_left (fun q => c q.1)
        clear hor
        exact w_part12 hn hr hl a1 hW ho (fun M3 C3 W3 h1 h2 h3 h4 => ih.1 a1 M3 C3 W3 h1 h2 ha h3 h4 (by omega)) h13.1 hL.2.2.2.1 n 0 m2 C' (by rw [l_0]; omega) (by rw [l_0]; omega) g2 hX2 q3 q2 q4 q5 q6 (by rw [l_0]; omega) (by rw [l_0]; omega)
    · refine T_mono (T_both (P := Lz R len r (2, (M 1 3).toInt, 0, C, W) (M 1 3).toInt C 3 0 W (fun x => x ≠ 38 ∧ x ≠ 124)) ?_ ((trc_X4_readPiece hn hr (m + 1)).2.2 a1 M hL.1 ha (hpre M C hL) (by omega))) (fun v m p => ⟨p.1, p.2.2.2.1⟩)
      show qT (fo_X4_readCondition n r (rc_X4_readPiece n r m 1) a1 M) _
      unfold fo_X4_readCondition
      have h13 := r_1_3 hL.1
      refine T_qc (ih.2.1 a1 M C W hL ho ha (Or.inr hW) (by omega)) ?_
      rintro r1 m2 ⟨⟨⟨hX2, g2⟩, hor⟩, _⟩
      refine T_eq rfl l_0 (fun c => ?_) (fun c => ?_)
      · rcases hor with ⟨q1, q2⟩ | ⟨q1, q2⟩
        · exact T_ret ⟨⟨hX2, g2⟩, Or.inl ⟨l_0, q2⟩⟩
        · omega
      · obtain ⟨q1, C', q2, q3, q4, q5, q6, q7⟩ := hor.resolve_left (fun q => c q.1)
        clear hor
        exact w_cond12 hn hr hl a1 hW ho (fun M3 C3 W3 h1 h2 h3 => ih.2.1 a1 M3 C3 W3 h1 h2 ha h3 (by omega)) h13.1 hL.2.2.2.1 n 0 m2 C' (by rw [l_0]; omega) (by rw [l_0]; omega) g2 hX2 q3 q2 q4 q5 q6 (by rw [l_0]; omega) q7 (by rw [l_0]; omega)
theorem w_cond {n : Nat} (hn : 200000 ≤ n) {r : Nat} (hr : q_isLaw r) {R : Nat → Int32} {len : Int} (hl : len ≤ 240) (a1 : Int32) (M : qM) (C : List Int) (W : List (Int × Int)) (hL : Ly R len r C M) (ho : opn W = a1.toInt) (ha : 0 ≤ a1.toInt ∧ a1.toInt ≤ 6) (hW : tpk W = 13) : qT (f_X4_readCondition n r a1 M) (Lz R len r (2, (M 1 3).toInt, 0, C, W) (M 1 3).toInt C 3 0 W (fun x => x ≠ 38 ∧ x ≠ 124)) := by
  unfold f_X4_readCondition
  exact T_mono ((w_condrc hn hr hl 30).2.2 a1 M C W hL ho ha hW (by omega)) (fun _ _ p => p.1)
/-! LAWS: clauses, around the small machine. A state: (the small machine's state, (letter, where its sum begins, where its condition begins), the clauses so far).
 due, more: 7 a clause begins, 8 the law is read -/
abbrev Kl : Type := Int × Int × Int × Int
abbrev Ld : Type := Lc × (Int × Int × Int) × List Kl
abbrev isCl (x : Int) : Prop := x = 97 ∨ x = 118 ∨ x = 102 ∨ x = 99
def yF (k w : Int) : Ld := (zF k w, (0, 0, 0), [])
def y5 (T : Int → Int) (pl : Int) (C : List Int) (X : Int × Int × Int) (K : List Kl) : Ld := if T pl = 40 then ((2, pl + 1, 0, C, [(13, 0)]), (X.1, X.2.1, (C.length : Int)), K) else yF 1 pl
def y6 (T : Int → Int) (len pl : Int) (C : List Int) (X : Int × Int × Int) (K : List Kl) : Ld :=
  if T pl = 59 then ((7, pl + 1, 0, C, []), (0, 0, 0), K ++ [(X.1, X.2.1, X.2.2, (C.length : Int))]) else if len ≤ pl then ((8, pl, 0, C, []), (0, 0, 0), K ++ [(X.1, X.2.1, X.2.2, (C.length : Int))]) else yF 1 pl
def y7 (T : Int → Int) (pl : Int) (C : List Int) (K : List Kl) : Ld :=
  if ¬ isCl (T pl) then yF 1 pl else if K.length = 16 then yF 4 pl else if T pl = 97 then ((5, pl + 1, 0, C, []), (97, (C.length : Int), 0), K) else ((0, pl + 1, 0, C, []), (T pl, (C.length : Int), 0), K)
def yS (T : Int → Int) (len : Int) (d : Ld) : Ld := if d.1.1 = 5 then y5 T d.1.2.1 d.1.2.2.2.1 d.2.1 d.2.2 else if d.1.1 = 6 then y6 T len d.1.2.1 d.1.2.2.2.1 d.2.1 d.2.2 else if d.1.1 = 7 then y7 T d.1.2.1 d.1.2.2.2.1 d.2.2 else if d.1.1 = 4 then (d.1, (0, 0, 0), []) else (zS T d.1, d.2)
def yI (T : Int → Int) (len : Int) : Nat → Ld → Ld
  | 0, d => d
  | n + 1, d => yI T len n (yS T len d)
theorem yI_add {T : Int → Int} {len : Int} : ∀ (n m : Nat) (c : Ld), yI T len (n + m) c = yI T len m (yI T len n c) := by
  intro n
  induction n with
  | zero => intro m c; rw [Nat.zero_add]; rfl
  | succ n ih =>
    intro m c
    rw [show n + 1 + m = (n + m) + 1 by omega]
    show yI T len (n + m) (yS T len c) = _
    rw [ih]
    rfl
def Yo (T : Int → Int) (len : Int) (c c' : Ld) : Prop := ∃ n, yI T len n c = c'
theorem Yo_rf {T : Int → Int} {len : Int} {c : Ld} : Yo T len c c := ⟨0, rfl⟩
theorem Yo_tr {T : Int → Int} {len : Int} {c d e : Ld} (h : Yo T len c d) (k : Yo T len d e) : Yo T len c e := by
  obtain ⟨n, rfl⟩ := h
  obtain ⟨m, rfl⟩ := k
  exact ⟨n + m, yI_add n m c⟩
theorem Yo_st {T : Int → Int} {len : Int} {c d : Ld} (h : yS T len c = d) : Yo T len c d := ⟨1, h⟩
theorem yI_fix {T : Int → Int} {len : Int} {c : Ld} (h : yS T len c = c) : ∀ n, yI T len n c = c := by
  intro n
  induction n with
  | zero => rfl
  | succ n ih =>
    show yI T len n (yS T len c) = c
    rw [h]; exact ih
theorem Yo_det {T : Int → Int} {len : Int} {c d e : Ld} (h : Yo T len c d) (k : Yo T len c e) (h1 : yS T len d = d) (k1 : yS T len e = e) : d = e := by
  obtain ⟨n, hn⟩ := h
  obtain ⟨m, hm⟩ := k
  by_cases q : n ≤ m
  · obtain ⟨j, rfl⟩ : ∃ j, m = n + j := ⟨m - n, by omega⟩
    rw [yI_add, hn, yI_fix h1] at hm
    exact hm
  · obtain ⟨j, rfl⟩ : ∃ j, n = m + j := ⟨n - m, by omega⟩
    rw [yI_add, hm, yI_fix k1] at hn
    exact hn.symm
theorem zS_big {T : Int → Int} {c : Lc} (h : 4 ≤ c.1) : zS T c = c := by
  unfold zS
  rw [if_neg (by omega), if_neg (by omega), if_neg (by omega), if_neg (by omega)]
theorem yS_in {T : Int → Int} {len : Int} {c : Lc} {X : Int × Int × Int} {K : List Kl} (h : c.1 ≤ 3) : yS T len (c, X, K) = (zS T c, X, K) := by
  unfold yS
  rw [if_neg (by show ¬ c.1 = 5; omega), if_neg (by show ¬ c.1 = 6; omega), if_neg (by show ¬ c.1 = 7; omega), if_neg (by show ¬ c.1 = 4; omega)]
/-- the small machine's way is a way of the whole -/
theorem Yo_in {T : Int → Int} {len : Int} {c c' : Lc} {X : Int × Int × Int} {K : List Kl} (h : Lo T c c') : Yo T len (c, X, K) (c', X, K) := by
  obtain ⟨n, hn⟩ := h
  induction n generalizing c with
  | zero => exact ⟨0, by rw [show c = c' from hn]; rfl⟩
  | succ n ih =>
    by_cases q : c.1 ≤ 3
    · have hn2 : zI T n (zS T c) = c' := hn
      exact Yo_tr (Yo_st (yS_in q)) (ih hn2)
    · rw [zI_fix (zS_big (by omega))] at hn
      exact ⟨0, by rw [hn]; rfl⟩
theorem ys_4 {T : Int → Int} {len f ph : Int} {C : List Int} {W : List (Int × Int)} {X : Int × Int × Int} {K : List Kl} : yS T len ((4, f, ph, C, W), X, K) = ((4, f, ph, C, W), (0, 0, 0), []) := rfl
theorem ys_5 {T : Int → Int} {len pl ph : Int} {C : List Int} {W : List (Int × Int)} {X : Int × Int × Int} {K : List Kl} : yS T len ((5, pl, ph, C, W), X, K) = y5 T pl C X K := rfl
theorem ys_6 {T : Int → Int} {len pl ph : Int} {C : List Int} {W : List (Int × Int)} {X : Int × Int × Int} {K : List Kl} : yS T len ((6, pl, ph, C, W), X, K) = y6 T len pl C X K := rfl
theorem ys_7 {T : Int → Int} {len pl ph : Int} {C : List Int} {W : List (Int × Int)} {X : Int × Int × Int} {K : List Kl} : yS T len ((7, pl, ph, C, W), X, K) = y7 T pl C K := rfl
theorem ys_8 {T : Int → Int} {len pl ph : Int} {C : List Int} {W : List (Int × Int)} {X : Int × Int × Int} {K : List Kl} : yS T len ((8, pl, ph, C, W), X, K) = ((8, pl, ph, C, W), X, K) := rfl
/-- a fault of the small machine is one of the whole -/
theorem Yo_bad {T : Int → Int} {len f : Int} {d : Ld} {c : Lc} {X : Int × Int × Int} {K : List Kl} (h : Yo T len d (c, X, K)) (k : Lo T c (4, f, 0, [], [])) : Yo T len d ((4, f, 0, [], []), (0, 0, 0), []) := Yo_tr h (Yo_tr (Yo_in k) (Yo_st ys_4))
/-- rows of clauses as a list -/
def Fk (f : Nat → Kl) (K : List Kl) : Prop := ∀ k, k < K.length → K[k]? = some (f k)
theorem Fk_app {f g : Nat → Kl} {K : List Kl} {x : Kl} (h : Fk f K) (h1 : ∀ k, k < K.length → g k = f k) (h2 : g K.length = x) : Fk g (K ++ [x]) := by
  intro k hk
  rw [List.length_append, List.length_singleton] at hk
  by_cases q : k < K.length
  · rw [List.getElem?_append_left q, h k q, h1 k q]
  · have e : k = K.length := by omega
    subst e
    rw [List.getElem?_append_right (Nat.le_refl _), Nat.sub_self, h2]
    rfl
theorem Fk_cg {f g : Nat → Kl} {K : List Kl} (h : Fk f K) (h1 : ∀ k, k < K.length → g k = f k) : Fk g K := fun k hk => by rw [h k hk, h1 k hk]
abbrev eK (a b c d : Nat) (M : qM) (k : Nat) : Kl := ((M a k).toInt, (M b k).toInt, (M c k).toInt, (M d k).toInt)
abbrev KRw (w : Nat) (M : qM) (K : List Kl) : Prop := (M w 7).toInt = (K.length : Int) ∧ Fk (eK (w + 3) (w + 4) (w + 5) (w + 6) M) K
theorem w_addc {n : Nat} {w : Nat} (hw : q_isLaw w) {C : List Int} {K : List Kl} (a1 a2 a3 : Int32) (M : qM) (hG : G M) (hC : CR w M C) (hK : KRw w M K) (hlt : K.length < 16) (pa2 : 0 ≤ a2.toInt ∧ a2.toInt ≤ 240) (pa3 : 0 ≤ a3.toInt ∧ a3.toInt ≤ 240) : qT (f_X3_addClause n w a1 a2 a3 M) (fun _ m => CR w m C ∧ KRw w m (K ++ [(a1.toInt, a2.toInt, a3.toInt, (C.length : Int))]) ∧ (∀ c, c < w ∨ w + 6 < c → m c = M c) ∧ G m) := by
  have h6 := rw_0_6 hw hG
  have h7 := rw_0_7 hw hG
  have hk := hK.1
  have ei : (M w 7).toNatClampNeg = K.length := by rw [tnc, hk]; rfl
  unfold f_X3_addClause
  refine T_le l_16 rfl (fun c => by exfalso; omega) (fun c => ?_)
  refine T_qg rfl (by omega) (by omega) (T_qlm ?_)
  have e1 : ∀ c s, c ≠ w + 3 ∨ s ≠ K.length → mu M (w + 3) (M w 7).toNatClampNeg a1 c s = M c s := fun c s q => by rw [ei]; exact mu_ne q
  have f1 : mu M (w + 3) (M w 7).toNatClampNeg a1 (w + 3) K.length = a1 := by rw [ei]; exact mu_at
  have g1 := G_lr (k := 3) (s := (M w 7).toNatClampNeg) (v := a1) hw hG (by omega) (Or.inl rfl)
  generalize mu M (w + 3) (M w 7).toNatClampNeg a1 = m1 at e1 f1 g1 ⊢
  rw [e1 w 7 (Or.inl (by omega))]
  refine T_qg rfl (by omega) (by omega) (T_qlm ?_)
  have e2 : ∀ c s, c ≠ w + 4 ∨ s ≠ K.length → mu m1 (w + 4) (M w 7).toNatClampNeg a2 c s = m1 c s := fun c s q => by rw [ei]; exact mu_ne q
  have f2 : mu m1 (w + 4) (M w 7).toNatClampNeg a2 (w + 4) K.length = a2 := by rw [ei]; exact mu_at
  have g2 := G_lr (k := 4) (s := (M w 7).toNatClampNeg) (v := a2) hw g1 (by omega) (Or.inr pa2)
  generalize mu m1 (w + 4) (M w 7).toNatClampNeg a2 = m2 at e2 f2 g2 ⊢
  rw [e2 w 7 (Or.inl (by omega)), e1 w 7 (Or.inl (by omega))]
  refine T_qg rfl (by omega) (by omega) (T_qlm ?_)
  have e3 : ∀ c s, c ≠ w + 5 ∨ s ≠ K.length → mu m2 (w + 5) (M w 7).toNatClampNeg a3 c s = m2 c s := fun c s q => by rw [ei]; exact mu_ne q
  have f3 : mu m2 (w + 5) (M w 7).toNatClampNeg a3 (w + 5) K.length = a3 := by rw [ei]; exact mu_at
  have g3 := G_lr (k := 5) (s := (M w 7).toNatClampNeg) (v := a3) hw g2 (by omega) (Or.inr pa3)
  generalize mu m2 (w + 5) (M w 7).toNatClampNeg a3 = m3 at e3 f3 g3 ⊢
  have w7 : m3 w 7 = M w 7 := by rw [e3 w 7 (Or.inl (by omega)), e2 w 7 (Or.inl (by omega)), e1 w 7 (Or.inl (by omega))]
  have w6 : m3 w 6 = M w 6 := by rw [e3 w 6 (Or.inl (by omega)), e2 w 6 (Or.inl (by omega)), e1 w 6 (Or.inl (by omega))]
  rw [w7, w6]
  refine T_qg rfl (by omega) (by omega) (T_qlm ?_)
  have e4 : ∀ c s, c ≠ w + 6 ∨ s ≠ K.length → mu m3 (w + 6) (M w 7).toNatClampNeg (M w 6) c s = m3 c s := fun c s q => by rw [ei]; exact mu_ne q
  have f4 : mu m3 (w + 6) (M w 7).toNatClampNeg (M w 6) (w + 6) K.length = M w 6 := by rw [ei]; exact mu_at
  have g4 := G_lr (k := 6) (s := (M w 7).toNatClampNeg) (v := M w 6) hw g3 (by omega) (Or.inr h6)
  generalize mu m3 (w + 6) (M w 7).toNatClampNeg (M w 6) = m4 at e4 f4 g4 ⊢
  refine T_qlm ?_
  rw [e4 w 7 (Or.inl (by omega)), w7]
  have e5 : (M w 7 + 1).toInt = (M w 7).toInt + 1 := i_add rfl l_1 (by omega) (by omega)
  have g5 := G_lw hw g4 (s := 7) (v := M w 7 + 1) (fun q => absurd q (by decide)) (fun _ => by rw [e5]; omega) (Or.inr rfl)
  have all : ∀ c s, (c ≠ w ∨ s ≠ 7) → (c ≠ w + 3 ∨ s ≠ K.length) → (c ≠ w + 4 ∨ s ≠ K.length) → (c ≠ w + 5 ∨ s ≠ K.length) → (c ≠ w + 6 ∨ s ≠ K.length) → mu m4 w 7 (M w 7 + 1) c s = M c s := by
    intro c s q0 q1 q2 q3 q4
    rw [mu_ne q0, e4 c s q4, e3 c s q3, e2 c s q2, e1 c s q1]
  refine T_ret ⟨⟨?_, ?_⟩, ⟨?_, ?_⟩, fun c hc => ?_, g5⟩
  · rw [all w 6 (Or.inr (by decide)) (Or.inl (by omega)) (Or.inl (by omega)) (Or.inl (by omega)) (Or.inl (by omega))]; exact hC.1
  · refine Fn_cg hC.2 (fun k _ => ?_)
    show enc _ _ = enc _ _
    rw [all (w + 1) k (Or.inl (by omega)) (Or.inl (by omega)) (Or.inl (by omega)) (Or.inl (by omega)) (Or.inl (by omega)), all (w + 2) k (Or.inl (by omega)) (Or.inl (by omega)) (Or.inl (by omega)) (Or.inl (by omega)) (Or.inl (by omega))]
  · rw [mu_at, e5, hk, List.length_append, List.length_singleton]; omega
  · refine Fk_app hK.2 (fun k hk2 => ?_) ?_
    · have : k ≠ K.length := by omega
      show (_, _, _, _) = (_, _, _, _)
      rw [all (w + 3) k (Or.inl (by omega)) (Or.inr this) (Or.inl (by omega)) (Or.inl (by omega)) (Or.inl (by omega)), all (w + 4) k (Or.inl (by omega)) (Or.inl (by omega)) (Or.inr this) (Or.inl (by omega)) (Or.inl (by omega)), all (w + 5) k (Or.inl (by omega)) (Or.inl (by omega)) (Or.inl (by omega)) (Or.inr this) (Or.inl (by omega)), all (w + 6) k (Or.inl (by omega)) (Or.inl (by omega)) (Or.inl (by omega)) (Or.inl (by omega)) (Or.inr this)]
    · have u3 : mu m4 w 7 (M w 7 + 1) (w + 3) K.length = a1 := by rw [mu_ne (Or.inl (by omega)), e4 _ _ (Or.inl (by omega)), e3 _ _ (Or.inl (by omega)), e2 _ _ (Or.inl (by omega)), f1]
      have u4 : mu m4 w 7 (M w 7 + 1) (w + 4) K.length = a2 := by rw [mu_ne (Or.inl (by omega)), e4 _ _ (Or.inl (by omega)), e3 _ _ (Or.inl (by omega)), f2]
      have u5 : mu m4 w 7 (M w 7 + 1) (w + 5) K.length = a3 := by rw [mu_ne (Or.inl (by omega)), e4 _ _ (Or.inl (by omega)), f3]
      have u6 : mu m4 w 7 (M w 7 + 1) (w + 6) K.length = M w 6 := by rw [mu_ne (Or.inl (by omega)), f4]
      show (_, _, _, _) = (_, _, _, _)
      rw [u3, u4, u5, u6, hC.1]
  · funext s
    exact all c s (Or.inl (by omega)) (Or.inl (by omega)) (Or.inl (by omega)) (Or.inl (by omega)) (Or.inl (by omega))
/-! the Java side's clauses -/
theorem KR_Lf {r : Nat} {M m : qM} {K : List Kl} (h : KRw r M K) (e : Lf r M m) : KRw r m K := by
  refine ⟨by rw [e.2.2.1]; exact h.1, Fk_cg h.2 (fun k _ => ?_)⟩
  show (_, _, _, _) = (_, _, _, _)
  rw [e.2.2.2 3 (by decide) (by decide), e.2.2.2 4 (by decide) (by decide), e.2.2.2 5 (by decide) (by decide), e.2.2.2 6 (by decide) (by decide)]
theorem KR_1 {r : Nat} (hr : q_isLaw r) {M m : qM} {K : List Kl} (h : KRw r M K) (e : ∀ c, c ≠ 1 → m c = M c) : KRw r m K := by
  have q : ∀ k, r + k ≠ 1 := fun k => by rcases hr with rfl | rfl <;> omega
  refine ⟨by rw [e r (q 0)]; exact h.1, Fk_cg h.2 (fun k _ => ?_)⟩
  show (_, _, _, _) = (_, _, _, _)
  rw [e _ (q 3), e _ (q 4), e _ (q 5), e _ (q 6)]
/-- what a clause's reader says -/
abbrev Lk (R : Nat → Int32) (len : Int) (r : Nat) (d0 : Ld) (pl0 : Int) (K : List Kl) (v : Int32) (m : qM) : Prop := (Cx R len m ∧ G m) ∧ ((v.toInt = 0 ∧ Yo (tq R len) len d0 ((4, (m 1 4).toInt, 0, [], []), (0, 0, 0), [])) ∨ (v.toInt = 1 ∧ ∃ C X, Yo (tq R len) len d0 ((6, (m 1 3).toInt, 0, C, []), X, K) ∧ CR r m C ∧ KRw r m (K ++ [(X.1, X.2.1, X.2.2, (C.length : Int))]) ∧ K.length < 16 ∧ (C.length : Int) ≤ (m 1 3).toInt ∧ pl0 < (m 1 3).toInt ∧ (m 1 3).toInt ≤ len))
theorem w_c113 {n : Nat} (hn : 200000 ≤ n) {r : Nat} (hr : q_isLaw r) {R : Nat → Int32} {len pl0 : Int} (hl : len ≤ 240) {d0 : Ld} (a1 a2 : Int32) (M : qM) (C : List Int) (K : List Kl) (hL : Ly R len r C M) (hK : KRw r M K) (h16 : K.length < 16) (h2 : 0 ≤ a2.toInt ∧ a2.toInt ≤ 240) (hp : pl0 < (M 1 3).toInt) (hY : Yo (tq R len) len d0 ((5, (M 1 3).toInt, 0, C, []), (a1.toInt, a2.toInt, 0), K)) : qT (f_X4_readClause_113 n r a1 a2 M) (Lk R len r d0 pl0 K) := by
  obtain ⟨hG, hX, hC, hcp, hpl⟩ := hL
  have h13 := r_1_3 hG
  have hc1 := hC.1
  unfold f_X4_readClause_113
  refine T_ql rfl ?_
  intro x1 hx1
  refine T_qc (w_must hn (40 : Int32) M hG (by decide)) ?_
  rintro r2 m3 ⟨ho3, z2, z3, g3⟩
  rw [hX.1, hX.2, l_40] at ho3
  have hX3 : Cx R len m3 := ⟨by rw [z3 2 (by decide)]; exact hX.1, by rw [z2 2 (by decide) (by decide)]; exact hX.2⟩
  refine T_eq rfl l_0 (fun c => ?_) (fun c => ?_)
  · refine T_ret ⟨⟨hX3, g3⟩, Or.inl ⟨l_0, Yo_tr hY (Yo_st ?_)⟩⟩
    rw [ys_5]
    unfold y5
    rw [if_neg (by omega)]
    unfold yF zF
    have : (m3 1 4).toInt = -1000 - (M 1 3).toInt := by omega
    rw [this]
    rfl
  · have e3 : (m3 1 3).toInt = (M 1 3).toInt + 1 := by omega
    have hst : Yo (tq R len) len d0 ((2, (m3 1 3).toInt, 0, C, [(13, 0)]), (a1.toInt, a2.toInt, (C.length : Int)), K) := by
      refine Yo_tr hY (Yo_st ?_)
      rw [ys_5]
      unfold y5
      rw [if_pos (by omega), e3]
    have hC3 := CR_1 hr hC z3
    have hL3 : Ly R len r C m3 := ⟨g3, hX3, hC3, by omega, by omega⟩
    refine T_qc (T_both (w_cond hn hr hl (1 : Int32) m3 C [(13, 0)] hL3 (by rw [l_1]; rfl) (by rw [l_1]; omega) rfl) (t_X4_readCondition hn hr (1 : Int32) m3 g3 (by rw [l_1]; omega) (by rw [hX3.2, hC3.1]; omega))) ?_
    rintro r4 m5 ⟨⟨⟨hX5, g5⟩, ho5⟩, _, _, hLf, _, _⟩
    refine T_eq rfl l_0 (fun d => ?_) (fun d => ?_)
    · rcases ho5 with ⟨q1, q2⟩ | ⟨q1, q2⟩
      · exact T_ret ⟨⟨hX5, g5⟩, Or.inl ⟨l_0, Yo_bad hst q2⟩⟩
      · omega
    · obtain ⟨q1, C', q2, q3, q4, q5, q6, q7⟩ := ho5.resolve_left (fun q => d q.1)
      clear ho5
      have hK5 := KR_Lf (KR_1 hr hK z3) hLf
      refine T_qc (w_must hn (41 : Int32) m5 g5 (by decide)) ?_
      rintro r6 m7 ⟨ho7, v2, v3, g7⟩
      rw [hX5.1, hX5.2, l_41] at ho7
      have hX7 : Cx R len m7 := ⟨by rw [v3 2 (by decide)]; exact hX5.1, by rw [v2 2 (by decide) (by decide)]; exact hX5.2⟩
      have hzD : zS (tq R len) (3, (m5 1 3).toInt, 0, C', [(13, 0)]) = (if tq R len (m5 1 3).toInt = 41 then (6, (m5 1 3).toInt + 1, 0, C', []) else zF 1 (m5 1 3).toInt) := by
        rw [ls_D, zD_c]
        rw [if_neg (by decide), if_neg (by decide), if_neg (fun q => absurd q.1 (by decide))]
        unfold zH
        by_cases q : tq R len (m5 1 3).toInt = 41
        · rw [if_pos ⟨q, rfl⟩, if_pos rfl, if_pos q]
        · rw [if_neg (fun x => q x.1), if_neg q7.1, if_neg q7.2, if_neg q]
      refine T_eq rfl l_0 (fun e => ?_) (fun e => ?_)
      · refine T_ret ⟨⟨hX7, g7⟩, Or.inl ⟨l_0, Yo_bad hst (Lo_tr q2 (Lo_st ?_))⟩⟩
        rw [hzD, if_neg (by omega)]
        unfold zF
        have : (m7 1 4).toInt = -1000 - (m5 1 3).toInt := by omega
        rw [this]
        rfl
      · have e7 : (m7 1 3).toInt = (m5 1 3).toInt + 1 := by omega
        have hst2 : Yo (tq R len) len d0 ((6, (m7 1 3).toInt, 0, C', []), (a1.toInt, a2.toInt, (C.length : Int)), K) := by
          refine Yo_tr hst (Yo_in (Lo_tr q2 (Lo_st ?_)))
          rw [hzD, if_pos (by omega), e7]
        refine T_qc (w_addc hr (C := C') (K := K) a1 a2 x1 m7 g7 (CR_1 hr q3 v3) (KR_1 hr hK5 v3) h16 h2 (by rw [hx1]; omega)) ?_
        rintro _ m8 ⟨u1, u2, u3, g8⟩
        have f1 : m8 1 = m7 1 := u3 1 (Or.inl (by rcases hr with rfl | rfl <;> decide))
        have f2 : m8 2 = m7 2 := u3 2 (Or.inl (by rcases hr with rfl | rfl <;> decide))
        rw [hx1, hc1] at u2
        refine T_ret ⟨⟨⟨by rw [f2]; exact hX7.1, by rw [f1]; exact hX7.2⟩, g8⟩, Or.inr ⟨l_1, C', _, by rw [f1]; exact hst2, u1, u2, h16, by rw [f1]; omega, by rw [f1]; omega, by rw [f1]; omega⟩⟩
theorem w_c48 {n : Nat} (hn : 200000 ≤ n) {r : Nat} (hr : q_isLaw r) {R : Nat → Int32} {len : Int} (hl : len ≤ 240) {d0 : Ld} (a1 : Int32) (M : qM) (C : List Int) (K : List Kl) (hL : Ly R len r C M) (hK : KRw r M K) (ha : a1.toInt = tq R len (M 1 3).toInt) (hcl : isCl (tq R len (M 1 3).toInt)) (hY : Yo (tq R len) len d0 ((7, (M 1 3).toInt, 0, C, []), (0, 0, 0), K)) : qT (f_X4_readClause_48 n r a1 M) (Lk R len r d0 (M 1 3).toInt K) := by
  obtain ⟨hG, hX, hC, hcp, hpl⟩ := hL
  have h13 := r_1_3 hG
  have h7 := rw_0_7 hr hG
  have hk := hK.1
  have hc1 := hC.1
  have ht := tq_r R len (M 1 3).toInt
  have hcl2 : tq R len (M 1 3).toInt = 97 ∨ tq R len (M 1 3).toInt = 118 ∨ tq R len (M 1 3).toInt = 102 ∨ tq R len (M 1 3).toInt = 99 := hcl
  unfold f_X4_readClause_48
  refine T_lt rfl l_16 (fun c => ?_) (fun c => ?_)
  · have h16 : K.length < 16 := by omega
    refine w_pl hG (by omega) ?_
    intro m1 y1 y2 y3 g1
    have hX1 : Cx R len m1 := ⟨by rw [y3 2 (by decide)]; exact hX.1, by rw [y2 2 (by decide)]; exact hX.2⟩
    have hC1 := CR_1 hr hC y3
    have hL1 : Ly R len r C m1 := ⟨g1, hX1, hC1, by omega, by omega⟩
    refine T_ql rfl ?_
    intro x2 hx2
    rw [hC1.1] at hx2
    refine T_eq rfl l_97 (fun d => ?_) (fun d => ?_)
    · refine w_c113 hn hr hl a1 x2 m1 C K hL1 (KR_1 hr hK y3) h16 (by omega) (by omega) (Yo_tr hY (Yo_st ?_))
      rw [ys_7]
      unfold y7
      rw [if_neg (fun q => q hcl), if_neg (by omega), if_pos (by omega), y1, d, hx2]
    · have hst : Yo (tq R len) len d0 ((0, (m1 1 3).toInt, 0, C, []), (a1.toInt, x2.toInt, 0), K) := by
        refine Yo_tr hY (Yo_st ?_)
        rw [ys_7]
        unfold y7
        rw [if_neg (fun q => q hcl), if_neg (by omega), if_neg (by omega), y1, ha, hx2]
      refine T_qc (T_both (w_sum hn hr hl (0 : Int32) m1 C 0 [] hL1 (by rw [l_0]; rfl) (by rw [l_0]; omega) (fun q q2 e => by cases e)) (t_X4_readSum hn hr (0 : Int32) m1 g1 (by rw [l_0]; omega) (by rw [hX1.2, hC1.1]; omega))) ?_
      rintro r3 m4 ⟨⟨⟨hX4, g4⟩, ho4⟩, _, _, hLf, _, _⟩
      refine T_eq rfl l_0 (fun e => ?_) (fun e => ?_)
      · rcases ho4 with ⟨q1, q2⟩ | ⟨q1, q2⟩
        · exact T_ret ⟨⟨hX4, g4⟩, Or.inl ⟨l_0, Yo_bad hst q2⟩⟩
        · omega
      · obtain ⟨q1, C', q2, q3, q4, q5, q6, q7⟩ := ho4.resolve_left (fun q => e q.1)
        clear ho4
        refine T_mono (w_c113 (pl0 := (M 1 3).toInt) hn hr hl a1 x2 m4 C' K ⟨g4, hX4, q3, by omega, q6⟩ (KR_Lf (KR_1 hr hK y3) hLf) h16 (by omega) (by omega) (Yo_tr hst (Yo_in (Lo_tr q2 (Lo_st ?_))))) (fun _ _ p => p)
        rw [ls_B]
        show zG _ _ _ _ _ _ _ = _
        unfold zG
        rw [if_neg (by rw [q7]; decide), if_neg (by decide)]
        unfold zE
        rw [if_pos rfl]
  · have h16 : K.length = 16 := by omega
    refine T_qc (w_fails (4 : Int32) (M 1 3) M hG (by decide) h13) ?_
    rintro r5 m6 ⟨w0, w1, w2, w3, g6⟩
    rw [l_4] at w1
    refine T_qb rfl (by omega) (by omega) (T_ret ⟨⟨⟨by rw [w3 2 (by decide)]; exact hX.1, by rw [w2 2 (by decide)]; exact hX.2⟩, g6⟩, Or.inl ⟨w0, Yo_tr hY (Yo_st ?_)⟩⟩)
    rw [ys_7]
    unfold y7
    rw [if_neg (fun q => q hcl), if_pos h16]
    unfold yF zF
    rw [w1]
theorem w_clause {n : Nat} (hn : 200000 ≤ n) {r : Nat} (hr : q_isLaw r) {R : Nat → Int32} {len : Int} (hl : len ≤ 240) {d0 : Ld} (M : qM) (C : List Int) (K : List Kl) (hL : Ly R len r C M) (hK : KRw r M K) (hY : Yo (tq R len) len d0 ((7, (M 1 3).toInt, 0, C, []), (0, 0, 0), K)) : qT (f_X4_readClause n r M) (Lk R len r d0 (M 1 3).toInt K) := by
  have hL2 := hL
  obtain ⟨hG, hX, hC, hcp, hpl⟩ := hL2
  have h13 := r_1_3 hG
  unfold f_X4_readClause
  refine T_qc (u_sign hn M hG) ?_
  rintro r1 m2 ⟨rfl, hr1⟩
  rw [hX.1, hX.2] at hr1
  refine T_eq rfl l_97 (fun c => ?_) (fun c1 => ?_)
  · exact w_c48 hn hr hl r1 m2 C K hL hK hr1 (Or.inl (by omega)) hY
  · refine T_eq rfl l_118 (fun c => ?_) (fun c2 => ?_)
    · exact w_c48 hn hr hl r1 m2 C K hL hK hr1 (Or.inr (Or.inl (by omega))) hY
    · refine T_eq rfl l_102 (fun c => ?_) (fun c3 => ?_)
      · exact w_c48 hn hr hl r1 m2 C K hL hK hr1 (Or.inr (Or.inr (Or.inl (by omega)))) hY
      · refine T_eq rfl l_99 (fun c => ?_) (fun c4 => ?_)
        · exact w_c48 hn hr hl r1 m2 C K hL hK hr1 (Or.inr (Or.inr (Or.inr (by omega)))) hY
        · refine T_qc (w_fails (1 : Int32) (m2 1 3) m2 hG (by decide) h13) ?_
          rintro r5 m6 ⟨w0, w1, w2, w3, g6⟩
          rw [l_1] at w1
          refine T_qb rfl (by omega) (by omega) (T_ret ⟨⟨⟨by rw [w3 2 (by decide)]; exact hX.1, by rw [w2 2 (by decide)]; exact hX.2⟩, g6⟩, Or.inl ⟨w0, Yo_tr hY (Yo_st ?_)⟩⟩)
          rw [ys_7]
          unfold y7
          rw [if_pos (fun q => by have q2 : _ ∨ _ ∨ _ ∨ _ := q; omega)]
          unfold yF zF
          rw [w1]
/-- what a law's reader says -/
abbrev Ll (R : Nat → Int32) (len : Int) (r : Nat) (v : Int32) (m : qM) : Prop := G m ∧ (Yo (tq R len) len ((7, 0, 0, [], []), (0, 0, 0), []) ((4, v.toInt, 0, [], []), (0, 0, 0), []) ∨ ∃ C K p, Yo (tq R len) len ((7, 0, 0, [], []), (0, 0, 0), []) ((8, p, 0, C, []), (0, 0, 0), K) ∧ v.toInt = (K.length : Int) ∧ CR r m C ∧ KRw r m K)
theorem w_read17 {n : Nat} (hn : 200000 ≤ n) {r : Nat} (hr : q_isLaw r) {R : Nat → Int32} {len : Int} (hl : len ≤ 240) : ∀ (m : Nat) (a2 : Int32) (M : qM) (C : List Int) (K : List Kl), Ly R len r C M → KRw r M K → a2.toInt = (K.length : Int) → Yo (tq R len) len ((7, 0, 0, [], []), (0, 0, 0), []) ((7, (M 1 3).toInt, 0, C, []), (0, 0, 0), K) → 17 - a2.toInt < (m : Int) → qT (f_X4_read_17 n r m a2 M) (Ll R len r) := by
  intro m
  induction m with
  | zero => intro a2 M C K hL hK ha _ h; have := rw_0_7 hr hL.1; have := hK.1; exfalso; omega
  | succ m ih =>
    intro a2 M C K hL hK ha hY hm
    have h7 := rw_0_7 hr hL.1
    have hk := hK.1
    show qT (b_X4_read_17 n r (f_X4_read_17 n r m) a2 M) _
    unfold b_X4_read_17
    refine T_lt l_16 rfl (fun c => by exfalso; omega) (fun c => ?_)
    refine T_qc (w_clause hn hr hl M C K hL hK hY) ?_
    rintro r1 m2 ⟨⟨hX2, g2⟩, ho2⟩
    refine T_eq rfl l_0 (fun d => ?_) (fun d => ?_)
    · rcases ho2 with ⟨q1, q2⟩ | ⟨q1, q2⟩
      · exact T_ret ⟨g2, Or.inl q2⟩
      · omega
    · obtain ⟨q1, C', X, q2, q3, q4, q5, q6, q7, q8⟩ := ho2.resolve_left (fun q => d q.1)
      clear ho2
      have h13 := r_1_3 g2
      refine T_qc (u_takes hn (M0 := m2) (59 : Int32) m2 g2 Sm.rf (by decide)) ?_
      rintro r3 m4 ⟨ho4, z2, z3, g4, _⟩
      rw [hX2.1, hX2.2, l_59] at ho4
      have hX4 : Cx R len m4 := ⟨by rw [z3 2 (by decide)]; exact hX2.1, by rw [z2 2 (by decide)]; exact hX2.2⟩
      refine T_eq rfl l_0 (fun e => ?_) (fun e => ?_)
      · have e3 : (m4 1 3).toInt = (m2 1 3).toInt := by omega
        refine T_qc (u_end m4 g4) ?_
        rintro r6 m7 ⟨ho7, v3, g7⟩
        rw [hX4.2, e3] at ho7
        refine T_eq rfl l_0 (fun f => ?_) (fun f => ?_)
        · refine T_ret ⟨g7, Or.inl (Yo_tr q2 (Yo_st ?_))⟩
          rw [ys_6]
          unfold y6
          rw [if_neg (by omega), if_neg (by omega)]
          unfold yF zF
          have : (m7 1 4).toInt = -1000 - (m2 1 3).toInt := by omega
          rw [this]
          rfl
        · have hK7 := KR_1 hr (KR_1 hr q4 z3) v3
          refine T_ret ⟨g7, Or.inr ⟨C', K ++ [(X.1, X.2.1, X.2.2, (C'.length : Int))], (m2 1 3).toInt, Yo_tr q2 (Yo_st ?_), hK7.1, CR_1 hr (CR_1 hr q3 z3) v3, hK7⟩⟩
          rw [ys_6]
          unfold y6
          rw [if_neg (by omega), if_pos (by omega)]
      · have e3 : (m4 1 3).toInt = (m2 1 3).toInt + 1 := by omega
        refine T_ql (i_add rfl l_1 (by omega) (by omega)) ?_
        intro x5 hx5
        have hKl : ((K ++ [(X.1, X.2.1, X.2.2, (C'.length : Int))]).length : Int) = (K.length : Int) + 1 := by rw [List.length_append, List.length_singleton]; omega
        refine ih x5 m4 C' (K ++ [(X.1, X.2.1, X.2.2, (C'.length : Int))]) ⟨g4, hX4, CR_1 hr q3 z3, by omega, by omega⟩ (KR_1 hr q4 z3) (by rw [hKl]; omega) (Yo_tr q2 (Yo_st ?_)) (by omega)
        rw [ys_6]
        unfold y6
        rw [if_pos (by omega), e3]
theorem w_clear {n : Nat} {w : Nat} (hw : q_isLaw w) (M : qM) (hG : G M) : qT (f_X3_clear n w M) (fun _ m => CR w m [] ∧ KRw w m [] ∧ (∀ c, c ≠ w → m c = M c) ∧ G m) := by
  have z0 : (0 : Int32).toInt = 0 := rfl
  unfold f_X3_clear
  refine T_qlm (T_qlm (T_ret ⟨⟨?_, Fn_nil⟩, ⟨?_, fun k hk => absurd hk (by simp)⟩, fun c hc => ?_, ?_⟩))
  · rw [mu_ne (Or.inr (by decide)), mu_at]; rfl
  · rw [mu_at]; rfl
  · rw [mu_nc hc, mu_nc hc]
  · exact G_lw hw (G_lw hw hG (fun _ => by omega) (fun _ => by omega) (Or.inl rfl)) (fun _ => by omega) (fun _ => by omega) (Or.inr rfl)
theorem w_read {n : Nat} (hn : 200000 ≤ n) {r : Nat} (hr : q_isLaw r) (a1 : Int32) (M : qM) (hG : G M) (ha : 1 ≤ a1.toInt ∧ a1.toInt ≤ 240) (hs : a1.toInt ≤ (M 1 1).toInt) : qT (f_X4_read n r a1 M) (Ll (M 2) a1.toInt r) := by
  have n1 : (1 : Nat) ≠ r := by rcases hr with rfl | rfl <;> decide
  have n2 : (2 : Nat) ≠ r := by rcases hr with rfl | rfl <;> decide
  unfold f_X4_read
  refine T_qc (w_clear hr M hG) ?_
  rintro _ m1 ⟨c1, k1, z1, g1⟩
  refine T_qc (u_open a1 m1 g1 (by omega)) ?_
  rintro _ m2 ⟨p1, p2, p3, p4, g2⟩
  have e2 : (m2 1 2).toInt = a1.toInt := by
    have hmin := i_min (a := a1) (b := M 1 1) rfl rfl
    rw [p2, z1 1 n1]; omega
  refine w_read17 hn hr ha.2 n 0 m2 [] [] ⟨g2, ⟨by rw [p4 2 (by decide), z1 2 n2], e2⟩, CR_1 hr c1 p4, by rw [p1]; decide, by rw [p1]; omega⟩ (KR_1 hr k1 p4) (by rw [l_0]; rfl) ?_ (by rw [l_0]; omega)
  rw [p1]
  exact Yo_rf
