def okO : Option (Int × Int) → Prop
  | none => True
  | some q => q.1 ≤ 0 ∧ 0 ≤ q.2
theorem ok_ite {p : Prop} {hd : Decidable p} {a b : Option (Int × Int)} (ha : okO a) (hb : okO b) : okO (@ite (Option (Int × Int)) p hd a b) := by
  by_cases h : p
  · rw [if_pos h]; exact ha
  · rw [if_neg h]; exact hb
theorem ok_none : okO none := True.intro
theorem ok_some {a b : Int} (h1 : a ≤ 0) (h2 : 0 ≤ b) : okO (some (a, b)) := ⟨h1, h2⟩
set_option maxRecDepth 4000 in
theorem ok_rng (c s : Nat) : okO (rng c s) := by
  unfold rng
  repeat' (first | exact ok_none | exact ok_some (by decide) (by decide) | refine ok_ite ?_ ?_)
theorem Rin0 (c s : Nat) : Rin c s 0 := by
  have h := ok_rng c s
  unfold Rin
  generalize rng c s = o at h ⊢
  cases o with
  | none => trivial
  | some q => exact h
theorem lv19 {n p q : Nat} {K4 : Int32 → Int32 → qM → qR} {K11 : Int32 → Int32 → Int32 → qM → qR} (hq : q < 100) : ∀ (d r a m : Nat) (M : qM), r + d = q + 1 → a + d ≤ 20 → d < m → ∃ M', f_X12_laysWays_19 n K4 K11 m (nI a) (nI p) (nI q) (nI r) M = K11 (nI (a + d)) (nI p) (nI (q + 1)) M' ∧ (∀ x y, x ≠ 102 → x ≠ 103 → x ≠ 104 → M' x y = M x y) ∧ ∀ x y, 20 ≤ y → M' x y = M x y := by
  intro d
  induction d with
  | zero =>
    intro r a m M hr ha hm
    obtain ⟨k, rfl⟩ : ∃ k, m = k + 1 := ⟨m - 1, by omega⟩
    refine ⟨M, ?_, fun _ _ _ _ _ => rfl, fun _ _ _ => rfl⟩
    show b_X12_laysWays_19 n K4 K11 (f_X12_laysWays_19 n K4 K11 k) (nI a) (nI p) (nI q) (nI r) M = _
    unfold b_X12_laysWays_19
    rw [if_pos (nI_lt (by omega) (by omega))]
    simp only [ql, nI_1, Nat.add_zero]
  | succ d ih =>
    intro r a m M hr ha hm
    obtain ⟨k, rfl⟩ : ∃ k, m = k + 1 := ⟨m - 1, by omega⟩
    obtain ⟨M', e, o, o'⟩ := ih (r + 1) (a + 1) k (mu (mu (mu M 102 a (nI q)) 103 a (nI p - nI q)) 104 a (nI r)) (by omega) (by omega) (by omega)
    refine ⟨M', ?_, fun x y h1 h2 h3 => by rw [o x y h1 h2 h3]; simp [mu, h1, h2, h3], fun x y h => by rw [o' x y h, mu_ne (Or.inr (by omega)), mu_ne (Or.inr (by omega)), mu_ne (Or.inr (by omega))]⟩
    show b_X12_laysWays_19 n K4 K11 (f_X12_laysWays_19 n K4 K11 k) (nI a) (nI p) (nI q) (nI r) M = _
    unfold b_X12_laysWays_19
    rw [if_neg (nI_nlt (by omega) (by omega))]
    simp only [qg_nI (show a < 20 by omega) (by decide), qlm, ql, nI_clamp (show a < 2 ^ 31 by omega), nI_1]
    rw [e]
    congr 2
    omega
theorem lv11 {n p : Nat} {K4 : Int32 → Int32 → qM → qR} (hn : 200 ≤ n) (hp : p < 100) : ∀ (d q a m : Nat) (M : qM), q + d = p + 1 → a + trs q d ≤ 20 → d < m → ∃ M', f_X12_laysWays_11 n K4 m (nI a) (nI p) (nI q) M = K4 (nI (a + trs q d)) (nI (p + 1)) M' ∧ (∀ x y, x ≠ 102 → x ≠ 103 → x ≠ 104 → M' x y = M x y) ∧ ∀ x y, 20 ≤ y → M' x y = M x y := by
  intro d
  induction d with
  | zero =>
    intro q a m M hr ha hm
    obtain ⟨k, rfl⟩ : ∃ k, m = k + 1 := ⟨m - 1, by omega⟩
    refine ⟨M, ?_, fun _ _ _ _ _ => rfl, fun _ _ _ => rfl⟩
    show b_X12_laysWays_11 n K4 (f_X12_laysWays_11 n K4 k) (nI a) (nI p) (nI q) M = _
    unfold b_X12_laysWays_11
    rw [if_pos (nI_lt (by omega) (by omega))]
    simp only [ql, nI_1, trs, Nat.add_zero]
  | succ d ih =>
    intro q a m M hr ha hm
    obtain ⟨k, rfl⟩ : ∃ k, m = k + 1 := ⟨m - 1, by omega⟩
    have ha' : a + ((q + 1) + trs (q + 1) d) ≤ 20 := ha
    obtain ⟨M1, e1, o1, o1'⟩ := lv19 (n := n) (p := p) (q := q) (K4 := K4) (K11 := f_X12_laysWays_11 n K4 k) (by omega) (q + 1) 0 a n M (by omega) (by omega) (by omega)
    obtain ⟨M', e, o, o'⟩ := ih (q + 1) (a + (q + 1)) k M1 (by omega) (by omega) (by omega)
    refine ⟨M', ?_, fun x y h1 h2 h3 => by rw [o x y h1 h2 h3, o1 x y h1 h2 h3], fun x y h => by rw [o' x y h, o1' x y h]⟩
    show b_X12_laysWays_11 n K4 (f_X12_laysWays_11 n K4 k) (nI a) (nI p) (nI q) M = _
    unfold b_X12_laysWays_11
    rw [if_neg (nI_nlt (by omega) (by omega)), ← nI_0, e1, e]
    congr 2
    show a + (q + 1) + trs (q + 1) d = a + ((q + 1) + trs (q + 1) d)
    omega
theorem lv4 {n p a m : Nat} (hn : 200 ≤ n) (hp : p < 4) (ha : a + trs 0 (p + 1) ≤ 20) (M : qM) : ∃ M', f_X12_laysWays_4 n (m + 1) (nI a) (nI p) M = f_X12_laysWays_4 n m (nI (a + trs 0 (p + 1))) (nI (p + 1)) M' ∧ (∀ x y, x ≠ 102 → x ≠ 103 → x ≠ 104 → M' x y = M x y) ∧ ∀ x y, 20 ≤ y → M' x y = M x y := by
  obtain ⟨M', e, o, o'⟩ := lv11 (n := n) (p := p) (K4 := f_X12_laysWays_4 n m) hn (by omega) (p + 1) 0 a n M (by omega) ha (by omega)
  refine ⟨M', ?_, o, o'⟩
  show b_X12_laysWays_4 n (f_X12_laysWays_4 n m) (nI a) (nI p) M = _
  unfold b_X12_laysWays_4
  have c4 : ¬ (4 : Int32) ≤ nI p := nI_ge (a := p) (b := 4) hp (by decide)
  rw [if_neg c4, ← nI_0, e]
theorem waysv {n : Nat} (hn : 200 ≤ n) (M : qM) : ∃ M', f_X12_laysWays n M = some (0, M') ∧ (∀ x y, x ≠ 102 → x ≠ 103 → x ≠ 104 → M' x y = M x y) ∧ ∀ x y, 20 ≤ y → M' x y = M x y := by
  obtain ⟨k, rfl⟩ : ∃ k, n = k + 5 := ⟨n - 5, by omega⟩
  obtain ⟨M1, e1, o1, o1'⟩ := lv4 (n := k + 5) (p := 0) (a := 0) (m := k + 4) hn (by decide) (by decide) M
  obtain ⟨M2, e2, o2, o2'⟩ := lv4 (n := k + 5) (p := 1) (a := 1) (m := k + 3) hn (by decide) (by decide) M1
  obtain ⟨M3, e3, o3, o3'⟩ := lv4 (n := k + 5) (p := 2) (a := 4) (m := k + 2) hn (by decide) (by decide) M2
  obtain ⟨M4, e4, o4, o4'⟩ := lv4 (n := k + 5) (p := 3) (a := 10) (m := k + 1) hn (by decide) (by decide) M3
  refine ⟨M4, ?_, fun x y h1 h2 h3 => by rw [o4 x y h1 h2 h3, o3 x y h1 h2 h3, o2 x y h1 h2 h3, o1 x y h1 h2 h3], fun x y h => by rw [o4' x y h, o3' x y h, o2' x y h, o1' x y h]⟩
  unfold f_X12_laysWays
  rw [← nI_0, e1]
  refine Eq.trans e2 (Eq.trans e3 (Eq.trans e4 ?_))
  show b_X12_laysWays_4 (k + 5) (f_X12_laysWays_4 (k + 5) k) (nI (10 + trs 0 4)) (nI 4) M4 = _
  unfold b_X12_laysWays_4
  have c4 : (4 : Int32) ≤ nI 4 := by decide
  rw [if_pos c4, nI_0]
theorem initv {n : Nat} (hn : 200 ≤ n) : ∀ (d i m : Nat) (M : qM), i + d = 96 → d < m → ∃ M', f_X12_init_349 n m (nI i) M = some (0, M') ∧ (∀ x y, x ≠ 78 → x ≠ 102 → x ≠ 103 → x ≠ 104 → M' x y = M x y) ∧ (∀ y, y < 96 ∨ 192 ≤ y → M' 78 y = M 78 y) ∧ ∀ x y, x ≠ 78 → 20 ≤ y → M' x y = M x y := by
  intro d
  induction d with
  | zero =>
    intro i m M hi hm
    obtain ⟨k, rfl⟩ : ∃ k, m = k + 1 := ⟨m - 1, by omega⟩
    obtain ⟨M', e, o, o'⟩ := waysv hn M
    refine ⟨M', ?_, fun x y _ h1 h2 h3 => o x y h1 h2 h3, fun y _ => o _ _ (by decide) (by decide) (by decide), fun x y _ h => o' x y h⟩
    show b_X12_init_349 n (f_X12_init_349 n k) (nI i) M = _
    unfold b_X12_init_349
    have cc : (96 : Int32) ≤ nI i := nI_le (a := 96) (b := i) (by omega) (by omega)
    rw [if_pos cc, e]
    rfl
  | succ d ih =>
    intro i m M hi hm
    obtain ⟨k, rfl⟩ : ∃ k, m = k + 1 := ⟨m - 1, by omega⟩
    obtain ⟨M', e, o1, o2, o3⟩ := ih (i + 1) k (mu M 78 (96 + i) (-2)) (by omega) (by omega)
    refine ⟨M', ?_, fun x y h0 h1 h2 h3 => by rw [o1 x y h0 h1 h2 h3]; simp [mu, h0], fun y hy => ?_, fun x y h0 h => by rw [o3 x y h0 h, mu_ne (Or.inl h0)]⟩
    · show b_X12_init_349 n (f_X12_init_349 n k) (nI i) M = _
      unfold b_X12_init_349
      have cc : ¬ (96 : Int32) ≤ nI i := nI_ge (a := i) (b := 96) (by omega) (by decide)
      have ee : (96 : Int32) + nI i = nI (96 + i) := nI_add 96 i
      rw [if_neg cc, ee]
      simp only [qg_nI (show 96 + i < 954 by omega) (by decide), qlm, ql, nI_clamp (show 96 + i < 2 ^ 31 by omega), nI_1]
      exact e
    · rw [o2 y hy]
      simp only [mu]
      rw [if_neg (by omega)]
/-! the ways, reckoned out -/
def ckA (M : qM) : Bool := (List.range 4).all fun a => (List.range 4).all fun b => (List.range 4).all fun c => !(decide (a + b ≤ 3) && decide (c ≤ a)) || (List.range 20).any fun w => decide (M 102 w = nI a) && decide (M 103 w = nI b) && decide (M 104 w = nI c)
def ckB (M : qM) : Bool := (List.range 20).all fun w => decide (0 ≤ (M 102 w).toInt) && decide (0 ≤ (M 103 w).toInt) && decide (0 ≤ (M 104 w).toInt) && decide ((M 102 w).toInt + (M 103 w).toInt ≤ 3) && decide ((M 104 w).toInt ≤ (M 102 w).toInt)
def ckE (E : qR) : Bool := match E with
  | some (_, M) => ckA M && ckB M
  | none => false
theorem ck_ok : ckE (f_model 200000 q0) = true := by decide +kernel
theorem freshG : ∃ M0, f_model 200000 q0 = some (0, M0) ∧ Fr M0 ∧ G M0 := by
  obtain ⟨M0, e, o1, o2, o3⟩ := initv (n := 200000) (by decide) 96 0 200000 q0 (by omega) (by omega)
  have e' : f_model 200000 q0 = some (0, M0) := by
    unfold f_model
    rw [← nI_0]
    exact e
  have hc := ck_ok
  rw [e'] at hc
  have hc2 : ckA M0 = true ∧ ckB M0 = true := by
    have h : (ckA M0 && ckB M0) = true := hc
    rw [Bool.and_eq_true] at h
    exact h
  have hF : Fr M0 := by
    refine ⟨fun a b h => ?_, fun b h => ?_, fun a b h h1 h2 h3 => ?_⟩
    · rw [o1 a b (by omega) (by omega) (by omega) (by omega)]; rfl
    · rw [o2 b h]; rfl
    · rw [o1 a b (by omega) h1 h2 h3]; rfl
  have hA : ∀ a b c : Nat, a + b ≤ 3 → c ≤ a → ∃ w : Nat, w < 20 ∧ M0 102 w = nI a ∧ M0 103 w = nI b ∧ M0 104 w = nI c := by
    intro a b c h1 h2
    have q := hc2.1
    unfold ckA at q
    rw [List.all_eq_true] at q
    have q1 := q a (List.mem_range.mpr (by omega))
    rw [List.all_eq_true] at q1
    have q2 := q1 b (List.mem_range.mpr (by omega))
    rw [List.all_eq_true] at q2
    have q3 := q2 c (List.mem_range.mpr (by omega))
    simp only [Bool.or_eq_true, Bool.not_eq_true', Bool.and_eq_false_iff, decide_eq_false_iff_not, List.any_eq_true, List.mem_range, Bool.and_eq_true, decide_eq_true_eq] at q3
    rcases q3 with (q4 | q4) | ⟨w, w1, ⟨w2, w3⟩, w4⟩
    · exact absurd h1 q4
    · exact absurd h2 q4
    · exact ⟨w, w1, w2, w3, w4⟩
  have hB : ∀ w : Nat, w < 20 → ((0 ≤ (M0 102 w).toInt ∧ 0 ≤ (M0 103 w).toInt ∧ 0 ≤ (M0 104 w).toInt) ∧ (M0 102 w).toInt + (M0 103 w).toInt ≤ 3 ∧ (M0 104 w).toInt ≤ (M0 102 w).toInt) := by
    intro w hw
    have q := hc2.2
    unfold ckB at q
    rw [List.all_eq_true] at q
    have q1 := q w (List.mem_range.mpr hw)
    simp only [Bool.and_eq_true, decide_eq_true_eq] at q1
    obtain ⟨⟨⟨⟨a1, a2⟩, a3⟩, a4⟩, a5⟩ := q1
    exact ⟨⟨a1, a2, a3⟩, a4, a5⟩
  have hz : ∀ c s, M0 c s = 0 → Rin c s (M0 c s) := by
    intro c s h
    rw [h]
    exact Rin0 c s
  have hR : ∀ c s, Rin c s (M0 c s) := by
    intro c s
    by_cases q : c = 102 ∨ c = 103 ∨ c = 104
    · by_cases w : s < 20
      · obtain ⟨⟨b1, b2, b3⟩, b4, b5⟩ := hB s w
        rcases q with rfl | rfl | rfl
        · exact (show 0 ≤ (M0 102 s).toInt ∧ (M0 102 s).toInt ≤ 3 from ⟨b1, by omega⟩)
        · exact (show 0 ≤ (M0 103 s).toInt ∧ (M0 103 s).toInt ≤ 3 from ⟨b2, by omega⟩)
        · exact (show 0 ≤ (M0 104 s).toInt ∧ (M0 104 s).toInt ≤ 3 from ⟨b3, by omega⟩)
      · exact hz c s (by rw [o3 c s (by omega) (by omega)]; rfl)
    · by_cases q2 : c = 78
      · subst q2
        by_cases w : 296 ≤ s ∧ s < 312
        · exact hz 78 s (by rw [o2 s (by omega)]; rfl)
        · exact ro78 (by decide) w
      · exact hz c s (by rw [o1 c s q2 (by omega) (by omega) (by omega)]; rfl)
  refine ⟨M0, e', hF, hR, fun w hw s h => ?_, fun q hq => ?_, hA, fun w hw => (hB w hw).2⟩
  · have : M0 (w + 1) s = 0 := hF.1 _ _ (by rcases hw with rfl | rfl <;> omega)
    rw [this] at h
    exact absurd h (by decide)
  · have : M0 77 17 = 0 := hF.1 _ _ (by decide)
    rw [this] at hq
    exact absurd hq (by have z : ((0 : Int32).toInt : Int) = 0 := rfl; omega)
