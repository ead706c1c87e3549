/-! the model as it is made -/
def trs : Nat → Nat → Nat
  | _, 0 => 0
  | q, d + 1 => (q + 1) + trs (q + 1) d
theorem lw19 {n p q : Nat} {K4 : Int32 → Int32 → qM → qR} {K11 : Int32 → Int32 → Int32 → qM → qR} (hq : q < 100) : ∀ (d r a m : Nat) (M : qM), r + d = q + 1 → a + d ≤ 20 → d < m → ∃ M', f_X12_laysWays_19 n K4 K11 m (nI a) (nI p) (nI q) (nI r) M = K11 (nI (a + d)) (nI p) (nI (q + 1)) M' ∧ ∀ x y, x ≠ 102 → x ≠ 103 → x ≠ 104 → M' x y = M x y := by
  intro d
  induction d with
  | zero =>
    intro r a m M hr ha hm
    obtain ⟨k, rfl⟩ : ∃ k, m = k + 1 := ⟨m - 1, by omega⟩
    refine ⟨M, ?_, fun _ _ _ _ _ => rfl⟩
    show b_X12_laysWays_19 n K4 K11 (f_X12_laysWays_19 n K4 K11 k) (nI a) (nI p) (nI q) (nI r) M = _
    unfold b_X12_laysWays_19
    rw [if_pos (nI_lt (by omega) (by omega))]
    simp only [ql, nI_1, Nat.add_zero]
  | succ d ih =>
    intro r a m M hr ha hm
    obtain ⟨k, rfl⟩ : ∃ k, m = k + 1 := ⟨m - 1, by omega⟩
    obtain ⟨M', e, o⟩ := ih (r + 1) (a + 1) k (mu (mu (mu M 102 a (nI q)) 103 a (nI p - nI q)) 104 a (nI r)) (by omega) (by omega) (by omega)
    refine ⟨M', ?_, fun x y h1 h2 h3 => by rw [o x y h1 h2 h3]; simp [mu, h1, h2, h3]⟩
    show b_X12_laysWays_19 n K4 K11 (f_X12_laysWays_19 n K4 K11 k) (nI a) (nI p) (nI q) (nI r) M = _
    unfold b_X12_laysWays_19
    rw [if_neg (nI_nlt (by omega) (by omega))]
    simp only [qg_nI (show a < 20 by omega) (by decide), qlm, ql, nI_clamp (show a < 2 ^ 31 by omega), nI_1]
    rw [e]
    congr 2
    omega
theorem lw11 {n p : Nat} {K4 : Int32 → Int32 → qM → qR} (hn : 200 ≤ n) (hp : p < 100) : ∀ (d q a m : Nat) (M : qM), q + d = p + 1 → a + trs q d ≤ 20 → d < m → ∃ M', f_X12_laysWays_11 n K4 m (nI a) (nI p) (nI q) M = K4 (nI (a + trs q d)) (nI (p + 1)) M' ∧ ∀ x y, x ≠ 102 → x ≠ 103 → x ≠ 104 → M' x y = M x y := by
  intro d
  induction d with
  | zero =>
    intro q a m M hr ha hm
    obtain ⟨k, rfl⟩ : ∃ k, m = k + 1 := ⟨m - 1, by omega⟩
    refine ⟨M, ?_, fun _ _ _ _ _ => rfl⟩
    show b_X12_laysWays_11 n K4 (f_X12_laysWays_11 n K4 k) (nI a) (nI p) (nI q) M = _
    unfold b_X12_laysWays_11
    rw [if_pos (nI_lt (by omega) (by omega))]
    simp only [ql, nI_1, trs, Nat.add_zero]
  | succ d ih =>
    intro q a m M hr ha hm
    obtain ⟨k, rfl⟩ : ∃ k, m = k + 1 := ⟨m - 1, by omega⟩
    have ha' : a + ((q + 1) + trs (q + 1) d) ≤ 20 := ha
    obtain ⟨M1, e1, o1⟩ := lw19 (n := n) (p := p) (q := q) (K4 := K4) (K11 := f_X12_laysWays_11 n K4 k) (by omega) (q + 1) 0 a n M (by omega) (by omega) (by omega)
    obtain ⟨M', e, o⟩ := ih (q + 1) (a + (q + 1)) k M1 (by omega) (by omega) (by omega)
    refine ⟨M', ?_, fun x y h1 h2 h3 => by rw [o x y h1 h2 h3, o1 x y h1 h2 h3]⟩
    show b_X12_laysWays_11 n K4 (f_X12_laysWays_11 n K4 k) (nI a) (nI p) (nI q) M = _
    unfold b_X12_laysWays_11
    rw [if_neg (nI_nlt (by omega) (by omega)), ← nI_0, e1, e]
    congr 2
    show a + (q + 1) + trs (q + 1) d = a + ((q + 1) + trs (q + 1) d)
    omega
theorem lw4 {n p a m : Nat} (hn : 200 ≤ n) (hp : p < 4) (ha : a + trs 0 (p + 1) ≤ 20) (M : qM) : ∃ M', f_X12_laysWays_4 n (m + 1) (nI a) (nI p) M = f_X12_laysWays_4 n m (nI (a + trs 0 (p + 1))) (nI (p + 1)) M' ∧ ∀ x y, x ≠ 102 → x ≠ 103 → x ≠ 104 → M' x y = M x y := by
  obtain ⟨M', e, o⟩ := lw11 (n := n) (p := p) (K4 := f_X12_laysWays_4 n m) hn (by omega) (p + 1) 0 a n M (by omega) ha (by omega)
  refine ⟨M', ?_, o⟩
  show b_X12_laysWays_4 n (f_X12_laysWays_4 n m) (nI a) (nI p) M = _
  unfold b_X12_laysWays_4
  have c4 : ¬ (4 : Int32) ≤ nI p := nI_ge (a := p) (b := 4) hp (by decide)
  rw [if_neg c4, ← nI_0, e]
theorem ways_ok {n : Nat} (hn : 200 ≤ n) (M : qM) : ∃ M', f_X12_laysWays n M = some (0, M') ∧ ∀ x y, x ≠ 102 → x ≠ 103 → x ≠ 104 → M' x y = M x y := by
  obtain ⟨k, rfl⟩ : ∃ k, n = k + 5 := ⟨n - 5, by omega⟩
  obtain ⟨M1, e1, o1⟩ := lw4 (n := k + 5) (p := 0) (a := 0) (m := k + 4) hn (by decide) (by decide) M
  obtain ⟨M2, e2, o2⟩ := lw4 (n := k + 5) (p := 1) (a := 1) (m := k + 3) hn (by decide) (by decide) M1
  obtain ⟨M3, e3, o3⟩ := lw4 (n := k + 5) (p := 2) (a := 4) (m := k + 2) hn (by decide) (by decide) M2
  obtain ⟨M4, e4, o4⟩ := lw4 (n := k + 5) (p := 3) (a := 10) (m := k + 1) hn (by decide) (by decide) M3
  refine ⟨M4, ?_, fun x y h1 h2 h3 => by rw [o4 x y h1 h2 h3, o3 x y h1 h2 h3, o2 x y h1 h2 h3, o1 x y h1 h2 h3]⟩
  unfold f_X12_laysWays
  rw [← nI_0, e1]
  refine Eq.trans e2 (Eq.trans e3 (Eq.trans e4 ?_))
  show b_X12_laysWays_4 (k + 5) (f_X12_laysWays_4 (k + 5) k) (nI (10 + trs 0 4)) (nI 4) M4 = _
  unfold b_X12_laysWays_4
  have c4 : (4 : Int32) ≤ nI 4 := by decide
  rw [if_pos c4, nI_0]
theorem init_go {n : Nat} (hn : 200 ≤ n) : ∀ (d i m : Nat) (M : qM), i + d = 96 → d < m → ∃ M', f_X12_init_349 n m (nI i) M = some (0, M') ∧ (∀ x y, x ≠ 78 → x ≠ 102 → x ≠ 103 → x ≠ 104 → M' x y = M x y) ∧ ∀ y, y < 96 ∨ 192 ≤ y → M' 78 y = M 78 y := by
  intro d
  induction d with
  | zero =>
    intro i m M hi hm
    obtain ⟨k, rfl⟩ : ∃ k, m = k + 1 := ⟨m - 1, by omega⟩
    obtain ⟨M', e, o⟩ := ways_ok hn M
    refine ⟨M', ?_, fun x y _ h1 h2 h3 => o x y h1 h2 h3, fun y _ => o _ _ (by decide) (by decide) (by decide)⟩
    show b_X12_init_349 n (f_X12_init_349 n k) (nI i) M = _
    unfold b_X12_init_349
    have cc : (96 : Int32) ≤ nI i := nI_le (a := 96) (b := i) (by omega) (by omega)
    rw [if_pos cc, e]
    rfl
  | succ d ih =>
    intro i m M hi hm
    obtain ⟨k, rfl⟩ : ∃ k, m = k + 1 := ⟨m - 1, by omega⟩
    obtain ⟨M', e, o1, o2⟩ := ih (i + 1) k (mu M 78 (96 + i) (-2)) (by omega) (by omega)
    refine ⟨M', ?_, fun x y h0 h1 h2 h3 => by rw [o1 x y h0 h1 h2 h3]; simp [mu, h0], fun y hy => ?_⟩
    · show b_X12_init_349 n (f_X12_init_349 n k) (nI i) M = _
      unfold b_X12_init_349
      have cc : ¬ (96 : Int32) ≤ nI i := nI_ge (a := i) (b := 96) (by omega) (by decide)
      have ee : (96 : Int32) + nI i = nI (96 + i) := nI_add 96 i
      rw [if_neg cc, ee]
      simp only [qg_nI (show 96 + i < 954 by omega) (by decide), qlm, ql, nI_clamp (show 96 + i < 2 ^ 31 by omega), nI_1]
      exact e
    · rw [o2 y hy]
      simp only [mu]
      rw [if_neg (by omega)]
theorem fresh {n : Nat} (hn : 200 ≤ n) : ∃ M0, f_model n q0 = some (0, M0) ∧ Fr M0 := by
  obtain ⟨M0, e, o1, o2⟩ := init_go hn 96 0 n q0 (by omega) (by omega)
  refine ⟨M0, ?_, fun a b h => ?_, fun b h => ?_, fun a b h h1 h2 h3 => ?_⟩
  · unfold f_model
    rw [← nI_0]
    exact e
  · by_cases h9 : a = 78
    · omega
    · rw [o1 a b h9 (by omega) (by omega) (by omega)]; rfl
  · rw [o2 b h]; rfl
  · rw [o1 a b (by omega) h1 h2 h3]; rfl
/-! loophole -/
theorem fill_go {n c len : Nat} {v : Int32} (hl : len < 2 ^ 31) : ∀ (d i m : Nat) (M : qM), i + d = len → d < m → ∃ M', f_J7_fill_53178_5 n c len m v (nI i) (nI len) M = some (0, M') ∧ ∀ x y, x ≠ c → M' x y = M x y := by
  intro d
  induction d with
  | zero =>
    intro i m M hi hm
    obtain ⟨k, rfl⟩ : ∃ k, m = k + 1 := ⟨m - 1, by omega⟩
    refine ⟨M, ?_, fun _ _ _ => rfl⟩
    show b_J7_fill_53178_5 n c len (f_J7_fill_53178_5 n c len k) v (nI i) (nI len) M = _
    unfold b_J7_fill_53178_5
    rw [if_pos (nI_le (by omega) (by omega))]
  | succ d ih =>
    intro i m M hi hm
    obtain ⟨k, rfl⟩ : ∃ k, m = k + 1 := ⟨m - 1, by omega⟩
    obtain ⟨M', e, o⟩ := ih (i + 1) k (mu M c i v) (by omega) (by omega)
    refine ⟨M', ?_, fun x y h => by rw [o x y h]; simp [mu, h]⟩
    show b_J7_fill_53178_5 n c len (f_J7_fill_53178_5 n c len k) v (nI i) (nI len) M = _
    unfold b_J7_fill_53178_5
    rw [if_neg (nI_ge (by omega) (by omega))]
    simp only [qg_nI (show i < len by omega) hl, qlm, ql, nI_clamp (show i < 2 ^ 31 by omega), nI_1]
    exact e
theorem deed_ok {n : Nat} (hn : 200 ≤ n) (a b c d : Int32) (M : qM) : ∃ M', f_X1_tellDeed n a b c d M = some (0, M') ∧ ∀ x y, x ≠ 35 → M' x y = M x y := by
  obtain ⟨M1, e, o⟩ := fill_go (n := n) (c := 35) (len := 12) (v := 0) (by decide) 12 0 n M (by omega) (by omega)
  refine ⟨mu (mu (mu (mu M1 35 0 a) 35 1 b) 35 2 c) 35 6 d, ?_, fun x y h => by simp [mu, h, o x y h]⟩
  unfold f_X1_tellDeed f_J7_fill_53178
  have e' : ql (Int32.ofNat 12) (fun x1 => f_J7_fill_53178_5 n 35 12 n 0 0 x1 M) = some (0, M1) := e
  rw [e']
  rfl
theorem lph13 {n j : Nat} : ∀ (d i m : Nat) (M : qM), i + d = 12 → d < m → f_X1_isLoophole_13 n j m 0 0 (nI i) M = some (1, M) := by
  intro d
  induction d with
  | zero =>
    intro i m M hi hm
    obtain ⟨k, rfl⟩ : ∃ k, m = k + 1 := ⟨m - 1, by omega⟩
    show b_X1_isLoophole_13 n j (f_X1_isLoophole_13 n j k) 0 0 (nI i) M = _
    unfold b_X1_isLoophole_13
    have cc : (12 : Int32) ≤ nI i := nI_le (a := 12) (b := i) (by omega) (by omega)
    rw [if_pos cc]
  | succ d ih =>
    intro i m M hi hm
    obtain ⟨k, rfl⟩ : ∃ k, m = k + 1 := ⟨m - 1, by omega⟩
    show b_X1_isLoophole_13 n j (f_X1_isLoophole_13 n j k) 0 0 (nI i) M = _
    unfold b_X1_isLoophole_13 f_X1_isLoophole_42
    have cc : ¬ (12 : Int32) ≤ nI i := nI_ge (a := i) (b := 12) (by omega) (by decide)
    have z : ∀ x : Int32, (0 : Int32) &&& x = 0 := fun x => by apply Int32.toBitVec_inj.mp; simp
    rw [if_neg cc]
    simp only [ql, z, if_true, nI_1]
    exact ih (i + 1) k M (by omega) (by omega)
theorem isl_ok {n j : Nat} (hn : 200 ≤ n) (a d : Int32) (M : qM) : ∃ M', f_X1_isLoophole n j a 0 0 d M = some (1, M') ∧ ∀ x y, x ≠ 35 → M' x y = M x y := by
  obtain ⟨M1, e, o⟩ := deed_ok hn 12 1 a d M
  refine ⟨M1, ?_, o⟩
  unfold f_X1_isLoophole
  rw [e]
  simp only [qc]
  rw [← nI_0]
  exact lph13 12 0 n M1 (by omega) (by omega)
theorem bc_nn (n : Nat) (a : Int32) (M : qM) : ∃ k : Nat, k < 64 ∧ f_J6_bitCount_0f7a4 n a M = some (nI k, M) := by
  unfold f_J6_bitCount_0f7a4
  simp only [ql]
  generalize hx : ((_ : Int32) + (_ : UInt32).toInt32) = x
  obtain ⟨k, hk, e⟩ := pk_andE x (m := 63) 6 (by decide)
  exact ⟨k, by omega, by rw [e]⟩
theorem bc_0 (n : Nat) (M : qM) : f_J6_bitCount_0f7a4 n 0 M = some (nI 0, M) := by
  unfold f_J6_bitCount_0f7a4
  simp only [ql]
  rw [show ((0 : Int32) - (((0 : Int32).toUInt32 >>> ((1 : Int32).toUInt32 &&& Int32.toUInt32 31)).toInt32 &&& 1431655765)) = 0 from by decide]
  rw [show (((0 : Int32) &&& 858993459) + (((0 : Int32).toUInt32 >>> ((2 : Int32).toUInt32 &&& Int32.toUInt32 31)).toInt32 &&& 858993459)) = 0 from by decide]
  rw [show (((0 : Int32) + ((0 : Int32).toUInt32 >>> ((4 : Int32).toUInt32 &&& Int32.toUInt32 31)).toInt32) &&& 252645135) = 0 from by decide]
  rw [show ((0 : Int32) + ((0 : Int32).toUInt32 >>> ((8 : Int32).toUInt32 &&& Int32.toUInt32 31)).toInt32) = 0 from by decide]
  rw [show ((0 : Int32) + ((0 : Int32).toUInt32 >>> ((16 : Int32).toUInt32 &&& Int32.toUInt32 31)).toInt32) = 0 from by decide]
  rfl
theorem m2 : ¬ ((0 : Int32) = -2) := by decide
theorem qc_v {v : Int32} {M : qM} {f : Int32 → qM → qR} : qc (some (v, M)) f = f v M := rfl
theorem ql_v {v : Int32} {f : Int32 → qR} : ql v f = f v := rfl
theorem lc_step {n j k : Nat} {a1 a2 a3 a4 a5 a6 r5 r7 : Int32} {M M1 : qM} (hc : ¬ (255 : Int32) < a6) (h1 : f_X1_isLoophole n j a6 a1 a2 (M 7 9) M = some (1, M1)) (h4 : ¬ a4 = -2) (h2 : f_J6_bitCount_0f7a4 n a6 M1 = some (r5, M1)) (h3 : f_J6_bitCount_0f7a4 n a4 M1 = some (r7, M1)) (h5 : r7 ≤ r5) : f_X11_loophole_49 n j (k + 1) a1 a2 a3 a4 a5 a6 M = f_X11_loophole_49 n j k a1 a2 a3 a4 (a5 + 1) (a6 + 1) M1 := by
  show b_X11_loophole_49 n j (f_X11_loophole_49 n j k) a1 a2 a3 a4 a5 a6 M = _
  unfold b_X11_loophole_49
  rw [if_neg hc, h1, qc_v, if_neg (by decide), ql_v, if_neg h4, h2, qc_v, h3, qc_v, if_pos h5, ql_v]
theorem lc49 {n j : Nat} (hn : 300 ≤ n) {a3 : Int32} : ∀ (d i m f : Nat) (M : qM), i + d = 256 → d < m → f + d ≤ 1000 → ∃ M', f_X11_loophole_49 n j m 0 0 a3 0 (nI f) (nI i) M = some (if a3 = 0 then 0 else nI (f + d), M') ∧ ∀ x y, x ≠ 35 → M' x y = M x y := by
  intro d
  induction d with
  | zero =>
    intro i m f M hi hm hf
    obtain ⟨k, rfl⟩ : ∃ k, m = k + 1 := ⟨m - 1, by omega⟩
    refine ⟨M, ?_, fun _ _ _ => rfl⟩
    show b_X11_loophole_49 n j (f_X11_loophole_49 n j k) 0 0 a3 0 (nI f) (nI i) M = _
    unfold b_X11_loophole_49
    have cc : (255 : Int32) < nI i := nI_lt (a := 255) (b := i) (by omega) (by omega)
    rw [if_pos cc]
    by_cases h : a3 = 0
    · rw [if_pos h, if_pos h]
    · rw [if_neg h, if_neg h, Nat.add_zero]
  | succ d ih =>
    intro i m f M hi hm hf
    obtain ⟨k, rfl⟩ : ∃ k, m = k + 1 := ⟨m - 1, by omega⟩
    obtain ⟨M1, e1, o1⟩ := isl_ok (n := n) (j := j) (by omega) (nI i) (M 7 9) M
    obtain ⟨kb, hkb, eb⟩ := bc_nn n (nI i) M1
    obtain ⟨M', e, o⟩ := ih (i + 1) k (f + 1) M1 (by omega) (by omega) (by omega)
    refine ⟨M', ?_, fun x y h => by rw [o x y h, o1 x y h]⟩
    have cc : ¬ (255 : Int32) < nI i := nI_nlt (a := 255) (b := i) (by omega) (by decide)
    rw [lc_step cc e1 m2 eb (bc_0 n M1) (nI_le (Nat.zero_le _) (by omega)), nI_1, nI_1, e, show f + 1 + d = f + (d + 1) by omega]
theorem fd2 {n : Nat} : ∀ (d i m : Nat) (M : qM), i + d = 12 → d < m → f_X12_finds_2 n m 0 0 (nI i) M = some (1, M) := by
  intro d
  induction d with
  | zero =>
    intro i m M hi hm
    obtain ⟨k, rfl⟩ : ∃ k, m = k + 1 := ⟨m - 1, by omega⟩
    show b_X12_finds_2 n (f_X12_finds_2 n k) 0 0 (nI i) M = _
    unfold b_X12_finds_2
    have cc : (12 : Int32) ≤ nI i := nI_le (a := 12) (b := i) (by omega) (by omega)
    rw [if_pos cc]
  | succ d ih =>
    intro i m M hi hm
    obtain ⟨k, rfl⟩ : ∃ k, m = k + 1 := ⟨m - 1, by omega⟩
    show b_X12_finds_2 n (f_X12_finds_2 n k) 0 0 (nI i) M = _
    unfold b_X12_finds_2 f_X12_finds_28
    have cc : ¬ (12 : Int32) ≤ nI i := nI_ge (a := i) (b := 12) (by omega) (by decide)
    rw [if_neg cc]
    simp only [has0_0, qc, ql, if_true, nI_1]
    exact ih (i + 1) k M (by omega) (by omega)
theorem bits_go {n : Nat} {a : Int32} : ∀ (d i m v : Nat) (M : qM), i + d = 12 → d < m → ∃ w, w ≤ v + d ∧ f_X12_bits_4 n m a (nI v) (nI i) M = some (nI w, M) := by
  intro d
  induction d with
  | zero =>
    intro i m v M hi hm
    obtain ⟨k, rfl⟩ : ∃ k, m = k + 1 := ⟨m - 1, by omega⟩
    refine ⟨v, by omega, ?_⟩
    show b_X12_bits_4 n (f_X12_bits_4 n k) a (nI v) (nI i) M = _
    unfold b_X12_bits_4
    have cc : (12 : Int32) ≤ nI i := nI_le (a := 12) (b := i) (by omega) (by omega)
    rw [if_pos cc]
  | succ d ih =>
    intro i m v M hi hm
    obtain ⟨k, rfl⟩ : ∃ k, m = k + 1 := ⟨m - 1, by omega⟩
    obtain ⟨q, hq, eq⟩ := pk_andE (a >>> (nI i &&& 31)) (m := 1) 1 (by decide)
    obtain ⟨w, hw, e⟩ := ih (i + 1) k (v + q) M (by omega) (by omega)
    refine ⟨w, by omega, ?_⟩
    show b_X12_bits_4 n (f_X12_bits_4 n k) a (nI v) (nI i) M = _
    unfold b_X12_bits_4
    have cc : ¬ (12 : Int32) ≤ nI i := nI_ge (a := i) (b := 12) (by omega) (by decide)
    rw [if_neg cc, eq]
    simp only [ql, nI_1, nI_add]
    exact e
theorem bits_nn {n : Nat} (hn : 200 ≤ n) (a : Int32) (M : qM) : ∃ w : Nat, w ≤ 12 ∧ f_X12_bits n a M = some (nI w, M) := by
  obtain ⟨w, h, e⟩ := bits_go (n := n) (a := a) 12 0 n 0 M (by omega) (by omega)
  exact ⟨w, by omega, e⟩
theorem bits0_go {n : Nat} : ∀ (d i m : Nat) (M : qM), i + d = 12 → d < m → f_X12_bits_4 n m 0 0 (nI i) M = some (0, M) := by
  intro d
  induction d with
  | zero =>
    intro i m M hi hm
    obtain ⟨k, rfl⟩ : ∃ k, m = k + 1 := ⟨m - 1, by omega⟩
    show b_X12_bits_4 n (f_X12_bits_4 n k) 0 0 (nI i) M = _
    unfold b_X12_bits_4
    have cc : (12 : Int32) ≤ nI i := nI_le (a := 12) (b := i) (by omega) (by omega)
    rw [if_pos cc]
  | succ d ih =>
    intro i m M hi hm
    obtain ⟨k, rfl⟩ : ∃ k, m = k + 1 := ⟨m - 1, by omega⟩
    show b_X12_bits_4 n (f_X12_bits_4 n k) 0 0 (nI i) M = _
    unfold b_X12_bits_4
    have cc : ¬ (12 : Int32) ≤ nI i := nI_ge (a := i) (b := 12) (by omega) (by decide)
    rw [if_neg cc, z_shr]
    simp only [ql, nI_1]
    rw [show (0 : Int32) + 0 = 0 from by decide]
    exact ih (i + 1) k M (by omega) (by omega)
theorem bits_0 {n : Nat} (hn : 200 ≤ n) (M : qM) : f_X12_bits n 0 M = some (nI 0, M) := by
  unfold f_X12_bits
  have := bits0_go (n := n) 12 0 n M (by omega) (by omega)
  rw [nI_0] at this
  rw [this, nI_0]
theorem lm56 {n : Nat} (hn : 300 ≤ n) {a3 : Int32} : ∀ (d i m f : Nat) (M : qM), i + d = 256 → d < m → f + d ≤ 1000 → ∃ M', f_X12_loophole_56 n m 0 0 a3 (nI f) 0 (nI i) M = some (if a3 = 0 then 0 else nI (f + d), M') := by
  intro d
  induction d with
  | zero =>
    intro i m f M hi hm hf
    obtain ⟨k, rfl⟩ : ∃ k, m = k + 1 := ⟨m - 1, by omega⟩
    refine ⟨M, ?_⟩
    show b_X12_loophole_56 n (f_X12_loophole_56 n k) 0 0 a3 (nI f) 0 (nI i) M = _
    unfold b_X12_loophole_56
    have cc : (256 : Int32) ≤ nI i := nI_le (a := 256) (b := i) (by omega) (by omega)
    rw [if_pos cc]
    by_cases h : a3 = 0
    · rw [if_pos h, if_pos h]
    · rw [if_neg h, if_neg h, Nat.add_zero]
  | succ d ih =>
    intro i m f M hi hm hf
    obtain ⟨k, rfl⟩ : ∃ k, m = k + 1 := ⟨m - 1, by omega⟩
    obtain ⟨kb, hkb, eb⟩ := bits_nn (n := n) (by omega) (nI i) (mu M 82 12 (nI i))
    obtain ⟨M', e⟩ := ih (i + 1) k (f + 1) (mu M 82 12 (nI i)) (by omega) (by omega) (by omega)
    refine ⟨M', ?_⟩
    show b_X12_loophole_56 n (f_X12_loophole_56 n k) 0 0 a3 (nI f) 0 (nI i) M = _
    unfold b_X12_loophole_56 f_X12_finds
    have cc : ¬ (256 : Int32) ≤ nI i := nI_ge (a := i) (b := 256) (by omega) (by decide)
    have ef := fd2 (n := n) 12 0 n (mu M 82 12 (nI i)) (by omega) (by omega)
    rw [nI_0] at ef
    rw [if_neg cc]
    simp only [qlm, ef, qc, ql, show ¬ ((1 : Int32) = 0) from by decide, m2, if_false, eb, bits_0 (show 200 ≤ n by omega), nI_1]
    rw [if_pos (nI_le (Nat.zero_le _) (by omega)), e, show f + 1 + d = f + (d + 1) by omega]
theorem or0 {a b : Int32} (h : a ||| b = 0) : a = 0 ∧ b = 0 := by
  have h2 : a.toBitVec ||| b.toBitVec = 0 := by
    have := congrArg Int32.toBitVec h
    simpa using this
  have h3 := BitVec.or_eq_zero_iff.mp h2
  exact ⟨Int32.toBitVec_inj.mp (by simpa using h3.1), Int32.toBitVec_inj.mp (by simpa using h3.2)⟩
theorem p1_loophole {n j : Nat} (hn : 955 ≤ n) {M : qM} (hF : Fr M) (a1 a2 a3 : Int32) : Pr (f_X11_loophole n j a1 a2 a3) (f_X12_loophole n a1 a2 a3) M := by
  have e1 : M 3 3 = 0 := hF.1 _ _ (by decide)
  have e2 : M 77 6 = 0 := hF.1 _ _ (by decide)
  have ka : ∀ a : Int32, f_X2_knowsAll n a M = some (if a = 0 then 1 else 0, M) := fun a => by
    unfold f_X2_knowsAll
    rw [e1, z_not, z_and]
    by_cases h : a = 0
    · rw [if_pos h, if_pos h]
    · rw [if_neg h, if_neg h]
  have hno : ¬ (a1 = 0 ∧ a2 = 0) → f_X12_loophole n a1 a2 a3 M = some (-1, M) := fun h => by
    unfold f_X12_loophole
    rw [e2, z_not, z_and, if_neg (fun q => h (or0 q))]
    by_cases c1 : a1 < 0
    · rw [if_pos c1]
    · rw [if_neg c1]
      by_cases c2 : a2 < 0
      · rw [if_pos c2]
      · rw [if_neg c2]
  by_cases c1 : a1 = 0
  · by_cases c2 : a2 = 0
    · subst c1; subst c2
      have za : (0 : Int32) &&& 0 = 0 := by decide
      have zo : (0 : Int32) ||| 0 = 0 := by decide
      by_cases c3 : a3 < 0
      · refine Pr.same (v := -1) ?_ ?_
        · unfold f_X11_loophole
          simp [ka, qc, c3]
        · unfold f_X12_loophole
          rw [e2, z_not, z_and, zo, za]
          simp [in_eq, qc, c3]
      by_cases c4 : (1 : Int32) < a3
      · refine Pr.same (v := -1) ?_ ?_
        · unfold f_X11_loophole
          simp [ka, qc, c3, Int32.not_le.mpr c4]
        · unfold f_X12_loophole
          rw [e2, z_not, z_and, zo, za]
          simp [in_eq, qc, c4]
      obtain ⟨k, rfl⟩ : ∃ k, n = k + 1 := ⟨n - 1, by omega⟩
      obtain ⟨M1, g1, o1⟩ := isl_ok (n := k + 1) (j := j) (by omega) (nI 0) (M 7 9) M
      obtain ⟨M2, g2, o2⟩ := lc49 (n := k + 1) (j := j) (a3 := a3) (by omega) 255 1 k 1 M1 (by omega) (by omega) (by omega)
      have hA : f_X11_loophole (k + 1) j 0 0 a3 M = some (if a3 = 0 then 0 else nI 256, M2) := by
        have h49 : f_X11_loophole (k + 1) j 0 0 a3 M = f_X11_loophole_49 (k + 1) j (k + 1) 0 0 a3 (-2) 0 0 M := by
          unfold f_X11_loophole
          simp [ka, qc, c3, Int32.not_lt.mp c4]
        rw [h49]
        show b_X11_loophole_49 (k + 1) j (f_X11_loophole_49 (k + 1) j k) 0 0 a3 (-2) 0 0 M = _
        unfold b_X11_loophole_49 f_X11_loophole_101
        rw [nI_0] at g1
        rw [if_neg (by decide), g1]
        simp only [qc, ql, show ¬ ((1 : Int32) = 0) from by decide, if_false, if_true]
        exact g2
      have hm : ∃ M3, f_X12_loophole (k + 1) 0 0 a3 M2 = some (if a3 = 0 then 0 else nI 256, M3) := by
        have e3 : M2 77 6 = 0 := by rw [o2 _ _ (by decide), o1 _ _ (by decide)]; exact e2
        obtain ⟨M3, g3⟩ := lm56 (n := k + 1) (a3 := a3) (by omega) 255 1 k 1 (mu (mu M2 81 12 1) 82 12 0) (by omega) (by omega) (by omega)
        refine ⟨M3, ?_⟩
        have h56 : f_X12_loophole (k + 1) 0 0 a3 M2 = f_X12_loophole_56 (k + 1) (k + 1) 0 0 a3 0 (-2) 0 (mu M2 81 12 1) := by
          unfold f_X12_loophole
          rw [e3, z_not, z_and, zo, za]
          simp [in_eq, qc, c3, c4, qlm]
        rw [h56]
        show b_X12_loophole_56 (k + 1) (f_X12_loophole_56 (k + 1) k) 0 0 a3 0 (-2) 0 (mu M2 81 12 1) = _
        unfold b_X12_loophole_56 f_X12_finds f_X12_loophole_111
        have ef := fd2 (n := k + 1) 12 0 (k + 1) (mu (mu M2 81 12 1) 82 12 0) (by omega) (by omega)
        rw [nI_0] at ef
        rw [if_neg (by decide)]
        simp only [qlm, ef, qc, ql, show ¬ ((1 : Int32) = 0) from by decide, if_false, if_true]
        exact g3
      obtain ⟨M3, hm⟩ := hm
      exact ⟨_, M2, M3, hA, hm⟩
    · refine Pr.same (v := -1) ?_ (hno (fun q => c2 q.2))
      unfold f_X11_loophole
      simp [ka, qc, c1, c2]
  · refine Pr.same (v := -1) ?_ (hno (fun q => c1 q.1))
    unfold f_X11_loophole
    simp [ka, qc, c1]

/-! game: the class's side -/
def cNext (a0 a1 : Int32) : Int32 := if (((a0 ^^^ (a0 >>> ((3 : Int32) &&& 31))) ^^^ (a0 >>> ((6 : Int32) &&& 31))) &&& (3 : Int32)) = (0 : Int32) then (if a1 = 0 then (if a0 = 0 then 0 else 1) else 0) else (if a1 = 0 then 0 else 1)
theorem nx_val (n : Nat) (a0 a1 : Int32) (M : qM) : f_X11_nextOneWins n a0 a1 M = some (cNext a0 a1, M) := by
  unfold f_X11_nextOneWins f_X11_nextOneWins_20 cNext
  generalize (((a0 ^^^ (a0 >>> ((3 : Int32) &&& 31))) ^^^ (a0 >>> ((6 : Int32) &&& 31))) &&& (3 : Int32)) = z
  by_cases h1 : z = 0
  · rw [if_pos h1, if_pos h1]
    by_cases h2 : a1 = 0
    · rw [if_pos h2, if_pos h2]
      by_cases h3 : a0 = 0
      · rw [if_pos h3, if_pos h3]
      · rw [if_neg h3, if_neg h3, if_pos rfl]
    · rw [if_neg h2, if_neg h2]
      rfl
  · rw [if_neg h1, if_neg h1]
    by_cases h2 : a1 = 0
    · rw [if_pos h2, if_pos h2]
      by_cases h3 : a0 = 0
      · rw [if_pos h3]
      · rw [if_neg h3, if_neg (by decide)]
    · rw [if_neg h2, if_neg h2]
      rfl
def cLf (a0 a1 a3 t : Int32) : Int32 := if a1 = 0 then a0 else a0 - (t <<< (((3 : Int32) * a3) &&& 31))
def cT (a0 a1 a2 a3 a4 t : Int32) (r : Option Int32) : Option Int32 := if a4 < t then none else if cNext (cLf a0 a1 a3 t) a2 = 0 then some ((10 : Int32) * a3 + t) else r
def cH (a0 a1 a2 a3 a4 : Int32) : Option Int32 := cT a0 a1 a2 a3 a4 1 (cT a0 a1 a2 a3 a4 2 (cT a0 a1 a2 a3 a4 3 none))
def oM (o : Option Int32) (M : qM) (E : qR) : qR := match o with
  | some v => some (v, M)
  | none => E
theorem bm_step {n k : Nat} {K2 : Int32 → Int32 → Int32 → Int32 → qM → qR} {a0 a1 a2 a3 a4 t t' : Int32} {M : qM} {r : Option Int32} (h3 : ¬ (3 : Int32) < t) (ht : t + 1 = t') (h : f_X11_bestMove_20 n K2 k a0 a1 a2 a3 a4 t' M = oM r M (K2 a0 a1 a2 (a3 + 1) M)) : f_X11_bestMove_20 n K2 (k + 1) a0 a1 a2 a3 a4 t M = oM (cT a0 a1 a2 a3 a4 t r) M (K2 a0 a1 a2 (a3 + 1) M) := by
  subst ht
  show b_X11_bestMove_20 n K2 (f_X11_bestMove_20 n K2 k) a0 a1 a2 a3 a4 t M = _
  unfold b_X11_bestMove_20 f_X11_bestMove_49 cT cLf
  rw [if_neg h3]
  by_cases c1 : a4 < t
  · rw [if_pos c1, if_pos c1, ql_v]
    rfl
  · rw [if_neg c1, if_neg c1]
    by_cases c2 : a1 = 0
    · rw [if_pos c2, if_pos c2, nx_val, qc_v]
      by_cases c3 : cNext a0 a2 = 0
      · rw [if_pos c3, if_pos c3]
        rfl
      · rw [if_neg c3, if_neg c3, ql_v, h]
    · rw [if_neg c2, if_neg c2, nx_val, qc_v]
      by_cases c3 : cNext (a0 - (t <<< (((3 : Int32) * a3) &&& 31))) a2 = 0
      · rw [if_pos c3, if_pos c3]
        rfl
      · rw [if_neg c3, if_neg c3, ql_v, h]
theorem bm_heap {n : Nat} (hn : 10 ≤ n) {K2 : Int32 → Int32 → Int32 → Int32 → qM → qR} {a0 a1 a2 a3 a4 : Int32} {M : qM} : f_X11_bestMove_20 n K2 n a0 a1 a2 a3 a4 1 M = oM (cH a0 a1 a2 a3 a4) M (K2 a0 a1 a2 (a3 + 1) M) := by
  obtain ⟨k, rfl⟩ : ∃ k, n = k + 4 := ⟨n - 4, by omega⟩
  have e4 : f_X11_bestMove_20 (k + 4) K2 (k + 1) a0 a1 a2 a3 a4 4 M = oM none M (K2 a0 a1 a2 (a3 + 1) M) := by
    show b_X11_bestMove_20 (k + 4) K2 (f_X11_bestMove_20 (k + 4) K2 k) a0 a1 a2 a3 a4 4 M = _
    unfold b_X11_bestMove_20
    rw [if_pos (by decide), ql_v]
    rfl
  exact bm_step (k := k + 3) (t := 1) (t' := 2) (by decide) (by decide) (bm_step (k := k + 2) (t := 2) (t' := 3) (by decide) (by decide) (bm_step (k := k + 1) (t := 3) (t' := 4) (by decide) (by decide) e4))
def cLie (a0 a3 : Int32) : Int32 := (a0 >>> (((3 : Int32) * a3) &&& 31)) &&& (7 : Int32)
def cBest (a0 a1 a2 : Int32) : Int32 := match cH a0 a1 a2 0 (cLie a0 0) with
  | some v => v
  | none => match cH a0 a1 a2 1 (cLie a0 1) with
    | some v => v
    | none => match cH a0 a1 a2 2 (cLie a0 2) with
      | some v => v
      | none => -2
theorem bm2_step {n k : Nat} (hn : 10 ≤ n) {a0 a1 a2 a3 a3' : Int32} {M : qM} (h : ¬ (3 : Int32) ≤ a3) (ha : a3 + 1 = a3') : f_X11_bestMove_2 n (k + 1) a0 a1 a2 a3 M = oM (cH a0 a1 a2 a3 (cLie a0 a3)) M (f_X11_bestMove_2 n k a0 a1 a2 a3' M) := by
  subst ha
  show b_X11_bestMove_2 n (f_X11_bestMove_2 n k) a0 a1 a2 a3 M = _
  unfold b_X11_bestMove_2
  rw [if_neg h, ql_v, bm_heap hn]
  rfl
theorem bm_val {n : Nat} (hn : 10 ≤ n) (a0 a1 a2 : Int32) (M : qM) : f_X11_bestMove n a0 a1 a2 M = some (cBest a0 a1 a2, M) := by
  obtain ⟨k, rfl⟩ : ∃ k, n = k + 4 := ⟨n - 4, by omega⟩
  unfold f_X11_bestMove
  rw [bm2_step (k := k + 3) (a3 := 0) (a3' := 1) hn (by decide) (by decide), bm2_step (k := k + 2) (a3 := 1) (a3' := 2) hn (by decide) (by decide), bm2_step (k := k + 1) (a3 := 2) (a3' := 3) hn (by decide) (by decide)]
  have e3 : f_X11_bestMove_2 (k + 4) (k + 1) a0 a1 a2 3 M = some (-2, M) := by
    show b_X11_bestMove_2 (k + 4) (f_X11_bestMove_2 (k + 4) k) a0 a1 a2 3 M = _
    unfold b_X11_bestMove_2
    rw [if_pos (by decide)]
  rw [e3]
  unfold cBest
  cases cH a0 a1 a2 0 (cLie a0 0) with
  | some v => rfl
  | none =>
    cases cH a0 a1 a2 1 (cLie a0 1) with
    | some v => rfl
    | none =>
      cases cH a0 a1 a2 2 (cLie a0 2) with
      | some v => rfl
      | none => rfl
/-! the model's side: rd is what winsAt holds -/
def mSt (h a b : Int32) : Int32 := (4 * h + (if a = 0 then 0 else 2)) + (if b = 0 then 0 else 1)
theorem gs_val (n : Nat) (h a b : Int32) (M : qM) : f_X12_gameState n h a b M = some (mSt h a b, M) := by
  unfold f_X12_gameState f_X12_gameState_12 mSt
  by_cases c1 : a = 0 <;> by_cases c2 : b = 0 <;> simp [c1, c2]
def mIn (h i : Int32) : Int32 := if i = 0 then h / 64 else if i = 1 then (h / 8) - (h / 8) / 8 * 8 else h - h / 8 * 8
theorem hi_val (n : Nat) (h i : Int32) (M : qM) : f_X12_heapIn n h i M = some (mIn h i, M) := by
  unfold f_X12_heapIn mIn
  by_cases c1 : i = 0
  · rw [if_pos c1, if_pos c1]
  · rw [if_neg c1, if_neg c1]
    by_cases c2 : i = 1
    · rw [if_pos c2, if_pos c2]
    · rw [if_neg c2, if_neg c2]
def mUn (i : Int32) : Int32 := if i = 0 then 64 else if i = 1 then 8 else 1
theorem hu_val (n : Nat) (i : Int32) (M : qM) : f_X12_heapUnit n i M = some (mUn i, M) := by
  unfold f_X12_heapUnit mUn
  by_cases c1 : i = 0
  · rw [if_pos c1, if_pos c1]
  · rw [if_neg c1, if_neg c1]
    by_cases c2 : i = 1
    · rw [if_pos c2, if_pos c2]
    · rw [if_neg c2, if_neg c2]
def mLf (h m i t : Int32) : Int32 := if m = 0 then h else h - t * mUn i
theorem wn_val {n : Nat} {h m o i t v : Int32} {M : qM} (hx : ¬ (mSt (mLf h m i t) o 1 < 0 ∨ 2048 ≤ (mSt (mLf h m i t) o 1).toNatClampNeg)) (hv : M 120 (mSt (mLf h m i t) o 1).toNatClampNeg = v) : f_X12_wins n h m o i t M = some (if v = 0 then 1 else 0, M) := by
  unfold f_X12_wins f_X12_wins_22
  unfold mLf at hx hv
  by_cases c1 : m = 0
  · rw [if_pos c1] at hx hv
    rw [if_pos c1, gs_val, qc_v, qg_in hx, hv]
    by_cases c2 : v = 0
    · rw [if_pos c2, if_pos c2]
    · rw [if_neg c2, if_neg c2]
  · rw [if_neg c1] at hx hv
    rw [if_neg c1, hu_val, qc_v, gs_val, qc_v, qg_in hx, hv]
    by_cases c2 : v = 0
    · rw [if_pos c2, if_pos c2]
    · rw [if_neg c2, if_neg c2]

def conv (h : Int32) : Int32 := (mIn h 0 ||| (mIn h 1 <<< ((3 : Int32) &&& 31))) ||| (mIn h 2 <<< ((6 : Int32) &&& 31))
def mNx (h o : Int32) : Int32 := cNext (conv h) o
def mT (h m o i t : Int32) (r : Option Int32) : Option Int32 := if mIn h i < t then r else if mNx (mLf h m i t) o = 0 then some ((10 : Int32) * i + t) else r
def mH (h m o i : Int32) : Option Int32 := mT h m o i 1 (mT h m o i 2 (mT h m o i 3 none))
/-- what is read at a move is right -/
def mRd (M : qM) (h m o i t : Int32) : Prop := ¬ mIn h i < t → ¬ (mSt (mLf h m i t) o 1 < 0 ∨ 2048 ≤ (mSt (mLf h m i t) o 1).toNatClampNeg) ∧ M 120 (mSt (mLf h m i t) o 1).toNatClampNeg = mNx (mLf h m i t) o
theorem cNext01 (a b : Int32) : cNext a b = 0 ∨ cNext a b = 1 := by
  unfold cNext
  split
  · split
    · split
      · exact Or.inl rfl
      · exact Or.inr rfl
    · exact Or.inl rfl
  · split
    · exact Or.inl rfl
    · exact Or.inr rfl
theorem wm_step {n k : Nat} {K3 : Int32 → Int32 → Int32 → Int32 → qM → qR} {h m o i t t' : Int32} {M : qM} {r : Option Int32} (h3 : ¬ (3 : Int32) < t) (ht : t + 1 = t') (hr : mRd M h m o i t) (e : f_X12_winningMove_12 n K3 k h m o i t' M = oM r M (K3 h m o (i + 1) M)) : f_X12_winningMove_12 n K3 (k + 1) h m o i t M = oM (mT h m o i t r) M (K3 h m o (i + 1) M) := by
  subst ht
  show b_X12_winningMove_12 n K3 (f_X12_winningMove_12 n K3 k) h m o i t M = _
  unfold b_X12_winningMove_12 mT
  rw [if_neg h3, hi_val, qc_v]
  by_cases c1 : mIn h i < t
  · rw [if_pos c1, if_pos c1, ql_v, e]
  · rw [if_neg c1, if_neg c1]
    obtain ⟨g1, g2⟩ := hr c1
    rw [wn_val g1 g2, qc_v]
    by_cases c2 : mNx (mLf h m i t) o = 0
    · rw [if_pos c2, if_neg (by decide), if_pos c2]
      rfl
    · rw [if_neg c2, if_pos rfl, if_neg c2, ql_v, e]
theorem wm_heap {n : Nat} (hn : 10 ≤ n) {K3 : Int32 → Int32 → Int32 → Int32 → qM → qR} {h m o i : Int32} {M : qM} (r1 : mRd M h m o i 1) (r2 : mRd M h m o i 2) (r3 : mRd M h m o i 3) : f_X12_winningMove_12 n K3 n h m o i 1 M = oM (mH h m o i) M (K3 h m o (i + 1) M) := by
  obtain ⟨k, rfl⟩ : ∃ k, n = k + 4 := ⟨n - 4, by omega⟩
  have e4 : f_X12_winningMove_12 (k + 4) K3 (k + 1) h m o i 4 M = oM none M (K3 h m o (i + 1) M) := by
    show b_X12_winningMove_12 (k + 4) K3 (f_X12_winningMove_12 (k + 4) K3 k) h m o i 4 M = _
    unfold b_X12_winningMove_12
    rw [if_pos (by decide), ql_v]
    rfl
  exact wm_step (k := k + 3) (t := 1) (t' := 2) (by decide) (by decide) r1 (wm_step (k := k + 2) (t := 2) (t' := 3) (by decide) (by decide) r2 (wm_step (k := k + 1) (t := 3) (t' := 4) (by decide) (by decide) r3 e4))
def mBest (h m o : Int32) : Int32 := match mH h m o 0 with
  | some v => v
  | none => match mH h m o 1 with
    | some v => v
    | none => match mH h m o 2 with
      | some v => v
      | none => -1
def mRdA (M : qM) (h m o : Int32) : Prop := ∀ i t : Int32, (i = 0 ∨ i = 1 ∨ i = 2) → (t = 1 ∨ t = 2 ∨ t = 3) → mRd M h m o i t
theorem wm3_step {n k : Nat} (hn : 10 ≤ n) {h m o i i' : Int32} {M : qM} (hi : ¬ (3 : Int32) ≤ i) (hi2 : i = 0 ∨ i = 1 ∨ i = 2) (ha : i + 1 = i') (hr : mRdA M h m o) : f_X12_winningMove_3 n (k + 1) h m o i M = oM (mH h m o i) M (f_X12_winningMove_3 n k h m o i' M) := by
  subst ha
  show b_X12_winningMove_3 n (f_X12_winningMove_3 n k) h m o i M = _
  unfold b_X12_winningMove_3
  rw [if_neg hi, wm_heap hn (hr i 1 hi2 (by decide)) (hr i 2 hi2 (by decide)) (hr i 3 hi2 (by decide))]
theorem wm_val {n : Nat} (hn : 10 ≤ n) {h m o : Int32} {M : qM} (hr : mRdA M h m o) : f_X12_winningMove n h m o M = some (mBest h m o, M) := by
  obtain ⟨k, rfl⟩ : ∃ k, n = k + 4 := ⟨n - 4, by omega⟩
  unfold f_X12_winningMove
  rw [wm3_step (k := k + 3) (i := 0) (i' := 1) hn (by decide) (by decide) (by decide) hr, wm3_step (k := k + 2) (i := 1) (i' := 2) hn (by decide) (by decide) (by decide) hr, wm3_step (k := k + 1) (i := 2) (i' := 3) hn (by decide) (by decide) (by decide) hr]
  have e3 : f_X12_winningMove_3 (k + 4) (k + 1) h m o 3 M = some (-1, M) := by
    show b_X12_winningMove_3 (k + 4) (f_X12_winningMove_3 (k + 4) k) h m o 3 M = _
    unfold b_X12_winningMove_3
    rw [if_pos (by decide)]
  rw [e3]
  unfold mBest
  cases mH h m o 0 with
  | some v => rfl
  | none =>
    cases mH h m o 1 with
    | some v => rfl
    | none =>
      cases mH h m o 2 with
      | some v => rfl
      | none => rfl
/-! finite facts -/
def uN : Nat → Nat
  | 0 => 64
  | 1 => 8
  | _ => 1
set_option maxRecDepth 100000 in
theorem fa_move : ∀ h, h < 512 → ∀ i, i < 3 → ∀ t, t < 3 → mIn (nI h) (nI i) < nI (t + 1) ∨ ((t + 1) * uN i ≤ h ∧ nI h - nI (t + 1) * mUn (nI i) = nI (h - (t + 1) * uN i)) := by decide +kernel
set_option maxRecDepth 100000 in
theorem fa_st : ∀ h, h < 512 → mSt (nI h) 0 1 = nI (4 * h + 1) ∧ mSt (nI h) 1 1 = nI (4 * h + 3) ∧ mSt (nI h) 0 0 = nI (4 * h) ∧ mSt (nI h) 1 0 = nI (4 * h + 2) := by decide +kernel
set_option maxRecDepth 100000 in
theorem fa_win : ∀ h, h < 512 → mNx (nI h) 1 = (if mBest (nI h) 1 1 = -1 then 0 else 1) ∧ mNx (nI h) 0 = (if mBest (nI h) 0 1 = -1 then 0 else 1) := by decide +kernel
set_option maxRecDepth 100000 in
theorem fa_best : ∀ a, a < 8 → ∀ b, b < 8 → ∀ c, c < 8 → ∀ m, m < 2 → ∀ o, o < 2 → cBest ((nI a ||| (nI b <<< ((3 : Int32) &&& 31))) ||| (nI c <<< ((6 : Int32) &&& 31))) (nI m) (nI o) = (if mBest (nI (64 * a + 8 * b + c)) (nI m) (nI o) = -1 then -2 else mBest (nI (64 * a + 8 * b + c)) (nI m) (nI o)) := by decide +kernel
set_option maxRecDepth 100000 in
theorem fa_ne : ∀ T, T < 512 → ∀ m, m < 2 → ∀ o, o < 2 → ¬ mBest (nI T) (nI m) (nI o) = -2 := by decide +kernel

/-- the table up to h: what matters of it -/
def mTab (M : qM) (h : Nat) : Prop := ∀ h', h' < h → M 120 (4 * h' + 3) = mNx (nI h') 1 ∧ M 120 (4 * h' + 1) = mNx (nI h') 0
theorem uN_pos (i : Nat) : 1 ≤ uN i := by
  match i with
  | 0 => decide
  | 1 => decide
  | i + 2 => exact Nat.le_refl 1
theorem i3n {i : Int32} (h : i = 0 ∨ i = 1 ∨ i = 2) : ∃ k, k < 3 ∧ i = nI k := by
  rcases h with rfl | rfl | rfl
  · exact ⟨0, by decide, by decide⟩
  · exact ⟨1, by decide, by decide⟩
  · exact ⟨2, by decide, by decide⟩
theorem t3n {t : Int32} (h : t = 1 ∨ t = 2 ∨ t = 3) : ∃ k, k < 3 ∧ t = nI (k + 1) := by
  rcases h with rfl | rfl | rfl
  · exact ⟨0, by decide, by decide⟩
  · exact ⟨1, by decide, by decide⟩
  · exact ⟨2, by decide, by decide⟩
/-- where the other cell is read: at h' below h (moved), or at h itself (not moved) -/
theorem rd_of {M : qM} {h h' : Nat} {m o i t : Int32} (hh : h < 512) (hl : ¬ mIn (nI h) i < t → mLf (nI h) m i t = nI h' ∧ h' < 512) (ho : (o = 1 ∧ M 120 (4 * h' + 3) = mNx (nI h') 1) ∨ (o = 0 ∧ M 120 (4 * h' + 1) = mNx (nI h') 0)) : mRd M (nI h) m o i t := by
  intro c
  obtain ⟨e, h5⟩ := hl c
  obtain ⟨s1, s2, -, -⟩ := fa_st h' h5
  rw [e]
  rcases ho with ⟨rfl, hv⟩ | ⟨rfl, hv⟩
  · rw [s2]
    exact ⟨nI_in (by omega) (by decide), by rw [nI_clamp (by omega)]; exact hv⟩
  · rw [s1]
    exact ⟨nI_in (by omega) (by decide), by rw [nI_clamp (by omega)]; exact hv⟩
theorem rda1 {M : qM} {h : Nat} {o : Int32} (hh : h < 512) (ht : mTab M h) (ho : o = 0 ∨ o = 1) : mRdA M (nI h) 1 o := by
  intro i t hi ht3
  obtain ⟨i, hi4, rfl⟩ := i3n hi
  obtain ⟨t, ht4, rfl⟩ := t3n ht3
  by_cases c : mIn (nI h) (nI i) < nI (t + 1)
  · intro q
    exact absurd c q
  · rcases fa_move h hh i hi4 t ht4 with q | ⟨q1, q2⟩
    · exact absurd q c
    · have hp := uN_pos i
      have hlt : h - (t + 1) * uN i < h := by
        have : 1 ≤ (t + 1) * uN i := Nat.mul_pos (by omega) (by omega)
        omega
      refine rd_of (h' := h - (t + 1) * uN i) hh (fun _ => ⟨?_, by omega⟩) ?_
      · unfold mLf
        rw [if_neg (by decide)]
        exact q2
      · have := ht _ hlt
        rcases ho with rfl | rfl
        · exact Or.inr ⟨rfl, this.2⟩
        · exact Or.inl ⟨rfl, this.1⟩
theorem rda0 {M : qM} {h : Nat} {o : Int32} (hh : h < 512) (ho : (o = 1 ∧ M 120 (4 * h + 3) = mNx (nI h) 1) ∨ (o = 0 ∧ M 120 (4 * h + 1) = mNx (nI h) 0)) : mRdA M (nI h) 0 o := by
  intro i t _ _
  refine rd_of (h' := h) hh (fun _ => ⟨?_, hh⟩) ho
  unfold mLf
  rw [if_pos rfl]
theorem qlm_v {M : qM} {f : qM → qR} : qlm M f = f M := rfl
theorem nz0 : vp_nar .boolean 0 = 0 := by decide
theorem nz1 : vp_nar .boolean 1 = 1 := by decide
theorem tab_mu {M : qM} {h k : Nat} {v : Int32} (ht : mTab M h) (hk : 4 * h ≤ k) : mTab (mu M 120 k v) h := by
  intro h' hh
  obtain ⟨a, b⟩ := ht h' hh
  refine ⟨?_, ?_⟩
  · simp only [mu]
    rw [if_neg (by omega)]
    exact a
  · simp only [mu]
    rw [if_neg (by omega)]
    exact b
def g01 (v : Int32) : Int32 := if v = -1 then 0 else 1
theorem g151 {n : Nat} (hn : 10 ≤ n) {K : Int32 → Int32 → Int32 → Int32 → Int32 → qM → qR} {a4 a5 a6 a7 s2 : Int32} {M : qM} {h : Nat} (hh : h < 512) (h1 : M 120 (4 * h + 1) = mNx (nI h) 0) (h3 : M 120 (4 * h + 3) = mNx (nI h) 1) (ht : mTab M h) (hs : s2 = 0 ∨ s2 = 1) : ∃ M', f_X12_game_151 n K a4 a5 a6 a7 (nI h) (nI (4 * h + 2)) s2 M = K a4 a5 a6 a7 (nI (h + 1)) M' ∧ mTab M' (h + 1) := by
  obtain ⟨-, -, s00, -⟩ := fa_st h hh
  have hz : vp_nar .boolean s2 = s2 := by rcases hs with rfl | rfl; exact nz0; exact nz1
  have hrd : mRdA (mu M 120 (4 * h + 2) s2) (nI h) 0 0 := rda0 hh (Or.inr ⟨rfl, by simp only [mu]; rw [if_neg (by omega)]; exact h1⟩)
  have fin : ∀ v : Int32, mTab (mu (mu M 120 (4 * h + 2) s2) 120 (4 * h) v) (h + 1) := fun v h' hh' => by
    by_cases q : h' = h
    · subst q
      refine ⟨?_, ?_⟩
      · simp only [mu]
        rw [if_neg (by omega), if_neg (by omega)]
        exact h3
      · simp only [mu]
        rw [if_neg (by omega), if_neg (by omega)]
        exact h1
    · exact tab_mu (tab_mu ht (by omega)) (by omega) h' (by omega)
  unfold f_X12_game_151
  rw [qg_nI (show 4 * h + 2 < 2048 by omega) (by decide), nI_clamp (by omega), hz]
  rw [qlm_v, gs_val, qc_v, wm_val hn hrd, qc_v, s00]
  by_cases c : mBest (nI h) 0 0 = -1
  · rw [if_pos c, qg_nI (show 4 * h < 2048 by omega) (by decide), nI_clamp (by omega), nz0, qlm_v, ql_v, nI_1]
    exact ⟨_, rfl, fin 0⟩
  · rw [if_neg c, qg_nI (show 4 * h < 2048 by omega) (by decide), nI_clamp (by omega), nz1, qlm_v, ql_v, nI_1]
    exact ⟨_, rfl, fin 1⟩
theorem g122 {n : Nat} (hn : 10 ≤ n) {K : Int32 → Int32 → Int32 → Int32 → Int32 → qM → qR} {a4 a5 a6 a7 : Int32} {M : qM} {h : Nat} (hh : h < 512) (h3 : M 120 (4 * h + 3) = mNx (nI h) 1) (ht : mTab M h) : ∃ M', f_X12_game_122 n K a4 a5 a6 a7 (nI h) (nI (4 * h + 1)) (g01 (mBest (nI h) 0 1)) M = K a4 a5 a6 a7 (nI (h + 1)) M' ∧ mTab M' (h + 1) := by
  obtain ⟨-, -, -, s10⟩ := fa_st h hh
  have hz : vp_nar .boolean (g01 (mBest (nI h) 0 1)) = mNx (nI h) 0 := by
    rw [(fa_win h hh).2]
    unfold g01
    by_cases c : mBest (nI h) 0 1 = -1
    · rw [if_pos c]; exact nz0
    · rw [if_neg c]; exact nz1
  have k1 : mu M 120 (4 * h + 1) (mNx (nI h) 0) 120 (4 * h + 1) = mNx (nI h) 0 := by simp [mu]
  have k3 : mu M 120 (4 * h + 1) (mNx (nI h) 0) 120 (4 * h + 3) = mNx (nI h) 1 := by
    simp only [mu]
    rw [if_neg (by omega)]
    exact h3
  have kt : mTab (mu M 120 (4 * h + 1) (mNx (nI h) 0)) h := tab_mu ht (by omega)
  unfold f_X12_game_122
  rw [qg_nI (show 4 * h + 1 < 2048 by omega) (by decide), nI_clamp (by omega), hz]
  rw [qlm_v, gs_val, qc_v, wm_val hn (rda1 hh kt (Or.inl rfl)), qc_v, s10]
  by_cases c : mBest (nI h) 1 0 = -1
  · rw [if_pos c]
    exact g151 hn hh k1 k3 kt (Or.inl rfl)
  · rw [if_neg c]
    exact g151 hn hh k1 k3 kt (Or.inr rfl)
theorem g93 {n : Nat} (hn : 10 ≤ n) {K : Int32 → Int32 → Int32 → Int32 → Int32 → qM → qR} {a4 a5 a6 a7 : Int32} {M : qM} {h : Nat} (hh : h < 512) (ht : mTab M h) : ∃ M', f_X12_game_93 n K a4 a5 a6 a7 (nI h) (nI (4 * h + 3)) (g01 (mBest (nI h) 1 1)) M = K a4 a5 a6 a7 (nI (h + 1)) M' ∧ mTab M' (h + 1) := by
  obtain ⟨s01, -, -, -⟩ := fa_st h hh
  have hz : vp_nar .boolean (g01 (mBest (nI h) 1 1)) = mNx (nI h) 1 := by
    rw [(fa_win h hh).1]
    unfold g01
    by_cases c : mBest (nI h) 1 1 = -1
    · rw [if_pos c]; exact nz0
    · rw [if_neg c]; exact nz1
  have k3 : mu M 120 (4 * h + 3) (mNx (nI h) 1) 120 (4 * h + 3) = mNx (nI h) 1 := by simp [mu]
  have kt : mTab (mu M 120 (4 * h + 3) (mNx (nI h) 1)) h := tab_mu ht (by omega)
  unfold f_X12_game_93
  rw [qg_nI (show 4 * h + 3 < 2048 by omega) (by decide), nI_clamp (by omega), hz]
  rw [qlm_v, gs_val, qc_v, wm_val hn (rda0 hh (Or.inl ⟨rfl, k3⟩)), qc_v, s01]
  have e := g122 hn (K := K) (a4 := a4) (a5 := a5) (a6 := a6) (a7 := a7) hh k3 kt
  unfold g01 at e
  by_cases c : mBest (nI h) 0 1 = -1
  · rw [if_pos c] at e ⊢
    exact e
  · rw [if_neg c] at e ⊢
    exact e
theorem g58_step {n k : Nat} (hn : 10 ≤ n) {a4 a5 a6 a7 : Int32} {M : qM} {h : Nat} (hh : h < 512) (h7 : ¬ a7 < nI h) (ht : mTab M h) : ∃ M', f_X12_game_58 n (k + 1) a4 a5 a6 a7 (nI h) M = f_X12_game_58 n k a4 a5 a6 a7 (nI (h + 1)) M' ∧ mTab M' (h + 1) := by
  obtain ⟨-, s11, -, -⟩ := fa_st h hh
  show ∃ M', b_X12_game_58 n (f_X12_game_58 n k) a4 a5 a6 a7 (nI h) M = _ ∧ _
  unfold b_X12_game_58
  rw [if_neg h7, gs_val, qc_v, wm_val hn (rda1 hh ht (Or.inr rfl)), qc_v, s11]
  have e := g93 hn (K := f_X12_game_58 n k) (a4 := a4) (a5 := a5) (a6 := a6) (a7 := a7) hh ht
  unfold g01 at e
  by_cases c : mBest (nI h) 1 1 = -1
  · rw [if_pos c] at e ⊢
    exact e
  · rw [if_neg c] at e ⊢
    exact e
theorem g58_go {n : Nat} (hn : 10 ≤ n) {T : Nat} (hT : T < 512) {a4 a5 a6 : Int32} : ∀ (d h m : Nat) (M : qM), h + d = T + 1 → d < m → mTab M h → ∃ M' k, f_X12_game_58 n m a4 a5 a6 (nI T) (nI h) M = f_X12_game_58 n (k + 1) a4 a5 a6 (nI T) (nI (T + 1)) M' ∧ mTab M' (T + 1) := by
  intro d
  induction d with
  | zero =>
    intro h m M hd hm ht
    obtain ⟨k, rfl⟩ : ∃ k, m = k + 1 := ⟨m - 1, by omega⟩
    obtain rfl : h = T + 1 := by omega
    exact ⟨M, k, rfl, ht⟩
  | succ d ih =>
    intro h m M hd hm ht
    obtain ⟨k, rfl⟩ : ∃ k, m = k + 1 := ⟨m - 1, by omega⟩
    obtain ⟨M1, e1, t1⟩ := g58_step (n := n) (k := k) (a4 := a4) (a5 := a5) (a6 := a6) hn (h := h) (by omega) (nI_nlt (a := T) (b := h) (by omega) (by omega)) ht
    obtain ⟨M', k', e, t⟩ := ih (h + 1) k M1 (by omega) (by omega) t1
    exact ⟨M', k', e1.trans e, t⟩
theorem i7 {a : Int32} (h1 : ¬ a < 0) (h2 : ¬ (7 : Int32) < a) : ∃ k, k < 8 ∧ a = nI k := by
  obtain ⟨j, hj, rfl⟩ := nI_of h1
  refine ⟨j, ?_, rfl⟩
  rcases Nat.lt_or_ge 7 j with q | q
  · exact absurd (nI_lt (a := 7) q hj) h2
  · omega
theorem ih_val (n : Nat) (a : Int32) (M : qM) : f_X11_isHeap n a M = some (if a < 0 ∨ 7 < a then 0 else 1, M) := by
  unfold f_X11_isHeap
  by_cases c : a < 0
  · rw [if_pos c, if_pos (Or.inl c)]
  · rw [if_neg c]
    by_cases d : (7 : Int32) < a
    · rw [if_pos d, if_pos (Or.inr d)]
    · rw [if_neg d, if_neg (by rintro (q | q) <;> contradiction)]
theorem n10 : ¬ ((1 : Int32) = 0) := by decide
theorem n00 : (0 : Int32) = 0 := rfl
theorem p1_game {n : Nat} (hn : 955 ≤ n) {M : qM} (a1 a2 a3 a6 : Int32) {m o : Nat} (hm : m < 2) (ho : o < 2) : Pr (f_X11_game n a1 a2 a3 (nI m) (nI o) a6) (f_X12_game n a1 a2 a3 (nI m) (nI o) a6) M := by
  by_cases c1 : a1 < 0 ∨ (7 : Int32) < a1
  · refine Pr.same (v := -1) ?_ ?_
    · unfold f_X11_game
      rw [ih_val, qc_v, if_pos c1, if_pos n00]
    · unfold f_X12_game
      rw [in_eq, qc_v, if_pos c1, if_pos n00]
  by_cases c2 : a2 < 0 ∨ (7 : Int32) < a2
  · refine Pr.same (v := -1) ?_ ?_
    · unfold f_X11_game
      rw [ih_val, qc_v, if_neg c1, if_neg n10, ih_val, qc_v, if_pos c2, if_pos n00]
    · unfold f_X12_game
      rw [in_eq, qc_v, if_neg c1, if_neg n10, in_eq, qc_v, if_pos c2, if_pos n00]
  by_cases c3 : a3 < 0 ∨ (7 : Int32) < a3
  · refine Pr.same (v := -1) ?_ ?_
    · unfold f_X11_game
      rw [ih_val, qc_v, if_neg c1, if_neg n10, ih_val, qc_v, if_neg c2, if_neg n10, ih_val, qc_v, if_pos c3, if_pos n00]
    · unfold f_X12_game
      rw [in_eq, qc_v, if_neg c1, if_neg n10, in_eq, qc_v, if_neg c2, if_neg n10, in_eq, qc_v, if_pos c3, if_pos n00]
  by_cases c6 : a6 < 0 ∨ (1 : Int32) < a6
  · refine Pr.same (v := -1) ?_ ?_
    · unfold f_X11_game
      rw [ih_val, qc_v, if_neg c1, if_neg n10, ih_val, qc_v, if_neg c2, if_neg n10, ih_val, qc_v, if_neg c3, if_neg n10]
      rcases c6 with q | q
      · rw [if_pos q]
      · by_cases q0 : a6 < 0
        · rw [if_pos q0]
        · rw [if_neg q0, if_neg (Int32.not_le.mpr q)]
    · unfold f_X12_game
      rw [in_eq, qc_v, if_neg c1, if_neg n10, in_eq, qc_v, if_neg c2, if_neg n10, in_eq, qc_v, if_neg c3, if_neg n10, in_eq, qc_v, if_pos c6, if_pos n00]
  have d6 : ¬ a6 < 0 := fun q => c6 (Or.inl q)
  have d7 : a6 ≤ (1 : Int32) := Int32.not_lt.mp (fun q => c6 (Or.inr q))
  obtain ⟨a, ha, rfl⟩ := i7 (fun q => c1 (Or.inl q)) (fun q => c1 (Or.inr q))
  obtain ⟨b, hb, rfl⟩ := i7 (fun q => c2 (Or.inl q)) (fun q => c2 (Or.inr q))
  obtain ⟨c, hc, rfl⟩ := i7 (fun q => c3 (Or.inl q)) (fun q => c3 (Or.inr q))
  have best := fa_best a ha b hb c hc m hm o ho
  generalize hT : 64 * a + 8 * b + c = T at best
  have hT5 : T < 512 := by omega
  obtain ⟨M', k, e, t⟩ := g58_go (n := n) (a4 := nI m) (a5 := nI o) (a6 := a6) (by omega) hT5 (T + 1) 0 n M (by omega) (by omega) (fun h' q => absurd q (by omega))
  have eT : ((64 : Int32) * nI a + (8 : Int32) * nI b) + nI c = nI T := by
    have h1 : (64 : Int32) * nI a = nI (64 * a) := (Int32.ofNat_mul 64 a).symm
    have h2 : (8 : Int32) * nI b = nI (8 * b) := (Int32.ofNat_mul 8 b).symm
    rw [h1, h2, nI_add, nI_add, hT]
  have rd : mRdA M' (nI T) (nI m) (nI o) := by
    obtain ⟨t3, t1⟩ := t T (by omega)
    have hT2 : mTab M' T := fun h' q => t h' (by omega)
    rcases (show m = 0 ∨ m = 1 by omega) with rfl | rfl
    · refine rda0 hT5 ?_
      rcases (show o = 0 ∨ o = 1 by omega) with rfl | rfl
      · exact Or.inr ⟨nI_0, t1⟩
      · exact Or.inl ⟨by decide, t3⟩
    · refine rda1 hT5 hT2 ?_
      rcases (show o = 0 ∨ o = 1 by omega) with rfl | rfl
      · exact Or.inl nI_0
      · exact Or.inr (by decide)
  have hB : f_X12_game n (nI a) (nI b) (nI c) (nI m) (nI o) a6 M = some (if a6 = 0 then (if mBest (nI T) (nI m) (nI o) = -1 then 0 else 1) else (if mBest (nI T) (nI m) (nI o) = -1 then -2 else mBest (nI T) (nI m) (nI o)), M') := by
    unfold f_X12_game
    rw [in_eq, qc_v, if_neg c1, if_neg n10, in_eq, qc_v, if_neg c2, if_neg n10, in_eq, qc_v, if_neg c3, if_neg n10, in_eq, qc_v, if_neg c6, if_neg n10, ql_v, eT, ← nI_0, e]
    show b_X12_game_58 n (f_X12_game_58 n k) (nI m) (nI o) a6 (nI T) (nI (T + 1)) M' = _
    unfold b_X12_game_58
    rw [if_pos (nI_lt (by omega) (by omega)), wm_val (by omega) rd, qc_v, nI_0]
    by_cases z : a6 = 0
    · rw [if_pos z, if_pos z]
      by_cases w : mBest (nI T) (nI m) (nI o) = -1
      · rw [if_pos w, if_pos w]
      · rw [if_neg w, if_neg w]
    · rw [if_neg z, if_neg z]
      by_cases w : mBest (nI T) (nI m) (nI o) = -1
      · rw [if_pos w, if_pos w]
      · rw [if_neg w, if_neg w]
  have hA : f_X11_game n (nI a) (nI b) (nI c) (nI m) (nI o) a6 M = some (if a6 = 0 then (if mBest (nI T) (nI m) (nI o) = -1 then 0 else 1) else (if mBest (nI T) (nI m) (nI o) = -1 then -2 else mBest (nI T) (nI m) (nI o)), M) := by
    have hne := fa_ne T hT5 m hm o ho
    unfold f_X11_game
    rw [ih_val, qc_v, if_neg c1, if_neg n10, ih_val, qc_v, if_neg c2, if_neg n10, ih_val, qc_v, if_neg c3, if_neg n10, if_neg d6, if_pos d7, bm_val (by omega), qc_v, best]
    by_cases z : a6 = 0
    · rw [if_pos z, if_neg (show ¬ a6 = 1 by rw [z]; decide)]
      by_cases w : mBest (nI T) (nI m) (nI o) = -1
      · rw [if_pos w, if_pos rfl, if_pos w]
      · rw [if_neg w, if_neg hne, if_neg w]
    · have z1 : a6 = 1 := by
        obtain ⟨q, hq, rfl⟩ := nI_of d6
        have hq1 : q ≤ 1 := by
          rcases Nat.lt_or_ge 1 q with r | r
          · exact absurd (nI_lt (a := 1) r hq) (Int32.not_lt.mpr d7)
          · exact r
        rcases (show q = 0 ∨ q = 1 by omega) with rfl | rfl
        · exact absurd nI_0 z
        · decide
      rw [if_neg z, if_pos z1]
  exact ⟨_, M, M', hA, hB⟩

/-! court -/
def bc1 (x : Int32) : Int32 := x - ((x.toUInt32 >>> ((1 : Int32).toUInt32 &&& Int32.toUInt32 31)).toInt32 &&& (1431655765 : Int32))
def bc2 (x : Int32) : Int32 := (x &&& (858993459 : Int32)) + ((x.toUInt32 >>> ((2 : Int32).toUInt32 &&& Int32.toUInt32 31)).toInt32 &&& (858993459 : Int32))
def bc3 (x : Int32) : Int32 := (x + (x.toUInt32 >>> ((4 : Int32).toUInt32 &&& Int32.toUInt32 31)).toInt32) &&& (252645135 : Int32)
def bc4 (x : Int32) : Int32 := x + (x.toUInt32 >>> ((8 : Int32).toUInt32 &&& Int32.toUInt32 31)).toInt32
def bc5 (x : Int32) : Int32 := x + (x.toUInt32 >>> ((16 : Int32).toUInt32 &&& Int32.toUInt32 31)).toInt32
def bcv (x : Int32) : Int32 := bc5 (bc4 (bc3 (bc2 (bc1 x)))) &&& (63 : Int32)
theorem bc_val (n : Nat) (a : Int32) (M : qM) : f_J6_bitCount_0f7a4 n a M = some (bcv a, M) := by
  unfold f_J6_bitCount_0f7a4 bcv
  rw [ql_v, ql_v, ql_v, ql_v, ql_v]
  rfl
def mbs (a : Int32) : Nat → Int32
  | 0 => 0
  | k + 1 => mbs a k + ((a >>> (nI k &&& 31)) &&& (1 : Int32))
theorem bits_g {n : Nat} {a : Int32} {M : qM} : ∀ (d i m : Nat), i + d = 12 → d < m → f_X12_bits_4 n m a (mbs a i) (nI i) M = some (mbs a 12, M) := by
  intro d
  induction d with
  | zero =>
    intro i m hi hm
    obtain ⟨k, rfl⟩ : ∃ k, m = k + 1 := ⟨m - 1, by omega⟩
    have e : i = 12 := by omega
    subst e
    show b_X12_bits_4 n (f_X12_bits_4 n k) a (mbs a 12) (nI 12) M = _
    unfold b_X12_bits_4
    rw [if_pos (by decide)]
  | succ d ih =>
    intro i m hi hm
    obtain ⟨k, rfl⟩ : ∃ k, m = k + 1 := ⟨m - 1, by omega⟩
    show b_X12_bits_4 n (f_X12_bits_4 n k) a (mbs a i) (nI i) M = _
    unfold b_X12_bits_4
    have c : ¬ (12 : Int32) ≤ nI i := nI_ge (a := i) (b := 12) (by omega) (by decide)
    rw [if_neg c, ql_v, ql_v, nI_1]
    exact ih (i + 1) k (by omega) (by omega)
theorem bits_val {n : Nat} (hn : 200 ≤ n) (a : Int32) (M : qM) : f_X12_bits n a M = some (mbs a 12, M) := by
  unfold f_X12_bits
  exact bits_g 12 0 n (by omega) (by omega)
set_option maxRecDepth 100000 in
theorem fa_bc : ∀ j, j < 512 → bcv (nI j) = mbs (nI j) 12 := by decide +kernel
def hb (a : Int32) (k : Nat) : Int32 := if ((a >>> (nI k &&& 31)) &&& (1 : Int32)) = 1 then 1 else 0
set_option maxRecDepth 100000 in
theorem fa_hb : ∀ Y, Y < 512 → ∀ k, k < 9 → hb (nI Y) k = if Y.testBit k then 1 else 0 := by decide +kernel
set_option maxRecDepth 100000 in
theorem fa_acc : ∀ Y, Y < 512 → ∀ k, k < 9 → (if hb (nI Y) k = 0 then nI (Y % 2 ^ k) else nI (Y % 2 ^ k) ||| ((1 : Int32) <<< (nI k &&& 31))) = nI (Y % 2 ^ (k + 1)) := by decide +kernel
theorem fa_all : ∀ N, N < 10 → ((1 : Int32) <<< (nI N &&& 31)) - (1 : Int32) = nI (2 ^ N - 1) := by decide +kernel
theorem fa_512 : ∀ N, N < 10 → 2 ^ N ≤ 512 := by decide +kernel
def cfin (n : Nat) (a1 a2 a6 a9 : Int32) (M : qM) : qR := if a6 = (0 : Int32) then qc (f_X12_bits n a9 M) (fun r5 m6 => some (r5, m6)) else (if a6 = (1 : Int32) then qc (f_X12_bits n a9 M) (fun r3 m4 => (if ((2 : Int32) * r3) ≤ a1 then some ((0 : Int32), m4) else some ((1 : Int32), m4))) else qc (f_X12_bits n (a9 ^^^ a2) M) (fun r1 m2 => some (r1, m2)))
theorem n_or (a b : Nat) : nI a ||| nI b = nI (a ||| b) := by
  apply Int32.toBitVec_inj.1
  show BitVec.ofNat 32 a ||| BitVec.ofNat 32 b = BitVec.ofNat 32 (a ||| b)
  apply BitVec.eq_of_getLsbD_eq
  intro i hi
  simp [hi]
theorem n_and (a b : Nat) : nI a &&& nI b = nI (a &&& b) := by
  apply Int32.toBitVec_inj.1
  show BitVec.ofNat 32 a &&& BitVec.ofNat 32 b = BitVec.ofNat 32 (a &&& b)
  apply BitVec.eq_of_getLsbD_eq
  intro i hi
  simp [hi]
theorem n_xor (a b : Nat) : nI a ^^^ nI b = nI (a ^^^ b) := by
  apply Int32.toBitVec_inj.1
  show BitVec.ofNat 32 a ^^^ BitVec.ofNat 32 b = BitVec.ofNat 32 (a ^^^ b)
  apply BitVec.eq_of_getLsbD_eq
  intro i hi
  simp [hi]
theorem n_of32 (x : Int32) : ∃ n, n < 2 ^ 32 ∧ x = nI n := ⟨x.toBitVec.toNat, x.toBitVec.isLt, Int32.toBitVec_inj.mp (by show _ = BitVec.ofNat 32 _; simp)⟩
theorem n_m1 : (-1 : Int32) = nI 4294967295 := by decide
theorem n_z {X : Nat} (h : X < 2 ^ 32) (e : nI X = 0) : X = 0 := by
  have e2 : (nI X).toBitVec.toNat = (0 : Int32).toBitVec.toNat := by rw [e]
  have e3 : (BitVec.ofNat 32 X).toNat = 0 := e2
  rw [BitVec.toNat_ofNat, Nat.mod_eq_of_lt h] at e3
  exact e3
theorem ct_fin {n : Nat} (hn : 200 ≤ n) {A Y : Nat} (hA : A < 512) (hY : Y < 512) (a1 a6 : Int32) (M : qM) : ∃ w, f_X11_court_122 n a1 (nI A) a6 (nI Y) M = some (w, M) ∧ cfin n a1 (nI A) a6 (nI Y) M = some (w, M) := by
  unfold f_X11_court_122 cfin
  by_cases c0 : a6 = 0
  · rw [if_pos c0, if_pos c0, bc_val, bits_val hn, qc_v, qc_v, fa_bc Y hY]
    exact ⟨_, rfl, rfl⟩
  · rw [if_neg c0, if_neg c0]
    by_cases c1 : a6 = 1
    · rw [if_pos c1, if_pos c1, bc_val, bits_val hn, qc_v, qc_v, fa_bc Y hY]
      by_cases c2 : (2 : Int32) * mbs (nI Y) 12 ≤ a1
      · rw [if_pos c2]
        exact ⟨_, rfl, rfl⟩
      · rw [if_neg c2]
        exact ⟨_, rfl, rfl⟩
    · rw [if_neg c1, if_neg c1, bc_val, bits_val hn, qc_v, qc_v, n_xor, n_xor, Nat.xor_comm Y A, fa_bc (A ^^^ Y) (Nat.xor_lt_two_pow (n := 9) hA hY)]
      exact ⟨_, rfl, rfl⟩
theorem ct_140 {n : Nat} {K : Int32 → Int32 → Int32 → Int32 → Int32 → Int32 → Int32 → Int32 → Int32 → Int32 → qM → qR} {a1 a2 a3 a4 a5 a6 a7 a8 r : Int32} {Y i : Nat} (hY : Y < 512) (hi : i < 9) (hr : r = hb (nI Y) i) (M : qM) : f_X12_court_140 n K a1 a2 a3 a4 a5 a6 a7 a8 (nI (Y % 2 ^ i)) (nI i) r M = K a1 a2 a3 a4 a5 a6 a7 a8 (nI (Y % 2 ^ (i + 1))) (nI (i + 1)) M := by
  unfold f_X12_court_140
  have f := fa_acc Y hY i hi
  rw [hr]
  by_cases c : hb (nI Y) i = 0
  · rw [if_pos c] at f
    rw [if_pos c, ql_v, nI_1, f]
  · rw [if_neg c] at f
    rw [if_neg c, ql_v, ql_v, nI_1, f]
theorem h0b (n : Nat) (a : Int32) (i : Nat) (M : qM) : f_X12_has0 n a (nI i) M = some (hb a i, M) := h0v n a (nI i) M
theorem ct_go {n N Y : Nat} (hN : N < 10) (hY : Y < 2 ^ N) {a2 a3 a4 a5 a6 g mj : Int32} {M : qM} (hh : ∀ k, k < N → (if g < a5 then hb a2 k else if hb a2 k = mj then hb a3 k else hb a4 k) = hb (nI Y) k) : ∀ (d i m : Nat), i + d = N → d < m → f_X12_court_99 n m (nI N) a2 a3 a4 a5 a6 g mj (nI (Y % 2 ^ i)) (nI i) M = cfin n (nI N) a2 a6 (nI Y) M := by
  have h5 := fa_512 N hN
  intro d
  induction d with
  | zero =>
    intro i m hi hm
    obtain ⟨k, rfl⟩ : ∃ k, m = k + 1 := ⟨m - 1, by omega⟩
    have e : i = N := by omega
    subst e
    show b_X12_court_99 n (f_X12_court_99 n k) (nI i) a2 a3 a4 a5 a6 g mj (nI (Y % 2 ^ i)) (nI i) M = _
    unfold b_X12_court_99 cfin
    rw [if_pos (nI_le (Nat.le_refl _) (by omega)), Nat.mod_eq_of_lt hY]
  | succ d ih =>
    intro i m hi hm
    obtain ⟨k, rfl⟩ : ∃ k, m = k + 1 := ⟨m - 1, by omega⟩
    show b_X12_court_99 n (f_X12_court_99 n k) (nI N) a2 a3 a4 a5 a6 g mj (nI (Y % 2 ^ i)) (nI i) M = _
    unfold b_X12_court_99
    have c : ¬ nI N ≤ nI i := nI_ge (by omega) (by omega)
    have q := hh i (by omega)
    have nx := ih (i + 1) k (by omega) (by omega)
    rw [if_neg c, h0b, qc_v]
    by_cases c1 : g < a5
    · rw [if_pos c1] at q
      rw [if_pos c1, ct_140 (by omega) (by omega) q, nx]
    · rw [if_neg c1] at q
      rw [if_neg c1]
      by_cases c2 : hb a2 i = mj
      · rw [if_pos c2] at q
        rw [if_pos c2]
        unfold f_X12_court_133
        rw [h0b, qc_v, ct_140 (by omega) (by omega) q, nx]
      · rw [if_neg c2] at q
        rw [if_neg c2]
        unfold f_X12_court_133
        rw [h0b, qc_v, ct_140 (by omega) (by omega) q, nx]
theorem ct_91 {n N Y : Nat} (hn : 200 ≤ n) (hN : N < 10) (hY : Y < 2 ^ N) {a2 a3 a4 a5 a6 g mj : Int32} {M : qM} (hh : ∀ k, k < N → (if g < a5 then hb a2 k else if hb a2 k = mj then hb a3 k else hb a4 k) = hb (nI Y) k) : f_X12_court_91 n (nI N) a2 a3 a4 a5 a6 g mj M = cfin n (nI N) a2 a6 (nI Y) M := by
  unfold f_X12_court_91
  have h := ct_go (n := n) (a6 := a6) (M := M) hN hY hh N 0 n (by omega) (by omega)
  rw [Nat.pow_zero, Nat.mod_one] at h
  exact h
theorem rgT {N T : Nat} (hN : N < 10) (hT : T < 2 ^ 32) : (nI T &&& (nI (2 ^ N - 1) ^^^ (-1 : Int32))) = 0 ↔ T < 2 ^ N := by
  rw [n_m1, n_xor, n_and]
  have hb2 : ∀ i, i < 32 → (T &&& ((2 ^ N - 1) ^^^ 4294967295)).testBit i = (T.testBit i && !decide (i < N)) := by
    intro i hi
    have h1 : (4294967295 : Nat).testBit i = true := (by decide +kernel : ∀ i, i < 32 → (4294967295 : Nat).testBit i = true) i hi
    rw [Nat.testBit_and, Nat.testBit_xor, Nat.testBit_two_pow_sub_one, h1]
    cases T.testBit i <;> cases decide (i < N) <;> rfl
  constructor
  · intro h
    have h0 := n_z (Nat.lt_of_le_of_lt Nat.and_le_left hT) h
    apply Nat.lt_pow_two_of_testBit
    intro i hi
    rcases Nat.lt_or_ge i 32 with h32 | h32
    · have := hb2 i h32
      rw [h0, Nat.zero_testBit, decide_eq_false (by omega)] at this
      simpa using this.symm
    · exact Nat.testBit_lt_two_pow (Nat.lt_of_lt_of_le hT (Nat.pow_le_pow_right (by decide) h32))
  · intro h
    have h0 : T &&& ((2 ^ N - 1) ^^^ 4294967295) = 0 := by
      apply Nat.eq_of_testBit_eq
      intro i
      rw [Nat.zero_testBit]
      rcases Nat.lt_or_ge i 32 with h32 | h32
      · rw [hb2 i h32]
        rcases Nat.lt_or_ge i N with q | q
        · rw [decide_eq_true q]; simp
        · rw [Nat.testBit_lt_two_pow (Nat.lt_of_lt_of_le h (Nat.pow_le_pow_right (by decide) q))]; rfl
      · rw [Nat.testBit_and, Nat.testBit_lt_two_pow (Nat.lt_of_lt_of_le hT (Nat.pow_le_pow_right (by decide) h32))]; rfl
    rw [h0]
    rfl
theorem rg_n {a : Int32} {N : Nat} (hN : N < 10) (h : ¬ (a < 0 ∨ nI (2 ^ N - 1) < a)) : ∃ T, T < 2 ^ N ∧ a = nI T := by
  have h5 := fa_512 N hN
  obtain ⟨j, hj, rfl⟩ := nI_of (x := a) (fun q => h (Or.inl q))
  have h2 : ¬ nI (2 ^ N - 1) < nI j := fun q => h (Or.inr q)
  rw [nI_ltI (by omega) hj] at h2
  have : 0 < 2 ^ N := Nat.two_pow_pos N
  exact ⟨j, by omega, rfl⟩
theorem rg_c {a : Int32} {N : Nat} (hN : N < 10) : (a &&& (nI (2 ^ N - 1) ^^^ (-1 : Int32))) = 0 ↔ ¬ (a < 0 ∨ nI (2 ^ N - 1) < a) := by
  have h5 := fa_512 N hN
  constructor
  · intro h
    obtain ⟨T, hT, rfl⟩ := n_of32 a
    have hl := (rgT hN hT).mp h
    rintro (q | q)
    · exact nI_pos (by omega) q
    · exact nI_nlt (by omega) (by omega) q
  · intro h
    obtain ⟨T, hT, rfl⟩ := rg_n hN h
    exact (rgT hN (by omega)).mpr hT
theorem mif {n : Nat} {a lo hi : Int32} {M : qM} {F : qM → qR} : qc (f_X12_in n a lo hi M) (fun r m => if r = (0 : Int32) then some ((-1 : Int32), m) else F m) = if a < lo ∨ hi < a then some (-1, M) else F M := by
  rw [in_eq]
  by_cases h : a < lo ∨ hi < a
  · rw [if_pos h, if_pos h]; rfl
  · rw [if_neg h, if_neg h]; rfl
/-- the second vote's bits, where a part is heard -/
theorem ct_bits {N A B C P : Nat} (hN : N < 10) (hA : A < 2 ^ N) (hB : B < 2 ^ N) (hC : C < 2 ^ N) {mj : Int32} (hP : ∀ k, k < N → (if hb (nI A) k = mj then P.testBit k = true else P.testBit k = false)) : ∃ Y, Y < 2 ^ N ∧ (nI B &&& nI P) ||| (nI C &&& (nI P ^^^ (-1 : Int32))) = nI Y ∧ ∀ k, k < N → (if hb (nI A) k = mj then hb (nI B) k else hb (nI C) k) = hb (nI Y) k := by
  have h5 := fa_512 N hN
  have hY : ((B &&& P) ||| (C &&& (P ^^^ 4294967295))) < 2 ^ N := Nat.or_lt_two_pow (Nat.lt_of_le_of_lt Nat.and_le_left hB) (Nat.lt_of_le_of_lt Nat.and_le_left hC)
  refine ⟨(B &&& P) ||| (C &&& (P ^^^ 4294967295)), hY, ?_, ?_⟩
  · rw [n_m1, n_xor, n_and, n_and, n_or]
  · intro k hk
    have p := hP k hk
    have h1 : (4294967295 : Nat).testBit k = true := (by decide +kernel : ∀ i, i < 32 → (4294967295 : Nat).testBit i = true) k (by omega)
    rw [fa_hb _ (Nat.lt_of_lt_of_le hY h5) k (by omega), fa_hb B (by omega) k (by omega), fa_hb C (by omega) k (by omega), Nat.testBit_or, Nat.testBit_and, Nat.testBit_and, Nat.testBit_xor, h1]
    by_cases c : hb (nI A) k = mj
    · rw [if_pos c] at p
      rw [if_pos c, p]
      cases B.testBit k <;> cases C.testBit k <;> rfl
    · rw [if_neg c] at p
      rw [if_neg c, p]
      cases B.testBit k <;> cases C.testBit k <;> rfl
theorem p1_court {n : Nat} (hn : 955 ≤ n) {M : qM} (a1 a2 a3 a4 a5 a6 : Int32) : Pr (f_X11_court n a1 a2 a3 a4 a5 a6) (f_X12_court n a1 a2 a3 a4 a5 a6) M := by
  have hD : f_X12_court n a1 a2 a3 a4 a5 a6 M = if a1 < 1 ∨ 9 < a1 then some (-1, M) else if a2 < 0 ∨ (((1 : Int32) <<< (a1 &&& 31)) - (1 : Int32)) < a2 then some (-1, M) else if a3 < 0 ∨ (((1 : Int32) <<< (a1 &&& 31)) - (1 : Int32)) < a3 then some (-1, M) else if a4 < 0 ∨ (((1 : Int32) <<< (a1 &&& 31)) - (1 : Int32)) < a4 then some (-1, M) else if a5 < 0 ∨ a1 < a5 then some (-1, M) else if a6 < 0 ∨ 2 < a6 then some (-1, M) else if (2 : Int32) * mbs a2 12 < a1 then f_X12_court_91 n a1 a2 a3 a4 a5 a6 (mbs a2 12) 0 M else f_X12_court_91 n a1 a2 a3 a4 a5 a6 (mbs a2 12) 1 M := by
    unfold f_X12_court
    rw [mif, mif, mif, mif, mif, mif, bits_val (by omega), qc_v]
  by_cases r1 : a1 < 1 ∨ 9 < a1
  · refine ⟨-1, M, M, ?_, by rw [hD, if_pos r1]⟩
    unfold f_X11_court
    by_cases q : a1 < 1
    · rw [if_pos q]
    · rw [if_neg q, if_pos (r1.resolve_left q)]
  · have q1 : ¬ a1 < 1 := fun q => r1 (Or.inl q)
    have q2 : ¬ 9 < a1 := fun q => r1 (Or.inr q)
    by_cases r5 : a5 < 0 ∨ a1 < a5
    · refine ⟨-1, M, M, ?_, by rw [hD]; simp only [if_pos r5, ite_self]⟩
      unfold f_X11_court
      rw [if_neg q1, if_neg q2]
      by_cases q : a5 < 0
      · rw [if_pos q]
      · rw [if_neg q, if_pos (r5.resolve_left q)]
    · have q3 : ¬ a5 < 0 := fun q => r5 (Or.inl q)
      have q4 : ¬ a1 < a5 := fun q => r5 (Or.inr q)
      by_cases r6 : a6 < 0 ∨ 2 < a6
      · refine ⟨-1, M, M, ?_, by rw [hD]; simp only [if_pos r6, ite_self]⟩
        unfold f_X11_court
        rw [if_neg q1, if_neg q2, if_neg q3, if_neg q4]
        by_cases q : a6 < 0
        · rw [if_pos q]
        · rw [if_neg q, if_neg (Int32.not_le.mpr (r6.resolve_left q))]
      · have q5 : ¬ a6 < 0 := fun q => r6 (Or.inl q)
        have q6 : a6 ≤ 2 := Int32.not_lt.mp (fun q => r6 (Or.inr q))
        obtain ⟨N, hN1, rfl⟩ : ∃ N : Nat, N ≤ 9 ∧ a1 = nI N := nI_of2 (x := a1) (M := 9) (n := 9) (by decide) (fun q => q1 (by
          rw [Int32.lt_iff_toInt_lt] at *
          have : (0 : Int32).toInt = 0 := by decide
          have : (1 : Int32).toInt = 1 := by decide
          omega)) (Int32.not_lt.mp q2)
        have hN : N < 10 := by omega
        have h5 := fa_512 N hN
        rw [fa_all N hN] at hD
        have hC : f_X11_court n (nI N) a2 a3 a4 a5 a6 M = (if (a2 &&& (nI (2 ^ N - 1) ^^^ (-1 : Int32))) = (0 : Int32) then (if (a3 &&& (nI (2 ^ N - 1) ^^^ (-1 : Int32))) = (0 : Int32) then (if (a4 &&& (nI (2 ^ N - 1) ^^^ (-1 : Int32))) = (0 : Int32) then (if bcv a2 < a5 then f_X11_court_122 n (nI N) a2 a6 a2 M else (if ((2 : Int32) * bcv a2) < nI N then f_X11_court_106 n (nI N) a2 a3 a4 a6 (nI (2 ^ N - 1) &&& (a2 ^^^ (-1 : Int32))) M else f_X11_court_106 n (nI N) a2 a3 a4 a6 a2 M)) else some ((-1 : Int32), M)) else some ((-1 : Int32), M)) else some ((-1 : Int32), M)) := by
          unfold f_X11_court
          rw [if_neg q1, if_neg q2, if_neg q3, if_neg q4, if_neg q5, if_pos q6, ql_v, fa_all N hN, bc_val, qc_v]
        by_cases r2 : a2 < 0 ∨ nI (2 ^ N - 1) < a2
        · exact ⟨-1, M, M, by rw [hC, if_neg (fun q => (rg_c hN).mp q r2)], by rw [hD, if_neg r1, if_pos r2]⟩
        by_cases r3 : a3 < 0 ∨ nI (2 ^ N - 1) < a3
        · exact ⟨-1, M, M, by rw [hC, if_pos ((rg_c hN).mpr r2), if_neg (fun q => (rg_c hN).mp q r3)], by rw [hD, if_neg r1, if_neg r2, if_pos r3]⟩
        by_cases r4 : a4 < 0 ∨ nI (2 ^ N - 1) < a4
        · exact ⟨-1, M, M, by rw [hC, if_pos ((rg_c hN).mpr r2), if_pos ((rg_c hN).mpr r3), if_neg (fun q => (rg_c hN).mp q r4)], by rw [hD, if_neg r1, if_neg r2, if_neg r3, if_pos r4]⟩
        rw [if_pos ((rg_c hN).mpr r2), if_pos ((rg_c hN).mpr r3), if_pos ((rg_c hN).mpr r4)] at hC
        rw [if_neg r1, if_neg r2, if_neg r3, if_neg r4, if_neg r5, if_neg r6] at hD
        obtain ⟨A, hA, rfl⟩ := rg_n hN r2
        obtain ⟨B, hB, rfl⟩ := rg_n hN r3
        obtain ⟨C, hC2, rfl⟩ := rg_n hN r4
        rw [fa_bc A (by omega)] at hC
        have fin : ∀ Y, Y < 2 ^ N → f_X11_court n (nI N) (nI A) (nI B) (nI C) a5 a6 M = f_X11_court_122 n (nI N) (nI A) a6 (nI Y) M → f_X12_court n (nI N) (nI A) (nI B) (nI C) a5 a6 M = cfin n (nI N) (nI A) a6 (nI Y) M → Pr (f_X11_court n (nI N) (nI A) (nI B) (nI C) a5 a6) (f_X12_court n (nI N) (nI A) (nI B) (nI C) a5 a6) M := by
          intro Y hY e1 e2
          obtain ⟨w, f1, f2⟩ := ct_fin (n := n) (by omega) (A := A) (Y := Y) (by omega) (by omega) (nI N) a6 M
          exact ⟨w, M, M, by rw [e1, f1], by rw [e2, f2]⟩
        by_cases c1 : mbs (nI A) 12 < a5
        · rw [if_pos c1] at hC
          refine fin A hA hC ?_
          rw [hD]
          by_cases c2 : (2 : Int32) * mbs (nI A) 12 < nI N
          · rw [if_pos c2]
            exact ct_91 (by omega) hN hA (fun k hk => by rw [if_pos c1])
          · rw [if_neg c2]
            exact ct_91 (by omega) hN hA (fun k hk => by rw [if_pos c1])
        · rw [if_neg c1] at hC
          by_cases c2 : (2 : Int32) * mbs (nI A) 12 < nI N
          · rw [if_pos c2] at hC hD
            have eP : nI (2 ^ N - 1) &&& (nI A ^^^ (-1 : Int32)) = nI ((2 ^ N - 1) &&& (A ^^^ 4294967295)) := by rw [n_m1, n_xor, n_and]
            obtain ⟨Y, hY, eY, bY⟩ := ct_bits (N := N) (A := A) (B := B) (C := C) (P := (2 ^ N - 1) &&& (A ^^^ 4294967295)) (mj := 0) hN hA hB hC2 (fun k hk => by
              have h1 : (4294967295 : Nat).testBit k = true := (by decide +kernel : ∀ i, i < 32 → (4294967295 : Nat).testBit i = true) k (by omega)
              rw [fa_hb A (by omega) k (by omega), Nat.testBit_and, Nat.testBit_two_pow_sub_one, Nat.testBit_xor, h1, decide_eq_true hk]
              cases A.testBit k <;> simp)
            refine fin Y hY ?_ ?_
            · rw [hC, eP]
              unfold f_X11_court_106
              rw [ql_v, eY]
            · rw [hD]
              exact ct_91 (by omega) hN hY (fun k hk => by rw [if_neg c1]; exact bY k hk)
          · rw [if_neg c2] at hC hD
            obtain ⟨Y, hY, eY, bY⟩ := ct_bits (N := N) (A := A) (B := B) (C := C) (P := A) (mj := 1) hN hA hB hC2 (fun k hk => by
              rw [fa_hb A (by omega) k (by omega)]
              cases A.testBit k <;> simp)
            refine fin Y hY ?_ ?_
            · rw [hC]
              unfold f_X11_court_106
              rw [ql_v, eY]
            · rw [hD]
              exact ct_91 (by omega) hN hY (fun k hk => by rw [if_neg c1]; exact bY k hk)

