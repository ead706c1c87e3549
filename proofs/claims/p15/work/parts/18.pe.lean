/-! the model as it is made -/
def trs : Nat → Nat → Nat
  | _, 0 => 0
  | q, d + 1 => (q + 1) + trs (q + 1) d
theorem lw19 {n p q : Nat} {K4 : Int32 → Int32 → qM → qR} {K11 : Int32 → Int32 → Int32 → qM → qR} (hq : q < 100) : ∀ (d r a m : Nat) (M : qM), r + d = q + 1 → a + d ≤ 20 → d < m → ∃ M', f_X12_laysWays_19 n K4 K11 m (nI a) (nI p) (nI q) (nI r) M = K11 (nI (a + d)) (nI p) (nI (q + 1)) M' ∧ ∀ x y, x ≠ 102 → x ≠ 103 → x ≠ 104 → M' x y = M x y := by
  intro d
  induction d with
  | zero =>
    intro r a m M hr ha hm
    obtain ⟨k, rfl⟩ : ∃ k, m = k + 1 := ⟨m - 1, by omega⟩
    refine ⟨M, ?_, fun _ _ _ _ _ => rfl⟩
    show b_X12_laysWays_19 n K4 K11 (f_X12_laysWays_19 n K4 K11 k) (nI a) (nI p) (nI q) (nI r) M = _
    unfold b_X12_laysWays_19
    rw [if_pos (nI_lt (by omega) (by omega))]
    simp only [ql, nI_1, Nat.add_zero]
  | succ d ih =>
    intro r a m M hr ha hm
    obtain ⟨k, rfl⟩ : ∃ k, m = k + 1 := ⟨m - 1, by omega⟩
    obtain ⟨M', e, o⟩ := ih (r + 1) (a + 1) k (mu (mu (mu M 102 a (nI q)) 103 a (nI p - nI q)) 104 a (nI r)) (by omega) (by omega) (by omega)
    refine ⟨M', ?_, fun x y h1 h2 h3 => by rw [o x y h1 h2 h3]; simp [mu, h1, h2, h3]⟩
    show b_X12_laysWays_19 n K4 K11 (f_X12_laysWays_19 n K4 K11 k) (nI a) (nI p) (nI q) (nI r) M = _
    unfold b_X12_laysWays_19
    rw [if_neg (nI_nlt (by omega) (by omega))]
    simp only [qg_nI (show a < 20 by omega) (by decide), qlm, ql, nI_clamp (show a < 2 ^ 31 by omega), nI_1]
    rw [e]
    congr 2
    omega
theorem lw11 {n p : Nat} {K4 : Int32 → Int32 → qM → qR} (hn : 200 ≤ n) (hp : p < 100) : ∀ (d q a m : Nat) (M : qM), q + d = p + 1 → a + trs q d ≤ 20 → d < m → ∃ M', f_X12_laysWays_11 n K4 m (nI a) (nI p) (nI q) M = K4 (nI (a + trs q d)) (nI (p + 1)) M' ∧ ∀ x y, x ≠ 102 → x ≠ 103 → x ≠ 104 → M' x y = M x y := by
  intro d
  induction d with
  | zero =>
    intro q a m M hr ha hm
    obtain ⟨k, rfl⟩ : ∃ k, m = k + 1 := ⟨m - 1, by omega⟩
    refine ⟨M, ?_, fun _ _ _ _ _ => rfl⟩
    show b_X12_laysWays_11 n K4 (f_X12_laysWays_11 n K4 k) (nI a) (nI p) (nI q) M = _
    unfold b_X12_laysWays_11
    rw [if_pos (nI_lt (by omega) (by omega))]
    simp only [ql, nI_1, trs, Nat.add_zero]
  | succ d ih =>
    intro q a m M hr ha hm
    obtain ⟨k, rfl⟩ : ∃ k, m = k + 1 := ⟨m - 1, by omega⟩
    have ha' : a + ((q + 1) + trs (q + 1) d) ≤ 20 := ha
    obtain ⟨M1, e1, o1⟩ := lw19 (n := n) (p := p) (q := q) (K4 := K4) (K11 := f_X12_laysWays_11 n K4 k) (by omega) (q + 1) 0 a n M (by omega) (by omega) (by omega)
    obtain ⟨M', e, o⟩ := ih (q + 1) (a + (q + 1)) k M1 (by omega) (by omega) (by omega)
    refine ⟨M', ?_, fun x y h1 h2 h3 => by rw [o x y h1 h2 h3, o1 x y h1 h2 h3]⟩
    show b_X12_laysWays_11 n K4 (f_X12_laysWays_11 n K4 k) (nI a) (nI p) (nI q) M = _
    unfold b_X12_laysWays_11
    rw [if_neg (nI_nlt (by omega) (by omega)), ← nI_0, e1, e]
    congr 2
    show a + (q + 1) + trs (q + 1) d = a + ((q + 1) + trs (q + 1) d)
    omega
theorem lw4 {n p a m : Nat} (hn : 200 ≤ n) (hp : p < 4) (ha : a + trs 0 (p + 1) ≤ 20) (M : qM) : ∃ M', f_X12_laysWays_4 n (m + 1) (nI a) (nI p) M = f_X12_laysWays_4 n m (nI (a + trs 0 (p + 1))) (nI (p + 1)) M' ∧ ∀ x y, x ≠ 102 → x ≠ 103 → x ≠ 104 → M' x y = M x y := by
  obtain ⟨M', e, o⟩ := lw11 (n := n) (p := p) (K4 := f_X12_laysWays_4 n m) hn (by omega) (p + 1) 0 a n M (by omega) ha (by omega)
  refine ⟨M', ?_, o⟩
  show b_X12_laysWays_4 n (f_X12_laysWays_4 n m) (nI a) (nI p) M = _
  unfold b_X12_laysWays_4
  have c4 : ¬ (4 : Int32) ≤ nI p := nI_ge (a := p) (b := 4) hp (by decide)
  rw [if_neg c4, ← nI_0, e]
theorem ways_ok {n : Nat} (hn : 200 ≤ n) (M : qM) : ∃ M', f_X12_laysWays n M = some (0, M') ∧ ∀ x y, x ≠ 102 → x ≠ 103 → x ≠ 104 → M' x y = M x y := by
  obtain ⟨k, rfl⟩ : ∃ k, n = k + 5 := ⟨n - 5, by omega⟩
  obtain ⟨M1, e1, o1⟩ := lw4 (n := k + 5) (p := 0) (a := 0) (m := k + 4) hn (by decide) (by decide) M
  obtain ⟨M2, e2, o2⟩ := lw4 (n := k + 5) (p := 1) (a := 1) (m := k + 3) hn (by decide) (by decide) M1
  obtain ⟨M3, e3, o3⟩ := lw4 (n := k + 5) (p := 2) (a := 4) (m := k + 2) hn (by decide) (by decide) M2
  obtain ⟨M4, e4, o4⟩ := lw4 (n := k + 5) (p := 3) (a := 10) (m := k + 1) hn (by decide) (by decide) M3
  refine ⟨M4, ?_, fun x y h1 h2 h3 => by rw [o4 x y h1 h2 h3, o3 x y h1 h2 h3, o2 x y h1 h2 h3, o1 x y h1 h2 h3]⟩
  unfold f_X12_laysWays
  rw [← nI_0, e1]
  refine Eq.trans e2 (Eq.trans e3 (Eq.trans e4 ?_))
  show b_X12_laysWays_4 (k + 5) (f_X12_laysWays_4 (k + 5) k) (nI (10 + trs 0 4)) (nI 4) M4 = _
  unfold b_X12_laysWays_4
  have c4 : (4 : Int32) ≤ nI 4 := by decide
  rw [if_pos c4, nI_0]
theorem init_go {n : Nat} (hn : 200 ≤ n) : ∀ (d i m : Nat) (M : qM), i + d = 96 → d < m → ∃ M', f_X12_init_349 n m (nI i) M = some (0, M') ∧ (∀ x y, x ≠ 78 → x ≠ 102 → x ≠ 103 → x ≠ 104 → M' x y = M x y) ∧ ∀ y, y < 96 ∨ 192 ≤ y → M' 78 y = M 78 y := by
  intro d
  induction d with
  | zero =>
    intro i m M hi hm
    obtain ⟨k, rfl⟩ : ∃ k, m = k + 1 := ⟨m - 1, by omega⟩
    obtain ⟨M', e, o⟩ := ways_ok hn M
    refine ⟨M', ?_, fun x y _ h1 h2 h3 => o x y h1 h2 h3, fun y _ => o _ _ (by decide) (by decide) (by decide)⟩
    show b_X12_init_349 n (f_X12_init_349 n k) (nI i) M = _
    unfold b_X12_init_349
    have cc : (96 : Int32) ≤ nI i := nI_le (a := 96) (b := i) (by omega) (by omega)
    rw [if_pos cc, e]
    rfl
  | succ d ih =>
    intro i m M hi hm
    obtain ⟨k, rfl⟩ : ∃ k, m = k + 1 := ⟨m - 1, by omega⟩
    obtain ⟨M', e, o1, o2⟩ := ih (i + 1) k (mu M 78 (96 + i) (-2)) (by omega) (by omega)
    refine ⟨M', ?_, fun x y h0 h1 h2 h3 => by rw [o1 x y h0 h1 h2 h3]; simp [mu, h0], fun y hy => ?_⟩
    · show b_X12_init_349 n (f_X12_init_349 n k) (nI i) M = _
      unfold b_X12_init_349
      have cc : ¬ (96 : Int32) ≤ nI i := nI_ge (a := i) (b := 96) (by omega) (by decide)
      have ee : (96 : Int32) + nI i = nI (96 + i) := nI_add 96 i
      rw [if_neg cc, ee]
      simp only [qg_nI (show 96 + i < 954 by omega) (by decide), qlm, ql, nI_clamp (show 96 + i < 2 ^ 31 by omega), nI_1]
      exact e
    · rw [o2 y hy]
      simp only [mu]
      rw [if_neg (by omega)]
theorem fresh {n : Nat} (hn : 200 ≤ n) : ∃ M0, f_model n q0 = some (0, M0) ∧ Fr M0 := by
  obtain ⟨M0, e, o1, o2⟩ := init_go hn 96 0 n q0 (by omega) (by omega)
  refine ⟨M0, ?_, fun a b h => ?_, fun b h => ?_, fun a b h h1 h2 h3 => ?_⟩
  · unfold f_model
    rw [← nI_0]
    exact e
  · by_cases h9 : a = 78
    · omega
    · rw [o1 a b h9 (by omega) (by omega) (by omega)]; rfl
  · rw [o2 b h]; rfl
  · rw [o1 a b (by omega) h1 h2 h3]; rfl
/-! loophole -/
theorem fill_go {n c len : Nat} {v : Int32} (hl : len < 2 ^ 31) : ∀ (d i m : Nat) (M : qM), i + d = len → d < m → ∃ M', f_J7_fill_53178_5 n c len m v (nI i) (nI len) M = some (0, M') ∧ ∀ x y, x ≠ c → M' x y = M x y := by
  intro d
  induction d with
  | zero =>
    intro i m M hi hm
    obtain ⟨k, rfl⟩ : ∃ k, m = k + 1 := ⟨m - 1, by omega⟩
    refine ⟨M, ?_, fun _ _ _ => rfl⟩
    show b_J7_fill_53178_5 n c len (f_J7_fill_53178_5 n c len k) v (nI i) (nI len) M = _
    unfold b_J7_fill_53178_5
    rw [if_pos (nI_le (by omega) (by omega))]
  | succ d ih =>
    intro i m M hi hm
    obtain ⟨k, rfl⟩ : ∃ k, m = k + 1 := ⟨m - 1, by omega⟩
    obtain ⟨M', e, o⟩ := ih (i + 1) k (mu M c i v) (by omega) (by omega)
    refine ⟨M', ?_, fun x y h => by rw [o x y h]; simp [mu, h]⟩
    show b_J7_fill_53178_5 n c len (f_J7_fill_53178_5 n c len k) v (nI i) (nI len) M = _
    unfold b_J7_fill_53178_5
    rw [if_neg (nI_ge (by omega) (by omega))]
    simp only [qg_nI (show i < len by omega) hl, qlm, ql, nI_clamp (show i < 2 ^ 31 by omega), nI_1]
    exact e
theorem deed_ok {n : Nat} (hn : 200 ≤ n) (a b c d : Int32) (M : qM) : ∃ M', f_X1_tellDeed n a b c d M = some (0, M') ∧ ∀ x y, x ≠ 35 → M' x y = M x y := by
  obtain ⟨M1, e, o⟩ := fill_go (n := n) (c := 35) (len := 12) (v := 0) (by decide) 12 0 n M (by omega) (by omega)
  refine ⟨mu (mu (mu (mu M1 35 0 a) 35 1 b) 35 2 c) 35 6 d, ?_, fun x y h => by simp [mu, h, o x y h]⟩
  unfold f_X1_tellDeed f_J7_fill_53178
  have e' : ql (Int32.ofNat 12) (fun x1 => f_J7_fill_53178_5 n 35 12 n 0 0 x1 M) = some (0, M1) := e
  rw [e']
  rfl
theorem lph13 {n j : Nat} : ∀ (d i m : Nat) (M : qM), i + d = 12 → d < m → f_X1_isLoophole_13 n j m 0 0 (nI i) M = some (1, M) := by
  intro d
  induction d with
  | zero =>
    intro i m M hi hm
    obtain ⟨k, rfl⟩ : ∃ k, m = k + 1 := ⟨m - 1, by omega⟩
    show b_X1_isLoophole_13 n j (f_X1_isLoophole_13 n j k) 0 0 (nI i) M = _
    unfold b_X1_isLoophole_13
    have cc : (12 : Int32) ≤ nI i := nI_le (a := 12) (b := i) (by omega) (by omega)
    rw [if_pos cc]
  | succ d ih =>
    intro i m M hi hm
    obtain ⟨k, rfl⟩ : ∃ k, m = k + 1 := ⟨m - 1, by omega⟩
    show b_X1_isLoophole_13 n j (f_X1_isLoophole_13 n j k) 0 0 (nI i) M = _
    unfold b_X1_isLoophole_13 f_X1_isLoophole_42
    have cc : ¬ (12 : Int32) ≤ nI i := nI_ge (a := i) (b := 12) (by omega) (by decide)
    have z : ∀ x : Int32, (0 : Int32) &&& x = 0 := fun x => by apply Int32.toBitVec_inj.mp; simp
    rw [if_neg cc]
    simp only [ql, z, if_true, nI_1]
    exact ih (i + 1) k M (by omega) (by omega)
theorem isl_ok {n j : Nat} (hn : 200 ≤ n) (a d : Int32) (M : qM) : ∃ M', f_X1_isLoophole n j a 0 0 d M = some (1, M') ∧ ∀ x y, x ≠ 35 → M' x y = M x y := by
  obtain ⟨M1, e, o⟩ := deed_ok hn 12 1 a d M
  refine ⟨M1, ?_, o⟩
  unfold f_X1_isLoophole
  rw [e]
  simp only [qc]
  rw [← nI_0]
  exact lph13 12 0 n M1 (by omega) (by omega)
theorem bc_nn (n : Nat) (a : Int32) (M : qM) : ∃ k : Nat, k < 64 ∧ f_J6_bitCount_0f7a4 n a M = some (nI k, M) := by
  unfold f_J6_bitCount_0f7a4
  simp only [ql]
  generalize hx : ((_ : Int32) + (_ : UInt32).toInt32) = x
  obtain ⟨k, hk, e⟩ := pk_andE x (m := 63) 6 (by decide)
  exact ⟨k, by omega, by rw [e]⟩
theorem bc_0 (n : Nat) (M : qM) : f_J6_bitCount_0f7a4 n 0 M = some (nI 0, M) := by
  unfold f_J6_bitCount_0f7a4
  simp only [ql]
  rw [show ((0 : Int32) - (((0 : Int32).toUInt32 >>> ((1 : Int32).toUInt32 &&& Int32.toUInt32 31)).toInt32 &&& 1431655765)) = 0 from by decide]
  rw [show (((0 : Int32) &&& 858993459) + (((0 : Int32).toUInt32 >>> ((2 : Int32).toUInt32 &&& Int32.toUInt32 31)).toInt32 &&& 858993459)) = 0 from by decide]
  rw [show (((0 : Int32) + ((0 : Int32).toUInt32 >>> ((4 : Int32).toUInt32 &&& Int32.toUInt32 31)).toInt32) &&& 252645135) = 0 from by decide]
  rw [show ((0 : Int32) + ((0 : Int32).toUInt32 >>> ((8 : Int32).toUInt32 &&& Int32.toUInt32 31)).toInt32) = 0 from by decide]
  rw [show ((0 : Int32) + ((0 : Int32).toUInt32 >>> ((16 : Int32).toUInt32 &&& Int32.toUInt32 31)).toInt32) = 0 from by decide]
  rfl
theorem m2 : ¬ ((0 : Int32) = -2) := by decide
theorem qc_v {v : Int32} {M : qM} {f : Int32 → qM → qR} : qc (some (v, M)) f = f v M := rfl
theorem ql_v {v : Int32} {f : Int32 → qR} : ql v f = f v := rfl
theorem lc_step {n j k : Nat} {a1 a2 a3 a4 a5 a6 r5 r7 : Int32} {M M1 : qM} (hc : ¬ (255 : Int32) < a6) (h1 : f_X1_isLoophole n j a6 a1 a2 (M 7 9) M = some (1, M1)) (h4 : ¬ a4 = -2) (h2 : f_J6_bitCount_0f7a4 n a6 M1 = some (r5, M1)) (h3 : f_J6_bitCount_0f7a4 n a4 M1 = some (r7, M1)) (h5 : r7 ≤ r5) : f_X11_loophole_49 n j (k + 1) a1 a2 a3 a4 a5 a6 M = f_X11_loophole_49 n j k a1 a2 a3 a4 (a5 + 1) (a6 + 1) M1 := by
  show b_X11_loophole_49 n j (f_X11_loophole_49 n j k) a1 a2 a3 a4 a5 a6 M = _
  unfold b_X11_loophole_49
  rw [if_neg hc, h1, qc_v, if_neg (by decide), ql_v, if_neg h4, h2, qc_v, h3, qc_v, if_pos h5, ql_v]
theorem lc49 {n j : Nat} (hn : 300 ≤ n) {a3 : Int32} : ∀ (d i m f : Nat) (M : qM), i + d = 256 → d < m → f + d ≤ 1000 → ∃ M', f_X11_loophole_49 n j m 0 0 a3 0 (nI f) (nI i) M = some (if a3 = 0 then 0 else nI (f + d), M') ∧ ∀ x y, x ≠ 35 → M' x y = M x y := by
  intro d
  induction d with
  | zero =>
    intro i m f M hi hm hf
    obtain ⟨k, rfl⟩ : ∃ k, m = k + 1 := ⟨m - 1, by omega⟩
    refine ⟨M, ?_, fun _ _ _ => rfl⟩
    show b_X11_loophole_49 n j (f_X11_loophole_49 n j k) 0 0 a3 0 (nI f) (nI i) M = _
    unfold b_X11_loophole_49
    have cc : (255 : Int32) < nI i := nI_lt (a := 255) (b := i) (by omega) (by omega)
    rw [if_pos cc]
    by_cases h : a3 = 0
    · rw [if_pos h, if_pos h]
    · rw [if_neg h, if_neg h, Nat.add_zero]
  | succ d ih =>
    intro i m f M hi hm hf
    obtain ⟨k, rfl⟩ : ∃ k, m = k + 1 := ⟨m - 1, by omega⟩
    obtain ⟨M1, e1, o1⟩ := isl_ok (n := n) (j := j) (by omega) (nI i) (M 7 9) M
    obtain ⟨kb, hkb, eb⟩ := bc_nn n (nI i) M1
    obtain ⟨M', e, o⟩ := ih (i + 1) k (f + 1) M1 (by omega) (by omega) (by omega)
    refine ⟨M', ?_, fun x y h => by rw [o x y h, o1 x y h]⟩
    have cc : ¬ (255 : Int32) < nI i := nI_nlt (a := 255) (b := i) (by omega) (by decide)
    rw [lc_step cc e1 m2 eb (bc_0 n M1) (nI_le (Nat.zero_le _) (by omega)), nI_1, nI_1, e, show f + 1 + d = f + (d + 1) by omega]
theorem fd2 {n : Nat} : ∀ (d i m : Nat) (M : qM), i + d = 12 → d < m → f_X12_finds_2 n m 0 0 (nI i) M = some (1, M) := by
  intro d
  induction d with
  | zero =>
    intro i m M hi hm
    obtain ⟨k, rfl⟩ : ∃ k, m = k + 1 := ⟨m - 1, by omega⟩
    show b_X12_finds_2 n (f_X12_finds_2 n k) 0 0 (nI i) M = _
    unfold b_X12_finds_2
    have cc : (12 : Int32) ≤ nI i := nI_le (a := 12) (b := i) (by omega) (by omega)
    rw [if_pos cc]
  | succ d ih =>
    intro i m M hi hm
    obtain ⟨k, rfl⟩ : ∃ k, m = k + 1 := ⟨m - 1, by omega⟩
    show b_X12_finds_2 n (f_X12_finds_2 n k) 0 0 (nI i) M = _
    unfold b_X12_finds_2 f_X12_finds_28
    have cc : ¬ (12 : Int32) ≤ nI i := nI_ge (a := i) (b := 12) (by omega) (by decide)
    rw [if_neg cc]
    simp only [has0_0, qc, ql, if_true, nI_1]
    exact ih (i + 1) k M (by omega) (by omega)
theorem bits_go {n : Nat} {a : Int32} : ∀ (d i m v : Nat) (M : qM), i + d = 12 → d < m → ∃ w, w ≤ v + d ∧ f_X12_bits_4 n m a (nI v) (nI i) M = some (nI w, M) := by
  intro d
  induction d with
  | zero =>
    intro i m v M hi hm
    obtain ⟨k, rfl⟩ : ∃ k, m = k + 1 := ⟨m - 1, by omega⟩
    refine ⟨v, by omega, ?_⟩
    show b_X12_bits_4 n (f_X12_bits_4 n k) a (nI v) (nI i) M = _
    unfold b_X12_bits_4
    have cc : (12 : Int32) ≤ nI i := nI_le (a := 12) (b := i) (by omega) (by omega)
    rw [if_pos cc]
  | succ d ih =>
    intro i m v M hi hm
    obtain ⟨k, rfl⟩ : ∃ k, m = k + 1 := ⟨m - 1, by omega⟩
    obtain ⟨q, hq, eq⟩ := pk_andE (a >>> (nI i &&& 31)) (m := 1) 1 (by decide)
    obtain ⟨w, hw, e⟩ := ih (i + 1) k (v + q) M (by omega) (by omega)
    refine ⟨w, by omega, ?_⟩
    show b_X12_bits_4 n (f_X12_bits_4 n k) a (nI v) (nI i) M = _
    unfold b_X12_bits_4
    have cc : ¬ (12 : Int32) ≤ nI i := nI_ge (a := i) (b := 12) (by omega) (by decide)
    rw [if_neg cc, eq]
    simp only [ql, nI_1, nI_add]
    exact e
theorem bits_nn {n : Nat} (hn : 200 ≤ n) (a : Int32) (M : qM) : ∃ w : Nat, w ≤ 12 ∧ f_X12_bits n a M = some (nI w, M) := by
  obtain ⟨w, h, e⟩ := bits_go (n := n) (a := a) 12 0 n 0 M (by omega) (by omega)
  exact ⟨w, by omega, e⟩
theorem bits0_go {n : Nat} : ∀ (d i m : Nat) (M : qM), i + d = 12 → d < m → f_X12_bits_4 n m 0 0 (nI i) M = some (0, M) := by
  intro d
  induction d with
  | zero =>
    intro i m M hi hm
    obtain ⟨k, rfl⟩ : ∃ k, m = k + 1 := ⟨m - 1, by omega⟩
    show b_X12_bits_4 n (f_X12_bits_4 n k) 0 0 (nI i) M = _
    unfold b_X12_bits_4
    have cc : (12 : Int32) ≤ nI i := nI_le (a := 12) (b := i) (by omega) (by omega)
    rw [if_pos cc]
  | succ d ih =>
    intro i m M hi hm
    obtain ⟨k, rfl⟩ : ∃ k, m = k + 1 := ⟨m - 1, by omega⟩
    show b_X12_bits_4 n (f_X12_bits_4 n k) 0 0 (nI i) M = _
    unfold b_X12_bits_4
    have cc : ¬ (12 : Int32) ≤ nI i := nI_ge (a := i) (b := 12) (by omega) (by decide)
    rw [if_neg cc, z_shr]
    simp only [ql, nI_1]
    rw [show (0 : Int32) + 0 = 0 from by decide]
    exact ih (i + 1) k M (by omega) (by omega)
theorem bits_0 {n : Nat} (hn : 200 ≤ n) (M : qM) : f_X12_bits n 0 M = some (nI 0, M) := by
  unfold f_X12_bits
  have := bits0_go (n := n) 12 0 n M (by omega) (by omega)
  rw [nI_0] at this
  rw [this, nI_0]
theorem lm56 {n : Nat} (hn : 300 ≤ n) {a3 : Int32} : ∀ (d i m f : Nat) (M : qM), i + d = 256 → d < m → f + d ≤ 1000 → ∃ M', f_X12_loophole_56 n m 0 0 a3 (nI f) 0 (nI i) M = some (if a3 = 0 then 0 else nI (f + d), M') := by
  intro d
  induction d with
  | zero =>
    intro i m f M hi hm hf
    obtain ⟨k, rfl⟩ : ∃ k, m = k + 1 := ⟨m - 1, by omega⟩
    refine ⟨M, ?_⟩
    show b_X12_loophole_56 n (f_X12_loophole_56 n k) 0 0 a3 (nI f) 0 (nI i) M = _
    unfold b_X12_loophole_56
    have cc : (256 : Int32) ≤ nI i := nI_le (a := 256) (b := i) (by omega) (by omega)
    rw [if_pos cc]
    by_cases h : a3 = 0
    · rw [if_pos h, if_pos h]
    · rw [if_neg h, if_neg h, Nat.add_zero]
  | succ d ih =>
    intro i m f M hi hm hf
    obtain ⟨k, rfl⟩ : ∃ k, m = k + 1 := ⟨m - 1, by omega⟩
    obtain ⟨kb, hkb, eb⟩ := bits_nn (n := n) (by omega) (nI i) (mu M 82 12 (nI i))
    obtain ⟨M', e⟩ := ih (i + 1) k (f + 1) (mu M 82 12 (nI i)) (by omega) (by omega) (by omega)
    refine ⟨M', ?_⟩
    show b_X12_loophole_56 n (f_X12_loophole_56 n k) 0 0 a3 (nI f) 0 (nI i) M = _
    unfold b_X12_loophole_56 f_X12_finds
    have cc : ¬ (256 : Int32) ≤ nI i := nI_ge (a := i) (b := 256) (by omega) (by decide)
    have ef := fd2 (n := n) 12 0 n (mu M 82 12 (nI i)) (by omega) (by omega)
    rw [nI_0] at ef
    rw [if_neg cc]
    simp only [qlm, ef, qc, ql, show ¬ ((1 : Int32) = 0) from by decide, m2, if_false, eb, bits_0 (show 200 ≤ n by omega), nI_1]
    rw [if_pos (nI_le (Nat.zero_le _) (by omega)), e, show f + 1 + d = f + (d + 1) by omega]
theorem or0 {a b : Int32} (h : a ||| b = 0) : a = 0 ∧ b = 0 := by
  have h2 : a.toBitVec ||| b.toBitVec = 0 := by
    have := congrArg Int32.toBitVec h
    simpa using this
  have h3 := BitVec.or_eq_zero_iff.mp h2
  exact ⟨Int32.toBitVec_inj.mp (by simpa using h3.1), Int32.toBitVec_inj.mp (by simpa using h3.2)⟩
theorem p1_loophole {n j : Nat} (hn : 955 ≤ n) {M : qM} (hF : Fr M) (a1 a2 a3 : Int32) : Pr (f_X11_loophole n j a1 a2 a3) (f_X12_loophole n a1 a2 a3) M := by
  have e1 : M 3 3 = 0 := hF.1 _ _ (by decide)
  have e2 : M 77 6 = 0 := hF.1 _ _ (by decide)
  have ka : ∀ a : Int32, f_X2_knowsAll n a M = some (if a = 0 then 1 else 0, M) := fun a => by
    unfold f_X2_knowsAll
    rw [e1, z_not, z_and]
    by_cases h : a = 0
    · rw [if_pos h, if_pos h]
    · rw [if_neg h, if_neg h]
  have hno : ¬ (a1 = 0 ∧ a2 = 0) → f_X12_loophole n a1 a2 a3 M = some (-1, M) := fun h => by
    unfold f_X12_loophole
    rw [e2, z_not, z_and, if_neg (fun q => h (or0 q))]
    by_cases c1 : a1 < 0
    · rw [if_pos c1]
    · rw [if_neg c1]
      by_cases c2 : a2 < 0
      · rw [if_pos c2]
      · rw [if_neg c2]
  by_cases c1 : a1 = 0
  · by_cases c2 : a2 = 0
    · subst c1; subst c2
      have za : (0 : Int32) &&& 0 = 0 := by decide
      have zo : (0 : Int32) ||| 0 = 0 := by decide
      by_cases c3 : a3 < 0
      · refine Pr.same (v := -1) ?_ ?_
        · unfold f_X11_loophole
          simp [ka, qc, c3]
        · unfold f_X12_loophole
          rw [e2, z_not, z_and, zo, za]
          simp [in_eq, qc, c3]
      by_cases c4 : (1 : Int32) < a3
      · refine Pr.same (v := -1) ?_ ?_
        · unfold f_X11_loophole
          simp [ka, qc, c3, Int32.not_le.mpr c4]
        · unfold f_X12_loophole
          rw [e2, z_not, z_and, zo, za]
          simp [in_eq, qc, c4]
      obtain ⟨k, rfl⟩ : ∃ k, n = k + 1 := ⟨n - 1, by omega⟩
      obtain ⟨M1, g1, o1⟩ := isl_ok (n := k + 1) (j := j) (by omega) (nI 0) (M 7 9) M
      obtain ⟨M2, g2, o2⟩ := lc49 (n := k + 1) (j := j) (a3 := a3) (by omega) 255 1 k 1 M1 (by omega) (by omega) (by omega)
      have hA : f_X11_loophole (k + 1) j 0 0 a3 M = some (if a3 = 0 then 0 else nI 256, M2) := by
        have h49 : f_X11_loophole (k + 1) j 0 0 a3 M = f_X11_loophole_49 (k + 1) j (k + 1) 0 0 a3 (-2) 0 0 M := by
          unfold f_X11_loophole
          simp [ka, qc, c3, Int32.not_lt.mp c4]
        rw [h49]
        show b_X11_loophole_49 (k + 1) j (f_X11_loophole_49 (k + 1) j k) 0 0 a3 (-2) 0 0 M = _
        unfold b_X11_loophole_49 f_X11_loophole_101
        rw [nI_0] at g1
        rw [if_neg (by decide), g1]
        simp only [qc, ql, show ¬ ((1 : Int32) = 0) from by decide, if_false, if_true]
        exact g2
      have hm : ∃ M3, f_X12_loophole (k + 1) 0 0 a3 M2 = some (if a3 = 0 then 0 else nI 256, M3) := by
        have e3 : M2 77 6 = 0 := by rw [o2 _ _ (by decide), o1 _ _ (by decide)]; exact e2
        obtain ⟨M3, g3⟩ := lm56 (n := k + 1) (a3 := a3) (by omega) 255 1 k 1 (mu (mu M2 81 12 1) 82 12 0) (by omega) (by omega) (by omega)
        refine ⟨M3, ?_⟩
        have h56 : f_X12_loophole (k + 1) 0 0 a3 M2 = f_X12_loophole_56 (k + 1) (k + 1) 0 0 a3 0 (-2) 0 (mu M2 81 12 1) := by
          unfold f_X12_loophole
          rw [e3, z_not, z_and, zo, za]
          simp [in_eq, qc, c3, c4, qlm]
        rw [h56]
        show b_X12_loophole_56 (k + 1) (f_X12_loophole_56 (k + 1) k) 0 0 a3 0 (-2) 0 (mu M2 81 12 1) = _
        unfold b_X12_loophole_56 f_X12_finds f_X12_loophole_111
        have ef := fd2 (n := k + 1) 12 0 (k + 1) (mu (mu M2 81 12 1) 82 12 0) (by omega) (by omega)
        rw [nI_0] at ef
        rw [if_neg (by decide)]
        simp only [qlm, ef, qc, ql, show ¬ ((1 : Int32) = 0) from by decide, if_false, if_true]
        exact g3
      obtain ⟨M3, hm⟩ := hm
      exact ⟨_, M2, M3, hA, hm⟩
    · refine Pr.same (v := -1) ?_ (hno (fun q => c2 q.2))
      unfold f_X11_loophole
      simp [ka, qc, c1, c2]
  · refine Pr.same (v := -1) ?_ (hno (fun q => c1 q.1))
    unfold f_X11_loophole
    simp [ka, qc, c1]
