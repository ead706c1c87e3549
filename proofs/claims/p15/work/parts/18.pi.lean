/-! court -/
def bc1 (x : Int32) : Int32 := x - ((x.toUInt32 >>> ((1 : Int32).toUInt32 &&& Int32.toUInt32 31)).toInt32 &&& (1431655765 : Int32))
def bc2 (x : Int32) : Int32 := (x &&& (858993459 : Int32)) + ((x.toUInt32 >>> ((2 : Int32).toUInt32 &&& Int32.toUInt32 31)).toInt32 &&& (858993459 : Int32))
def bc3 (x : Int32) : Int32 := (x + (x.toUInt32 >>> ((4 : Int32).toUInt32 &&& Int32.toUInt32 31)).toInt32) &&& (252645135 : Int32)
def bc4 (x : Int32) : Int32 := x + (x.toUInt32 >>> ((8 : Int32).toUInt32 &&& Int32.toUInt32 31)).toInt32
def bc5 (x : Int32) : Int32 := x + (x.toUInt32 >>> ((16 : Int32).toUInt32 &&& Int32.toUInt32 31)).toInt32
def bcv (x : Int32) : Int32 := bc5 (bc4 (bc3 (bc2 (bc1 x)))) &&& (63 : Int32)
theorem bc_val (n : Nat) (a : Int32) (M : qM) : f_J6_bitCount_0f7a4 n a M = some (bcv a, M) := by
  unfold f_J6_bitCount_0f7a4 bcv
  rw [ql_v, ql_v, ql_v, ql_v, ql_v]
  rfl
def mbs (a : Int32) : Nat → Int32
  | 0 => 0
  | k + 1 => mbs a k + ((a >>> (nI k &&& 31)) &&& (1 : Int32))
theorem bits_g {n : Nat} {a : Int32} {M : qM} : ∀ (d i m : Nat), i + d = 12 → d < m → f_X12_bits_4 n m a (mbs a i) (nI i) M = some (mbs a 12, M) := by
  intro d
  induction d with
  | zero =>
    intro i m hi hm
    obtain ⟨k, rfl⟩ : ∃ k, m = k + 1 := ⟨m - 1, by omega⟩
    have e : i = 12 := by omega
    subst e
    show b_X12_bits_4 n (f_X12_bits_4 n k) a (mbs a 12) (nI 12) M = _
    unfold b_X12_bits_4
    rw [if_pos (by decide)]
  | succ d ih =>
    intro i m hi hm
    obtain ⟨k, rfl⟩ : ∃ k, m = k + 1 := ⟨m - 1, by omega⟩
    show b_X12_bits_4 n (f_X12_bits_4 n k) a (mbs a i) (nI i) M = _
    unfold b_X12_bits_4
    have c : ¬ (12 : Int32) ≤ nI i := nI_ge (a := i) (b := 12) (by omega) (by decide)
    rw [if_neg c, ql_v, ql_v, nI_1]
    exact ih (i + 1) k (by omega) (by omega)
theorem bits_val {n : Nat} (hn : 200 ≤ n) (a : Int32) (M : qM) : f_X12_bits n a M = some (mbs a 12, M) := by
  unfold f_X12_bits
  exact bits_g 12 0 n (by omega) (by omega)
set_option maxRecDepth 100000 in
theorem fa_bc : ∀ j, j < 512 → bcv (nI j) = mbs (nI j) 12 := by decide +kernel
def hb (a : Int32) (k : Nat) : Int32 := if ((a >>> (nI k &&& 31)) &&& (1 : Int32)) = 1 then 1 else 0
set_option maxRecDepth 100000 in
theorem fa_hb : ∀ Y, Y < 512 → ∀ k, k < 9 → hb (nI Y) k = if Y.testBit k then 1 else 0 := by decide +kernel
set_option maxRecDepth 100000 in
theorem fa_acc : ∀ Y, Y < 512 → ∀ k, k < 9 → (if hb (nI Y) k = 0 then nI (Y % 2 ^ k) else nI (Y % 2 ^ k) ||| ((1 : Int32) <<< (nI k &&& 31))) = nI (Y % 2 ^ (k + 1)) := by decide +kernel
theorem fa_all : ∀ N, N < 10 → ((1 : Int32) <<< (nI N &&& 31)) - (1 : Int32) = nI (2 ^ N - 1) := by decide +kernel
theorem fa_512 : ∀ N, N < 10 → 2 ^ N ≤ 512 := by decide +kernel
def cfin (n : Nat) (a1 a2 a6 a9 : Int32) (M : qM) : qR := if a6 = (0 : Int32) then qc (f_X12_bits n a9 M) (fun r5 m6 => some (r5, m6)) else (if a6 = (1 : Int32) then qc (f_X12_bits n a9 M) (fun r3 m4 => (if ((2 : Int32) * r3) ≤ a1 then some ((0 : Int32), m4) else some ((1 : Int32), m4))) else qc (f_X12_bits n (a9 ^^^ a2) M) (fun r1 m2 => some (r1, m2)))
theorem n_or (a b : Nat) : nI a ||| nI b = nI (a ||| b) := by
  apply Int32.toBitVec_inj.1
  show BitVec.ofNat 32 a ||| BitVec.ofNat 32 b = BitVec.ofNat 32 (a ||| b)
  apply BitVec.eq_of_getLsbD_eq
  intro i hi
  simp [hi]
theorem n_and (a b : Nat) : nI a &&& nI b = nI (a &&& b) := by
  apply Int32.toBitVec_inj.1
  show BitVec.ofNat 32 a &&& BitVec.ofNat 32 b = BitVec.ofNat 32 (a &&& b)
  apply BitVec.eq_of_getLsbD_eq
  intro i hi
  simp [hi]
theorem n_xor (a b : Nat) : nI a ^^^ nI b = nI (a ^^^ b) := by
  apply Int32.toBitVec_inj.1
  show BitVec.ofNat 32 a ^^^ BitVec.ofNat 32 b = BitVec.ofNat 32 (a ^^^ b)
  apply BitVec.eq_of_getLsbD_eq
  intro i hi
  simp [hi]
theorem n_of32 (x : Int32) : ∃ n, n < 2 ^ 32 ∧ x = nI n := ⟨x.toBitVec.toNat, x.toBitVec.isLt, Int32.toBitVec_inj.mp (by show _ = BitVec.ofNat 32 _; simp)⟩
theorem n_m1 : (-1 : Int32) = nI 4294967295 := by decide
theorem n_z {X : Nat} (h : X < 2 ^ 32) (e : nI X = 0) : X = 0 := by
  have e2 : (nI X).toBitVec.toNat = (0 : Int32).toBitVec.toNat := by rw [e]
  have e3 : (BitVec.ofNat 32 X).toNat = 0 := e2
  rw [BitVec.toNat_ofNat, Nat.mod_eq_of_lt h] at e3
  exact e3
theorem ct_fin {n : Nat} (hn : 200 ≤ n) {A Y : Nat} (hA : A < 512) (hY : Y < 512) (a1 a6 : Int32) (M : qM) : ∃ w, f_X11_court_122 n a1 (nI A) a6 (nI Y) M = some (w, M) ∧ cfin n a1 (nI A) a6 (nI Y) M = some (w, M) := by
  unfold f_X11_court_122 cfin
  by_cases c0 : a6 = 0
  · rw [if_pos c0, if_pos c0, bc_val, bits_val hn, qc_v, qc_v, fa_bc Y hY]
    exact ⟨_, rfl, rfl⟩
  · rw [if_neg c0, if_neg c0]
    by_cases c1 : a6 = 1
    · rw [if_pos c1, if_pos c1, bc_val, bits_val hn, qc_v, qc_v, fa_bc Y hY]
      by_cases c2 : (2 : Int32) * mbs (nI Y) 12 ≤ a1
      · rw [if_pos c2]
        exact ⟨_, rfl, rfl⟩
      · rw [if_neg c2]
        exact ⟨_, rfl, rfl⟩
    · rw [if_neg c1, if_neg c1, bc_val, bits_val hn, qc_v, qc_v, n_xor, n_xor, Nat.xor_comm Y A, fa_bc (A ^^^ Y) (Nat.xor_lt_two_pow (n := 9) hA hY)]
      exact ⟨_, rfl, rfl⟩
theorem ct_140 {n : Nat} {K : Int32 → Int32 → Int32 → Int32 → Int32 → Int32 → Int32 → Int32 → Int32 → Int32 → qM → qR} {a1 a2 a3 a4 a5 a6 a7 a8 r : Int32} {Y i : Nat} (hY : Y < 512) (hi : i < 9) (hr : r = hb (nI Y) i) (M : qM) : f_X12_court_140 n K a1 a2 a3 a4 a5 a6 a7 a8 (nI (Y % 2 ^ i)) (nI i) r M = K a1 a2 a3 a4 a5 a6 a7 a8 (nI (Y % 2 ^ (i + 1))) (nI (i + 1)) M := by
  unfold f_X12_court_140
  have f := fa_acc Y hY i hi
  rw [hr]
  by_cases c : hb (nI Y) i = 0
  · rw [if_pos c] at f
    rw [if_pos c, ql_v, nI_1, f]
  · rw [if_neg c] at f
    rw [if_neg c, ql_v, ql_v, nI_1, f]
theorem h0b (n : Nat) (a : Int32) (i : Nat) (M : qM) : f_X12_has0 n a (nI i) M = some (hb a i, M) := h0v n a (nI i) M
theorem ct_go {n N Y : Nat} (hN : N < 10) (hY : Y < 2 ^ N) {a2 a3 a4 a5 a6 g mj : Int32} {M : qM} (hh : ∀ k, k < N → (if g < a5 then hb a2 k else if hb a2 k = mj then hb a3 k else hb a4 k) = hb (nI Y) k) : ∀ (d i m : Nat), i + d = N → d < m → f_X12_court_99 n m (nI N) a2 a3 a4 a5 a6 g mj (nI (Y % 2 ^ i)) (nI i) M = cfin n (nI N) a2 a6 (nI Y) M := by
  have h5 := fa_512 N hN
  intro d
  induction d with
  | zero =>
    intro i m hi hm
    obtain ⟨k, rfl⟩ : ∃ k, m = k + 1 := ⟨m - 1, by omega⟩
    have e : i = N := by omega
    subst e
    show b_X12_court_99 n (f_X12_court_99 n k) (nI i) a2 a3 a4 a5 a6 g mj (nI (Y % 2 ^ i)) (nI i) M = _
    unfold b_X12_court_99 cfin
    rw [if_pos (nI_le (Nat.le_refl _) (by omega)), Nat.mod_eq_of_lt hY]
  | succ d ih =>
    intro i m hi hm
    obtain ⟨k, rfl⟩ : ∃ k, m = k + 1 := ⟨m - 1, by omega⟩
    show b_X12_court_99 n (f_X12_court_99 n k) (nI N) a2 a3 a4 a5 a6 g mj (nI (Y % 2 ^ i)) (nI i) M = _
    unfold b_X12_court_99
    have c : ¬ nI N ≤ nI i := nI_ge (by omega) (by omega)
    have q := hh i (by omega)
    have nx := ih (i + 1) k (by omega) (by omega)
    rw [if_neg c, h0b, qc_v]
    by_cases c1 : g < a5
    · rw [if_pos c1] at q
      rw [if_pos c1, ct_140 (by omega) (by omega) q, nx]
    · rw [if_neg c1] at q
      rw [if_neg c1]
      by_cases c2 : hb a2 i = mj
      · rw [if_pos c2] at q
        rw [if_pos c2]
        unfold f_X12_court_133
        rw [h0b, qc_v, ct_140 (by omega) (by omega) q, nx]
      · rw [if_neg c2] at q
        rw [if_neg c2]
        unfold f_X12_court_133
        rw [h0b, qc_v, ct_140 (by omega) (by omega) q, nx]
theorem ct_91 {n N Y : Nat} (hn : 200 ≤ n) (hN : N < 10) (hY : Y < 2 ^ N) {a2 a3 a4 a5 a6 g mj : Int32} {M : qM} (hh : ∀ k, k < N → (if g < a5 then hb a2 k else if hb a2 k = mj then hb a3 k else hb a4 k) = hb (nI Y) k) : f_X12_court_91 n (nI N) a2 a3 a4 a5 a6 g mj M = cfin n (nI N) a2 a6 (nI Y) M := by
  unfold f_X12_court_91
  have h := ct_go (n := n) (a6 := a6) (M := M) hN hY hh N 0 n (by omega) (by omega)
  rw [Nat.pow_zero, Nat.mod_one] at h
  exact h
theorem rgT {N T : Nat} (hN : N < 10) (hT : T < 2 ^ 32) : (nI T &&& (nI (2 ^ N - 1) ^^^ (-1 : Int32))) = 0 ↔ T < 2 ^ N := by
  rw [n_m1, n_xor, n_and]
  have hb2 : ∀ i, i < 32 → (T &&& ((2 ^ N - 1) ^^^ 4294967295)).testBit i = (T.testBit i && !decide (i < N)) := by
    intro i hi
    have h1 : (4294967295 : Nat).testBit i = true := (by decide +kernel : ∀ i, i < 32 → (4294967295 : Nat).testBit i = true) i hi
    rw [Nat.testBit_and, Nat.testBit_xor, Nat.testBit_two_pow_sub_one, h1]
    cases T.testBit i <;> cases decide (i < N) <;> rfl
  constructor
  · intro h
    have h0 := n_z (Nat.lt_of_le_of_lt Nat.and_le_left hT) h
    apply Nat.lt_pow_two_of_testBit
    intro i hi
    rcases Nat.lt_or_ge i 32 with h32 | h32
    · have := hb2 i h32
      rw [h0, Nat.zero_testBit, decide_eq_false (by omega)] at this
      simpa using this.symm
    · exact Nat.testBit_lt_two_pow (Nat.lt_of_lt_of_le hT (Nat.pow_le_pow_right (by decide) h32))
  · intro h
    have h0 : T &&& ((2 ^ N - 1) ^^^ 4294967295) = 0 := by
      apply Nat.eq_of_testBit_eq
      intro i
      rw [Nat.zero_testBit]
      rcases Nat.lt_or_ge i 32 with h32 | h32
      · rw [hb2 i h32]
        rcases Nat.lt_or_ge i N with q | q
        · rw [decide_eq_true q]; simp
        · rw [Nat.testBit_lt_two_pow (Nat.lt_of_lt_of_le h (Nat.pow_le_pow_right (by decide) q))]; rfl
      · rw [Nat.testBit_and, Nat.testBit_lt_two_pow (Nat.lt_of_lt_of_le hT (Nat.pow_le_pow_right (by decide) h32))]; rfl
    rw [h0]
    rfl
theorem rg_n {a : Int32} {N : Nat} (hN : N < 10) (h : ¬ (a < 0 ∨ nI (2 ^ N - 1) < a)) : ∃ T, T < 2 ^ N ∧ a = nI T := by
  have h5 := fa_512 N hN
  obtain ⟨j, hj, rfl⟩ := nI_of (x := a) (fun q => h (Or.inl q))
  have h2 : ¬ nI (2 ^ N - 1) < nI j := fun q => h (Or.inr q)
  rw [nI_ltI (by omega) hj] at h2
  have : 0 < 2 ^ N := Nat.two_pow_pos N
  exact ⟨j, by omega, rfl⟩
theorem rg_c {a : Int32} {N : Nat} (hN : N < 10) : (a &&& (nI (2 ^ N - 1) ^^^ (-1 : Int32))) = 0 ↔ ¬ (a < 0 ∨ nI (2 ^ N - 1) < a) := by
  have h5 := fa_512 N hN
  constructor
  · intro h
    obtain ⟨T, hT, rfl⟩ := n_of32 a
    have hl := (rgT hN hT).mp h
    rintro (q | q)
    · exact nI_pos (by omega) q
    · exact nI_nlt (by omega) (by omega) q
  · intro h
    obtain ⟨T, hT, rfl⟩ := rg_n hN h
    exact (rgT hN (by omega)).mpr hT
theorem mif {n : Nat} {a lo hi : Int32} {M : qM} {F : qM → qR} : qc (f_X12_in n a lo hi M) (fun r m => if r = (0 : Int32) then some ((-1 : Int32), m) else F m) = if a < lo ∨ hi < a then some (-1, M) else F M := by
  rw [in_eq]
  by_cases h : a < lo ∨ hi < a
  · rw [if_pos h, if_pos h]; rfl
  · rw [if_neg h, if_neg h]; rfl
/-- the second vote's bits, where a part is heard -/
theorem ct_bits {N A B C P : Nat} (hN : N < 10) (hA : A < 2 ^ N) (hB : B < 2 ^ N) (hC : C < 2 ^ N) {mj : Int32} (hP : ∀ k, k < N → (if hb (nI A) k = mj then P.testBit k = true else P.testBit k = false)) : ∃ Y, Y < 2 ^ N ∧ (nI B &&& nI P) ||| (nI C &&& (nI P ^^^ (-1 : Int32))) = nI Y ∧ ∀ k, k < N → (if hb (nI A) k = mj then hb (nI B) k else hb (nI C) k) = hb (nI Y) k := by
  have h5 := fa_512 N hN
  have hY : ((B &&& P) ||| (C &&& (P ^^^ 4294967295))) < 2 ^ N := Nat.or_lt_two_pow (Nat.lt_of_le_of_lt Nat.and_le_left hB) (Nat.lt_of_le_of_lt Nat.and_le_left hC)
  refine ⟨(B &&& P) ||| (C &&& (P ^^^ 4294967295)), hY, ?_, ?_⟩
  · rw [n_m1, n_xor, n_and, n_and, n_or]
  · intro k hk
    have p := hP k hk
    have h1 : (4294967295 : Nat).testBit k = true := (by decide +kernel : ∀ i, i < 32 → (4294967295 : Nat).testBit i = true) k (by omega)
    rw [fa_hb _ (Nat.lt_of_lt_of_le hY h5) k (by omega), fa_hb B (by omega) k (by omega), fa_hb C (by omega) k (by omega), Nat.testBit_or, Nat.testBit_and, Nat.testBit_and, Nat.testBit_xor, h1]
    by_cases c : hb (nI A) k = mj
    · rw [if_pos c] at p
      rw [if_pos c, p]
      cases B.testBit k <;> cases C.testBit k <;> rfl
    · rw [if_neg c] at p
      rw [if_neg c, p]
      cases B.testBit k <;> cases C.testBit k <;> rfl
theorem p1_court {n : Nat} (hn : 955 ≤ n) {M : qM} (a1 a2 a3 a4 a5 a6 : Int32) : Pr (f_X11_court n a1 a2 a3 a4 a5 a6) (f_X12_court n a1 a2 a3 a4 a5 a6) M := by
  have hD : f_X12_court n a1 a2 a3 a4 a5 a6 M = if a1 < 1 ∨ 9 < a1 then some (-1, M) else if a2 < 0 ∨ (((1 : Int32) <<< (a1 &&& 31)) - (1 : Int32)) < a2 then some (-1, M) else if a3 < 0 ∨ (((1 : Int32) <<< (a1 &&& 31)) - (1 : Int32)) < a3 then some (-1, M) else if a4 < 0 ∨ (((1 : Int32) <<< (a1 &&& 31)) - (1 : Int32)) < a4 then some (-1, M) else if a5 < 0 ∨ a1 < a5 then some (-1, M) else if a6 < 0 ∨ 2 < a6 then some (-1, M) else if (2 : Int32) * mbs a2 12 < a1 then f_X12_court_91 n a1 a2 a3 a4 a5 a6 (mbs a2 12) 0 M else f_X12_court_91 n a1 a2 a3 a4 a5 a6 (mbs a2 12) 1 M := by
    unfold f_X12_court
    rw [mif, mif, mif, mif, mif, mif, bits_val (by omega), qc_v]
  by_cases r1 : a1 < 1 ∨ 9 < a1
  · refine ⟨-1, M, M, ?_, by rw [hD, if_pos r1]⟩
    unfold f_X11_court
    by_cases q : a1 < 1
    · rw [if_pos q]
    · rw [if_neg q, if_pos (r1.resolve_left q)]
  · have q1 : ¬ a1 < 1 := fun q => r1 (Or.inl q)
    have q2 : ¬ 9 < a1 := fun q => r1 (Or.inr q)
    by_cases r5 : a5 < 0 ∨ a1 < a5
    · refine ⟨-1, M, M, ?_, by rw [hD]; simp only [if_pos r5, ite_self]⟩
      unfold f_X11_court
      rw [if_neg q1, if_neg q2]
      by_cases q : a5 < 0
      · rw [if_pos q]
      · rw [if_neg q, if_pos (r5.resolve_left q)]
    · have q3 : ¬ a5 < 0 := fun q => r5 (Or.inl q)
      have q4 : ¬ a1 < a5 := fun q => r5 (Or.inr q)
      by_cases r6 : a6 < 0 ∨ 2 < a6
      · refine ⟨-1, M, M, ?_, by rw [hD]; simp only [if_pos r6, ite_self]⟩
        unfold f_X11_court
        rw [if_neg q1, if_neg q2, if_neg q3, if_neg q4]
        by_cases q : a6 < 0
        · rw [if_pos q]
        · rw [if_neg q, if_neg (Int32.not_le.mpr (r6.resolve_left q))]
      · have q5 : ¬ a6 < 0 := fun q => r6 (Or.inl q)
        have q6 : a6 ≤ 2 := Int32.not_lt.mp (fun q => r6 (Or.inr q))
        obtain ⟨N, hN1, rfl⟩ : ∃ N : Nat, N ≤ 9 ∧ a1 = nI N := nI_of2 (x := a1) (M := 9) (n := 9) (by decide) (fun q => q1 (by
          rw [Int32.lt_iff_toInt_lt] at *
          have : (0 : Int32).toInt = 0 := by decide
          have : (1 : Int32).toInt = 1 := by decide
          omega)) (Int32.not_lt.mp q2)
        have hN : N < 10 := by omega
        have h5 := fa_512 N hN
        rw [fa_all N hN] at hD
        have hC : f_X11_court n (nI N) a2 a3 a4 a5 a6 M = (if (a2 &&& (nI (2 ^ N - 1) ^^^ (-1 : Int32))) = (0 : Int32) then (if (a3 &&& (nI (2 ^ N - 1) ^^^ (-1 : Int32))) = (0 : Int32) then (if (a4 &&& (nI (2 ^ N - 1) ^^^ (-1 : Int32))) = (0 : Int32) then (if bcv a2 < a5 then f_X11_court_122 n (nI N) a2 a6 a2 M else (if ((2 : Int32) * bcv a2) < nI N then f_X11_court_106 n (nI N) a2 a3 a4 a6 (nI (2 ^ N - 1) &&& (a2 ^^^ (-1 : Int32))) M else f_X11_court_106 n (nI N) a2 a3 a4 a6 a2 M)) else some ((-1 : Int32), M)) else some ((-1 : Int32), M)) else some ((-1 : Int32), M)) := by
          unfold f_X11_court
          rw [if_neg q1, if_neg q2, if_neg q3, if_neg q4, if_neg q5, if_pos q6, ql_v, fa_all N hN, bc_val, qc_v]
        by_cases r2 : a2 < 0 ∨ nI (2 ^ N - 1) < a2
        · exact ⟨-1, M, M, by rw [hC, if_neg (fun q => (rg_c hN).mp q r2)], by rw [hD, if_neg r1, if_pos r2]⟩
        by_cases r3 : a3 < 0 ∨ nI (2 ^ N - 1) < a3
        · exact ⟨-1, M, M, by rw [hC, if_pos ((rg_c hN).mpr r2), if_neg (fun q => (rg_c hN).mp q r3)], by rw [hD, if_neg r1, if_neg r2, if_pos r3]⟩
        by_cases r4 : a4 < 0 ∨ nI (2 ^ N - 1) < a4
        · exact ⟨-1, M, M, by rw [hC, if_pos ((rg_c hN).mpr r2), if_pos ((rg_c hN).mpr r3), if_neg (fun q => (rg_c hN).mp q r4)], by rw [hD, if_neg r1, if_neg r2, if_neg r3, if_pos r4]⟩
        rw [if_pos ((rg_c hN).mpr r2), if_pos ((rg_c hN).mpr r3), if_pos ((rg_c hN).mpr r4)] at hC
        rw [if_neg r1, if_neg r2, if_neg r3, if_neg r4, if_neg r5, if_neg r6] at hD
        obtain ⟨A, hA, rfl⟩ := rg_n hN r2
        obtain ⟨B, hB, rfl⟩ := rg_n hN r3
        obtain ⟨C, hC2, rfl⟩ := rg_n hN r4
        rw [fa_bc A (by omega)] at hC
        have fin : ∀ Y, Y < 2 ^ N → f_X11_court n (nI N) (nI A) (nI B) (nI C) a5 a6 M = f_X11_court_122 n (nI N) (nI A) a6 (nI Y) M → f_X12_court n (nI N) (nI A) (nI B) (nI C) a5 a6 M = cfin n (nI N) (nI A) a6 (nI Y) M → Pr (f_X11_court n (nI N) (nI A) (nI B) (nI C) a5 a6) (f_X12_court n (nI N) (nI A) (nI B) (nI C) a5 a6) M := by
          intro Y hY e1 e2
          obtain ⟨w, f1, f2⟩ := ct_fin (n := n) (by omega) (A := A) (Y := Y) (by omega) (by omega) (nI N) a6 M
          exact ⟨w, M, M, by rw [e1, f1], by rw [e2, f2]⟩
        by_cases c1 : mbs (nI A) 12 < a5
        · rw [if_pos c1] at hC
          refine fin A hA hC ?_
          rw [hD]
          by_cases c2 : (2 : Int32) * mbs (nI A) 12 < nI N
          · rw [if_pos c2]
            exact ct_91 (by omega) hN hA (fun k hk => by rw [if_pos c1])
          · rw [if_neg c2]
            exact ct_91 (by omega) hN hA (fun k hk => by rw [if_pos c1])
        · rw [if_neg c1] at hC
          by_cases c2 : (2 : Int32) * mbs (nI A) 12 < nI N
          · rw [if_pos c2] at hC hD
            have eP : nI (2 ^ N - 1) &&& (nI A ^^^ (-1 : Int32)) = nI ((2 ^ N - 1) &&& (A ^^^ 4294967295)) := by rw [n_m1, n_xor, n_and]
            obtain ⟨Y, hY, eY, bY⟩ := ct_bits (N := N) (A := A) (B := B) (C := C) (P := (2 ^ N - 1) &&& (A ^^^ 4294967295)) (mj := 0) hN hA hB hC2 (fun k hk => by
              have h1 : (4294967295 : Nat).testBit k = true := (by decide +kernel : ∀ i, i < 32 → (4294967295 : Nat).testBit i = true) k (by omega)
              rw [fa_hb A (by omega) k (by omega), Nat.testBit_and, Nat.testBit_two_pow_sub_one, Nat.testBit_xor, h1, decide_eq_true hk]
              cases A.testBit k <;> simp)
            refine fin Y hY ?_ ?_
            · rw [hC, eP]
              unfold f_X11_court_106
              rw [ql_v, eY]
            · rw [hD]
              exact ct_91 (by omega) hN hY (fun k hk => by rw [if_neg c1]; exact bY k hk)
          · rw [if_neg c2] at hC hD
            obtain ⟨Y, hY, eY, bY⟩ := ct_bits (N := N) (A := A) (B := B) (C := C) (P := A) (mj := 1) hN hA hB hC2 (fun k hk => by
              rw [fa_hb A (by omega) k (by omega)]
              cases A.testBit k <;> simp)
            refine fin Y hY ?_ ?_
            · rw [hC]
              unfold f_X11_court_106
              rw [ql_v, eY]
            · rw [hD]
              exact ct_91 (by omega) hN hY (fun k hk => by rw [if_neg c1]; exact bY k hk)
