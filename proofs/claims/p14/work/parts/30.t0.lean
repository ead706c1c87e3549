/-! TOTALITY: words and rules -/
def qT (E : qR) (P : Int32 → qM → Prop) : Prop := ∃ (v : Int32) (M' : qM), E = some (v, M') ∧ P v M'
theorem T_ret {v : Int32} {M : qM} {P : Int32 → qM → Prop} (h : P v M) : qT (some (v, M)) P := ⟨v, M, rfl, h⟩
theorem T_mono {E : qR} {P Q : Int32 → qM → Prop} (h : qT E P) (k : ∀ v M, P v M → Q v M) : qT E Q := by
  obtain ⟨v, M, e, p⟩ := h
  exact ⟨v, M, e, k v M p⟩
theorem T_lt {a b : Int32} {x y : Int} {A B : qR} {P : Int32 → qM → Prop} (ha : a.toInt = x) (hb : b.toInt = y) (h1 : x < y → qT A P) (h2 : y ≤ x → qT B P) : qT (if a < b then A else B) P := by
  subst ha; subst hb
  by_cases c : a < b
  · rw [if_pos c]; exact h1 (Int32.lt_iff_toInt_lt.mp c)
  · rw [if_neg c]; exact h2 (by rw [Int32.lt_iff_toInt_lt] at c; omega)
theorem T_le {a b : Int32} {x y : Int} {A B : qR} {P : Int32 → qM → Prop} (ha : a.toInt = x) (hb : b.toInt = y) (h1 : x ≤ y → qT A P) (h2 : y < x → qT B P) : qT (if a ≤ b then A else B) P := by
  subst ha; subst hb
  by_cases c : a ≤ b
  · rw [if_pos c]; exact h1 (Int32.le_iff_toInt_le.mp c)
  · rw [if_neg c]; exact h2 (by rw [Int32.le_iff_toInt_le] at c; omega)
theorem T_eq {a b : Int32} {x y : Int} {A B : qR} {P : Int32 → qM → Prop} (ha : a.toInt = x) (hb : b.toInt = y) (h1 : x = y → qT A P) (h2 : ¬ x = y → qT B P) : qT (if a = b then A else B) P := by
  subst ha; subst hb
  by_cases c : a = b
  · rw [if_pos c]; exact h1 (congrArg Int32.toInt c)
  · rw [if_neg c]; exact h2 (fun e => c (Int32.toInt_inj.mp e))
theorem T_qg {j : Int32} {n : Nat} {x : Int} {E : qR} {P : Int32 → qM → Prop} (hj : j.toInt = x) (h0 : 0 ≤ x) (h1 : x < (n : Int)) (h : qT E P) : qT (qg j n E) P := by
  rw [qg_ok (by omega) (by omega)]; exact h
theorem T_qd {b : Int32} {x : Int} {E : qR} {P : Int32 → qM → Prop} (hb : b.toInt = x) (h0 : x ≠ 0) (h : qT E P) : qT (qd b E) P := by
  unfold qd
  rw [if_neg (fun e => h0 (by rw [← hb, e]; rfl))]; exact h
theorem T_qb {v : Int32} {x : Int} {E : qR} {P : Int32 → qM → Prop} (hv : v.toInt = x) (h0 : 0 ≤ x) (h1 : x ≤ 1) (h : qT E P) : qT (qb v E) P := by
  unfold qb
  have : v = 0 ∨ v = 1 := by
    rcases (show x = 0 ∨ x = 1 by omega) with e | e
    · exact Or.inl (Int32.toInt_inj.mp (by rw [hv, e]; rfl))
    · exact Or.inr (Int32.toInt_inj.mp (by rw [hv, e]; rfl))
  rw [if_pos this]; exact h
theorem T_ql {v : Int32} {x : Int} {f : Int32 → qR} {P : Int32 → qM → Prop} (hv : v.toInt = x) (h : ∀ y : Int32, y.toInt = x → qT (f y) P) : qT (ql v f) P := h v hv
theorem T_qlm {M : qM} {f : qM → qR} {P : Int32 → qM → Prop} (h : qT (f M) P) : qT (qlm M f) P := h
theorem T_qc {F : qR} {f : Int32 → qM → qR} {P Q : Int32 → qM → Prop} (h : qT F Q) (k : ∀ v m, Q v m → qT (f v m) P) : qT (qc F f) P := by
  obtain ⟨v, M, e, p⟩ := h
  rw [e, qc_v]
  exact k v M p
theorem T_sw0 {x : Int32} {D : qR} {P : Int32 → qM → Prop} (h : qT D P) : qT (qsw x [] D) P := h
theorem T_sw {x k : Int32} {X y : Int} {E D : qR} {l : List (Int32 × qR)} {P : Int32 → qM → Prop} (hx : x.toInt = X) (hk : k.toInt = y) (h : X = y → qT E P) (ht : ¬ X = y → qT (qsw x l D) P) : qT (qsw x ((k, E) :: l) D) P := by
  show qT (if x = k then E else qsw x l D) P
  exact T_eq hx hk h ht
/-! arithmetic -/
theorem i_bm {z : Int} (h1 : -2147483648 ≤ z) (h2 : z ≤ 2147483647) : Int.bmod z (2 ^ 32) = z := by
  rw [Int.bmod_eq_of_le] <;> omega
theorem i_add {a b : Int32} {x y : Int} (ha : a.toInt = x) (hb : b.toInt = y) (h1 : -2147483648 ≤ x + y) (h2 : x + y ≤ 2147483647) : (a + b).toInt = x + y := by
  rw [Int32.toInt_add, ha, hb]; exact i_bm h1 h2
theorem i_sub {a b : Int32} {x y : Int} (ha : a.toInt = x) (hb : b.toInt = y) (h1 : -2147483648 ≤ x - y) (h2 : x - y ≤ 2147483647) : (a - b).toInt = x - y := by
  rw [Int32.toInt_sub, ha, hb]; exact i_bm h1 h2
theorem i_mul {a b : Int32} {x y : Int} (ha : a.toInt = x) (hb : b.toInt = y) (h1 : -2147483648 ≤ x * y) (h2 : x * y ≤ 2147483647) : (a * b).toInt = x * y := by
  rw [Int32.toInt_mul, ha, hb]; exact i_bm h1 h2
theorem i_mulk (Y : Int) {a b : Int32} {x y : Int} (ha : a.toInt = x) (hb : b.toInt = y) (h1 : 0 ≤ x) (h2 : 0 ≤ y) (h3 : y ≤ Y) (h4 : Y * x ≤ 2147483647) : 0 ≤ (a * b).toInt ∧ (a * b).toInt ≤ Y * x ∧ (1 ≤ y → x ≤ (a * b).toInt) := by
  have h5 := Int.mul_nonneg h1 h2
  have h6 : x * y ≤ x * Y := Int.mul_le_mul_of_nonneg_left h3 h1
  rw [Int.mul_comm x Y] at h6
  rw [i_mul ha hb (by omega) (by omega)]
  refine ⟨h5, h6, fun h7 => ?_⟩
  have h8 : x * 1 ≤ x * y := Int.mul_le_mul_of_nonneg_left h7 h1
  omega
theorem i_neg {a : Int32} {x : Int} (ha : a.toInt = x) (h1 : -2147483648 ≤ -x) (h2 : -x ≤ 2147483647) : (-a).toInt = -x := by
  rw [Int32.toInt_neg, ha]; exact i_bm h1 h2
theorem i_div {a b : Int32} {x y : Int} (ha : a.toInt = x) (hb : b.toInt = y) (h1 : 0 ≤ x) (h2 : 0 < y) : (a / b).toInt = x / y := by
  rw [Int32.toInt_div, ha, hb, Int.tdiv_eq_ediv_of_nonneg h1]
  have h3 := Int.ediv_nonneg h1 (Int.le_of_lt h2)
  have h4 := Int.ediv_le_self y h1
  have h5 : x ≤ 2147483647 := by have := a.toInt_le; have e : Int32.maxValue.toInt = 2147483647 := rfl; omega
  exact i_bm (by omega) (by omega)
theorem i_divb {a b : Int32} {x y : Int} (ha : a.toInt = x) (hb : b.toInt = y) (h1 : 0 ≤ x) (h2 : 0 < y) : 0 ≤ (a / b).toInt ∧ (a / b).toInt ≤ x := by
  rw [i_div ha hb h1 h2]
  exact ⟨Int.ediv_nonneg h1 (Int.le_of_lt h2), Int.ediv_le_self y h1⟩
theorem i_remb {a b : Int32} {x y : Int} (ha : a.toInt = x) (hb : b.toInt = y) (h1 : 0 ≤ x) (h2 : 0 < y) : 0 ≤ (a - a / b * b).toInt ∧ (a - a / b * b).toInt < y ∧ (a - a / b * b).toInt ≤ x := by
  have h3 := Int.ediv_nonneg h1 (Int.le_of_lt h2)
  have h5 : x ≤ 2147483647 := by have := a.toInt_le; have e : Int32.maxValue.toInt = 2147483647 := rfl; omega
  have h6 := Int.ediv_mul_le x (b := y) (by omega)
  have h7 := Int.mul_nonneg h3 (Int.le_of_lt h2)
  have h8 := Int.lt_ediv_add_one_mul_self x h2
  have h9 : (x / y + 1) * y = x / y * y + y := by rw [Int.add_mul, Int.one_mul]
  have e := i_sub ha (i_mul (i_div ha hb h1 h2) hb (by omega) (by omega)) (by omega) (by omega)
  rw [e]
  omega
theorem i_and {a b : Int32} {y : Int} (hb : b.toInt = y) (h : 0 ≤ y) : 0 ≤ (a &&& b).toInt ∧ (a &&& b).toInt ≤ y := by
  obtain ⟨k, hk, rfl⟩ := nI_of (x := b) (by rw [Int32.lt_iff_toInt_lt]; show ¬ b.toInt < 0; omega)
  obtain ⟨m, hm, rfl⟩ := n_of32 a
  rw [nI_toInt hk] at hb
  have h2 : m &&& k ≤ k := Nat.and_le_right
  rw [n_and, nI_toInt (by omega)]
  omega
theorem i_or {a b : Int32} {x y : Int} {k : Nat} (hk : k ≤ 31) (ha : a.toInt = x) (hb : b.toInt = y) (h1 : 0 ≤ x) (h2 : x < 2 ^ k) (h3 : 0 ≤ y) (h4 : y < 2 ^ k) : 0 ≤ (a ||| b).toInt ∧ (a ||| b).toInt < 2 ^ k := by
  obtain ⟨p, hp, rfl⟩ := nI_of (x := a) (by rw [Int32.lt_iff_toInt_lt]; show ¬ a.toInt < 0; omega)
  obtain ⟨q, hq, rfl⟩ := nI_of (x := b) (by rw [Int32.lt_iff_toInt_lt]; show ¬ b.toInt < 0; omega)
  rw [nI_toInt hp] at ha
  rw [nI_toInt hq] at hb
  have e : ((2 ^ k : Nat) : Int) = 2 ^ k := by norm_cast
  have h5 : p ||| q < 2 ^ k := Nat.or_lt_two_pow (by omega) (by omega)
  have h6 : 2 ^ k ≤ 2 ^ 31 := Nat.pow_le_pow_right (by decide) hk
  rw [n_or, nI_toInt (by omega)]
  omega
theorem i_shl1 {k : Int32} {x : Int} {c : Nat} (hc : c ≤ 30) (hk : k.toInt = x) (h1 : 0 ≤ x) (h2 : x ≤ c) : 1 ≤ ((1 : Int32) <<< (k &&& 31)).toInt ∧ ((1 : Int32) <<< (k &&& 31)).toInt ≤ 2 ^ c := by
  obtain ⟨m, hm, rfl⟩ := nI_of (x := k) (by rw [Int32.lt_iff_toInt_lt]; show ¬ k.toInt < 0; omega)
  rw [nI_toInt hm] at hk
  have h3 : m ≤ c := by omega
  have e := (by decide +kernel : ∀ m, m < 31 → ((1 : Int32) <<< (nI m &&& 31)).toInt = ((2 ^ m : Nat) : Int)) m (by omega)
  have h4 : 2 ^ m ≤ 2 ^ c := Nat.pow_le_pow_right (by decide) h3
  have h5 : 1 ≤ 2 ^ m := Nat.one_le_two_pow
  have e2 : ((2 ^ c : Nat) : Int) = 2 ^ c := by norm_cast
  rw [e]
  omega
theorem i_shr {a k : Int32} {x y : Int} (ha : a.toInt = x) (h0 : 0 ≤ x) (hk : k.toInt = y) (h1 : 0 ≤ y) (h2 : y ≤ 31) : 0 ≤ (a >>> (k &&& 31)).toInt ∧ (a >>> (k &&& 31)).toInt ≤ x := by
  obtain ⟨p, hp, rfl⟩ := nI_of (x := a) (by rw [Int32.lt_iff_toInt_lt]; show ¬ a.toInt < 0; omega)
  obtain ⟨m, hm, rfl⟩ := nI_of (x := k) (by rw [Int32.lt_iff_toInt_lt]; show ¬ k.toInt < 0; omega)
  rw [nI_toInt hp] at ha
  rw [nI_toInt hm] at hk
  have e : (nI p >>> (nI m &&& 31)) = nI (p >>> m) := by
    apply Int32.toBitVec_inj.1
    rw [Int32.toBitVec_shiftRight]
    have s := (by decide +kernel : ∀ n, n < 32 → ((nI n &&& 31).toBitVec.smod 32).toNat = n) m (by omega)
    show (BitVec.ofNat 32 p).sshiftRight ((nI m &&& 31).toBitVec.smod 32).toNat = BitVec.ofNat 32 (p >>> m)
    rw [s]
    apply BitVec.eq_of_toNat_eq
    have hms : (BitVec.ofNat 32 p).msb = false := by
      rw [BitVec.msb_eq_false_iff_two_mul_lt, BitVec.toNat_ofNat]
      omega
    rw [BitVec.sshiftRight_eq_of_msb_false hms, BitVec.toNat_ushiftRight, BitVec.toNat_ofNat, BitVec.toNat_ofNat, Nat.mod_eq_of_lt (by omega), Nat.mod_eq_of_lt]
    have := Nat.shiftRight_le p m
    omega
  have h3 : p >>> m ≤ p := Nat.shiftRight_le p m
  rw [e]
  generalize p >>> m = q at h3 ⊢
  rw [nI_toInt (by omega)]
  omega
theorem i_andl {a b : Int32} {x : Int} (ha : a.toInt = x) (h : 0 ≤ x) : 0 ≤ (a &&& b).toInt ∧ (a &&& b).toInt ≤ x := by
  obtain ⟨k, hk, rfl⟩ := nI_of (x := a) (by rw [Int32.lt_iff_toInt_lt]; show ¬ a.toInt < 0; omega)
  obtain ⟨m, hm, rfl⟩ := n_of32 b
  rw [nI_toInt hk] at ha
  have h2 : k &&& m ≤ k := Nat.and_le_left
  rw [n_and, nI_toInt (by omega)]
  omega
theorem i_shrc {a k : Int32} {x : Int} (c : Nat) (hc : c ≤ 31) (ha : a.toInt = x) (h0 : 0 ≤ x) (hk : k.toInt = (c : Int)) : (a >>> (k &&& 31)).toInt = x / (2 : Int) ^ c := by
  obtain ⟨p, hp, rfl⟩ := nI_of (x := a) (by rw [Int32.lt_iff_toInt_lt]; show ¬ a.toInt < 0; omega)
  obtain ⟨m, hm, rfl⟩ := nI_of (x := k) (by rw [Int32.lt_iff_toInt_lt]; show ¬ k.toInt < 0; omega)
  rw [nI_toInt hp] at ha
  rw [nI_toInt hm] at hk
  have hmc : m = c := by omega
  subst hmc
  have e : (nI p >>> (nI m &&& 31)) = nI (p >>> m) := by
    apply Int32.toBitVec_inj.1
    rw [Int32.toBitVec_shiftRight]
    have s := (by decide +kernel : ∀ n, n < 32 → ((nI n &&& 31).toBitVec.smod 32).toNat = n) m (by omega)
    show (BitVec.ofNat 32 p).sshiftRight ((nI m &&& 31).toBitVec.smod 32).toNat = BitVec.ofNat 32 (p >>> m)
    rw [s]
    apply BitVec.eq_of_toNat_eq
    have hms : (BitVec.ofNat 32 p).msb = false := by
      rw [BitVec.msb_eq_false_iff_two_mul_lt, BitVec.toNat_ofNat]
      omega
    rw [BitVec.sshiftRight_eq_of_msb_false hms, BitVec.toNat_ushiftRight, BitVec.toNat_ofNat, BitVec.toNat_ofNat, Nat.mod_eq_of_lt (by omega), Nat.mod_eq_of_lt]
    have := Nat.shiftRight_le p m
    omega
  have h3 : p >>> m ≤ p := Nat.shiftRight_le p m
  have h4 : p >>> m = p / 2 ^ m := Nat.shiftRight_eq_div_pow p m
  rw [e, nI_toInt (by omega), h4, ← ha]
  first | norm_cast | (push_cast; rfl) | simp
theorem i_mulc (Y c : Int) {a b : Int32} {x y : Int} (ha : a.toInt = x) (hb : b.toInt = y) (h1 : 0 ≤ x) (h2 : 0 ≤ y) (h3 : y ≤ Y) (h4 : Y * x ≤ 2147483647) : y = c → (a * b).toInt = c * x := by
  have h5 := Int.mul_nonneg h1 h2
  have h6 : x * y ≤ x * Y := Int.mul_le_mul_of_nonneg_left h3 h1
  rw [Int.mul_comm x Y] at h6
  intro e
  rw [i_mul ha hb (by omega) (by omega), e, Int.mul_comm]
theorem i_full (a : Int32) : -2147483648 ≤ a.toInt ∧ a.toInt ≤ 2147483647 := by
  have h1 := a.le_toInt
  have h2 := a.toInt_le
  have e1 : Int32.minValue.toInt = -2147483648 := rfl
  have e2 : Int32.maxValue.toInt = 2147483647 := rfl
  omega
theorem i_rng {a : Int32} {x lo hi : Int} (h : a.toInt = x) (h1 : lo ≤ x) (h2 : x ≤ hi) : lo ≤ a.toInt ∧ a.toInt ≤ hi := by omega
theorem i_max {a b : Int32} {x y : Int} (ha : a.toInt = x) (hb : b.toInt = y) : x ≤ (qmax a b).toInt ∧ y ≤ (qmax a b).toInt ∧ ((qmax a b).toInt = x ∨ (qmax a b).toInt = y) := by
  unfold qmax
  by_cases c : a < b
  · rw [if_pos c]; rw [Int32.lt_iff_toInt_lt] at c; omega
  · rw [if_neg c]; rw [Int32.lt_iff_toInt_lt] at c; omega
theorem i_min {a b : Int32} {x y : Int} (ha : a.toInt = x) (hb : b.toInt = y) : (qmin a b).toInt ≤ x ∧ (qmin a b).toInt ≤ y ∧ ((qmin a b).toInt = x ∨ (qmin a b).toInt = y) := by
  unfold qmin
  by_cases c : b < a
  · rw [if_pos c]; rw [Int32.lt_iff_toInt_lt] at c; omega
  · rw [if_neg c]; rw [Int32.lt_iff_toInt_lt] at c; omega
theorem i_byte (x : Int32) : -128 ≤ (vp_nar .byte x).toInt ∧ (vp_nar .byte x).toInt ≤ 127 := by
  show -128 ≤ (x.toInt8.toInt32).toInt ∧ (x.toInt8.toInt32).toInt ≤ 127
  rw [Int8.toInt_toInt32]
  have h1 := x.toInt8.le_toInt
  have h2 := x.toInt8.toInt_le
  have e1 : Int8.minValue.toInt = -128 := rfl
  have e2 : Int8.maxValue.toInt = 127 := rfl
  omega
theorem i_bool (x : Int32) : 0 ≤ (vp_nar .boolean x).toInt ∧ (vp_nar .boolean x).toInt ≤ 1 := by
  show 0 ≤ (x &&& 1).toInt ∧ (x &&& 1).toInt ≤ 1
  exact i_and rfl (by decide)
/-! ranges -/
def rng (c s : Nat) : Option (Int × Int) := if c = 78 ∨ c = 79 ∨ c = 80 then (if 296 ≤ s ∧ s < 312 then some (0, 40) else none) else if c = 1 then (if s = 1 then some (0, 260) else if s = 2 then some (0, 240) else if s = 3 then some (0, 240) else none) else if c = 2 then some (0, 255) else if c = 14 then some (0, 40) else if c = 15 then some (0, 40) else if c = 23 then some (0, 40) else if c = 24 then some (0, 40) else if c = 32 then some (0, 40) else if c = 33 then some (0, 40) else if c = 37 then (if s = 6 then some (0, 240) else if s = 7 then some (0, 16) else none) else if c = 39 then some (0, 1000000) else if c = 41 then some (0, 240) else if c = 42 then some (0, 240) else if c = 43 then some (0, 240) else if c = 46 then (if s = 6 then some (0, 240) else if s = 7 then some (0, 16) else none) else if c = 48 then some (0, 1000000) else if c = 50 then some (0, 240) else if c = 51 then some (0, 240) else if c = 52 then some (0, 240) else if c = 53 then (if s = 3 then some (0, 40) else none) else if c = 56 then (if s = 10 then some (0, 4) else none) else if c = 57 then some (0, 11) else if c = 64 then (if s = 9 then some (0, 8) else if s = 10 then some (0, 3) else if s = 12 then some (0, 6561) else none) else if c = 65 then some ((-1), 255) else if c = 66 then some (0, 7) else if c = 69 then some (0, 255) else if c = 70 then (if s = 8 then some (0, 4) else if s = 9 then some (0, 10) else none) else if c = 71 then some ((-1), 255) else if c = 73 then some ((-1), 255) else if c = 77 then (if s = 8 then some (0, 260) else if s = 9 then some (0, 240) else if s = 10 then some (0, 240) else if s = 14 then some (0, 260) else if s = 15 then some (0, 260) else if s = 16 then some (0, 16) else if s = 17 then some (0, 16) else if s = 35 then some (0, 40) else if s = 36 then some (0, 3) else if s = 43 then some (0, 4) else if s = 44 then some (0, 7) else if s = 59 then some (0, 8) else if s = 60 then some (0, 3) else if s = 61 then some (0, 4) else none) else if c = 84 then some ((-128), 127) else if c = 85 then some (0, 20000000) else if c = 86 then some (0, 20000000) else if c = 88 then some (0, 250) else if c = 89 then some (0, 250) else if c = 90 then some (0, 250) else if c = 91 then some (0, 20000000) else if c = 93 then some (0, 250) else if c = 94 then some (0, 250) else if c = 95 then some (0, 250) else if c = 101 then some (0, 40) else if c = 102 then some (0, 3) else if c = 103 then some (0, 3) else if c = 104 then some (0, 3) else if c = 105 then some (0, 11) else if c = 108 then some (0, 19) else if c = 110 then some (0, 1) else if c = 111 then some ((-128), 127) else if c = 112 then some (0, 7) else if c = 116 then some ((-128), 127) else if c = 119 then some (0, 1) else if c = 120 then some (0, 1) else none
def Rin (c s : Nat) (v : Int32) : Prop := match rng c s with
  | none => True
  | some q => q.1 ≤ v.toInt ∧ v.toInt ≤ q.2
/-- a stretch of the model's codes is well formed: D is how high its stack stands -/
def WFs (cd : Nat → Int32) (f t : Nat) : Prop := ∃ D : Nat → Nat, D f = 0 ∧ ∀ k, f ≤ k → k < t → 0 ≤ (cd k).toInt ∧ D k ≤ 250 ∧
  (((cd k).toInt / 1048576 = 0 ∧ D (k + 1) = D k + 1) ∨ ((cd k).toInt / 1048576 = 1 ∧ (cd k).toInt % 1048576 ≤ 11 ∧ D (k + 1) = D k + 1) ∨ ((cd k).toInt / 1048576 = 10 ∧ 1 ≤ D k ∧ D (k + 1) = D k) ∨
   (((cd k).toInt / 1048576 = 11 ∨ (cd k).toInt / 1048576 = 12) ∧ 1 ≤ D k ∧ D (k + 1) + 1 = D k ∧ (k : Int) < (cd k).toInt % 1048576 ∧ D ((cd k).toInt % 1048576).toNat = D k) ∨
   (2 ≤ (cd k).toInt / 1048576 ∧ (cd k).toInt / 1048576 ≤ 9 ∧ 2 ≤ D k ∧ D (k + 1) + 1 = D k))
def Wm (M : qM) : Prop := ∀ q : Nat, (q : Int) < (M 77 17).toInt → WFs (M 91) (M 93 q).toInt.toNat (M 94 q).toInt.toNat ∧ WFs (M 91) (M 94 q).toInt.toNat (M 95 q).toInt.toNat
def Wl (M : qM) : Prop := ∀ w, q_isLaw w → ∀ s, (M (w + 1) s).toInt = 1 → (M (w + 2) s).toInt ≤ 11
def Ww (M : qM) : Prop := (∀ a b c : Nat, a + b ≤ 3 → c ≤ a → ∃ w : Nat, w < 20 ∧ M 102 w = nI a ∧ M 103 w = nI b ∧ M 104 w = nI c) ∧ ∀ w : Nat, w < 20 → (M 102 w).toInt + (M 103 w).toInt ≤ 3 ∧ (M 104 w).toInt ≤ (M 102 w).toInt
def G (M : qM) : Prop := (∀ c s, Rin c s (M c s)) ∧ Wl M ∧ Wm M ∧ Ww M
/-- cells and slots that stand in no word but the ranges -/
def nW (c s : Nat) : Prop := c ≠ 38 ∧ c ≠ 39 ∧ c ≠ 47 ∧ c ≠ 48 ∧ (c = 77 → s ≠ 17) ∧ (c < 91 ∨ 95 < c) ∧ (c < 102 ∨ 104 < c)
theorem mu_at {M : qM} {c s : Nat} {v : Int32} : mu M c s v c s = v := by unfold mu; rw [if_pos ⟨rfl, rfl⟩]
theorem mu_ne {M : qM} {c s c2 s2 : Nat} {v : Int32} (h : c2 ≠ c ∨ s2 ≠ s) : mu M c s v c2 s2 = M c2 s2 := by
  unfold mu
  rw [if_neg]
  rintro ⟨a, b⟩
  rcases h with h | h
  · exact h a
  · exact h b
theorem mu_nc {M : qM} {c s c2 : Nat} {v : Int32} (h : c2 ≠ c) : mu M c s v c2 = M c2 := funext (fun s2 => mu_ne (Or.inl h))
theorem G_mu {M : qM} {c s : Nat} {v : Int32} (hG : G M) (hr : Rin c s v) (hw : nW c s) : G (mu M c s v) := by
  obtain ⟨h1, h2, h3, h4⟩ := hG
  obtain ⟨w1, w2, w3, w4, w5, w6, w7⟩ := hw
  refine ⟨fun c2 s2 => ?_, fun w hw2 s2 => ?_, ?_, ?_⟩
  · by_cases e : c2 = c ∧ s2 = s
    · obtain ⟨rfl, rfl⟩ := e
      rw [mu_at]; exact hr
    · rw [mu_ne (by omega)]; exact h1 c2 s2
  · have a1 : w + 1 ≠ c := by rcases hw2 with rfl | rfl <;> omega
    have a2 : w + 2 ≠ c := by rcases hw2 with rfl | rfl <;> omega
    rw [mu_ne (Or.inl a1), mu_ne (Or.inl a2)]
    exact h2 w hw2 s2
  · have e1 : mu M c s v 77 17 = M 77 17 := mu_ne (by
      by_cases e : c = 77
      · exact Or.inr (fun q => w5 e q.symm)
      · exact Or.inl (fun q => e q.symm))
    unfold Wm
    rw [e1, mu_nc (show 91 ≠ c by omega), mu_nc (show 93 ≠ c by omega), mu_nc (show 94 ≠ c by omega), mu_nc (show 95 ≠ c by omega)]
    exact h3
  · unfold Ww
    rw [mu_nc (show 102 ≠ c by omega), mu_nc (show 103 ≠ c by omega), mu_nc (show 104 ≠ c by omega)]
    exact h4
/-! boxes: what a method may change -/
abbrev Bx : Type := Nat × Nat × Nat × Nat
abbrev inB (b : Bx) (c s : Nat) : Prop := b.1 ≤ c ∧ c < b.2.1 ∧ (b.2.2.2 = 0 ∨ (b.2.2.1 ≤ s ∧ s < b.2.2.2))
def Sm (l : List Bx) (M M' : qM) : Prop := ∀ c s, (∀ b ∈ l, ¬ inB b c s) → M' c s = M c s
def bcov (b b2 : Bx) : Bool := decide (b2.1 ≤ b.1) && decide (b.2.1 ≤ b2.2.1) && (decide (b2.2.2.2 = 0) || (decide (b.2.2.2 ≠ 0) && decide (b2.2.2.1 ≤ b.2.2.1) && decide (b.2.2.2 ≤ b2.2.2.2)))
def cov (l l2 : List Bx) : Bool := l.all (fun b => l2.any (fun b2 => bcov b b2))
theorem outc {l : List Bx} {c s : Nat} (h : l.all (fun b => !(decide (b.1 ≤ c) && decide (c < b.2.1))) = true) : ∀ b ∈ l, ¬ inB b c s := by
  intro b hb hi
  rw [List.all_eq_true] at h
  have := h b hb
  obtain ⟨h1, h2, _⟩ := hi
  simp [h1, h2] at this
theorem Sm.rf {l : List Bx} {M : qM} : Sm l M M := fun _ _ _ => rfl
theorem Sm.nil {M M' : qM} (h : Sm [] M M') : M = M' := funext (fun c => funext (fun s => (h c s (fun b hb => by cases hb)).symm))
theorem bcov_in {b b2 : Bx} {c s : Nat} (h : bcov b b2 = true) (hi : inB b c s) : inB b2 c s := by
  unfold bcov at h
  simp only [Bool.and_eq_true, Bool.or_eq_true, decide_eq_true_eq] at h
  obtain ⟨h1, h2, h3⟩ := hi
  obtain ⟨⟨a1, a2⟩, a3⟩ := h
  refine ⟨by omega, by omega, ?_⟩
  rcases a3 with a3 | a3
  · exact Or.inl a3
  · exact Or.inr (by omega)
theorem Sm.mono {l l2 : List Bx} {M M' : qM} (h : Sm l M M') (hc : cov l l2 = true) : Sm l2 M M' := by
  intro c s hb
  refine h c s (fun b hm hi => ?_)
  unfold cov at hc
  rw [List.all_eq_true] at hc
  have := hc b hm
  rw [List.any_eq_true] at this
  obtain ⟨b2, m2, c2⟩ := this
  exact hb b2 m2 (bcov_in c2 hi)
theorem Sm.tr {l : List Bx} {M M1 M2 : qM} (h : Sm l M M1) (h2 : Sm l M1 M2) : Sm l M M2 := fun c s hb => (h2 c s hb).trans (h c s hb)
theorem Sm.call {l l2 : List Bx} {M M1 M2 : qM} (h : Sm l M M1) (h2 : Sm l2 M1 M2) (hc : cov l2 l = true) : Sm l M M2 := h.tr (h2.mono hc)
theorem Sm.mu {l : List Bx} {M0 M : qM} {c s : Nat} {v : Int32} (h : Sm l M0 M) {i : Nat} {b : Bx} (hb : l[i]? = some b) (hi : inB b c s) : Sm l M0 (mu M c s v) := by
  intro c2 s2 hn
  rw [mu_ne, h c2 s2 hn]
  by_cases e : c2 = c
  · subst e
    by_cases e2 : s2 = s
    · subst e2
      exact absurd hi (hn b (List.mem_of_getElem? hb))
    · exact Or.inr e2
  · exact Or.inl e
theorem T_mu {l : List Bx} {M0 M : qM} {c s : Nat} {v : Int32} {f : qM → qR} {P : Int32 → qM → Prop} (hG : G M) (hS : Sm l M0 M) (hr : Rin c s v) (hw : nW c s) {i : Nat} {b : Bx} (hb : l[i]? = some b) (hi : inB b c s) (h : ∀ m : qM, m = mu M c s v → G m → Sm l M0 m → qT (f m) P) : qT (qlm (mu M c s v) f) P := h _ rfl (G_mu hG hr hw) (hS.mu hb hi)
theorem out78 {l : List Bx} {c s lo hi : Nat} (h : l.all (fun b => !(decide (b.1 ≤ c) && decide (c < b.2.1)) || (decide (b.2.2.2 ≠ 0) && (decide (hi ≤ b.2.2.1) || decide (b.2.2.2 ≤ lo)))) = true) (h1 : lo ≤ s) (h2 : s < hi) : ∀ b ∈ l, ¬ inB b c s := by
  intro b hb hi2
  rw [List.all_eq_true] at h
  have h3 := h b hb
  obtain ⟨a1, a2, a3⟩ := hi2
  simp only [Bool.or_eq_true, Bool.and_eq_true, Bool.not_eq_true', Bool.and_eq_false_iff, decide_eq_true_eq, decide_eq_false_iff_not] at h3
  omega
theorem G_mr {M : qM} {c : Nat} {f : Nat → Int32} (hG : G M) (hr : ∀ s, Rin c s (f s)) (hw : ∀ s, nW c s) : G (mr M c f) := by
  obtain ⟨h1, h2, h3, h4⟩ := hG
  have e1 : mr M c f c = f := if_pos rfl
  have e2 : ∀ d, d ≠ c → mr M c f d = M d := fun d hd => if_neg hd
  obtain ⟨w1, w2, w3, w4, _, w6, w7⟩ := hw 0
  have w5 : c ≠ 77 := fun e => (hw 17).2.2.2.2.1 e rfl
  refine ⟨fun c2 s2 => ?_, fun w hw2 s2 => ?_, ?_, ?_⟩
  · by_cases e : c2 = c
    · subst e
      rw [e1]; exact hr s2
    · rw [e2 c2 e]; exact h1 c2 s2
  · have a1 : w + 1 ≠ c := by rcases hw2 with rfl | rfl <;> omega
    have a2 : w + 2 ≠ c := by rcases hw2 with rfl | rfl <;> omega
    rw [e2 _ a1, e2 _ a2]
    exact h2 w hw2 s2
  · unfold Wm
    rw [e2 77 (by omega), e2 91 (by omega), e2 93 (by omega), e2 94 (by omega), e2 95 (by omega)]
    exact h3
  · unfold Ww
    rw [e2 102 (by omega), e2 103 (by omega), e2 104 (by omega)]
    exact h4
theorem T_mr {l : List Bx} {M0 M : qM} {c : Nat} {g : Nat → Int32} {f : qM → qR} {P : Int32 → qM → Prop} (hG : G M) (hS : Sm l M0 M) (hr : ∀ s, Rin c s (g s)) (hw : ∀ s, nW c s) {i : Nat} {b : Bx} (hb : l[i]? = some b) (hi : ∀ s, inB b c s) (h : ∀ m : qM, m = mr M c g → G m → Sm l M0 m → qT (f m) P) : qT (qlm (mr M c g) f) P := by
  refine h _ rfl (G_mr hG hr hw) (fun c2 s2 hn => ?_)
  have e : c2 ≠ c := fun e => hn b (List.mem_of_getElem? hb) (e ▸ hi s2)
  show (if c2 = c then g else M c2) s2 = _
  rw [if_neg e]
  exact hS c2 s2 hn
theorem va_in {f g : Nat → Int32} {sp dp n : Nat} {lo hi : Int} (hf : ∀ s, lo ≤ (f s).toInt ∧ (f s).toInt ≤ hi) (hg : ∀ s, lo ≤ (g s).toInt ∧ (g s).toInt ≤ hi) (s : Nat) : lo ≤ (va_cpy f g sp dp n s).toInt ∧ (va_cpy f g sp dp n s).toInt ≤ hi := by
  unfold va_cpy
  by_cases q : dp ≤ s ∧ s < dp + n
  · rw [if_pos q]; exact hf _
  · rw [if_neg q]; exact hg _
theorem T_qcp {sp dp n : Int32} {x y w : Int} {n0 n1 : Nat} {E : qR} {P : Int32 → qM → Prop} (h1 : sp.toInt = x) (h2 : dp.toInt = y) (h3 : n.toInt = w) (a1 : 0 ≤ x) (a2 : 0 ≤ y) (a3 : 0 ≤ w) (a4 : x + w ≤ (n0 : Int)) (a5 : y + w ≤ (n1 : Int)) (h : qT E P) : qT (qcp sp dp n n0 n1 E) P := by
  unfold qcp
  rw [if_neg]
  · exact h
  · rw [tn, tn, tn]
    simp only [Int32.lt_iff_toInt_lt]
    have z : (0 : Int32).toInt = 0 := rfl
    omega
/-- a law that is being read: its codes grow, what stood of ops stays -/
def Lf (w : Nat) (M M' : qM) : Prop := (M w 6).toInt ≤ (M' w 6).toInt ∧ (∀ s : Nat, (s : Int) < (M w 6).toInt → M' (w + 1) s = M (w + 1) s) ∧ M' w 7 = M w 7 ∧ ∀ k : Nat, 3 ≤ k → k ≤ 6 → M' (w + k) = M (w + k)
theorem Lf.rf {w : Nat} {M : qM} : Lf w M M := ⟨Int.le_refl _, fun _ _ => rfl, rfl, fun _ _ _ => rfl⟩
theorem Lf.tr {w : Nat} {M M1 M2 : qM} (h : Lf w M M1) (h2 : Lf w M1 M2) : Lf w M M2 := ⟨Int.le_trans h.1 h2.1, fun s hs => (h2.2.1 s (Int.lt_of_lt_of_le hs h.1)).trans (h.2.1 s hs), h2.2.2.1.trans h.2.2.1, fun k h3 h6 => (h2.2.2.2 k h3 h6).trans (h.2.2.2 k h3 h6)⟩
theorem lawne {w c : Nat} (hw : q_isLaw w) (hc : c < 37 ∨ 53 ≤ c) : w ≠ c ∧ w + 1 ≠ c := by rcases hw with rfl | rfl <;> omega
theorem Lf.mu {w : Nat} (hw : q_isLaw w) {M0 M m : qM} {c s : Nat} {v : Int32} (h : Lf w M0 M) (e : m = mu M c s v) (hc : c < 37 ∨ 53 ≤ c) : Lf w M0 m := by
  obtain ⟨n1, n2⟩ := lawne hw hc
  subst e
  have nk : ∀ k, k ≤ 6 → w + k ≠ c := fun k hk => by rcases hw with rfl | rfl <;> omega
  refine h.tr ⟨?_, fun s2 _ => mu_ne (Or.inl n2), mu_ne (Or.inl n1), fun k _ h6 => mu_nc (nk k h6)⟩
  rw [mu_ne (Or.inl n1)]
  exact Int.le_refl _
theorem outl {l : List Bx} {w s : Nat} (hw : 37 ≤ w ∧ w < 53) (h : l.all (fun b => decide (b.2.1 ≤ 37) || decide (53 ≤ b.1)) = true) : ∀ b ∈ l, ¬ inB b w s := by
  intro b hb hi
  rw [List.all_eq_true] at h
  have h3 := h b hb
  obtain ⟨a1, a2, _⟩ := hi
  simp only [Bool.or_eq_true, decide_eq_true_eq] at h3
  omega
theorem lawin {w : Nat} (hw : q_isLaw w) : (37 ≤ w ∧ w < 53) ∧ (37 ≤ w + 1 ∧ w + 1 < 53) := by rcases hw with rfl | rfl <;> omega
theorem Lf.out {w : Nat} (hw : q_isLaw w) {l : List Bx} {M0 M M1 : qM} (h : Lf w M0 M) (hs : Sm l M M1) (hl : l.all (fun b => decide (b.2.1 ≤ 37) || decide (53 ≤ b.1)) = true) : Lf w M0 M1 := by
  refine h.tr ⟨?_, fun s2 _ => hs _ _ (outl (lawin hw).2 hl), hs _ _ (outl (lawin hw).1 hl), fun k _ h6 => funext (fun s2 => hs _ _ (outl (by rcases hw with rfl | rfl <;> omega) hl))⟩
  rw [hs _ _ (outl (lawin hw).1 hl)]
  exact Int.le_refl _
theorem G_law {M : qM} {w : Nat} (hw : q_isLaw w) (hG : G M) {s : Nat} {a1 a2 : Int32} (h1 : 0 ≤ a2.toInt ∧ a2.toInt ≤ 1000000) (h2 : a1.toInt = 1 → a2.toInt ≤ 11) : G (mu (mu M (w + 1) s a1) (w + 2) s a2) := by
  obtain ⟨g1, g2, g3, g4⟩ := hG
  have e : ∀ c s2, ¬ (s2 = s ∧ (c = w + 1 ∨ c = w + 2)) → mu (mu M (w + 1) s a1) (w + 2) s a2 c s2 = M c s2 := fun c s2 h => by
    rw [mu_ne (by omega), mu_ne (by omega)]
  have e1 : mu (mu M (w + 1) s a1) (w + 2) s a2 (w + 1) s = a1 := by rw [mu_ne (Or.inl (by omega)), mu_at]
  have e2 : mu (mu M (w + 1) s a1) (w + 2) s a2 (w + 2) s = a2 := mu_at
  have ef : ∀ c, c ≠ w + 1 → c ≠ w + 2 → mu (mu M (w + 1) s a1) (w + 2) s a2 c = M c := fun c h3 h4 => funext (fun s2 => e c s2 (by omega))
  have hw2 : w = 37 ∨ w = 46 := hw
  refine ⟨fun c s2 => ?_, fun w2 hq s2 => ?_, ?_, ?_⟩
  · by_cases q1 : s2 = s ∧ c = w + 1
    · obtain ⟨rfl, rfl⟩ := q1
      rw [e1]
      rcases hw with rfl | rfl <;> trivial
    · by_cases q2 : s2 = s ∧ c = w + 2
      · obtain ⟨rfl, rfl⟩ := q2
        rw [e2]
        rcases hw with rfl | rfl <;> exact h1
      · rw [e c s2 (by omega)]; exact g1 c s2
  · have hq2 : w2 = 37 ∨ w2 = 46 := hq
    by_cases q1 : s2 = s ∧ w2 = w
    · obtain ⟨rfl, rfl⟩ := q1
      rw [e1, e2]; exact h2
    · rw [e (w2 + 1) s2 (by omega), e (w2 + 2) s2 (by omega)]
      exact g2 w2 hq s2
  · unfold Wm
    rw [ef 77 (by omega) (by omega), ef 91 (by omega) (by omega), ef 93 (by omega) (by omega), ef 94 (by omega) (by omega), ef 95 (by omega) (by omega)]
    exact g3
  · unfold Ww
    rw [ef 102 (by omega) (by omega), ef 103 (by omega) (by omega), ef 104 (by omega) (by omega)]
    exact g4
theorem tnc (a : Int32) : a.toNatClampNeg = a.toInt.toNat := rfl
theorem r78 {M : qM} (hG : G M) {c s : Nat} (hc : c = 78 ∨ c = 79 ∨ c = 80) (h1 : 296 ≤ s) (h2 : s < 312) : 0 ≤ (M c s).toInt ∧ (M c s).toInt ≤ 40 := by
  have h := hG.1 c s
  unfold Rin rng at h
  rw [if_pos hc, if_pos ⟨h1, h2⟩] at h
  exact h
theorem ri78 {c s : Nat} {v : Int32} (hc : c = 78 ∨ c = 79 ∨ c = 80) (h : 0 ≤ v.toInt ∧ v.toInt ≤ 40) : Rin c s v := by
  unfold Rin rng
  rw [if_pos hc]
  by_cases q : 296 ≤ s ∧ s < 312
  · rw [if_pos q]; exact h
  · rw [if_neg q]; trivial
theorem cp78 {M : qM} {c d s : Nat} (hc : c = 78 ∨ c = 79 ∨ c = 80) (hd : d = 78 ∨ d = 79 ∨ d = 80) (hG : G M) : Rin c s (M d s) := by
  have h := hG.1 d s
  unfold Rin rng at h ⊢
  rw [if_pos hd] at h
  rw [if_pos hc]
  exact h
theorem ro78 {c s : Nat} {v : Int32} (hc : c = 78 ∨ c = 79 ∨ c = 80) (h : ¬ (296 ≤ s ∧ s < 312)) : Rin c s v := by
  unfold Rin rng
  rw [if_pos hc, if_neg h]
  trivial
/-! words over stretches of rows -/
theorem q_let_a : ∀ k : Nat, k < 12 → 0 ≤ (q_let k).toInt := by decide +kernel
theorem q_let_r (k : Nat) : k < 12 → 0 ≤ (q_let k).toInt := q_let_a k
theorem l1_ : (1 : Int32).toInt = 1 := by decide
theorem kAll_step {M m : qM} {c : Nat} {a x : Int32} {lo hi : Int} (e : ∀ s_ : Nat, s_ ≠ a.toNatClampNeg → m c s_ = M c s_) (h : ∀ i : Nat, (i : Int) < a.toInt → lo ≤ (M c i).toInt ∧ (M c i).toInt ≤ hi) (ha : 0 ≤ a.toInt) (hx : x.toInt = a.toInt + 1) (h1 : lo ≤ (m c a.toNatClampNeg).toInt) (h2 : (m c a.toNatClampNeg).toInt ≤ hi) : ∀ i : Nat, (i : Int) < x.toInt → lo ≤ (m c i).toInt ∧ (m c i).toInt ≤ hi := by
  intro i hi2
  by_cases q : i = a.toNatClampNeg
  · subst q; exact ⟨h1, h2⟩
  · rw [e i q]
    rw [tn] at q
    exact h i (by omega)
def bS (x : Int32) : Nat → Int
  | 0 => 0
  | k + 1 => bS x k + ((x >>> (nI k &&& 31)) &&& (1 : Int32)).toInt
theorem bS_s {x a : Int32} (h : 0 ≤ a.toInt) : bS x (a.toInt.toNat + 1) = bS x a.toInt.toNat + ((x >>> (a &&& 31)) &&& (1 : Int32)).toInt := by
  obtain ⟨k, hk, rfl⟩ := nI_of (x := a) (by rw [Int32.lt_iff_toInt_lt]; show ¬ a.toInt < 0; omega)
  rw [nI_toInt hk]
  rfl
theorem bS_m (x : Int32) {k : Nat} : ∀ {d : Nat}, k ≤ d → bS x k ≤ bS x d := by
  intro d
  induction d with
  | zero => intro h; rw [show k = 0 by omega]; exact Int.le_refl _
  | succ d ih =>
    intro h
    by_cases e : k = d + 1
    · rw [e]; exact Int.le_refl _
    · have h1 := ih (by omega)
      have h2 := i_and (a := x >>> (nI d &&& 31)) (b := 1) l1_ (by omega)
      have h3 : bS x (d + 1) = bS x d + ((x >>> (nI d &&& 31)) &&& (1 : Int32)).toInt := rfl
      omega
theorem bS_one : ∀ m : Nat, m < 256 → 1 ≤ m → 1 ≤ bS (nI m) 8 := by decide +kernel
theorem bS_ge {x : Int32} (h1 : 1 ≤ x.toInt) (h2 : x.toInt ≤ 255) : 1 ≤ bS x 8 := by
  obtain ⟨k, hk, rfl⟩ := nI_of (x := x) (by rw [Int32.lt_iff_toInt_lt]; show ¬ x.toInt < 0; omega)
  rw [nI_toInt hk] at h1 h2
  exact bS_one k (by omega) (by omega)
/-- each kind below b that stands among the bits stands among the own -/
def KOk (x : Int32) (b : Int) (M : qM) : Prop := ∀ k : Int32, 0 ≤ k.toInt → k.toInt < b → ((x >>> (k &&& 31)) &&& (1 : Int32)).toInt = 1 → ∃ i : Nat, (i : Int) < (M 77 43).toInt ∧ M 105 i = k
def KO (x : Int32) (M : qM) : Prop := KOk x 12 M
theorem KO_c {x : Int32} {M M' : qM} (e1 : M' 77 43 = M 77 43) (e2 : M' 105 = M 105) (h : KO x M) : KO x M' := by unfold KO KOk; rw [e1, e2]; exact h
theorem KO_0 {x : Int32} {M : qM} : KOk x ((0 : Int32).toInt) M := fun k h0 h1 _ => absurd h1 (by have : (0 : Int32).toInt = 0 := rfl; omega)
theorem KO_no {x a y : Int32} {M : qM} (h : KOk x a.toInt M) (hy : y.toInt = a.toInt + 1) (hb : ((x >>> (a &&& 31)) &&& (1 : Int32)).toInt = 0) : KOk x y.toInt M := by
  intro k h0 h1 hk
  by_cases e : k = a
  · subst e; omega
  · exact h k h0 (by have : k.toInt ≠ a.toInt := fun q => e (Int32.toInt_inj.mp q); omega) hk
theorem KO_yes {x a y : Int32} {M m : qM} (h : KOk x a.toInt M) (hy : y.toInt = a.toInt + 1) (e1 : (m 77 43).toInt = (M 77 43).toInt + 1) (h0 : 0 ≤ (M 77 43).toInt) (e2 : m 105 (M 77 43).toNatClampNeg = a) (e3 : ∀ s_ : Nat, s_ ≠ (M 77 43).toNatClampNeg → m 105 s_ = M 105 s_) : KOk x y.toInt m := by
  intro k k0 k1 hk
  by_cases e : k = a
  · subst e
    exact ⟨_, by rw [tn]; omega, e2⟩
  · obtain ⟨i, hi, he⟩ := h k k0 (by have : k.toInt ≠ a.toInt := fun q => e (Int32.toInt_inj.mp q); omega) hk
    exact ⟨i, by omega, by rw [e3 i (by rw [tn]; omega)]; exact he⟩
def KRb (b : Int) (M : qM) : Prop := ∀ i : Nat, (i : Int) < (M 77 36).toInt → (M 101 i).toInt ≤ b
theorem KRb_c {b : Int} {M M' : qM} (e1 : M' 77 36 = M 77 36) (e2 : M' 101 = M 101) (h : KRb b M) : KRb b M' := by unfold KRb; rw [e1, e2]; exact h
def KR (M : qM) : Prop := ∀ i : Nat, (i : Int) < (M 77 36).toInt → (M 101 i).toInt ≤ (M 77 35).toInt
theorem KR_c {M M' : qM} (e0 : M' 77 35 = M 77 35) (e1 : M' 77 36 = M 77 36) (e2 : M' 101 = M 101) (h : KR M) : KR M' := by unfold KR; rw [e0, e1, e2]; exact h
theorem KR_of {b : Int} {M m : qM} (h : KRb b M) (e1 : m 77 36 = M 77 36) (e2 : m 101 = M 101) (hb : b ≤ (m 77 35).toInt) : KR m := by
  intro i hi
  rw [e1] at hi
  rw [e2]
  exact Int.le_trans (h i hi) hb
theorem KR_up {M m : qM} (h : KR M) (e1 : m 77 36 = M 77 36) (e2 : m 101 = M 101) (hb : (M 77 35).toInt ≤ (m 77 35).toInt) : KR m := KR_of (b := (M 77 35).toInt) h e1 e2 hb
theorem KR_dn {b : Int} {M m : qM} (h : KR M) (e1 : (m 77 36).toInt ≤ (M 77 36).toInt) (e2 : m 101 = M 101) (hb : (M 77 35).toInt ≤ b) : KRb b m := by
  intro i hi
  rw [e2]
  exact Int.le_trans (h i (by omega)) hb
theorem KR_push {j : Nat} {M m : qM} (h : KR M) (e1 : (m 77 36).toInt = (M 77 36).toInt + 1) (e2 : (M 77 35).toInt = (m 77 35).toInt) (hj : (j : Int) = (M 77 36).toInt) (e3 : ∀ s_ : Nat, s_ ≠ j → m 101 s_ = M 101 s_) (e4 : (m 101 j).toInt ≤ (M 77 35).toInt) : KR m := by
  intro i hi
  by_cases q : i = j
  · rw [q]; omega
  · rw [e3 i q]
    have := h i (by omega)
    omega
theorem KR_rd {M m : qM} {i : Nat} (h : KR M) (e2 : m 101 = M 101) (hi : (i : Int) < (M 77 36).toInt) (e : (M 77 35).toInt = (m 77 35).toInt) : (m 101 i).toInt ≤ (m 77 35).toInt := by
  rw [e2, ← e]; exact h i hi
theorem KR_0 {M : qM} (h : (M 77 36).toInt = 0) : KR M := fun i hi => absurd hi (by omega)
def KJ (M : qM) : Prop := ∀ i : Nat, (i : Int) < (M 64 9).toInt → 0 ≤ (M 65 i).toInt ∧ (M 65 i).toInt ≤ 11
theorem KJ_c {M M' : qM} (e1 : M' 64 9 = M 64 9) (e2 : M' 65 = M 65) (h : KJ M) : KJ M' := by unfold KJ; rw [e1, e2]; exact h
def KS (M : qM) : Prop := (∀ i : Nat, (i : Int) < (M 70 8).toInt → 0 ≤ (M 71 i).toInt ∧ (M 71 i).toInt ≤ 11) ∧ ∀ i : Nat, (i : Int) < (M 70 9).toInt → 0 ≤ (M 73 i).toInt ∧ (M 73 i).toInt ≤ (M 70 8).toInt - 1
theorem KS_c {M M' : qM} (e1 : M' 70 8 = M 70 8) (e2 : M' 70 9 = M 70 9) (e3 : M' 71 = M 71) (e4 : M' 73 = M 73) (h : KS M) : KS M' := by unfold KS; rw [e1, e2, e3, e4]; exact h
def KM (M : qM) : Prop := ∀ i : Nat, (i : Int) < (M 77 59).toInt → 0 ≤ (M 111 i).toInt ∧ (M 111 i).toInt ≤ 11
theorem KM_c {M M' : qM} (e1 : M' 77 59 = M 77 59) (e2 : M' 111 = M 111) (h : KM M) : KM M' := by unfold KM; rw [e1, e2]; exact h
def KQ (a : Int32) (M : qM) : Prop := ∀ i : Nat, (i : Int) < a.toInt → 0 ≤ (M 116 i).toInt ∧ (M 116 i).toInt ≤ 11
theorem KQ_c {a : Int32} {M M' : qM} (e2 : M' 116 = M 116) (h : KQ a M) : KQ a M' := by unfold KQ; rw [e2]; exact h
def KP (a : Int32) (M : qM) : Prop := ∀ q : Nat, (q : Int) < a.toInt → 0 ≤ (M 84 ((M 77 61).toInt.toNat + 2 * q)).toInt ∧ (M 84 ((M 77 61).toInt.toNat + 2 * q)).toInt ≤ (M 77 61).toInt - 1
theorem KP_c {a : Int32} {M M' : qM} (e1 : M' 77 61 = M 77 61) (e2 : M' 84 = M 84) (h : KP a M) : KP a M' := by unfold KP; rw [e1, e2]; exact h
theorem KP_rd {a q : Int32} {i : Nat} {M : qM} (h : KP a M) (e : i = (M 77 61).toInt.toNat + 2 * q.toInt.toNat) (h0 : 0 ≤ q.toInt) (h1 : q.toInt < a.toInt) : 0 ≤ (M 84 i).toInt ∧ (M 84 i).toInt ≤ (M 77 61).toInt - 1 := by
  rw [e]; exact h _ (by omega)
theorem kP_step {M : qM} {a x : Int32} {j : Nat} (h : ∀ q : Nat, (q : Int) < a.toInt → 0 ≤ (M 84 ((M 77 61).toInt.toNat + 2 * q)).toInt ∧ (M 84 ((M 77 61).toInt.toNat + 2 * q)).toInt ≤ (M 77 61).toInt - 1) (ha : 0 ≤ a.toInt) (hx : x.toInt = a.toInt + 1) (hj : j = (M 77 61).toInt.toNat + 2 * a.toInt.toNat) (h1 : 0 ≤ (M 84 j).toInt) (h2 : (M 84 j).toInt ≤ (M 77 61).toInt - 1) : ∀ q : Nat, (q : Int) < x.toInt → 0 ≤ (M 84 ((M 77 61).toInt.toNat + 2 * q)).toInt ∧ (M 84 ((M 77 61).toInt.toNat + 2 * q)).toInt ≤ (M 77 61).toInt - 1 := by
  intro q hq
  by_cases e : q = a.toInt.toNat
  · subst e; rw [← hj]; exact ⟨h1, h2⟩
  · exact h q (by omega)
theorem cp_step {M m : qM} {c1 c2 k : Nat} {a x : Int32} {y : Int} (e : m = mu M c2 a.toNatClampNeg (M c1 a.toNatClampNeg)) (h0 : 0 ≤ a.toInt) (hx : x.toInt = a.toInt + 1) (hc : (M c1 k).toInt = y) (h : a.toInt ≤ (k : Int) ∨ (M c2 k).toInt = y) : x.toInt ≤ (k : Int) ∨ (m c2 k).toInt = y := by
  by_cases q : k = a.toNatClampNeg
  · subst q; right; rw [e, mu_at]; exact hc
  · rw [e, mu_ne (Or.inr q)]
    rw [tn] at q
    omega
theorem l_m1000 : (-1000 : Int32).toInt = -1000 := by decide
theorem l_m8 : (-8 : Int32).toInt = -8 := by decide
theorem l_m4 : (-4 : Int32).toInt = -4 := by decide
theorem l_m3 : (-3 : Int32).toInt = -3 := by decide
theorem l_m2 : (-2 : Int32).toInt = -2 := by decide
theorem l_m1 : (-1 : Int32).toInt = -1 := by decide
theorem l_0 : (0 : Int32).toInt = 0 := by decide
theorem l_1 : (1 : Int32).toInt = 1 := by decide
theorem l_2 : (2 : Int32).toInt = 2 := by decide
theorem l_3 : (3 : Int32).toInt = 3 := by decide
theorem l_4 : (4 : Int32).toInt = 4 := by decide
theorem l_5 : (5 : Int32).toInt = 5 := by decide
theorem l_6 : (6 : Int32).toInt = 6 := by decide
theorem l_7 : (7 : Int32).toInt = 7 := by decide
theorem l_8 : (8 : Int32).toInt = 8 := by decide
theorem l_9 : (9 : Int32).toInt = 9 := by decide
theorem l_10 : (10 : Int32).toInt = 10 := by decide
theorem l_11 : (11 : Int32).toInt = 11 := by decide
theorem l_12 : (12 : Int32).toInt = 12 := by decide
theorem l_13 : (13 : Int32).toInt = 13 := by decide
theorem l_14 : (14 : Int32).toInt = 14 := by decide
theorem l_15 : (15 : Int32).toInt = 15 := by decide
theorem l_16 : (16 : Int32).toInt = 16 := by decide
theorem l_17 : (17 : Int32).toInt = 17 := by decide
theorem l_18 : (18 : Int32).toInt = 18 := by decide
theorem l_19 : (19 : Int32).toInt = 19 := by decide
theorem l_20 : (20 : Int32).toInt = 20 := by decide
theorem l_21 : (21 : Int32).toInt = 21 := by decide
theorem l_22 : (22 : Int32).toInt = 22 := by decide
theorem l_23 : (23 : Int32).toInt = 23 := by decide
theorem l_24 : (24 : Int32).toInt = 24 := by decide
theorem l_30 : (30 : Int32).toInt = 30 := by decide
theorem l_31 : (31 : Int32).toInt = 31 := by decide
theorem l_32 : (32 : Int32).toInt = 32 := by decide
theorem l_33 : (33 : Int32).toInt = 33 := by decide
theorem l_37 : (37 : Int32).toInt = 37 := by decide
theorem l_38 : (38 : Int32).toInt = 38 := by decide
theorem l_40 : (40 : Int32).toInt = 40 := by decide
theorem l_41 : (41 : Int32).toInt = 41 := by decide
theorem l_42 : (42 : Int32).toInt = 42 := by decide
theorem l_43 : (43 : Int32).toInt = 43 := by decide
theorem l_44 : (44 : Int32).toInt = 44 := by decide
theorem l_45 : (45 : Int32).toInt = 45 := by decide
theorem l_47 : (47 : Int32).toInt = 47 := by decide
theorem l_48 : (48 : Int32).toInt = 48 := by decide
theorem l_50 : (50 : Int32).toInt = 50 := by decide
theorem l_57 : (57 : Int32).toInt = 57 := by decide
theorem l_59 : (59 : Int32).toInt = 59 := by decide
theorem l_60 : (60 : Int32).toInt = 60 := by decide
theorem l_61 : (61 : Int32).toInt = 61 := by decide
theorem l_62 : (62 : Int32).toInt = 62 := by decide
theorem l_63 : (63 : Int32).toInt = 63 := by decide
theorem l_64 : (64 : Int32).toInt = 64 := by decide
theorem l_70 : (70 : Int32).toInt = 70 := by decide
theorem l_80 : (80 : Int32).toInt = 80 := by decide
theorem l_90 : (90 : Int32).toInt = 90 := by decide
theorem l_91 : (91 : Int32).toInt = 91 := by decide
theorem l_93 : (93 : Int32).toInt = 93 := by decide
theorem l_96 : (96 : Int32).toInt = 96 := by decide
theorem l_97 : (97 : Int32).toInt = 97 := by decide
theorem l_99 : (99 : Int32).toInt = 99 := by decide
theorem l_100 : (100 : Int32).toInt = 100 := by decide
theorem l_101 : (101 : Int32).toInt = 101 := by decide
theorem l_102 : (102 : Int32).toInt = 102 := by decide
theorem l_103 : (103 : Int32).toInt = 103 := by decide
theorem l_104 : (104 : Int32).toInt = 104 := by decide
theorem l_105 : (105 : Int32).toInt = 105 := by decide
theorem l_106 : (106 : Int32).toInt = 106 := by decide
theorem l_107 : (107 : Int32).toInt = 107 := by decide
theorem l_108 : (108 : Int32).toInt = 108 := by decide
theorem l_109 : (109 : Int32).toInt = 109 := by decide
theorem l_110 : (110 : Int32).toInt = 110 := by decide
theorem l_111 : (111 : Int32).toInt = 111 := by decide
theorem l_112 : (112 : Int32).toInt = 112 := by decide
theorem l_113 : (113 : Int32).toInt = 113 := by decide
theorem l_114 : (114 : Int32).toInt = 114 := by decide
theorem l_115 : (115 : Int32).toInt = 115 := by decide
theorem l_116 : (116 : Int32).toInt = 116 := by decide
theorem l_117 : (117 : Int32).toInt = 117 := by decide
theorem l_118 : (118 : Int32).toInt = 118 := by decide
theorem l_119 : (119 : Int32).toInt = 119 := by decide
theorem l_120 : (120 : Int32).toInt = 120 := by decide
theorem l_121 : (121 : Int32).toInt = 121 := by decide
theorem l_124 : (124 : Int32).toInt = 124 := by decide
theorem l_192 : (192 : Int32).toInt = 192 := by decide
theorem l_200 : (200 : Int32).toInt = 200 := by decide
theorem l_240 : (240 : Int32).toInt = 240 := by decide
theorem l_255 : (255 : Int32).toInt = 255 := by decide
theorem l_256 : (256 : Int32).toInt = 256 := by decide
theorem l_260 : (260 : Int32).toInt = 260 := by decide
theorem l_288 : (288 : Int32).toInt = 288 := by decide
theorem l_296 : (296 : Int32).toInt = 296 := by decide
theorem l_304 : (304 : Int32).toInt = 304 := by decide
theorem l_314 : (314 : Int32).toInt = 314 := by decide
theorem l_320 : (320 : Int32).toInt = 320 := by decide
theorem l_634 : (634 : Int32).toInt = 634 := by decide
theorem l_954 : (954 : Int32).toInt = 954 := by decide
theorem l_999 : (999 : Int32).toInt = 999 := by decide
theorem l_2048 : (2048 : Int32).toInt = 2048 := by decide
theorem l_8192 : (8192 : Int32).toInt = 8192 := by decide
theorem l_9999 : (9999 : Int32).toInt = 9999 := by decide
theorem l_99999 : (99999 : Int32).toInt = 99999 := by decide
theorem l_1048576 : (1048576 : Int32).toInt = 1048576 := by decide
theorem l_252645135 : (252645135 : Int32).toInt = 252645135 := by decide
theorem l_858993459 : (858993459 : Int32).toInt = 858993459 := by decide
theorem l_1000000000 : (1000000000 : Int32).toInt = 1000000000 := by decide
theorem l_1431655765 : (1431655765 : Int32).toInt = 1431655765 := by decide
theorem r_1_1 {M : qM} (hG : G M) : 0 ≤ (M 1 1).toInt ∧ (M 1 1).toInt ≤ 260 := hG.1 1 1
theorem r_1_2 {M : qM} (hG : G M) : 0 ≤ (M 1 2).toInt ∧ (M 1 2).toInt ≤ 240 := hG.1 1 2
theorem r_1_3 {M : qM} (hG : G M) : 0 ≤ (M 1 3).toInt ∧ (M 1 3).toInt ≤ 240 := hG.1 1 3
theorem r_2 {M : qM} (hG : G M) (s : Nat) : 0 ≤ (M 2 s).toInt ∧ (M 2 s).toInt ≤ 255 := hG.1 2 s
theorem r_14 {M : qM} (hG : G M) (s : Nat) : 0 ≤ (M 14 s).toInt ∧ (M 14 s).toInt ≤ 40 := hG.1 14 s
theorem r_15 {M : qM} (hG : G M) (s : Nat) : 0 ≤ (M 15 s).toInt ∧ (M 15 s).toInt ≤ 40 := hG.1 15 s
theorem r_23 {M : qM} (hG : G M) (s : Nat) : 0 ≤ (M 23 s).toInt ∧ (M 23 s).toInt ≤ 40 := hG.1 23 s
theorem r_24 {M : qM} (hG : G M) (s : Nat) : 0 ≤ (M 24 s).toInt ∧ (M 24 s).toInt ≤ 40 := hG.1 24 s
theorem r_32 {M : qM} (hG : G M) (s : Nat) : 0 ≤ (M 32 s).toInt ∧ (M 32 s).toInt ≤ 40 := hG.1 32 s
theorem r_33 {M : qM} (hG : G M) (s : Nat) : 0 ≤ (M 33 s).toInt ∧ (M 33 s).toInt ≤ 40 := hG.1 33 s
theorem r_37_6 {M : qM} (hG : G M) : 0 ≤ (M 37 6).toInt ∧ (M 37 6).toInt ≤ 240 := hG.1 37 6
theorem r_37_7 {M : qM} (hG : G M) : 0 ≤ (M 37 7).toInt ∧ (M 37 7).toInt ≤ 16 := hG.1 37 7
theorem r_39 {M : qM} (hG : G M) (s : Nat) : 0 ≤ (M 39 s).toInt ∧ (M 39 s).toInt ≤ 1000000 := hG.1 39 s
theorem r_41 {M : qM} (hG : G M) (s : Nat) : 0 ≤ (M 41 s).toInt ∧ (M 41 s).toInt ≤ 240 := hG.1 41 s
theorem r_42 {M : qM} (hG : G M) (s : Nat) : 0 ≤ (M 42 s).toInt ∧ (M 42 s).toInt ≤ 240 := hG.1 42 s
theorem r_43 {M : qM} (hG : G M) (s : Nat) : 0 ≤ (M 43 s).toInt ∧ (M 43 s).toInt ≤ 240 := hG.1 43 s
theorem r_46_6 {M : qM} (hG : G M) : 0 ≤ (M 46 6).toInt ∧ (M 46 6).toInt ≤ 240 := hG.1 46 6
theorem r_46_7 {M : qM} (hG : G M) : 0 ≤ (M 46 7).toInt ∧ (M 46 7).toInt ≤ 16 := hG.1 46 7
theorem r_48 {M : qM} (hG : G M) (s : Nat) : 0 ≤ (M 48 s).toInt ∧ (M 48 s).toInt ≤ 1000000 := hG.1 48 s
theorem r_50 {M : qM} (hG : G M) (s : Nat) : 0 ≤ (M 50 s).toInt ∧ (M 50 s).toInt ≤ 240 := hG.1 50 s
theorem r_51 {M : qM} (hG : G M) (s : Nat) : 0 ≤ (M 51 s).toInt ∧ (M 51 s).toInt ≤ 240 := hG.1 51 s
theorem r_52 {M : qM} (hG : G M) (s : Nat) : 0 ≤ (M 52 s).toInt ∧ (M 52 s).toInt ≤ 240 := hG.1 52 s
theorem r_53_3 {M : qM} (hG : G M) : 0 ≤ (M 53 3).toInt ∧ (M 53 3).toInt ≤ 40 := hG.1 53 3
theorem r_56_10 {M : qM} (hG : G M) : 0 ≤ (M 56 10).toInt ∧ (M 56 10).toInt ≤ 4 := hG.1 56 10
theorem r_57 {M : qM} (hG : G M) (s : Nat) : 0 ≤ (M 57 s).toInt ∧ (M 57 s).toInt ≤ 11 := hG.1 57 s
theorem r_64_9 {M : qM} (hG : G M) : 0 ≤ (M 64 9).toInt ∧ (M 64 9).toInt ≤ 8 := hG.1 64 9
theorem r_64_10 {M : qM} (hG : G M) : 0 ≤ (M 64 10).toInt ∧ (M 64 10).toInt ≤ 3 := hG.1 64 10
theorem r_64_12 {M : qM} (hG : G M) : 0 ≤ (M 64 12).toInt ∧ (M 64 12).toInt ≤ 6561 := hG.1 64 12
theorem r_65 {M : qM} (hG : G M) (s : Nat) : (-1) ≤ (M 65 s).toInt ∧ (M 65 s).toInt ≤ 255 := hG.1 65 s
theorem r_66 {M : qM} (hG : G M) (s : Nat) : 0 ≤ (M 66 s).toInt ∧ (M 66 s).toInt ≤ 7 := hG.1 66 s
theorem r_69 {M : qM} (hG : G M) (s : Nat) : 0 ≤ (M 69 s).toInt ∧ (M 69 s).toInt ≤ 255 := hG.1 69 s
theorem r_70_8 {M : qM} (hG : G M) : 0 ≤ (M 70 8).toInt ∧ (M 70 8).toInt ≤ 4 := hG.1 70 8
theorem r_70_9 {M : qM} (hG : G M) : 0 ≤ (M 70 9).toInt ∧ (M 70 9).toInt ≤ 10 := hG.1 70 9
theorem r_71 {M : qM} (hG : G M) (s : Nat) : (-1) ≤ (M 71 s).toInt ∧ (M 71 s).toInt ≤ 255 := hG.1 71 s
theorem r_73 {M : qM} (hG : G M) (s : Nat) : (-1) ≤ (M 73 s).toInt ∧ (M 73 s).toInt ≤ 255 := hG.1 73 s
theorem r_77_8 {M : qM} (hG : G M) : 0 ≤ (M 77 8).toInt ∧ (M 77 8).toInt ≤ 260 := hG.1 77 8
theorem r_77_9 {M : qM} (hG : G M) : 0 ≤ (M 77 9).toInt ∧ (M 77 9).toInt ≤ 240 := hG.1 77 9
theorem r_77_10 {M : qM} (hG : G M) : 0 ≤ (M 77 10).toInt ∧ (M 77 10).toInt ≤ 240 := hG.1 77 10
theorem r_77_14 {M : qM} (hG : G M) : 0 ≤ (M 77 14).toInt ∧ (M 77 14).toInt ≤ 260 := hG.1 77 14
theorem r_77_15 {M : qM} (hG : G M) : 0 ≤ (M 77 15).toInt ∧ (M 77 15).toInt ≤ 260 := hG.1 77 15
theorem r_77_16 {M : qM} (hG : G M) : 0 ≤ (M 77 16).toInt ∧ (M 77 16).toInt ≤ 16 := hG.1 77 16
theorem r_77_17 {M : qM} (hG : G M) : 0 ≤ (M 77 17).toInt ∧ (M 77 17).toInt ≤ 16 := hG.1 77 17
theorem r_77_35 {M : qM} (hG : G M) : 0 ≤ (M 77 35).toInt ∧ (M 77 35).toInt ≤ 40 := hG.1 77 35
theorem r_77_36 {M : qM} (hG : G M) : 0 ≤ (M 77 36).toInt ∧ (M 77 36).toInt ≤ 3 := hG.1 77 36
theorem r_77_43 {M : qM} (hG : G M) : 0 ≤ (M 77 43).toInt ∧ (M 77 43).toInt ≤ 4 := hG.1 77 43
theorem r_77_44 {M : qM} (hG : G M) : 0 ≤ (M 77 44).toInt ∧ (M 77 44).toInt ≤ 7 := hG.1 77 44
theorem r_77_59 {M : qM} (hG : G M) : 0 ≤ (M 77 59).toInt ∧ (M 77 59).toInt ≤ 8 := hG.1 77 59
theorem r_77_60 {M : qM} (hG : G M) : 0 ≤ (M 77 60).toInt ∧ (M 77 60).toInt ≤ 3 := hG.1 77 60
theorem r_77_61 {M : qM} (hG : G M) : 0 ≤ (M 77 61).toInt ∧ (M 77 61).toInt ≤ 4 := hG.1 77 61
theorem r_84 {M : qM} (hG : G M) (s : Nat) : (-128) ≤ (M 84 s).toInt ∧ (M 84 s).toInt ≤ 127 := hG.1 84 s
theorem r_85 {M : qM} (hG : G M) (s : Nat) : 0 ≤ (M 85 s).toInt ∧ (M 85 s).toInt ≤ 20000000 := hG.1 85 s
theorem r_86 {M : qM} (hG : G M) (s : Nat) : 0 ≤ (M 86 s).toInt ∧ (M 86 s).toInt ≤ 20000000 := hG.1 86 s
theorem r_88 {M : qM} (hG : G M) (s : Nat) : 0 ≤ (M 88 s).toInt ∧ (M 88 s).toInt ≤ 250 := hG.1 88 s
theorem r_89 {M : qM} (hG : G M) (s : Nat) : 0 ≤ (M 89 s).toInt ∧ (M 89 s).toInt ≤ 250 := hG.1 89 s
theorem r_90 {M : qM} (hG : G M) (s : Nat) : 0 ≤ (M 90 s).toInt ∧ (M 90 s).toInt ≤ 250 := hG.1 90 s
theorem r_91 {M : qM} (hG : G M) (s : Nat) : 0 ≤ (M 91 s).toInt ∧ (M 91 s).toInt ≤ 20000000 := hG.1 91 s
theorem r_93 {M : qM} (hG : G M) (s : Nat) : 0 ≤ (M 93 s).toInt ∧ (M 93 s).toInt ≤ 250 := hG.1 93 s
theorem r_94 {M : qM} (hG : G M) (s : Nat) : 0 ≤ (M 94 s).toInt ∧ (M 94 s).toInt ≤ 250 := hG.1 94 s
theorem r_95 {M : qM} (hG : G M) (s : Nat) : 0 ≤ (M 95 s).toInt ∧ (M 95 s).toInt ≤ 250 := hG.1 95 s
theorem r_101 {M : qM} (hG : G M) (s : Nat) : 0 ≤ (M 101 s).toInt ∧ (M 101 s).toInt ≤ 40 := hG.1 101 s
theorem r_102 {M : qM} (hG : G M) (s : Nat) : 0 ≤ (M 102 s).toInt ∧ (M 102 s).toInt ≤ 3 := hG.1 102 s
theorem r_103 {M : qM} (hG : G M) (s : Nat) : 0 ≤ (M 103 s).toInt ∧ (M 103 s).toInt ≤ 3 := hG.1 103 s
theorem r_104 {M : qM} (hG : G M) (s : Nat) : 0 ≤ (M 104 s).toInt ∧ (M 104 s).toInt ≤ 3 := hG.1 104 s
theorem r_105 {M : qM} (hG : G M) (s : Nat) : 0 ≤ (M 105 s).toInt ∧ (M 105 s).toInt ≤ 11 := hG.1 105 s
theorem r_108 {M : qM} (hG : G M) (s : Nat) : 0 ≤ (M 108 s).toInt ∧ (M 108 s).toInt ≤ 19 := hG.1 108 s
theorem r_110 {M : qM} (hG : G M) (s : Nat) : 0 ≤ (M 110 s).toInt ∧ (M 110 s).toInt ≤ 1 := hG.1 110 s
theorem r_111 {M : qM} (hG : G M) (s : Nat) : (-128) ≤ (M 111 s).toInt ∧ (M 111 s).toInt ≤ 127 := hG.1 111 s
theorem r_112 {M : qM} (hG : G M) (s : Nat) : 0 ≤ (M 112 s).toInt ∧ (M 112 s).toInt ≤ 7 := hG.1 112 s
theorem r_116 {M : qM} (hG : G M) (s : Nat) : (-128) ≤ (M 116 s).toInt ∧ (M 116 s).toInt ≤ 127 := hG.1 116 s
theorem r_119 {M : qM} (hG : G M) (s : Nat) : 0 ≤ (M 119 s).toInt ∧ (M 119 s).toInt ≤ 1 := hG.1 119 s
theorem r_120 {M : qM} (hG : G M) (s : Nat) : 0 ≤ (M 120 s).toInt ∧ (M 120 s).toInt ≤ 1 := hG.1 120 s
theorem rw_2 {M : qM} {w : Nat} (hw : q_isLaw w) (hG : G M) (s : Nat) : 0 ≤ (M (w + 2) s).toInt ∧ (M (w + 2) s).toInt ≤ 1000000 := by
  rcases hw with rfl | rfl
  · exact hG.1 39 s
  · exact hG.1 48 s
theorem rw_4 {M : qM} {w : Nat} (hw : q_isLaw w) (hG : G M) (s : Nat) : 0 ≤ (M (w + 4) s).toInt ∧ (M (w + 4) s).toInt ≤ 240 := by
  rcases hw with rfl | rfl
  · exact hG.1 41 s
  · exact hG.1 50 s
theorem rw_5 {M : qM} {w : Nat} (hw : q_isLaw w) (hG : G M) (s : Nat) : 0 ≤ (M (w + 5) s).toInt ∧ (M (w + 5) s).toInt ≤ 240 := by
  rcases hw with rfl | rfl
  · exact hG.1 42 s
  · exact hG.1 51 s
theorem rw_6 {M : qM} {w : Nat} (hw : q_isLaw w) (hG : G M) (s : Nat) : 0 ≤ (M (w + 6) s).toInt ∧ (M (w + 6) s).toInt ≤ 240 := by
  rcases hw with rfl | rfl
  · exact hG.1 43 s
  · exact hG.1 52 s
theorem rw_0_6 {M : qM} {w : Nat} (hw : q_isLaw w) (hG : G M)  : 0 ≤ (M w 6).toInt ∧ (M w 6).toInt ≤ 240 := by
  rcases hw with rfl | rfl
  · exact hG.1 37 6
  · exact hG.1 46 6
theorem rw_0_7 {M : qM} {w : Nat} (hw : q_isLaw w) (hG : G M)  : 0 ≤ (M w 7).toInt ∧ (M w 7).toInt ≤ 16 := by
  rcases hw with rfl | rfl
  · exact hG.1 37 7
  · exact hG.1 46 7
theorem rn_0_0 (v : Int32) : Rin 0 0 v := trivial
theorem rn_0_1 (v : Int32) : Rin 0 1 v := trivial
theorem rn_0_2 (v : Int32) : Rin 0 2 v := trivial
theorem rn_0_3 (v : Int32) : Rin 0 3 v := trivial
theorem rn_0_4 (v : Int32) : Rin 0 4 v := trivial
theorem rn_0_5 (v : Int32) : Rin 0 5 v := trivial
theorem rn_0_6 (v : Int32) : Rin 0 6 v := trivial
theorem rn_0_7 (v : Int32) : Rin 0 7 v := trivial
theorem rn_0_8 (v : Int32) : Rin 0 8 v := trivial
theorem rn_0_9 (v : Int32) : Rin 0 9 v := trivial
theorem rn_0_10 (v : Int32) : Rin 0 10 v := trivial
theorem rn_0_11 (v : Int32) : Rin 0 11 v := trivial
theorem rn_0_12 (v : Int32) : Rin 0 12 v := trivial
theorem rn_0_13 (v : Int32) : Rin 0 13 v := trivial
theorem rn_0_14 (v : Int32) : Rin 0 14 v := trivial
theorem rn_0_15 (v : Int32) : Rin 0 15 v := trivial
theorem nw_0 (s : Nat) : nW 0 s := ⟨by decide, by decide, by decide, by decide, fun h => absurd h (by decide), by decide, by decide⟩
theorem rn_1_0 (v : Int32) : Rin 1 0 v := trivial
theorem rn_1_4 (v : Int32) : Rin 1 4 v := trivial
theorem rn_1_5 (v : Int32) : Rin 1 5 v := trivial
theorem rn_1_6 (v : Int32) : Rin 1 6 v := trivial
theorem rn_1_7 (v : Int32) : Rin 1 7 v := trivial
theorem rn_1_8 (v : Int32) : Rin 1 8 v := trivial
theorem rn_1_9 (v : Int32) : Rin 1 9 v := trivial
theorem rn_1_10 (v : Int32) : Rin 1 10 v := trivial
theorem rn_1_11 (v : Int32) : Rin 1 11 v := trivial
theorem rn_1_12 (v : Int32) : Rin 1 12 v := trivial
theorem rn_1_13 (v : Int32) : Rin 1 13 v := trivial
theorem rn_1_14 (v : Int32) : Rin 1 14 v := trivial
theorem rn_1_15 (v : Int32) : Rin 1 15 v := trivial
theorem nw_1 (s : Nat) : nW 1 s := ⟨by decide, by decide, by decide, by decide, fun h => absurd h (by decide), by decide, by decide⟩
theorem nw_2 (s : Nat) : nW 2 s := ⟨by decide, by decide, by decide, by decide, fun h => absurd h (by decide), by decide, by decide⟩
theorem rn_3_0 (v : Int32) : Rin 3 0 v := trivial
theorem rn_3_1 (v : Int32) : Rin 3 1 v := trivial
theorem rn_3_2 (v : Int32) : Rin 3 2 v := trivial
theorem rn_3_3 (v : Int32) : Rin 3 3 v := trivial
theorem rn_3_4 (v : Int32) : Rin 3 4 v := trivial
theorem rn_3_5 (v : Int32) : Rin 3 5 v := trivial
theorem rn_3_6 (v : Int32) : Rin 3 6 v := trivial
theorem rn_3_7 (v : Int32) : Rin 3 7 v := trivial
theorem rn_3_8 (v : Int32) : Rin 3 8 v := trivial
theorem rn_3_9 (v : Int32) : Rin 3 9 v := trivial
theorem rn_3_10 (v : Int32) : Rin 3 10 v := trivial
theorem rn_3_11 (v : Int32) : Rin 3 11 v := trivial
theorem rn_3_12 (v : Int32) : Rin 3 12 v := trivial
theorem rn_3_13 (v : Int32) : Rin 3 13 v := trivial
theorem rn_3_14 (v : Int32) : Rin 3 14 v := trivial
theorem rn_3_15 (v : Int32) : Rin 3 15 v := trivial
theorem nw_3 (s : Nat) : nW 3 s := ⟨by decide, by decide, by decide, by decide, fun h => absurd h (by decide), by decide, by decide⟩
theorem rn_4 (s : Nat) (v : Int32) : Rin 4 s v := trivial
theorem nw_4 (s : Nat) : nW 4 s := ⟨by decide, by decide, by decide, by decide, fun h => absurd h (by decide), by decide, by decide⟩
theorem rn_5 (s : Nat) (v : Int32) : Rin 5 s v := trivial
theorem nw_5 (s : Nat) : nW 5 s := ⟨by decide, by decide, by decide, by decide, fun h => absurd h (by decide), by decide, by decide⟩
theorem rn_6 (s : Nat) (v : Int32) : Rin 6 s v := trivial
theorem nw_6 (s : Nat) : nW 6 s := ⟨by decide, by decide, by decide, by decide, fun h => absurd h (by decide), by decide, by decide⟩
theorem rn_7_0 (v : Int32) : Rin 7 0 v := trivial
theorem rn_7_1 (v : Int32) : Rin 7 1 v := trivial
theorem rn_7_2 (v : Int32) : Rin 7 2 v := trivial
theorem rn_7_3 (v : Int32) : Rin 7 3 v := trivial
theorem rn_7_4 (v : Int32) : Rin 7 4 v := trivial
theorem rn_7_5 (v : Int32) : Rin 7 5 v := trivial
theorem rn_7_6 (v : Int32) : Rin 7 6 v := trivial
theorem rn_7_7 (v : Int32) : Rin 7 7 v := trivial
theorem rn_7_8 (v : Int32) : Rin 7 8 v := trivial
theorem rn_7_9 (v : Int32) : Rin 7 9 v := trivial
theorem rn_7_10 (v : Int32) : Rin 7 10 v := trivial
theorem rn_7_11 (v : Int32) : Rin 7 11 v := trivial
theorem rn_7_12 (v : Int32) : Rin 7 12 v := trivial
theorem rn_7_13 (v : Int32) : Rin 7 13 v := trivial
theorem rn_7_14 (v : Int32) : Rin 7 14 v := trivial
theorem rn_7_15 (v : Int32) : Rin 7 15 v := trivial
theorem nw_7 (s : Nat) : nW 7 s := ⟨by decide, by decide, by decide, by decide, fun h => absurd h (by decide), by decide, by decide⟩
theorem rn_8 (s : Nat) (v : Int32) : Rin 8 s v := trivial
theorem nw_8 (s : Nat) : nW 8 s := ⟨by decide, by decide, by decide, by decide, fun h => absurd h (by decide), by decide, by decide⟩
theorem rn_9 (s : Nat) (v : Int32) : Rin 9 s v := trivial
theorem nw_9 (s : Nat) : nW 9 s := ⟨by decide, by decide, by decide, by decide, fun h => absurd h (by decide), by decide, by decide⟩
theorem rn_10 (s : Nat) (v : Int32) : Rin 10 s v := trivial
theorem nw_10 (s : Nat) : nW 10 s := ⟨by decide, by decide, by decide, by decide, fun h => absurd h (by decide), by decide, by decide⟩
theorem rn_11 (s : Nat) (v : Int32) : Rin 11 s v := trivial
theorem nw_11 (s : Nat) : nW 11 s := ⟨by decide, by decide, by decide, by decide, fun h => absurd h (by decide), by decide, by decide⟩
theorem rn_12 (s : Nat) (v : Int32) : Rin 12 s v := trivial
theorem nw_12 (s : Nat) : nW 12 s := ⟨by decide, by decide, by decide, by decide, fun h => absurd h (by decide), by decide, by decide⟩
theorem rn_13 (s : Nat) (v : Int32) : Rin 13 s v := trivial
theorem nw_13 (s : Nat) : nW 13 s := ⟨by decide, by decide, by decide, by decide, fun h => absurd h (by decide), by decide, by decide⟩
theorem nw_14 (s : Nat) : nW 14 s := ⟨by decide, by decide, by decide, by decide, fun h => absurd h (by decide), by decide, by decide⟩
theorem nw_15 (s : Nat) : nW 15 s := ⟨by decide, by decide, by decide, by decide, fun h => absurd h (by decide), by decide, by decide⟩
theorem rn_16_0 (v : Int32) : Rin 16 0 v := trivial
theorem rn_16_1 (v : Int32) : Rin 16 1 v := trivial
theorem rn_16_2 (v : Int32) : Rin 16 2 v := trivial
theorem rn_16_3 (v : Int32) : Rin 16 3 v := trivial
theorem rn_16_4 (v : Int32) : Rin 16 4 v := trivial
theorem rn_16_5 (v : Int32) : Rin 16 5 v := trivial
theorem rn_16_6 (v : Int32) : Rin 16 6 v := trivial
theorem rn_16_7 (v : Int32) : Rin 16 7 v := trivial
theorem rn_16_8 (v : Int32) : Rin 16 8 v := trivial
theorem rn_16_9 (v : Int32) : Rin 16 9 v := trivial
theorem rn_16_10 (v : Int32) : Rin 16 10 v := trivial
theorem rn_16_11 (v : Int32) : Rin 16 11 v := trivial
theorem rn_16_12 (v : Int32) : Rin 16 12 v := trivial
theorem rn_16_13 (v : Int32) : Rin 16 13 v := trivial
theorem rn_16_14 (v : Int32) : Rin 16 14 v := trivial
theorem rn_16_15 (v : Int32) : Rin 16 15 v := trivial
theorem nw_16 (s : Nat) : nW 16 s := ⟨by decide, by decide, by decide, by decide, fun h => absurd h (by decide), by decide, by decide⟩
theorem rn_17 (s : Nat) (v : Int32) : Rin 17 s v := trivial
theorem nw_17 (s : Nat) : nW 17 s := ⟨by decide, by decide, by decide, by decide, fun h => absurd h (by decide), by decide, by decide⟩
theorem rn_18 (s : Nat) (v : Int32) : Rin 18 s v := trivial
theorem nw_18 (s : Nat) : nW 18 s := ⟨by decide, by decide, by decide, by decide, fun h => absurd h (by decide), by decide, by decide⟩
theorem rn_19 (s : Nat) (v : Int32) : Rin 19 s v := trivial
theorem nw_19 (s : Nat) : nW 19 s := ⟨by decide, by decide, by decide, by decide, fun h => absurd h (by decide), by decide, by decide⟩
theorem rn_20 (s : Nat) (v : Int32) : Rin 20 s v := trivial
theorem nw_20 (s : Nat) : nW 20 s := ⟨by decide, by decide, by decide, by decide, fun h => absurd h (by decide), by decide, by decide⟩
theorem rn_21 (s : Nat) (v : Int32) : Rin 21 s v := trivial
theorem nw_21 (s : Nat) : nW 21 s := ⟨by decide, by decide, by decide, by decide, fun h => absurd h (by decide), by decide, by decide⟩
theorem rn_22 (s : Nat) (v : Int32) : Rin 22 s v := trivial
theorem nw_22 (s : Nat) : nW 22 s := ⟨by decide, by decide, by decide, by decide, fun h => absurd h (by decide), by decide, by decide⟩
theorem nw_23 (s : Nat) : nW 23 s := ⟨by decide, by decide, by decide, by decide, fun h => absurd h (by decide), by decide, by decide⟩
theorem nw_24 (s : Nat) : nW 24 s := ⟨by decide, by decide, by decide, by decide, fun h => absurd h (by decide), by decide, by decide⟩
theorem rn_25_0 (v : Int32) : Rin 25 0 v := trivial
theorem rn_25_1 (v : Int32) : Rin 25 1 v := trivial
theorem rn_25_2 (v : Int32) : Rin 25 2 v := trivial
theorem rn_25_3 (v : Int32) : Rin 25 3 v := trivial
theorem rn_25_4 (v : Int32) : Rin 25 4 v := trivial
theorem rn_25_5 (v : Int32) : Rin 25 5 v := trivial
theorem rn_25_6 (v : Int32) : Rin 25 6 v := trivial
theorem rn_25_7 (v : Int32) : Rin 25 7 v := trivial
theorem rn_25_8 (v : Int32) : Rin 25 8 v := trivial
theorem rn_25_9 (v : Int32) : Rin 25 9 v := trivial
theorem rn_25_10 (v : Int32) : Rin 25 10 v := trivial
theorem rn_25_11 (v : Int32) : Rin 25 11 v := trivial
theorem rn_25_12 (v : Int32) : Rin 25 12 v := trivial
theorem rn_25_13 (v : Int32) : Rin 25 13 v := trivial
theorem rn_25_14 (v : Int32) : Rin 25 14 v := trivial
theorem rn_25_15 (v : Int32) : Rin 25 15 v := trivial
theorem nw_25 (s : Nat) : nW 25 s := ⟨by decide, by decide, by decide, by decide, fun h => absurd h (by decide), by decide, by decide⟩
theorem rn_26 (s : Nat) (v : Int32) : Rin 26 s v := trivial
theorem nw_26 (s : Nat) : nW 26 s := ⟨by decide, by decide, by decide, by decide, fun h => absurd h (by decide), by decide, by decide⟩
theorem rn_27 (s : Nat) (v : Int32) : Rin 27 s v := trivial
theorem nw_27 (s : Nat) : nW 27 s := ⟨by decide, by decide, by decide, by decide, fun h => absurd h (by decide), by decide, by decide⟩
theorem rn_28 (s : Nat) (v : Int32) : Rin 28 s v := trivial
theorem nw_28 (s : Nat) : nW 28 s := ⟨by decide, by decide, by decide, by decide, fun h => absurd h (by decide), by decide, by decide⟩
theorem rn_29 (s : Nat) (v : Int32) : Rin 29 s v := trivial
theorem nw_29 (s : Nat) : nW 29 s := ⟨by decide, by decide, by decide, by decide, fun h => absurd h (by decide), by decide, by decide⟩
theorem rn_30 (s : Nat) (v : Int32) : Rin 30 s v := trivial
theorem nw_30 (s : Nat) : nW 30 s := ⟨by decide, by decide, by decide, by decide, fun h => absurd h (by decide), by decide, by decide⟩
theorem rn_31 (s : Nat) (v : Int32) : Rin 31 s v := trivial
theorem nw_31 (s : Nat) : nW 31 s := ⟨by decide, by decide, by decide, by decide, fun h => absurd h (by decide), by decide, by decide⟩
theorem nw_32 (s : Nat) : nW 32 s := ⟨by decide, by decide, by decide, by decide, fun h => absurd h (by decide), by decide, by decide⟩
theorem nw_33 (s : Nat) : nW 33 s := ⟨by decide, by decide, by decide, by decide, fun h => absurd h (by decide), by decide, by decide⟩
theorem rn_34_0 (v : Int32) : Rin 34 0 v := trivial
theorem rn_34_1 (v : Int32) : Rin 34 1 v := trivial
theorem rn_34_2 (v : Int32) : Rin 34 2 v := trivial
theorem rn_34_3 (v : Int32) : Rin 34 3 v := trivial
theorem rn_34_4 (v : Int32) : Rin 34 4 v := trivial
theorem rn_34_5 (v : Int32) : Rin 34 5 v := trivial
theorem rn_34_6 (v : Int32) : Rin 34 6 v := trivial
theorem rn_34_7 (v : Int32) : Rin 34 7 v := trivial
theorem rn_34_8 (v : Int32) : Rin 34 8 v := trivial
theorem rn_34_9 (v : Int32) : Rin 34 9 v := trivial
theorem rn_34_10 (v : Int32) : Rin 34 10 v := trivial
theorem rn_34_11 (v : Int32) : Rin 34 11 v := trivial
theorem rn_34_12 (v : Int32) : Rin 34 12 v := trivial
theorem rn_34_13 (v : Int32) : Rin 34 13 v := trivial
theorem rn_34_14 (v : Int32) : Rin 34 14 v := trivial
theorem rn_34_15 (v : Int32) : Rin 34 15 v := trivial
theorem nw_34 (s : Nat) : nW 34 s := ⟨by decide, by decide, by decide, by decide, fun h => absurd h (by decide), by decide, by decide⟩
theorem rn_35 (s : Nat) (v : Int32) : Rin 35 s v := trivial
theorem nw_35 (s : Nat) : nW 35 s := ⟨by decide, by decide, by decide, by decide, fun h => absurd h (by decide), by decide, by decide⟩
theorem rn_36 (s : Nat) (v : Int32) : Rin 36 s v := trivial
theorem nw_36 (s : Nat) : nW 36 s := ⟨by decide, by decide, by decide, by decide, fun h => absurd h (by decide), by decide, by decide⟩
theorem nw_37 (s : Nat) : nW 37 s := ⟨by decide, by decide, by decide, by decide, fun h => absurd h (by decide), by decide, by decide⟩
theorem nw_40 (s : Nat) : nW 40 s := ⟨by decide, by decide, by decide, by decide, fun h => absurd h (by decide), by decide, by decide⟩
theorem nw_41 (s : Nat) : nW 41 s := ⟨by decide, by decide, by decide, by decide, fun h => absurd h (by decide), by decide, by decide⟩
theorem nw_42 (s : Nat) : nW 42 s := ⟨by decide, by decide, by decide, by decide, fun h => absurd h (by decide), by decide, by decide⟩
theorem nw_43 (s : Nat) : nW 43 s := ⟨by decide, by decide, by decide, by decide, fun h => absurd h (by decide), by decide, by decide⟩
theorem rn_44_0 (v : Int32) : Rin 44 0 v := trivial
theorem rn_44_1 (v : Int32) : Rin 44 1 v := trivial
theorem rn_44_2 (v : Int32) : Rin 44 2 v := trivial
theorem rn_44_3 (v : Int32) : Rin 44 3 v := trivial
theorem rn_44_4 (v : Int32) : Rin 44 4 v := trivial
theorem rn_44_5 (v : Int32) : Rin 44 5 v := trivial
theorem rn_44_6 (v : Int32) : Rin 44 6 v := trivial
theorem rn_44_7 (v : Int32) : Rin 44 7 v := trivial
theorem rn_44_8 (v : Int32) : Rin 44 8 v := trivial
theorem rn_44_9 (v : Int32) : Rin 44 9 v := trivial
theorem rn_44_10 (v : Int32) : Rin 44 10 v := trivial
theorem rn_44_11 (v : Int32) : Rin 44 11 v := trivial
theorem rn_44_12 (v : Int32) : Rin 44 12 v := trivial
theorem rn_44_13 (v : Int32) : Rin 44 13 v := trivial
theorem rn_44_14 (v : Int32) : Rin 44 14 v := trivial
theorem rn_44_15 (v : Int32) : Rin 44 15 v := trivial
theorem nw_44 (s : Nat) : nW 44 s := ⟨by decide, by decide, by decide, by decide, fun h => absurd h (by decide), by decide, by decide⟩
theorem rn_45_0 (v : Int32) : Rin 45 0 v := trivial
theorem rn_45_1 (v : Int32) : Rin 45 1 v := trivial
theorem rn_45_2 (v : Int32) : Rin 45 2 v := trivial
theorem rn_45_3 (v : Int32) : Rin 45 3 v := trivial
theorem rn_45_4 (v : Int32) : Rin 45 4 v := trivial
theorem rn_45_5 (v : Int32) : Rin 45 5 v := trivial
theorem rn_45_6 (v : Int32) : Rin 45 6 v := trivial
theorem rn_45_7 (v : Int32) : Rin 45 7 v := trivial
theorem rn_45_8 (v : Int32) : Rin 45 8 v := trivial
theorem rn_45_9 (v : Int32) : Rin 45 9 v := trivial
theorem rn_45_10 (v : Int32) : Rin 45 10 v := trivial
theorem rn_45_11 (v : Int32) : Rin 45 11 v := trivial
theorem rn_45_12 (v : Int32) : Rin 45 12 v := trivial
theorem rn_45_13 (v : Int32) : Rin 45 13 v := trivial
theorem rn_45_14 (v : Int32) : Rin 45 14 v := trivial
theorem rn_45_15 (v : Int32) : Rin 45 15 v := trivial
theorem nw_45 (s : Nat) : nW 45 s := ⟨by decide, by decide, by decide, by decide, fun h => absurd h (by decide), by decide, by decide⟩
theorem nw_46 (s : Nat) : nW 46 s := ⟨by decide, by decide, by decide, by decide, fun h => absurd h (by decide), by decide, by decide⟩
theorem nw_49 (s : Nat) : nW 49 s := ⟨by decide, by decide, by decide, by decide, fun h => absurd h (by decide), by decide, by decide⟩
theorem nw_50 (s : Nat) : nW 50 s := ⟨by decide, by decide, by decide, by decide, fun h => absurd h (by decide), by decide, by decide⟩
theorem nw_51 (s : Nat) : nW 51 s := ⟨by decide, by decide, by decide, by decide, fun h => absurd h (by decide), by decide, by decide⟩
theorem nw_52 (s : Nat) : nW 52 s := ⟨by decide, by decide, by decide, by decide, fun h => absurd h (by decide), by decide, by decide⟩
theorem rn_53_0 (v : Int32) : Rin 53 0 v := trivial
theorem rn_53_1 (v : Int32) : Rin 53 1 v := trivial
theorem rn_53_2 (v : Int32) : Rin 53 2 v := trivial
theorem rn_53_4 (v : Int32) : Rin 53 4 v := trivial
theorem rn_53_5 (v : Int32) : Rin 53 5 v := trivial
theorem rn_53_6 (v : Int32) : Rin 53 6 v := trivial
theorem rn_53_7 (v : Int32) : Rin 53 7 v := trivial
theorem rn_53_8 (v : Int32) : Rin 53 8 v := trivial
theorem rn_53_9 (v : Int32) : Rin 53 9 v := trivial
theorem rn_53_10 (v : Int32) : Rin 53 10 v := trivial
theorem rn_53_11 (v : Int32) : Rin 53 11 v := trivial
theorem rn_53_12 (v : Int32) : Rin 53 12 v := trivial
theorem rn_53_13 (v : Int32) : Rin 53 13 v := trivial
theorem rn_53_14 (v : Int32) : Rin 53 14 v := trivial
theorem rn_53_15 (v : Int32) : Rin 53 15 v := trivial
theorem nw_53 (s : Nat) : nW 53 s := ⟨by decide, by decide, by decide, by decide, fun h => absurd h (by decide), by decide, by decide⟩
theorem rn_54 (s : Nat) (v : Int32) : Rin 54 s v := trivial
theorem nw_54 (s : Nat) : nW 54 s := ⟨by decide, by decide, by decide, by decide, fun h => absurd h (by decide), by decide, by decide⟩
theorem rn_55 (s : Nat) (v : Int32) : Rin 55 s v := trivial
theorem nw_55 (s : Nat) : nW 55 s := ⟨by decide, by decide, by decide, by decide, fun h => absurd h (by decide), by decide, by decide⟩
theorem rn_56_0 (v : Int32) : Rin 56 0 v := trivial
theorem rn_56_1 (v : Int32) : Rin 56 1 v := trivial
theorem rn_56_2 (v : Int32) : Rin 56 2 v := trivial
theorem rn_56_3 (v : Int32) : Rin 56 3 v := trivial
theorem rn_56_4 (v : Int32) : Rin 56 4 v := trivial
theorem rn_56_5 (v : Int32) : Rin 56 5 v := trivial
theorem rn_56_6 (v : Int32) : Rin 56 6 v := trivial
theorem rn_56_7 (v : Int32) : Rin 56 7 v := trivial
theorem rn_56_8 (v : Int32) : Rin 56 8 v := trivial
theorem rn_56_9 (v : Int32) : Rin 56 9 v := trivial
theorem rn_56_11 (v : Int32) : Rin 56 11 v := trivial
theorem rn_56_12 (v : Int32) : Rin 56 12 v := trivial
theorem rn_56_13 (v : Int32) : Rin 56 13 v := trivial
theorem rn_56_14 (v : Int32) : Rin 56 14 v := trivial
theorem rn_56_15 (v : Int32) : Rin 56 15 v := trivial
theorem nw_56 (s : Nat) : nW 56 s := ⟨by decide, by decide, by decide, by decide, fun h => absurd h (by decide), by decide, by decide⟩
theorem nw_57 (s : Nat) : nW 57 s := ⟨by decide, by decide, by decide, by decide, fun h => absurd h (by decide), by decide, by decide⟩
theorem rn_58 (s : Nat) (v : Int32) : Rin 58 s v := trivial
theorem nw_58 (s : Nat) : nW 58 s := ⟨by decide, by decide, by decide, by decide, fun h => absurd h (by decide), by decide, by decide⟩
theorem rn_59 (s : Nat) (v : Int32) : Rin 59 s v := trivial
theorem nw_59 (s : Nat) : nW 59 s := ⟨by decide, by decide, by decide, by decide, fun h => absurd h (by decide), by decide, by decide⟩
theorem rn_60 (s : Nat) (v : Int32) : Rin 60 s v := trivial
theorem nw_60 (s : Nat) : nW 60 s := ⟨by decide, by decide, by decide, by decide, fun h => absurd h (by decide), by decide, by decide⟩
theorem rn_61 (s : Nat) (v : Int32) : Rin 61 s v := trivial
theorem nw_61 (s : Nat) : nW 61 s := ⟨by decide, by decide, by decide, by decide, fun h => absurd h (by decide), by decide, by decide⟩
theorem rn_62 (s : Nat) (v : Int32) : Rin 62 s v := trivial
theorem nw_62 (s : Nat) : nW 62 s := ⟨by decide, by decide, by decide, by decide, fun h => absurd h (by decide), by decide, by decide⟩
theorem rn_63 (s : Nat) (v : Int32) : Rin 63 s v := trivial
theorem nw_63 (s : Nat) : nW 63 s := ⟨by decide, by decide, by decide, by decide, fun h => absurd h (by decide), by decide, by decide⟩
theorem rn_64_0 (v : Int32) : Rin 64 0 v := trivial
theorem rn_64_1 (v : Int32) : Rin 64 1 v := trivial
theorem rn_64_2 (v : Int32) : Rin 64 2 v := trivial
theorem rn_64_3 (v : Int32) : Rin 64 3 v := trivial
theorem rn_64_4 (v : Int32) : Rin 64 4 v := trivial
theorem rn_64_5 (v : Int32) : Rin 64 5 v := trivial
theorem rn_64_6 (v : Int32) : Rin 64 6 v := trivial
theorem rn_64_7 (v : Int32) : Rin 64 7 v := trivial
theorem rn_64_8 (v : Int32) : Rin 64 8 v := trivial
theorem rn_64_11 (v : Int32) : Rin 64 11 v := trivial
theorem rn_64_13 (v : Int32) : Rin 64 13 v := trivial
theorem rn_64_14 (v : Int32) : Rin 64 14 v := trivial
theorem rn_64_15 (v : Int32) : Rin 64 15 v := trivial
theorem nw_64 (s : Nat) : nW 64 s := ⟨by decide, by decide, by decide, by decide, fun h => absurd h (by decide), by decide, by decide⟩
theorem nw_65 (s : Nat) : nW 65 s := ⟨by decide, by decide, by decide, by decide, fun h => absurd h (by decide), by decide, by decide⟩
theorem nw_66 (s : Nat) : nW 66 s := ⟨by decide, by decide, by decide, by decide, fun h => absurd h (by decide), by decide, by decide⟩
theorem rn_67 (s : Nat) (v : Int32) : Rin 67 s v := trivial
theorem nw_67 (s : Nat) : nW 67 s := ⟨by decide, by decide, by decide, by decide, fun h => absurd h (by decide), by decide, by decide⟩
theorem rn_68 (s : Nat) (v : Int32) : Rin 68 s v := trivial
theorem nw_68 (s : Nat) : nW 68 s := ⟨by decide, by decide, by decide, by decide, fun h => absurd h (by decide), by decide, by decide⟩
theorem nw_69 (s : Nat) : nW 69 s := ⟨by decide, by decide, by decide, by decide, fun h => absurd h (by decide), by decide, by decide⟩
theorem rn_70_0 (v : Int32) : Rin 70 0 v := trivial
theorem rn_70_1 (v : Int32) : Rin 70 1 v := trivial
theorem rn_70_2 (v : Int32) : Rin 70 2 v := trivial
theorem rn_70_3 (v : Int32) : Rin 70 3 v := trivial
theorem rn_70_4 (v : Int32) : Rin 70 4 v := trivial
theorem rn_70_5 (v : Int32) : Rin 70 5 v := trivial
theorem rn_70_6 (v : Int32) : Rin 70 6 v := trivial
theorem rn_70_7 (v : Int32) : Rin 70 7 v := trivial
theorem rn_70_10 (v : Int32) : Rin 70 10 v := trivial
theorem rn_70_11 (v : Int32) : Rin 70 11 v := trivial
theorem rn_70_12 (v : Int32) : Rin 70 12 v := trivial
theorem rn_70_13 (v : Int32) : Rin 70 13 v := trivial
theorem rn_70_14 (v : Int32) : Rin 70 14 v := trivial
theorem rn_70_15 (v : Int32) : Rin 70 15 v := trivial
theorem nw_70 (s : Nat) : nW 70 s := ⟨by decide, by decide, by decide, by decide, fun h => absurd h (by decide), by decide, by decide⟩
theorem nw_71 (s : Nat) : nW 71 s := ⟨by decide, by decide, by decide, by decide, fun h => absurd h (by decide), by decide, by decide⟩
theorem rn_72 (s : Nat) (v : Int32) : Rin 72 s v := trivial
theorem nw_72 (s : Nat) : nW 72 s := ⟨by decide, by decide, by decide, by decide, fun h => absurd h (by decide), by decide, by decide⟩
theorem nw_73 (s : Nat) : nW 73 s := ⟨by decide, by decide, by decide, by decide, fun h => absurd h (by decide), by decide, by decide⟩
theorem rn_74 (s : Nat) (v : Int32) : Rin 74 s v := trivial
theorem nw_74 (s : Nat) : nW 74 s := ⟨by decide, by decide, by decide, by decide, fun h => absurd h (by decide), by decide, by decide⟩
theorem rn_75 (s : Nat) (v : Int32) : Rin 75 s v := trivial
theorem nw_75 (s : Nat) : nW 75 s := ⟨by decide, by decide, by decide, by decide, fun h => absurd h (by decide), by decide, by decide⟩
theorem rn_76 (s : Nat) (v : Int32) : Rin 76 s v := trivial
theorem nw_76 (s : Nat) : nW 76 s := ⟨by decide, by decide, by decide, by decide, fun h => absurd h (by decide), by decide, by decide⟩
theorem rn_77_0 (v : Int32) : Rin 77 0 v := trivial
theorem rn_77_1 (v : Int32) : Rin 77 1 v := trivial
theorem rn_77_2 (v : Int32) : Rin 77 2 v := trivial
theorem rn_77_3 (v : Int32) : Rin 77 3 v := trivial
theorem rn_77_4 (v : Int32) : Rin 77 4 v := trivial
theorem rn_77_5 (v : Int32) : Rin 77 5 v := trivial
theorem rn_77_6 (v : Int32) : Rin 77 6 v := trivial
theorem rn_77_7 (v : Int32) : Rin 77 7 v := trivial
theorem rn_77_11 (v : Int32) : Rin 77 11 v := trivial
theorem rn_77_12 (v : Int32) : Rin 77 12 v := trivial
theorem rn_77_13 (v : Int32) : Rin 77 13 v := trivial
theorem rn_77_18 (v : Int32) : Rin 77 18 v := trivial
theorem rn_77_19 (v : Int32) : Rin 77 19 v := trivial
theorem rn_77_20 (v : Int32) : Rin 77 20 v := trivial
theorem rn_77_21 (v : Int32) : Rin 77 21 v := trivial
theorem rn_77_22 (v : Int32) : Rin 77 22 v := trivial
theorem rn_77_23 (v : Int32) : Rin 77 23 v := trivial
theorem rn_77_24 (v : Int32) : Rin 77 24 v := trivial
theorem rn_77_25 (v : Int32) : Rin 77 25 v := trivial
theorem rn_77_26 (v : Int32) : Rin 77 26 v := trivial
theorem rn_77_27 (v : Int32) : Rin 77 27 v := trivial
theorem rn_77_28 (v : Int32) : Rin 77 28 v := trivial
theorem rn_77_29 (v : Int32) : Rin 77 29 v := trivial
theorem rn_77_30 (v : Int32) : Rin 77 30 v := trivial
theorem rn_77_31 (v : Int32) : Rin 77 31 v := trivial
theorem rn_77_32 (v : Int32) : Rin 77 32 v := trivial
theorem rn_77_33 (v : Int32) : Rin 77 33 v := trivial
theorem rn_77_34 (v : Int32) : Rin 77 34 v := trivial
theorem rn_77_37 (v : Int32) : Rin 77 37 v := trivial
theorem rn_77_38 (v : Int32) : Rin 77 38 v := trivial
theorem rn_77_39 (v : Int32) : Rin 77 39 v := trivial
theorem rn_77_40 (v : Int32) : Rin 77 40 v := trivial
theorem rn_77_41 (v : Int32) : Rin 77 41 v := trivial
theorem rn_77_42 (v : Int32) : Rin 77 42 v := trivial
theorem rn_77_45 (v : Int32) : Rin 77 45 v := trivial
theorem rn_77_46 (v : Int32) : Rin 77 46 v := trivial
theorem rn_77_47 (v : Int32) : Rin 77 47 v := trivial
theorem rn_77_48 (v : Int32) : Rin 77 48 v := trivial
theorem rn_77_49 (v : Int32) : Rin 77 49 v := trivial
theorem rn_77_50 (v : Int32) : Rin 77 50 v := trivial
theorem rn_77_51 (v : Int32) : Rin 77 51 v := trivial
theorem rn_77_52 (v : Int32) : Rin 77 52 v := trivial
theorem rn_77_53 (v : Int32) : Rin 77 53 v := trivial
theorem rn_77_54 (v : Int32) : Rin 77 54 v := trivial
theorem rn_77_55 (v : Int32) : Rin 77 55 v := trivial
theorem rn_77_56 (v : Int32) : Rin 77 56 v := trivial
theorem rn_77_57 (v : Int32) : Rin 77 57 v := trivial
theorem rn_77_58 (v : Int32) : Rin 77 58 v := trivial
theorem rn_77_62 (v : Int32) : Rin 77 62 v := trivial
theorem rn_77_63 (v : Int32) : Rin 77 63 v := trivial
theorem rn_77_64 (v : Int32) : Rin 77 64 v := trivial
theorem rn_77_65 (v : Int32) : Rin 77 65 v := trivial
theorem rn_77_66 (v : Int32) : Rin 77 66 v := trivial
theorem rn_77_67 (v : Int32) : Rin 77 67 v := trivial
theorem rn_77_68 (v : Int32) : Rin 77 68 v := trivial
theorem rn_77_69 (v : Int32) : Rin 77 69 v := trivial
theorem nw_77_0 : nW 77 0 := by unfold nW; decide
theorem nw_77_1 : nW 77 1 := by unfold nW; decide
theorem nw_77_2 : nW 77 2 := by unfold nW; decide
theorem nw_77_3 : nW 77 3 := by unfold nW; decide
theorem nw_77_4 : nW 77 4 := by unfold nW; decide
theorem nw_77_5 : nW 77 5 := by unfold nW; decide
theorem nw_77_6 : nW 77 6 := by unfold nW; decide
theorem nw_77_7 : nW 77 7 := by unfold nW; decide
theorem nw_77_8 : nW 77 8 := by unfold nW; decide
theorem nw_77_9 : nW 77 9 := by unfold nW; decide
theorem nw_77_10 : nW 77 10 := by unfold nW; decide
theorem nw_77_11 : nW 77 11 := by unfold nW; decide
theorem nw_77_12 : nW 77 12 := by unfold nW; decide
theorem nw_77_13 : nW 77 13 := by unfold nW; decide
theorem nw_77_14 : nW 77 14 := by unfold nW; decide
theorem nw_77_15 : nW 77 15 := by unfold nW; decide
theorem nw_77_16 : nW 77 16 := by unfold nW; decide
theorem nw_77_18 : nW 77 18 := by unfold nW; decide
theorem nw_77_19 : nW 77 19 := by unfold nW; decide
theorem nw_77_20 : nW 77 20 := by unfold nW; decide
theorem nw_77_21 : nW 77 21 := by unfold nW; decide
theorem nw_77_22 : nW 77 22 := by unfold nW; decide
theorem nw_77_23 : nW 77 23 := by unfold nW; decide
theorem nw_77_24 : nW 77 24 := by unfold nW; decide
theorem nw_77_25 : nW 77 25 := by unfold nW; decide
theorem nw_77_26 : nW 77 26 := by unfold nW; decide
theorem nw_77_27 : nW 77 27 := by unfold nW; decide
theorem nw_77_28 : nW 77 28 := by unfold nW; decide
theorem nw_77_29 : nW 77 29 := by unfold nW; decide
theorem nw_77_30 : nW 77 30 := by unfold nW; decide
theorem nw_77_31 : nW 77 31 := by unfold nW; decide
theorem nw_77_32 : nW 77 32 := by unfold nW; decide
theorem nw_77_33 : nW 77 33 := by unfold nW; decide
theorem nw_77_34 : nW 77 34 := by unfold nW; decide
theorem nw_77_35 : nW 77 35 := by unfold nW; decide
theorem nw_77_36 : nW 77 36 := by unfold nW; decide
theorem nw_77_37 : nW 77 37 := by unfold nW; decide
theorem nw_77_38 : nW 77 38 := by unfold nW; decide
theorem nw_77_39 : nW 77 39 := by unfold nW; decide
theorem nw_77_40 : nW 77 40 := by unfold nW; decide
theorem nw_77_41 : nW 77 41 := by unfold nW; decide
theorem nw_77_42 : nW 77 42 := by unfold nW; decide
theorem nw_77_43 : nW 77 43 := by unfold nW; decide
theorem nw_77_44 : nW 77 44 := by unfold nW; decide
theorem nw_77_45 : nW 77 45 := by unfold nW; decide
theorem nw_77_46 : nW 77 46 := by unfold nW; decide
theorem nw_77_47 : nW 77 47 := by unfold nW; decide
theorem nw_77_48 : nW 77 48 := by unfold nW; decide
theorem nw_77_49 : nW 77 49 := by unfold nW; decide
theorem nw_77_50 : nW 77 50 := by unfold nW; decide
theorem nw_77_51 : nW 77 51 := by unfold nW; decide
theorem nw_77_52 : nW 77 52 := by unfold nW; decide
theorem nw_77_53 : nW 77 53 := by unfold nW; decide
theorem nw_77_54 : nW 77 54 := by unfold nW; decide
theorem nw_77_55 : nW 77 55 := by unfold nW; decide
theorem nw_77_56 : nW 77 56 := by unfold nW; decide
theorem nw_77_57 : nW 77 57 := by unfold nW; decide
theorem nw_77_58 : nW 77 58 := by unfold nW; decide
theorem nw_77_59 : nW 77 59 := by unfold nW; decide
theorem nw_77_60 : nW 77 60 := by unfold nW; decide
theorem nw_77_61 : nW 77 61 := by unfold nW; decide
theorem nw_77_62 : nW 77 62 := by unfold nW; decide
theorem nw_77_63 : nW 77 63 := by unfold nW; decide
theorem nw_77_64 : nW 77 64 := by unfold nW; decide
theorem nw_77_65 : nW 77 65 := by unfold nW; decide
theorem nw_77_66 : nW 77 66 := by unfold nW; decide
theorem nw_77_67 : nW 77 67 := by unfold nW; decide
theorem nw_77_68 : nW 77 68 := by unfold nW; decide
theorem nw_77_69 : nW 77 69 := by unfold nW; decide
theorem nw_78 (s : Nat) : nW 78 s := ⟨by decide, by decide, by decide, by decide, fun h => absurd h (by decide), by decide, by decide⟩
theorem nw_79 (s : Nat) : nW 79 s := ⟨by decide, by decide, by decide, by decide, fun h => absurd h (by decide), by decide, by decide⟩
theorem nw_80 (s : Nat) : nW 80 s := ⟨by decide, by decide, by decide, by decide, fun h => absurd h (by decide), by decide, by decide⟩
theorem rn_81 (s : Nat) (v : Int32) : Rin 81 s v := trivial
theorem nw_81 (s : Nat) : nW 81 s := ⟨by decide, by decide, by decide, by decide, fun h => absurd h (by decide), by decide, by decide⟩
theorem rn_82 (s : Nat) (v : Int32) : Rin 82 s v := trivial
theorem nw_82 (s : Nat) : nW 82 s := ⟨by decide, by decide, by decide, by decide, fun h => absurd h (by decide), by decide, by decide⟩
theorem rn_83 (s : Nat) (v : Int32) : Rin 83 s v := trivial
theorem nw_83 (s : Nat) : nW 83 s := ⟨by decide, by decide, by decide, by decide, fun h => absurd h (by decide), by decide, by decide⟩
theorem nw_84 (s : Nat) : nW 84 s := ⟨by decide, by decide, by decide, by decide, fun h => absurd h (by decide), by decide, by decide⟩
theorem nw_85 (s : Nat) : nW 85 s := ⟨by decide, by decide, by decide, by decide, fun h => absurd h (by decide), by decide, by decide⟩
theorem nw_86 (s : Nat) : nW 86 s := ⟨by decide, by decide, by decide, by decide, fun h => absurd h (by decide), by decide, by decide⟩
theorem rn_87 (s : Nat) (v : Int32) : Rin 87 s v := trivial
theorem nw_87 (s : Nat) : nW 87 s := ⟨by decide, by decide, by decide, by decide, fun h => absurd h (by decide), by decide, by decide⟩
theorem nw_88 (s : Nat) : nW 88 s := ⟨by decide, by decide, by decide, by decide, fun h => absurd h (by decide), by decide, by decide⟩
theorem nw_89 (s : Nat) : nW 89 s := ⟨by decide, by decide, by decide, by decide, fun h => absurd h (by decide), by decide, by decide⟩
theorem nw_90 (s : Nat) : nW 90 s := ⟨by decide, by decide, by decide, by decide, fun h => absurd h (by decide), by decide, by decide⟩
theorem rn_92 (s : Nat) (v : Int32) : Rin 92 s v := trivial
theorem rn_96 (s : Nat) (v : Int32) : Rin 96 s v := trivial
theorem nw_96 (s : Nat) : nW 96 s := ⟨by decide, by decide, by decide, by decide, fun h => absurd h (by decide), by decide, by decide⟩
theorem rn_97 (s : Nat) (v : Int32) : Rin 97 s v := trivial
theorem nw_97 (s : Nat) : nW 97 s := ⟨by decide, by decide, by decide, by decide, fun h => absurd h (by decide), by decide, by decide⟩
theorem rn_98 (s : Nat) (v : Int32) : Rin 98 s v := trivial
theorem nw_98 (s : Nat) : nW 98 s := ⟨by decide, by decide, by decide, by decide, fun h => absurd h (by decide), by decide, by decide⟩
theorem rn_99 (s : Nat) (v : Int32) : Rin 99 s v := trivial
theorem nw_99 (s : Nat) : nW 99 s := ⟨by decide, by decide, by decide, by decide, fun h => absurd h (by decide), by decide, by decide⟩
theorem rn_100 (s : Nat) (v : Int32) : Rin 100 s v := trivial
theorem nw_100 (s : Nat) : nW 100 s := ⟨by decide, by decide, by decide, by decide, fun h => absurd h (by decide), by decide, by decide⟩
theorem nw_101 (s : Nat) : nW 101 s := ⟨by decide, by decide, by decide, by decide, fun h => absurd h (by decide), by decide, by decide⟩
theorem nw_105 (s : Nat) : nW 105 s := ⟨by decide, by decide, by decide, by decide, fun h => absurd h (by decide), by decide, by decide⟩
theorem rn_106 (s : Nat) (v : Int32) : Rin 106 s v := trivial
theorem nw_106 (s : Nat) : nW 106 s := ⟨by decide, by decide, by decide, by decide, fun h => absurd h (by decide), by decide, by decide⟩
theorem rn_107 (s : Nat) (v : Int32) : Rin 107 s v := trivial
theorem nw_107 (s : Nat) : nW 107 s := ⟨by decide, by decide, by decide, by decide, fun h => absurd h (by decide), by decide, by decide⟩
theorem nw_108 (s : Nat) : nW 108 s := ⟨by decide, by decide, by decide, by decide, fun h => absurd h (by decide), by decide, by decide⟩
theorem rn_109 (s : Nat) (v : Int32) : Rin 109 s v := trivial
theorem nw_109 (s : Nat) : nW 109 s := ⟨by decide, by decide, by decide, by decide, fun h => absurd h (by decide), by decide, by decide⟩
theorem nw_110 (s : Nat) : nW 110 s := ⟨by decide, by decide, by decide, by decide, fun h => absurd h (by decide), by decide, by decide⟩
theorem nw_111 (s : Nat) : nW 111 s := ⟨by decide, by decide, by decide, by decide, fun h => absurd h (by decide), by decide, by decide⟩
theorem nw_112 (s : Nat) : nW 112 s := ⟨by decide, by decide, by decide, by decide, fun h => absurd h (by decide), by decide, by decide⟩
theorem rn_113 (s : Nat) (v : Int32) : Rin 113 s v := trivial
theorem nw_113 (s : Nat) : nW 113 s := ⟨by decide, by decide, by decide, by decide, fun h => absurd h (by decide), by decide, by decide⟩
theorem rn_114 (s : Nat) (v : Int32) : Rin 114 s v := trivial
theorem nw_114 (s : Nat) : nW 114 s := ⟨by decide, by decide, by decide, by decide, fun h => absurd h (by decide), by decide, by decide⟩
theorem rn_115 (s : Nat) (v : Int32) : Rin 115 s v := trivial
theorem nw_115 (s : Nat) : nW 115 s := ⟨by decide, by decide, by decide, by decide, fun h => absurd h (by decide), by decide, by decide⟩
theorem nw_116 (s : Nat) : nW 116 s := ⟨by decide, by decide, by decide, by decide, fun h => absurd h (by decide), by decide, by decide⟩
theorem rn_117 (s : Nat) (v : Int32) : Rin 117 s v := trivial
theorem nw_117 (s : Nat) : nW 117 s := ⟨by decide, by decide, by decide, by decide, fun h => absurd h (by decide), by decide, by decide⟩
theorem rn_118 (s : Nat) (v : Int32) : Rin 118 s v := trivial
theorem nw_118 (s : Nat) : nW 118 s := ⟨by decide, by decide, by decide, by decide, fun h => absurd h (by decide), by decide, by decide⟩
theorem nw_119 (s : Nat) : nW 119 s := ⟨by decide, by decide, by decide, by decide, fun h => absurd h (by decide), by decide, by decide⟩
theorem nw_120 (s : Nat) : nW 120 s := ⟨by decide, by decide, by decide, by decide, fun h => absurd h (by decide), by decide, by decide⟩
