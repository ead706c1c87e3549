/-! FACTS: what both sides tell a law -/
abbrev FE (F H : Nat → Int32) : Prop := ∀ i, i ≤ 11 → F i = H i
theorem FE_sy {F H : Nat → Int32} (h : FE F H) : FE H F := fun i hi => (h i hi).symm
theorem FE_tr {F H L : Nat → Int32} (h : FE F H) (k : FE H L) : FE F L := fun i hi => (h i hi).trans (k i hi)
theorem evS_r {cd : Nat → Int} {F : Nat → Int32} {f t k k' b : Nat} {S S' : List Int32} (hg : gd b f t cd) (hf : f ≤ k) (hkt : k < t) (he : evS cd F k S = some (k', S')) : f ≤ k' ∧ k' ≤ t := by
  obtain ⟨i0, i1, i2, i3⟩ := hg.2.2.1 k hf hkt
  unfold evS at he
  by_cases k0 : cd k / 1048576 = 0
  · rw [if_pos k0] at he
    injection he with he; injection he with e1 e2
    omega
  rw [if_neg k0] at he
  by_cases k1 : cd k / 1048576 = 1
  · rw [if_pos k1] at he
    injection he with he; injection he with e1 e2
    omega
  rw [if_neg k1] at he
  by_cases k10 : cd k / 1048576 = 10
  · rw [if_pos k10] at he
    injection he with he; injection he with e1 e2
    omega
  rw [if_neg k10] at he
  by_cases kj : cd k / 1048576 = 11 ∨ cd k / 1048576 = 12
  · rw [if_pos kj] at he
    have hz : (k : Int) < cd k % 1048576 ∧ cd k % 1048576 ≤ (t : Int) := by
      rcases i3 with z | z | z | z | z
      · omega
      · omega
      · omega
      · have := z.2.2.resolve_left (fun q => q)
        exact ⟨this.1, this.2.1⟩
      · omega
    clear i3
    by_cases c1 : S.headD 0 = (if cd k / 1048576 = 12 then (1 : Int32) else 0)
    · rw [if_pos c1] at he
      injection he with he; injection he with e1 e2
      omega
    · rw [if_neg c1] at he
      injection he with he; injection he with e1 e2
      omega
  rw [if_neg kj] at he
  by_cases c0 : (cd k / 1048576 = 5 ∨ cd k / 1048576 = 6) ∧ S.headD 0 = 0
  · rw [if_pos c0] at he; cases he
  · rw [if_neg c0] at he
    injection he with he; injection he with e1 e2
    omega
theorem ev_F {cd : Nat → Int} {F H : Nat → Int32} (hF : FE F H) {f t b : Nat} (hg : gd b f t cd) : ∀ (m k : Nat) (S : List Int32), f ≤ k → k ≤ t → ev cd F t m k S = ev cd H t m k S := by
  intro m
  induction m with
  | zero => intro k S _ _; rfl
  | succ m ih =>
    intro k S hf hk
    by_cases c : t ≤ k
    · rw [ev_e c, ev_e c]
    · have hkt : k < t := by omega
      have hS : evS cd F k S = evS cd H k S := by
        obtain ⟨i0, i1, i2, i3⟩ := hg.2.2.1 k hf hkt
        unfold evS
        by_cases k0 : cd k / 1048576 = 0
        · rw [if_pos k0, if_pos k0]
        rw [if_neg k0, if_neg k0]
        by_cases k1 : cd k / 1048576 = 1
        · have hz : cd k % 1048576 ≤ 11 := by
            rcases i3 with z | z | z | z | z
            · omega
            · exact z.2
            · omega
            · omega
            · omega
          rw [if_pos k1, if_pos k1, hF _ (by omega)]
        · rw [if_neg k1, if_neg k1]
      cases he : evS cd F k S with
      | none => rw [ev_n hkt he, ev_n hkt (by rw [← hS]; exact he)]
      | some q =>
        obtain ⟨k', S'⟩ := q
        have hr := evS_r hg hf hkt he
        rw [ev_s hkt he, ev_s hkt (show evS cd H k S = some (k', S') by rw [← hS]; exact he)]
        exact ih k' S' hr.1 hr.2
theorem EV_F {C : List Int} {F H : Nat → Int32} (hF : FE F H) {n s t b : Nat} (hg : gd b s t (cdl C)) : EV C F n s t = EV C H n s t := ev_F hF hg n s [] (Nat.le_refl _) (Nat.le_of_lt hg.1)
theorem amtL_F {C : List Int} {n : Nat} {F H : Nat → Int32} (hF : FE F H) {c : Int} (hc : c ≠ 97) {hi : Int32} : ∀ {K : List Kl}, Kg (cdl C) C.length K → ∀ x : Int32, amtL C n F c hi K x = amtL C n H c hi K x := by
  intro K
  induction K with
  | nil => intro _ x; rfl
  | cons q r ih =>
    intro hK x
    obtain ⟨s, h, e, g1, g2, g3, g4, g5, g6, g7, g8, g9⟩ := hK q (List.mem_cons_self)
    have hr : Kg (cdl C) C.length r := fun y hy => hK y (List.mem_cons_of_mem _ hy)
    have e1 : EV C F n q.2.2.1.toNat q.2.2.2.toNat = EV C H n q.2.2.1.toNat q.2.2.2.toNat := by rw [g2, g3]; exact EV_F hF g9
    show (if q.1 = c then (if EV C F n q.2.2.1.toNat q.2.2.2.toNat = 0 then amtL C n F c hi r 0 else qmax 0 (qmin hi (EV C F n q.2.1.toNat q.2.2.1.toNat))) else amtL C n F c hi r x) = (if q.1 = c then (if EV C H n q.2.2.1.toNat q.2.2.2.toNat = 0 then amtL C n H c hi r 0 else qmax 0 (qmin hi (EV C H n q.2.1.toNat q.2.2.1.toNat))) else amtL C n H c hi r x)
    by_cases d : q.1 = c
    · have e2 : EV C F n q.2.1.toNat q.2.2.1.toNat = EV C H n q.2.1.toNat q.2.2.1.toNat := by rw [g1, g2]; exact EV_F hF (g8.resolve_left (fun z => hc (by rw [← d]; exact z)))
      rw [if_pos d, if_pos d, e1, e2, ih hr 0]
    · rw [if_neg d, if_neg d, ih hr x]
theorem anyL_F {C : List Int} {n : Nat} {F H : Nat → Int32} (hF : FE F H) : ∀ {K : List Kl}, Kg (cdl C) C.length K → anyL C n F K = anyL C n H K := by
  intro K
  induction K with
  | nil => intro _; rfl
  | cons q r ih =>
    intro hK
    obtain ⟨s, h, e, g1, g2, g3, g4, g5, g6, g7, g8, g9⟩ := hK q (List.mem_cons_self)
    have hr : Kg (cdl C) C.length r := fun y hy => hK y (List.mem_cons_of_mem _ hy)
    have e1 : EV C F n q.2.2.1.toNat q.2.2.2.toNat = EV C H n q.2.2.1.toNat q.2.2.2.toNat := by rw [g2, g3]; exact EV_F hF g9
    show (if q.1 = 97 then (if EV C F n q.2.2.1.toNat q.2.2.2.toNat = 0 then anyL C n F r else 1) else anyL C n F r) = (if q.1 = 97 then (if EV C H n q.2.2.1.toNat q.2.2.2.toNat = 0 then anyL C n H r else 1) else anyL C n H r)
    rw [e1, ih hr]
def fx (k h x j y m d p q n o w : Int32) : Nat → Int32
  | 0 => k
  | 1 => h
  | 2 => x
  | 3 => j
  | 4 => y
  | 5 => m
  | 6 => d
  | 7 => p
  | 8 => q
  | 9 => n
  | 10 => o
  | 11 => w
  | _ => 0
theorem FE_mk {F : Nat → Int32} {k h x j y m d p q n o w : Int32} (e0 : F 0 = k) (e1 : F 1 = h) (e2 : F 2 = x) (e3 : F 3 = j) (e4 : F 4 = y) (e5 : F 5 = m) (e6 : F 6 = d) (e7 : F 7 = p) (e8 : F 8 = q) (e9 : F 9 = n) (e10 : F 10 = o) (e11 : F 11 = w) : FE F (fx k h x j y m d p q n o w) := by
  intro i hi
  rcases (show i = 0 ∨ i = 1 ∨ i = 2 ∨ i = 3 ∨ i = 4 ∨ i = 5 ∨ i = 6 ∨ i = 7 ∨ i = 8 ∨ i = 9 ∨ i = 10 ∨ i = 11 by omega) with rfl | rfl | rfl | rfl | rfl | rfl | rfl | rfl | rfl | rfl | rfl | rfl
  · exact e0
  · exact e1
  · exact e2
  · exact e3
  · exact e4
  · exact e5
  · exact e6
  · exact e7
  · exact e8
  · exact e9
  · exact e10
  · exact e11
/-! bits -/
abbrev bitI (b : Int32) (i : Nat) : Prop := ((b >>> (nI i &&& 31)) &&& (1 : Int32)) = 1
theorem n_shr {p m : Nat} (hp : p < 2 ^ 31) (hm : m < 32) : nI p >>> (nI m &&& 31) = nI (p >>> m) := by
  apply Int32.toBitVec_inj.1
  rw [Int32.toBitVec_shiftRight]
  have s := (by decide +kernel : ∀ n, n < 32 → ((nI n &&& 31).toBitVec.smod 32).toNat = n) m hm
  show (BitVec.ofNat 32 p).sshiftRight ((nI m &&& 31).toBitVec.smod 32).toNat = BitVec.ofNat 32 (p >>> m)
  rw [s]
  apply BitVec.eq_of_toNat_eq
  have hms : (BitVec.ofNat 32 p).msb = false := by
    rw [BitVec.msb_eq_false_iff_two_mul_lt, BitVec.toNat_ofNat]
    omega
  rw [BitVec.sshiftRight_eq_of_msb_false hms, BitVec.toNat_ushiftRight, BitVec.toNat_ofNat, BitVec.toNat_ofNat, Nat.mod_eq_of_lt (by omega), Nat.mod_eq_of_lt]
  have := Nat.shiftRight_le p m
  omega
theorem bit_n {m i : Nat} (hm : m < 2 ^ 31) (hi : i < 32) : bitI (nI m) i ↔ m.testBit i = true := by
  have e1 : (nI m >>> (nI i &&& 31)) &&& (1 : Int32) = nI (m / 2 ^ i % 2) := by
    rw [n_shr hm hi, show (1 : Int32) = nI 1 from rfl, n_and, Nat.and_one_is_mod, Nat.shiftRight_eq_div_pow]
  show (nI m >>> (nI i &&& 31)) &&& (1 : Int32) = 1 ↔ _
  rw [e1, Nat.testBit_eq_decide_div_mod_eq, decide_eq_true_eq]
  have h2 : m / 2 ^ i % 2 < 2 := Nat.mod_lt _ (by decide)
  generalize m / 2 ^ i % 2 = z at h2
  rcases (show z = 0 ∨ z = 1 by omega) with rfl | rfl <;> decide
theorem bit_or {b i a : Nat} (hb : b < 4096) (hi : i < 12) (ha : a < 12) : (bitI (nI b ||| ((1 : Int32) <<< (nI a &&& 31))) i ↔ (i = a ∨ bitI (nI b) i)) ∧ ∃ c, c < 4096 ∧ nI b ||| ((1 : Int32) <<< (nI a &&& 31)) = nI c := by
  have e1 : (1 : Int32) <<< (nI a &&& 31) = nI (2 ^ a) := (by decide +kernel : ∀ a, a < 12 → (1 : Int32) <<< (nI a &&& 31) = nI (2 ^ a)) a ha
  have h2 : 2 ^ a < 2 ^ 12 := Nat.pow_lt_pow_right (by decide) ha
  have h3 : b ||| 2 ^ a < 2 ^ 12 := Nat.or_lt_two_pow hb h2
  rw [e1, n_or]
  refine ⟨?_, b ||| 2 ^ a, h3, rfl⟩
  rw [bit_n (by omega) (by omega), bit_n (by omega) (by omega), Nat.testBit_or, Nat.testBit_two_pow]
  simp only [Bool.or_eq_true, decide_eq_true_eq]
  constructor
  · rintro (z | z)
    · exact Or.inr z
    · exact Or.inl z.symm
  · rintro (z | z)
    · exact Or.inr z.symm
    · exact Or.inl z
theorem bit_0 {i : Nat} (hi : i < 12) : ¬ bitI (nI 0) i := by
  rw [bit_n (by decide) (by omega)]
  simp
theorem nI_i {a : Int32} {k : Nat} (h : a.toInt = (k : Int)) : a = nI k := by
  have h1 := i_full a
  exact Int32.toInt_inj.mp (by rw [nI_toInt (by omega), h])
theorem nI_n0 {k : Nat} (h : k < 2 ^ 31) : ¬ nI k < (0 : Int32) := by
  rw [Int32.lt_iff_toInt_lt, nI_toInt h]
  have z : (0 : Int32).toInt = 0 := rfl
  omega
