/-! feed keeps the tapes alike -/
theorem byte255 (x : Int32) : (vp_nar .byte x) &&& (255 : Int32) = x &&& (255 : Int32) := by
  show (x.toInt8.toInt32) &&& (255 : Int32) = x &&& (255 : Int32)
  apply Int32.toBitVec_inj.mp
  rw [Int32.toBitVec_and, Int32.toBitVec_and]
  show (BitVec.signExtend 32 (BitVec.signExtend 8 x.toBitVec)) &&& (255 : Int32).toBitVec = x.toBitVec &&& (255 : Int32).toBitVec
  apply BitVec.eq_of_getLsbD_eq
  intro i hi
  rw [BitVec.getLsbD_and, BitVec.getLsbD_and]
  by_cases h : i < 8
  · rw [BitVec.getLsbD_signExtend, BitVec.getLsbD_signExtend]
    simp [h, show i < 32 by omega]
  · have : (255 : Int32).toBitVec.getLsbD i = false := by
      have q := (by decide +kernel : ∀ j, j < 32 → 8 ≤ j → (255 : Int32).toBitVec.getLsbD j = false) i hi (by omega)
      exact q
    rw [this, Bool.and_false, Bool.and_false]
def bO (a : Int32) (k : Nat) : Int32 := (a >>> (nI (24 - 8 * k) &&& 31)) &&& (255 : Int32)
theorem p_put3 {n : Nat} {s : Int} {M1 : qM} (hs : 0 ≤ s ∧ s ≤ 256) (a : Int32) : ∀ (m j : Nat) (a2 : Int32) (M : qM), a2.toInt = 24 - 8 * (j : Int) → j ≤ 4 → (M 1 1).toInt = s + j → (∀ i : Nat, (i : Int) < s → M 2 i = M1 2 i) → (∀ k, k < j → M 2 (s.toNat + k) = bO a k) → (∀ c, c ≠ 1 → c ≠ 2 → M c = M1 c) → 5 - j < m → qT (f_X9_put_3 n m a a2 M) (fun _ m' => (m' 1 1).toInt = s + 4 ∧ (∀ i : Nat, (i : Int) < s → m' 2 i = M1 2 i) ∧ (∀ k, k < 4 → m' 2 (s.toNat + k) = bO a k) ∧ (∀ c, c ≠ 1 → c ≠ 2 → m' c = M1 c)) := by
  intro m
  induction m with
  | zero => intro j a2 M _ _ _ _ _ _ h; exfalso; omega
  | succ m ih =>
    intro j a2 M h1 h2 h3 h4 h5 h6 hm
    show qT (b_X9_put_3 n (f_X9_put_3 n m) a a2 M) _
    unfold b_X9_put_3
    refine T_lt rfl l_0 (fun c => ?_) (fun c => ?_)
    · have e : j = 4 := by omega
      subst e
      exact T_ret ⟨h3, h4, h5, h6⟩
    · refine T_le l_260 rfl (fun d => by exfalso; omega) (fun d => ?_)
      refine T_qg rfl (by omega) (by omega) (T_qlm (T_qlm ?_))
      refine T_ql (i_add rfl l_m8 (by omega) (by omega)) ?_
      intro x hx
      have e11 : mu M 2 (M 1 1).toNatClampNeg ((a >>> (a2 &&& 31)) &&& (255 : Int32)) 1 1 = M 1 1 := mu_ne (Or.inl (by decide))
      rw [e11]
      have ea : a2 = nI (24 - 8 * j) := Int32.toInt_inj.mp (by rw [nI_toInt (by omega), h1]; omega)
      have ix : (M 1 1).toNatClampNeg = s.toNat + j := by rw [tnc, h3]; omega
      refine ih (j + 1) x _ (by omega) (by omega) ?_ (fun i hi => ?_) (fun k hk => ?_) (fun c q1 q2 => ?_) (by omega)
      · rw [mu_at, i_add rfl l_1 (by omega) (by omega)]; omega
      · rw [mu_ne (Or.inl (by decide)), mu_ne (Or.inr (by rw [ix]; omega))]; exact h4 i hi
      · rw [mu_ne (Or.inl (by decide))]
        by_cases q : k = j
        · subst q
          rw [ix, mu_at, ea]; rfl
        · rw [mu_ne (Or.inr (by rw [ix]; omega))]; exact h5 k (by omega)
      · rw [mu_nc q1, mu_nc q2]; exact h6 c q1 q2
theorem p_put {n : Nat} (hn : 200000 ≤ n) (a : Int32) (M : qM) (hs : 0 ≤ (M 1 1).toInt ∧ (M 1 1).toInt ≤ 256) : qT (f_X9_put n a M) (fun _ m' => (m' 1 1).toInt = (M 1 1).toInt + 4 ∧ (∀ i : Nat, (i : Int) < (M 1 1).toInt → m' 2 i = M 2 i) ∧ (∀ k, k < 4 → m' 2 ((M 1 1).toInt.toNat + k) = bO a k) ∧ (∀ c, c ≠ 1 → c ≠ 2 → m' c = M c)) := by
  unfold f_X9_put
  exact p_put3 hs a n 0 24 M (by rw [l_24]; omega) (by omega) (by omega) (fun _ _ => rfl) (fun k hk => absurd hk (by omega)) (fun _ _ _ => rfl) (by omega)
theorem p_types2 {n : Nat} {s : Int} {M1 : qM} (hs : 0 ≤ s ∧ s ≤ 256) (a : Int32) : ∀ (m j : Nat) (a2 : Int32) (M : qM), a2.toInt = 3 - (j : Int) → j ≤ 4 → (M 77 8).toInt = s + j → (∀ i : Nat, (i : Int) < s → M 84 i = M1 84 i) → (∀ k, k < j → (M 84 (s.toNat + k)) &&& (255 : Int32) = bO a k) → (∀ c, c ≠ 77 → c ≠ 84 → M c = M1 c) → 5 - j < m → qT (f_X12_types_2 n m a a2 M) (fun _ m' => (m' 77 8).toInt = s + 4 ∧ (∀ i : Nat, (i : Int) < s → m' 84 i = M1 84 i) ∧ (∀ k, k < 4 → (m' 84 (s.toNat + k)) &&& (255 : Int32) = bO a k) ∧ (∀ c, c ≠ 77 → c ≠ 84 → m' c = M1 c)) := by
  intro m
  induction m with
  | zero => intro j a2 M _ _ _ _ _ _ h; exfalso; omega
  | succ m ih =>
    intro j a2 M h1 h2 h3 h4 h5 h6 hm
    show qT (b_X12_types_2 n (f_X12_types_2 n m) a a2 M) _
    unfold b_X12_types_2
    refine T_lt rfl l_0 (fun c => ?_) (fun c => ?_)
    · have e : j = 4 := by omega
      subst e
      exact T_ret ⟨h3, h4, h5, h6⟩
    · refine T_qg rfl (by omega) (by omega) (T_qlm (T_qlm ?_))
      refine T_ql (i_add rfl l_m1 (by omega) (by omega)) ?_
      intro x hx
      have e11 : mu M 84 (M 77 8).toNatClampNeg (vp_nar .byte (((a >>> (((8 : Int32) * a2) &&& 31)).toInt8).toInt32)) 77 8 = M 77 8 := mu_ne (Or.inl (by decide))
      rw [e11]
      have ea : (8 : Int32) * a2 = nI (24 - 8 * j) := Int32.toInt_inj.mp (by rw [nI_toInt (by omega), i_mul l_8 rfl (by omega) (by omega), h1]; omega)
      have ix : (M 77 8).toNatClampNeg = s.toNat + j := by rw [tnc, h3]; omega
      refine ih (j + 1) x _ (by omega) (by omega) ?_ (fun i hi => ?_) (fun k hk => ?_) (fun c q1 q2 => ?_) (by omega)
      · rw [mu_at, i_add rfl l_1 (by omega) (by omega)]; omega
      · rw [mu_ne (Or.inl (by decide)), mu_ne (Or.inr (by rw [ix]; omega))]; exact h4 i hi
      · rw [mu_ne (Or.inl (by decide))]
        by_cases q : k = j
        · subst q
          rw [ix, mu_at, byte255, ea]
          exact byte255 _
        · rw [mu_ne (Or.inr (by rw [ix]; omega))]; exact h5 k (by omega)
      · rw [mu_nc q1, mu_nc q2]; exact h6 c q1 q2
theorem p_types {n : Nat} (hn : 200000 ≤ n) (a : Int32) (M : qM) (hs : 0 ≤ (M 77 8).toInt ∧ (M 77 8).toInt ≤ 256) : qT (f_X12_types n a M) (fun _ m' => (m' 77 8).toInt = (M 77 8).toInt + 4 ∧ (∀ i : Nat, (i : Int) < (M 77 8).toInt → m' 84 i = M 84 i) ∧ (∀ k, k < 4 → (m' 84 ((M 77 8).toInt.toNat + k)) &&& (255 : Int32) = bO a k) ∧ (∀ c, c ≠ 77 → c ≠ 84 → m' c = M c)) := by
  unfold f_X12_types
  exact p_types2 hs a n 0 3 M (by rw [l_3]; omega) (by omega) (by omega) (fun _ _ => rfl) (fun k hk => absurd hk (by omega)) (fun _ _ _ => rfl) (by omega)
/-- five words: what lies from s on -/
def wB (a : Nat → Int32) (i : Nat) : Int32 := bO (a (i / 4)) (i % 4)
theorem p_more {R R' : Nat → Int32} {a : Nat → Int32} {s : Int} {j : Nat} (h0 : 0 ≤ s) (h1 : ∀ i, i < 4 * j → R (s.toNat + i) = wB a i) (h2 : ∀ i : Nat, (i : Int) < s + 4 * j → R' i = R i) (h3 : ∀ k, k < 4 → R' ((s + 4 * j).toNat + k) = bO (a j) k) : ∀ i, i < 4 * (j + 1) → R' (s.toNat + i) = wB a i := by
  intro i hi
  by_cases q : i < 4 * j
  · rw [h2 _ (by omega)]; exact h1 i q
  · have e : s.toNat + i = (s + 4 * j).toNat + (i - 4 * j) := by omega
    rw [e, h3 _ (by omega)]
    unfold wB
    rw [show i / 4 = j by omega, show i % 4 = i - 4 * j by omega]
def five (a b c d e : Int32) : Nat → Int32
  | 0 => a
  | 1 => b
  | 2 => c
  | 3 => d
  | _ => e
theorem p_feed {n : Nat} (hn : 200000 ≤ n) (a b c d e : Int32) (M : qM) (hs : 0 ≤ (M 1 1).toInt ∧ (M 1 1).toInt ≤ 240) : qT (f_X11_feed n a b c d e M) (fun _ m => (m 1 1).toInt = (M 1 1).toInt + 20 ∧ (∀ i : Nat, (i : Int) < (M 1 1).toInt → m 2 i = M 2 i) ∧ (∀ i, i < 20 → m 2 ((M 1 1).toInt.toNat + i) = wB (five a b c d e) i) ∧ (∀ c, c ≠ 1 → c ≠ 2 → m c = M c)) := by
  unfold f_X11_feed
  refine T_le (i_add rfl l_20 (by omega) (by omega)) l_260 (fun _ => ?_) (fun q => by exfalso; omega)
  refine T_qc (p_put hn a M (by omega)) ?_
  rintro _ m1 ⟨s1, o1, n1, f1⟩
  refine T_qc (p_put hn b m1 (by omega)) ?_
  rintro _ m2 ⟨s2, o2, n2, f2⟩
  refine T_qc (p_put hn c m2 (by omega)) ?_
  rintro _ m3 ⟨s3, o3, n3, f3⟩
  refine T_qc (p_put hn d m3 (by omega)) ?_
  rintro _ m4 ⟨s4, o4, n4, f4⟩
  refine T_qc (p_put hn e m4 (by omega)) ?_
  rintro _ m5 ⟨s5, o5, n5, f5⟩
  have w0 : ∀ i, i < 4 * 0 → M 2 ((M 1 1).toInt.toNat + i) = wB (five a b c d e) i := fun i hi => absurd hi (by omega)
  have w1 := p_more (a := five a b c d e) (j := 0) hs.1 w0 (fun i hi => o1 i (by omega)) (fun k hk => by rw [show ((M 1 1).toInt + 4 * ((0 : Nat) : Int)).toNat = (M 1 1).toInt.toNat by omega]; exact n1 k hk)
  have w2 := p_more (a := five a b c d e) (j := 1) hs.1 w1 (fun i hi => o2 i (by omega)) (fun k hk => by rw [show ((M 1 1).toInt + 4 * ((1 : Nat) : Int)).toNat = (m1 1 1).toInt.toNat by omega]; exact n2 k hk)
  have w3 := p_more (a := five a b c d e) (j := 2) hs.1 w2 (fun i hi => o3 i (by omega)) (fun k hk => by rw [show ((M 1 1).toInt + 4 * ((2 : Nat) : Int)).toNat = (m2 1 1).toInt.toNat by omega]; exact n3 k hk)
  have w4 := p_more (a := five a b c d e) (j := 3) hs.1 w3 (fun i hi => o4 i (by omega)) (fun k hk => by rw [show ((M 1 1).toInt + 4 * ((3 : Nat) : Int)).toNat = (m3 1 1).toInt.toNat by omega]; exact n4 k hk)
  have w5 := p_more (a := five a b c d e) (j := 4) hs.1 w4 (fun i hi => o5 i (by omega)) (fun k hk => by rw [show ((M 1 1).toInt + 4 * ((4 : Nat) : Int)).toNat = (m4 1 1).toInt.toNat by omega]; exact n5 k hk)
  refine T_ret ⟨by omega, fun i hi => by rw [o5 i (by omega), o4 i (by omega), o3 i (by omega), o2 i (by omega), o1 i hi], fun i hi => w5 i (by omega), fun k q1 q2 => by rw [f5 k q1 q2, f4 k q1 q2, f3 k q1 q2, f2 k q1 q2, f1 k q1 q2]⟩
theorem q_feed {n : Nat} (hn : 200000 ≤ n) (a b c d e : Int32) (M : qM) (hs : 0 ≤ (M 77 8).toInt ∧ (M 77 8).toInt ≤ 240) : qT (f_X12_feed n a b c d e M) (fun _ m => (m 77 8).toInt = (M 77 8).toInt + 20 ∧ (∀ i : Nat, (i : Int) < (M 77 8).toInt → m 84 i = M 84 i) ∧ (∀ i, i < 20 → (m 84 ((M 77 8).toInt.toNat + i)) &&& (255 : Int32) = wB (five a b c d e) i) ∧ (∀ c, c ≠ 77 → c ≠ 84 → m c = M c)) := by
  unfold f_X12_feed
  refine T_le (i_add rfl l_20 (by omega) (by omega)) l_260 (fun _ => ?_) (fun q => by exfalso; omega)
  refine T_qc (p_types hn a M (by omega)) ?_
  rintro _ m1 ⟨s1, o1, n1, f1⟩
  refine T_qc (p_types hn b m1 (by omega)) ?_
  rintro _ m2 ⟨s2, o2, n2, f2⟩
  refine T_qc (p_types hn c m2 (by omega)) ?_
  rintro _ m3 ⟨s3, o3, n3, f3⟩
  refine T_qc (p_types hn d m3 (by omega)) ?_
  rintro _ m4 ⟨s4, o4, n4, f4⟩
  refine T_qc (p_types hn e m4 (by omega)) ?_
  rintro _ m5 ⟨s5, o5, n5, f5⟩
  have w0 : ∀ i, i < 4 * 0 → (fun i => M 84 i &&& (255 : Int32)) ((M 77 8).toInt.toNat + i) = wB (five a b c d e) i := fun i hi => absurd hi (by omega)
  have w1 := p_more (R := fun i => M 84 i &&& (255 : Int32)) (R' := fun i => m1 84 i &&& (255 : Int32)) (a := five a b c d e) (j := 0) hs.1 w0 (fun i hi => by show m1 84 i &&& (255 : Int32) = M 84 i &&& (255 : Int32); rw [o1 i (by omega)]) (fun k hk => by rw [show ((M 77 8).toInt + 4 * ((0 : Nat) : Int)).toNat = (M 77 8).toInt.toNat by omega]; exact n1 k hk)
  have w2 := p_more (R := fun i => m1 84 i &&& (255 : Int32)) (R' := fun i => m2 84 i &&& (255 : Int32)) (a := five a b c d e) (j := 1) hs.1 w1 (fun i hi => by show m2 84 i &&& (255 : Int32) = m1 84 i &&& (255 : Int32); rw [o2 i (by omega)]) (fun k hk => by rw [show ((M 77 8).toInt + 4 * ((1 : Nat) : Int)).toNat = (m1 77 8).toInt.toNat by omega]; exact n2 k hk)
  have w3 := p_more (R := fun i => m2 84 i &&& (255 : Int32)) (R' := fun i => m3 84 i &&& (255 : Int32)) (a := five a b c d e) (j := 2) hs.1 w2 (fun i hi => by show m3 84 i &&& (255 : Int32) = m2 84 i &&& (255 : Int32); rw [o3 i (by omega)]) (fun k hk => by rw [show ((M 77 8).toInt + 4 * ((2 : Nat) : Int)).toNat = (m2 77 8).toInt.toNat by omega]; exact n3 k hk)
  have w4 := p_more (R := fun i => m3 84 i &&& (255 : Int32)) (R' := fun i => m4 84 i &&& (255 : Int32)) (a := five a b c d e) (j := 3) hs.1 w3 (fun i hi => by show m4 84 i &&& (255 : Int32) = m3 84 i &&& (255 : Int32); rw [o4 i (by omega)]) (fun k hk => by rw [show ((M 77 8).toInt + 4 * ((3 : Nat) : Int)).toNat = (m3 77 8).toInt.toNat by omega]; exact n4 k hk)
  have w5 := p_more (R := fun i => m4 84 i &&& (255 : Int32)) (R' := fun i => m5 84 i &&& (255 : Int32)) (a := five a b c d e) (j := 4) hs.1 w4 (fun i hi => by show m5 84 i &&& (255 : Int32) = m4 84 i &&& (255 : Int32); rw [o5 i (by omega)]) (fun k hk => by rw [show ((M 77 8).toInt + 4 * ((4 : Nat) : Int)).toNat = (m4 77 8).toInt.toNat by omega]; exact n5 k hk)
  refine T_ret ⟨by omega, fun i hi => by rw [o5 i (by omega), o4 i (by omega), o3 i (by omega), o2 i (by omega), o1 i hi], fun i hi => w5 i (by omega), fun k q1 q2 => by rw [f5 k q1 q2, f4 k q1 q2, f3 k q1 q2, f2 k q1 q2, f1 k q1 q2]⟩
theorem feed_TR {n : Nat} (hn : 200000 ≤ n) {a b c d e v1 v2 : Int32} {M m1 m2 : qM} (hG : G M) (hT : TR M) (hs : (M 1 1).toInt = (M 77 8).toInt) (e1 : f_X11_feed n a b c d e M = some (v1, m1)) (e2 : f_X12_feed n a b c d e m1 = some (v2, m2)) : TR m2 := by
  have h11 := r_1_1 hG
  by_cases hc : (M 1 1).toInt ≤ 240
  · obtain ⟨w, mw, ew, s1, o1, n1, f1⟩ := p_feed hn a b c d e M (by omega)
    rw [e1] at ew
    cases ew
    have e8 : m1 77 = M 77 := f1 77 (by decide) (by decide)
    have e84 : m1 84 = M 84 := f1 84 (by decide) (by decide)
    obtain ⟨w2, mw2, ew2, s2, o2, n2, f2⟩ := q_feed hn a b c d e m1 (by rw [e8]; omega)
    rw [e2] at ew2
    cases ew2
    rw [e8] at s2 o2 n2
    rw [e84] at o2
    have g1 : m2 1 = m1 1 := f2 1 (by decide) (by decide)
    have g2 : m2 2 = m1 2 := f2 2 (by decide) (by decide)
    intro i hi
    rw [g1] at hi
    rw [g2]
    by_cases q : (i : Int) < (M 1 1).toInt
    · rw [o1 i q, o2 i (by omega)]; exact hT i q
    · have k1 := n1 (i - (M 1 1).toInt.toNat) (by omega)
      have k2 := n2 (i - (M 1 1).toInt.toNat) (by omega)
      rw [show (M 1 1).toInt.toNat + (i - (M 1 1).toInt.toNat) = i by omega] at k1
      rw [show (M 77 8).toInt.toNat + (i - (M 1 1).toInt.toNat) = i by omega] at k2
      rw [k1, k2]
  · have z : ((260 : Int32).toInt : Int) = 260 := rfl
    have r1 : m1 = M := by
      unfold f_X11_feed at e1
      rw [if_neg (by rw [Int32.le_iff_toInt_le, i_add rfl l_20 (by omega) (by omega)]; omega)] at e1
      injection e1 with e1; injection e1 with _ e1; exact e1.symm
    subst r1
    have r2 : m2 = m1 := by
      unfold f_X12_feed at e2
      rw [if_neg (by rw [Int32.le_iff_toInt_le, i_add rfl l_20 (by omega) (by omega)]; omega)] at e2
      injection e2 with e2; injection e2 with _ e2; exact e2.symm
    rw [r2]; exact hT
theorem TR_le {M m : qM} (h : TR M) (e1 : (m 1 1).toInt ≤ (M 1 1).toInt) (e2 : m 2 = M 2) (e3 : m 84 = M 84) : TR m := fun i hi => by rw [e2, e3]; exact h i (by omega)
