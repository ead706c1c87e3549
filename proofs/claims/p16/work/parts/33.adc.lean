theorem u_must {n : Nat} (hn : 200000 ≤ n) {M0 : qM} (a : Int32) (M : qM) (hG : G M) (hS : Sm lP M0 M) (ha : 0 ≤ a.toInt) : qT (f_X9_mustTake n a M) (fun v m => ((v.toInt = 1 ∧ tq (M 2) (M 1 2).toInt (M 1 3).toInt = a.toInt ∧ (M 1 3).toInt < (M 1 2).toInt ∧ (m 1 3).toInt = (M 1 3).toInt + 1) ∨ (v.toInt = 0 ∧ tq (M 2) (M 1 2).toInt (M 1 3).toInt ≠ a.toInt ∧ (m 1 4).toInt = -1000 - (M 1 3).toInt)) ∧ (∀ s2, s2 ≠ 3 → s2 ≠ 4 → m 1 s2 = M 1 s2) ∧ (∀ c, c ≠ 1 → m c = M c) ∧ G m ∧ Sm lP M0 m) := by
  unfold f_X9_mustTake
  refine T_qc (u_takes hn a M hG hS ha) ?_
  rintro r m ⟨ho, z2, z3, g, s⟩
  refine T_eq rfl l_0 (fun c => ?_) (fun c => ?_)
  · refine T_qc (u_fails (1 : Int32) (m 1 3) m g s (by decide) (r_1_3 g)) ?_
    rintro r3 m4 ⟨w0, w1, w2, w3, g4, s4⟩
    rw [l_1] at w1
    refine T_eq rfl l_0 (fun f2 => ?_) (fun f2 => absurd w0 f2)
    exact T_ret ⟨Or.inr ⟨l_0, by omega, by omega⟩, fun s2 h3 h4 => by rw [w2 s2 h4, z2 s2 h3], fun k hk => by rw [w3 k hk, z3 k hk], g4, s4⟩
  · exact T_ret ⟨Or.inl ⟨l_1, by omega, by omega, by omega⟩, fun s2 h3 _ => z2 s2 h3, z3, g, s⟩
abbrev Qr (b u t : Int) (M1 M0 : qM) (v : Int32) (m : qM) : Prop := ((v.toInt = 1 ∧ (m 53 3).toInt = b + (u - b) * t) ∨ (v.toInt = 0 ∧ 40 < b + (u - b) * t)) ∧ (∀ c, c < 53 → m c = M1 c) ∧ G m ∧ Sm lP M0 m
theorem u_rep17 {n : Nat} {b u t : Int} {M1 M0 : qM} (hb : 0 ≤ b ∧ b ≤ u ∧ u ≤ 40) {K : Int32 → Int32 → Int32 → Int32 → qM → qR} {B : Nat} (hK : ∀ (a1 a2 a3 a4 : Int32) (M : qM), G M → Sm lP M0 M → a1.toInt = b → a2.toInt = t → a3.toInt = u → 1 ≤ a4.toInt → a4.toInt ≤ t → (M 53 3).toInt = b + (u - b) * a4.toInt → (∀ c, c < 53 → M c = M1 c) → 10 - a4.toInt < (B : Int) → qT (K a1 a2 a3 a4 M) (Qr b u t M1 M0)) : ∀ (m : Nat) (a1 a2 a3 a4 a5 : Int32) (M : qM), G M → Sm lP M0 M → a1.toInt = b → a2.toInt = t → a3.toInt = u → 1 ≤ a4.toInt → a4.toInt < t → t ≤ 9 → b ≤ a5.toInt → a5.toInt ≤ u → (M 53 3).toInt = b + (u - b) * a4.toInt + (a5.toInt - b) → (∀ c, c < 53 → M c = M1 c) → 10 - a4.toInt < (B : Int) + 1 → 41 - a5.toInt < (m : Int) → qT (f_X6_repeatSteps_17 n K m a1 a2 a3 a4 a5 M) (Qr b u t M1 M0) := by
  intro m
  induction m with
  | zero => intro a1 a2 a3 a4 a5 M _ _ _ _ _ _ _ _ _ _ _ _ _ h; exfalso; omega
  | succ m ih =>
    intro a1 a2 a3 a4 a5 M hG hS h1 h2 h3 k1 k2 k3 k4 k5 k6 k7 k8 hm
    have h533 := r_53_3 hG
    have e1 : (u - b) * (a4.toInt + 1) = (u - b) * a4.toInt + (u - b) := by rw [Int.mul_add, Int.mul_one]
    have e2 : (u - b) * (a4.toInt + 1) ≤ (u - b) * t := Int.mul_le_mul_of_nonneg_left (by omega) (by omega)
    show qT (b_X6_repeatSteps_17 n K (f_X6_repeatSteps_17 n K m) a1 a2 a3 a4 a5 M) _
    unfold b_X6_repeatSteps_17
    refine T_le rfl rfl (fun c => ?_) (fun c => ?_)
    · refine T_ql (i_add rfl l_1 (by omega) (by omega)) ?_
      intro x hx
      exact hK a1 a2 a3 x M hG hS h1 h2 h3 (by omega) (by omega) (by rw [hx, e1]; omega) k7 (by omega)
    · refine T_qg rfl (by omega) (by omega) (T_qg rfl (by omega) (by omega) ?_)
      refine T_qc (u_add _ _ M hG hS) ?_
      rintro r m3 ⟨ho, hf, g, s⟩
      refine T_eq rfl l_0 (fun d => ?_) (fun d => ?_)
      · refine T_ret ⟨Or.inr ⟨l_0, by omega⟩, fun c hc => by rw [hf c hc]; exact k7 c hc, g, s⟩
      · refine T_ql (i_add rfl l_1 (by omega) (by omega)) ?_
        intro x hx
        exact ih a1 a2 a3 a4 x m3 g s h1 h2 h3 k1 k2 k3 (by omega) (by omega) (by omega) (fun c hc => by rw [hf c hc]; exact k7 c hc) k8 (by omega)
theorem u_rep8 {n : Nat} (hn : 200000 ≤ n) {b u t : Int} {M1 M0 : qM} (hb : 0 ≤ b ∧ b ≤ u ∧ u ≤ 40) (ht : t ≤ 9) : ∀ (m : Nat) (a1 a2 a3 a4 : Int32) (M : qM), G M → Sm lP M0 M → a1.toInt = b → a2.toInt = t → a3.toInt = u → 1 ≤ a4.toInt → a4.toInt ≤ t → (M 53 3).toInt = b + (u - b) * a4.toInt → (∀ c, c < 53 → M c = M1 c) → 10 - a4.toInt < (m : Int) → qT (f_X6_repeatSteps_8 n m a1 a2 a3 a4 M) (Qr b u t M1 M0) := by
  intro m
  induction m with
  | zero => intro a1 a2 a3 a4 M _ _ _ _ _ _ _ _ _ h; exfalso; omega
  | succ m ih =>
    intro a1 a2 a3 a4 M hG hS h1 h2 h3 k1 k2 k3 k7 hm
    show qT (b_X6_repeatSteps_8 n (f_X6_repeatSteps_8 n m) a1 a2 a3 a4 M) _
    unfold b_X6_repeatSteps_8
    refine T_le rfl rfl (fun c => ?_) (fun c => ?_)
    · have e : a4.toInt = t := by omega
      rw [e] at k3
      exact T_ret ⟨Or.inl ⟨l_1, k3⟩, k7, hG, hS⟩
    · exact u_rep17 hb ih n a1 a2 a3 a4 a1 M hG hS h1 h2 h3 k1 (by omega) ht (by omega) (by omega) (by rw [k3]; omega) k7 (by omega) (by omega)
theorem u_rep {n : Nat} (hn : 200000 ≤ n) {b t : Int} {M0 : qM} (a1 a2 : Int32) (M : qM) (hG : G M) (hS : Sm lP M0 M) (h1 : a1.toInt = b) (h2 : a2.toInt = t) (hb : 0 ≤ b ∧ b ≤ (M 53 3).toInt) (ht : 2 ≤ t ∧ t ≤ 9) : qT (f_X6_repeatSteps n a1 a2 M) (Qr b (M 53 3).toInt t M M0) := by
  have h533 := r_53_3 hG
  unfold f_X6_repeatSteps
  refine T_ql rfl ?_
  intro x hx
  exact u_rep8 hn (by omega) (by omega) n a1 a2 x 1 M hG hS h1 h2 hx (by rw [l_1]; omega) (by rw [l_1]; omega) (by rw [l_1, Int.mul_one]; omega) (fun _ _ => rfl) (by rw [l_1]; omega)
/-- as Pst, by the way of the small machine -/
abbrev Pw2 (R : Nat → Int32) (len : Int) (c : Cf) (pl s : Int) (st : List (Int × Int)) (M0 : qM) (v : Int32) (m : qM) : Prop := (Cx R len m ∧ G m ∧ Sm lP M0 m) ∧ ((v.toInt = 0 ∧ To (tq R len) len c (2, (m 1 4).toInt, 0, [])) ∨ (v.toInt = 1 ∧ To (tq R len) len c (1, (m 1 3).toInt, (m 53 3).toInt, st) ∧ pl < (m 1 3).toInt ∧ (m 1 3).toInt ≤ len ∧ s ≤ (m 53 3).toInt))
theorem stW_s {T : Int → Int} {pl p s : Int} {st : List (Int × Int)} {q s' : Int} (h : stW T pl p s st = (1, q, s', st)) : s ≤ s' := by
  unfold stW stE cF at h
  repeat' split at h
  all_goals (first | (injection h with h1 h2; injection h2 with h3 h4; injection h4 with h5 h6; omega) | (injection h with h1 h2; exact absurd h1 (by decide)))
theorem stT_s {T : Int → Int} {pl s : Int} {st : List (Int × Int)} {q s' : Int} (h : stT T pl s st = (1, q, s', st)) : s ≤ s' := by
  unfold stT at h
  by_cases c1 : dq (T pl) < 0
  · rw [if_pos c1] at h; unfold cF at h; injection h with h1 h2; exact absurd h1 (by decide)
  · rw [if_neg c1] at h
    by_cases c2 : 12 ≤ knd T pl
    · rw [if_pos c2] at h; unfold cF at h; injection h with h1 h2; exact absurd h1 (by decide)
    · rw [if_neg c2] at h; exact stW_s h
theorem u_step {n : Nat} (hn : 200000 ≤ n) {M0 : qM} {R : Nat → Int32} {len : Int} (hl : len ≤ 80) {F : Int32 → qM → qR} {B : Nat}
    (hF : ∀ (a1 : Int32) (M : qM) (st : List (Int × Int)), G M → Sm lP M0 M → Cx R len M → (M 1 3).toInt ≤ len → (st.length : Int) = a1.toInt → 0 ≤ a1.toInt ∧ a1.toInt ≤ 3 → 2 * (3 - a1.toInt) + 1 < (B : Int) → qT (F a1 M) (fun v m => Pw2 R len (0, (M 1 3).toInt, (M 53 3).toInt, st) (M 1 3).toInt (M 53 3).toInt st M0 v m ∧ (v.toInt = 0 ∨ tq R len (m 1 3).toInt ≠ 44)))
    (a1 : Int32) (M : qM) (st : List (Int × Int)) (hG : G M) (hS : Sm lP M0 M) (hC : Cx R len M) (h3 : (M 1 3).toInt ≤ len) (hst : (st.length : Int) = a1.toInt) (ha : 0 ≤ a1.toInt ∧ a1.toInt ≤ 3) (hB : 2 * (3 - a1.toInt) < (B : Int) + 1) : qT (fo_X6_readStep n F a1 M) (Pw2 R len (0, (M 1 3).toInt, (M 53 3).toInt, st) (M 1 3).toInt (M 53 3).toInt st M0) := by
  have h13 := r_1_3 hG
  have h12 := r_1_2 hG
  have h53 := r_53_3 hG
  have hlen := hC.2
  have ht0 := tq_r R len (M 1 3).toInt
  unfold fo_X6_readStep
  refine T_qc (u_sign hn M hG) ?_
  rintro r1 m2 ⟨rfl, hr1⟩
  rw [hC.1, hC.2] at hr1
  refine T_eq rfl l_40 (fun c => ?_) (fun c => ?_)
  · refine T_ql rfl ?_
    intro x3 hx3
    refine T_ql rfl ?_
    intro x4 hx4
    refine T_lt rfl l_3 (fun d => ?_) (fun d => ?_)
    · have ep : (m2 1 3 + 1).toInt = (m2 1 3).toInt + 1 := i_add rfl l_1 (by omega) (by omega)
      refine T_p (Or.inl rfl) hG hS (i_rng (lo := 0) (hi := 240) ep (by omega) (by omega)) ?_
      intro m5 y1 y2 y3 g5 s5
      have e5 : (m5 1 3).toInt = (m2 1 3).toInt + 1 := by rw [y1]; exact ep
      have e53 : m5 53 = m2 53 := y3 53 (by decide)
      have ea : (a1 + 1).toInt = a1.toInt + 1 := i_add rfl l_1 (by omega) (by omega)
      have hstep : To (tq R len) len (0, (m2 1 3).toInt, (m2 53 3).toInt, st) (0, (m5 1 3).toInt, (m5 53 3).toInt, ((m2 1 3).toInt, (m2 53 3).toInt) :: st) := by
        refine To_st ?_
        rw [st_A]
        unfold stA
        rw [if_pos (by omega), if_neg (by omega), e5, e53]
      refine T_qc (hF (a1 + 1) m5 (((m2 1 3).toInt, (m2 53 3).toInt) :: st) g5 s5 ⟨by rw [y3 2 (by decide)]; exact hC.1, by rw [y2 2 (by decide)]; exact hC.2⟩ (by omega) (by rw [List.length_cons, ea]; omega) (by omega) (by omega)) ?_
      rintro r6 m7 ⟨⟨⟨hC7, g7, s7⟩, ho⟩, hne⟩
      have h137 := r_1_3 g7
      have h537 := r_53_3 g7
      have hlen7 := hC7.2
      refine T_eq rfl l_0 (fun e => ?_) (fun e => ?_)
      · rcases ho with ⟨q1, q2⟩ | ⟨q1, q2⟩
        · exact T_ret ⟨⟨hC7, g7, s7⟩, Or.inl ⟨l_0, To_tr hstep q2⟩⟩
        · omega
      · obtain ⟨q1, q2, q3, q4, q5⟩ := ho.resolve_left (fun q => e q.1)
        have q6 := hne.resolve_left e
        have way := To_tr hstep q2
        have hd1 := dq_r (tq R len ((m7 1 3).toInt + 1))
        have ht1 := tq_r R len ((m7 1 3).toInt + 1)
        refine T_qc (u_must hn (41 : Int32) m7 g7 s7 (by decide)) ?_
        rintro r8 m9 ⟨ho9, z2, z3, g9, s9⟩
        rw [hC7.1, hC7.2, l_41] at ho9
        refine T_eq rfl l_0 (fun f => ?_) (fun f => ?_)
        · refine T_ret ⟨⟨⟨by rw [z3 2 (by decide)]; exact hC7.1, by rw [z2 2 (by decide) (by decide)]; exact hC7.2⟩, g9, s9⟩, Or.inl ⟨l_0, To_tr way (To_st ?_)⟩⟩
          rw [st_B]
          show (if _ then _ else _) = _
          rw [if_neg q6, if_neg (by omega)]
          unfold cF
          have : (m9 1 4).toInt = -1000 - (m7 1 3).toInt := by omega
          rw [this]
          rfl
        · have e9 : (m9 1 3).toInt = (m7 1 3).toInt + 1 := by omega
          have hC9 : Cx R len m9 := ⟨by rw [z3 2 (by decide)]; exact hC7.1, by rw [z2 2 (by decide) (by decide)]; exact hC7.2⟩
          have hT7 : tq R len (m7 1 3).toInt = 41 := by omega
          refine T_qc (u_digit hn m9 g9) ?_
          rintro r10 m11 ⟨rfl, hr10⟩
          rw [hC9.1, hC9.2, e9] at hr10
          have e953 : m11 53 = m7 53 := z3 53 (by decide)
          refine T_le l_2 rfl (fun f2 => ?_) (fun f2 => ?_)
          · have ep9 : (m11 1 3 + 1).toInt = (m11 1 3).toInt + 1 := i_add rfl l_1 (by omega) (by omega)
            refine T_p (Or.inl rfl) g9 s9 (i_rng (lo := 0) (hi := 240) ep9 (by omega) (by omega)) ?_
            intro m12 v1 v2 v3 g12 s12
            have e12 : (m12 1 3).toInt = (m7 1 3).toInt + 2 := by rw [v1]; omega
            have e1253 : m12 53 = m7 53 := by rw [v3 53 (by decide), e953]
            have hC12 : Cx R len m12 := ⟨by rw [v3 2 (by decide)]; exact hC9.1, by rw [v2 2 (by decide)]; exact hC9.2⟩
            refine T_qc (u_rep hn (b := (m2 53 3).toInt) (t := r10.toInt) x4 r10 m12 g12 s12 hx4 rfl (by rw [e1253]; rw [e53] at q5; omega) (by omega)) ?_
            rintro r13 m14 ⟨ho14, hf14, g14, s14⟩
            rw [e1253] at ho14
            have hC14 : Cx R len m14 := ⟨by rw [hf14 2 (by decide)]; exact hC12.1, by rw [hf14 1 (by decide)]; exact hC12.2⟩
            refine T_eq rfl l_0 (fun f3 => ?_) (fun f3 => ?_)
            · refine T_qc (u_fails (6 : Int32) x3 m14 g14 s14 (by decide) (by omega)) ?_
              rintro r15 m16 ⟨w0, w1, w2, w3, g16, s16⟩
              rw [l_6] at w1
              refine T_eq rfl l_0 (fun f4 => ?_) (fun f4 => absurd w0 f4)
              refine T_ret ⟨⟨⟨by rw [w3 2 (by decide)]; exact hC14.1, by rw [w2 2 (by decide)]; exact hC14.2⟩, g16, s16⟩, Or.inl ⟨l_0, To_tr way (To_st ?_)⟩⟩
              rw [st_B]
              show (if _ then _ else _) = _
              rw [if_neg q6, if_pos hT7, if_neg (by omega)]
              rw [if_pos (by show 40 < (m2 53 3).toInt + ((m7 53 3).toInt - (m2 53 3).toInt) * _; rw [← hr10]; omega)]
              unfold cF
              rw [w1, hx3]
            · have hv : (m14 53 3).toInt = (m2 53 3).toInt + ((m7 53 3).toInt - (m2 53 3).toInt) * r10.toInt := by omega
              have h5314 := r_53_3 g14
              have hpos : 0 ≤ ((m7 53 3).toInt - (m2 53 3).toInt) * r10.toInt := Int.mul_nonneg (by rw [e53] at q5; omega) (by omega)
              refine T_ret ⟨⟨hC14, g14, s14⟩, Or.inr ⟨l_1, To_tr way (To_st ?_), by rw [hf14 1 (by decide)]; omega, by rw [hf14 1 (by decide)]; omega, by omega⟩⟩
              rw [st_B]
              show (if _ then _ else _) = _
              rw [if_neg q6, if_pos hT7, if_neg (by omega)]
              rw [if_neg (by show ¬ 40 < (m2 53 3).toInt + ((m7 53 3).toInt - (m2 53 3).toInt) * _; rw [← hr10]; omega)]
              rw [hf14 1 (by decide), e12, ← hr10, hv]
          · refine T_qc (u_fails (1 : Int32) (m11 1 3) m11 g9 s9 (by decide) (r_1_3 g9)) ?_
            rintro r17 m18 ⟨w0, w1, w2, w3, g18, s18⟩
            rw [l_1] at w1
            refine T_qb rfl (by omega) (by omega) (T_ret ⟨⟨⟨by rw [w3 2 (by decide)]; exact hC9.1, by rw [w2 2 (by decide)]; exact hC9.2⟩, g18, s18⟩, Or.inl ⟨w0, To_tr way (To_st ?_)⟩⟩)
            rw [st_B]
            show (if _ then _ else _) = _
            rw [if_neg q6, if_pos hT7, if_pos (by omega)]
            unfold cF
            rw [w1, e9]
    · refine T_qc (u_fails (5 : Int32) x3 m2 hG hS (by decide) (by omega)) ?_
      rintro r19 m20 ⟨w0, w1, w2, w3, g20, s20⟩
      rw [l_5] at w1
      refine T_qb rfl (by omega) (by omega) (T_ret ⟨⟨⟨by rw [w3 2 (by decide)]; exact hC.1, by rw [w2 2 (by decide)]; exact hC.2⟩, g20, s20⟩, Or.inl ⟨w0, To_st ?_⟩⟩)
      rw [st_A]
      unfold stA cF
      rw [if_pos (by omega), if_pos (by omega), w1, hx3]
  · refine T_qc (u_try hn (st := st) m2 hG hS hC h3) ?_
    rintro r21 m22 ⟨⟨hC22, g22, s22⟩, ho⟩
    have hA : stp (tq R len) len (0, (m2 1 3).toInt, (m2 53 3).toInt, st) = stT (tq R len) (m2 1 3).toInt (m2 53 3).toInt st := by
      rw [st_A]; unfold stA; rw [if_neg (by omega)]
    rcases ho with ⟨q1, q2⟩ | ⟨q1, q2, q3, q4⟩
    · exact T_qb rfl (by omega) (by omega) (T_ret ⟨⟨hC22, g22, s22⟩, Or.inl ⟨q1, To_st (by rw [hA, q2])⟩⟩)
    · exact T_qb rfl (by omega) (by omega) (T_ret ⟨⟨hC22, g22, s22⟩, Or.inr ⟨q1, To_st (by rw [hA, q2]), q3, q4, stT_s q2⟩⟩)
