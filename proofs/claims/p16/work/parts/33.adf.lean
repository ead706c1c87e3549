/-- what the model's reader of a step says of the small machine -/
abbrev Qv (R : Nat → Int32) (len : Int) (c : Cf) (pl : Int) (M0 : qM) (v : Int32) (m : qM) : Prop := ((v.toInt = 0 ∧ To (tm R len) len c (2, (m 77 11).toInt, 0, [])) ∨ (v.toInt = 1 ∧ To (tm R len) len c (cM 1 m) ∧ Mx R len m ∧ pl ≤ (m 77 9).toInt ∧ (tm R len (m 77 9).toInt ≠ 41 ∨ (m 77 36).toInt = 0))) ∧ G m ∧ Sm lM M0 m
theorem v_296 {n : Nat} (hn : 200000 ≤ n) {M0 : qM} {R : Nat → Int32} {len pl : Int} {c : Cf} : ∀ (m : Nat) (M : qM), G M → Sm lM M0 M → Mx R len M → To (tm R len) len c (cM 1 M) → pl ≤ (M 77 9).toInt → 241 - (M 77 9).toInt < (m : Int) → qT (f_X12_readsStep_296 n m M) (Qv R len c pl M0) := by
  intro m
  induction m with
  | zero => intro M hG _ _ _ _ h; have := r_77_9 hG; exfalso; omega
  | succ m ih =>
    intro M hG hS hM hT hp hm
    have hM2 := hM
    obtain ⟨hR, hlen, hpl, hKR, hFR⟩ := hM2
    have h36 := r_77_36 hG
    show qT (b_X12_readsStep_296 n (f_X12_readsStep_296 n m) M) _
    unfold b_X12_readsStep_296
    refine T_qc (v_here hn M hG) ?_
    rintro r1 m2 ⟨rfl, hr1⟩
    rw [hR, hlen] at hr1
    refine T_eq rfl l_41 (fun d => ?_) (fun d => ?_)
    · refine T_le rfl l_0 (fun e => ?_) (fun e => ?_)
      · exact T_ret ⟨Or.inr ⟨l_1, hT, hM, hp, Or.inr (by omega)⟩, hG, hS⟩
      · refine T_qc (v_ends hn m2 hG hS hM (by omega) (by omega)) ?_
        rintro r3 m4 ⟨ho, g4, s4⟩
        refine T_eq rfl l_0 (fun f => ?_) (fun f => ?_)
        · rcases ho with ⟨q1, q2⟩ | ⟨q1, q2⟩
          · exact T_ret ⟨Or.inl ⟨l_0, To_tr hT (To_st q2)⟩, g4, s4⟩
          · omega
        · obtain ⟨q1, q2, q3, q4⟩ := ho.resolve_left (fun q => f q.1)
          exact ih m4 g4 s4 q3 (To_tr hT (To_st q2)) (by omega) (by omega)
    · exact T_ret ⟨Or.inr ⟨l_1, hT, hM, hp, Or.inl (by omega)⟩, hG, hS⟩
theorem v_fail {n : Nat} {M0 : qM} {R : Nat → Int32} {len pl k w : Int} {c : Cf} (a b : Int32) (M : qM) (hG : G M) (hS : Sm lM M0 M) (ha : a.toInt = k) (hb : b.toInt = w) (hk : 1 ≤ k ∧ k ≤ 6) (hw : 0 ≤ w ∧ w ≤ 240) (hT : To (tm R len) len c (cF k w)) : qT (qc (f_X12_wrongAt n a b M) (fun r m => qb r (some (r, m)))) (Qv R len c pl M0) := by
  refine T_qc (v_wrong a b M hG hS (by omega) (by omega)) ?_
  rintro r m ⟨w0, w1, w2, w3, g, s⟩
  refine T_qb rfl (by omega) (by omega) (T_ret ⟨Or.inl ⟨w0, ?_⟩, g, s⟩)
  rw [w1, ha, hb]
  exact hT
theorem v_246 {n : Nat} (hn : 200000 ≤ n) {M0 : qM} {R : Nat → Int32} {len pl : Int} {c : Cf} (a1 a2 : Int32) (M : qM) (hG : G M) (hS : Sm lM M0 M) (hM : Mx R len M) (h1 : a1.toInt = pl) (h0 : 0 ≤ pl ∧ pl ≤ 240) (hp : pl ≤ (M 77 9).toInt) (hT : To (tm R len) len c (stE pl (M 77 9).toInt (M 77 35).toInt (stk (M 100) (M 101) (M 77 36).toInt.toNat))) : qT (f_X12_readsStep_246 n a1 a2 M) (Qv R len c pl M0) := by
  obtain ⟨hR, hlen, hpl, hKR, hFR⟩ := hM
  have h35 := r_77_35 hG
  unfold f_X12_readsStep_246
  unfold stE at hT
  refine T_eq rfl l_40 (fun d => ?_) (fun d => ?_)
  · rw [if_pos (by omega)] at hT
    exact v_fail (6 : Int32) a1 M hG hS l_6 h1 (by omega) h0 hT
  · rw [if_neg (by omega)] at hT
    refine T_qg rfl (by omega) (by omega) ?_
    refine T_n (Or.inr (by decide)) hG hS trivial ?_
    intro m1 a1' a2' a3 g1 s1
    have c35 : m1 77 35 = M 77 35 := by rw [a3 77 (by decide)]
    rw [c35]
    refine T_qg rfl (by omega) (by omega) ?_
    refine T_n (Or.inr (by decide)) g1 s1 trivial ?_
    intro m2 b1 b2 b3 g2 s2
    have d35 : m2 77 35 = M 77 35 := by rw [b3 77 (by decide), c35]
    rw [d35]
    have ep : (M 77 35 + 1).toInt = (M 77 35).toInt + 1 := i_add rfl l_1 (by omega) (by omega)
    refine T_n (Or.inl ⟨rfl, by decide⟩) g2 s2 (i_rng (lo := 0) (hi := 40) ep (by omega) (by omega)) ?_
    intro m3 c1 c2 c3 g3 s3
    have e35 : (m3 77 35).toInt = (M 77 35).toInt + 1 := by rw [c1]; exact ep
    have e77 : ∀ s, s ≠ 35 → m3 77 s = M 77 s := fun s hs => by rw [c2 s hs, b3 77 (by decide), a3 77 (by decide)]
    have e100 : m3 100 = M 100 := by rw [c3 100 (by decide), b3 100 (by decide), a3 100 (by decide)]
    have e101 : m3 101 = M 101 := by rw [c3 101 (by decide), b3 101 (by decide), a3 101 (by decide)]
    have h93 := r_77_9 g3
    refine v_296 hn n m3 g3 s3 ⟨by rw [c3 84 (by decide), b3 84 (by decide), a3 84 (by decide)]; exact hR, by rw [e77 10 (by decide)]; exact hlen, by rw [e77 9 (by decide)]; exact hpl, ?_, ?_⟩ ?_ (by rw [e77 9 (by decide)]; exact hp) (by omega)
    · intro i hi
      rw [e77 36 (by decide)] at hi
      rw [e101, e35]
      have := hKR i hi
      omega
    · intro i hi
      rw [e77 36 (by decide)] at hi
      rw [e100]
      exact hFR i hi
    · show To _ _ _ (1, (m3 77 9).toInt, (m3 77 35).toInt, stk (m3 100) (m3 101) (m3 77 36).toInt.toNat)
      rw [e77 9 (by decide), e35, e100, e101, e77 36 (by decide)]
      exact hT
theorem v_157 {n : Nat} (hn : 200000 ≤ n) {M0 : qM} {R : Nat → Int32} {len pl : Int} {c : Cf} (a1 : Int32) (M : qM) (hG : G M) (hS : Sm lM M0 M) (hM : Mx R len M) (h1 : a1.toInt = pl) (h0 : 0 ≤ pl ∧ pl ≤ 240) (hp : pl ≤ (M 77 9).toInt) (hT : To (tm R len) len c (if 12 ≤ (M 77 12).toInt then cF 3 pl else stW (tm R len) pl (M 77 9).toInt (M 77 35).toInt (stk (M 100) (M 101) (M 77 36).toInt.toNat))) : qT (f_X12_readsStep_157 n a1 M) (Qv R len c pl M0) := by
  have hM2 := hM
  obtain ⟨hR, hlen, hpl, hKR, hFR⟩ := hM2
  have h9 := r_77_9 hG
  have h10 := r_77_10 hG
  have ht := tm_r R len (M 77 9).toInt
  have ht1 := tm_r R len ((M 77 9).toInt + 1)
  have hd1 := dq_r (tm R len ((M 77 9).toInt + 1))
  unfold f_X12_readsStep_157
  refine T_lt rfl l_12 (fun d => ?_) (fun d => ?_)
  · rw [if_neg (by omega)] at hT
    unfold stW at hT
    refine T_qc (v_here hn M hG) ?_
    rintro r1 m2 ⟨rfl, hr1⟩
    rw [hR, hlen] at hr1
    refine T_eq rfl l_38 (fun e => ?_) (fun e => ?_)
    · rw [if_pos (by omega)] at hT
      have ep : (m2 77 9 + 1).toInt = (m2 77 9).toInt + 1 := i_add rfl l_1 (by omega) (by omega)
      refine T_n (Or.inl ⟨rfl, by decide⟩) hG hS (i_rng (lo := 0) (hi := 240) ep (by omega) (by omega)) ?_
      intro m3 a1' a2 a3 g3 s3
      have p3 : (m3 77 9).toInt = (m2 77 9).toInt + 1 := by rw [a1']; exact ep
      have q84 : m3 84 = R := by rw [a3 84 (by decide)]; exact hR
      have q10 : (m3 77 10).toInt = len := by rw [a2 10 (by decide)]; exact hlen
      refine T_qc (v_digit hn m3 g3) ?_
      rintro r4 m5 ⟨rfl, hr4⟩
      rw [q84, q10, p3] at hr4
      refine T_eq rfl l_0 (fun f => ?_) (fun f => ?_)
      · rw [if_pos (by omega)] at hT
        exact v_fail (1 : Int32) (m5 77 9) m5 g3 s3 l_1 p3 (by omega) (by omega) hT
      · rw [if_neg (by omega)] at hT
        refine T_qc (v_here hn m5 g3) ?_
        rintro r6 m7 ⟨rfl, hr6⟩
        rw [q84, q10, p3] at hr6
        refine T_ql (i_sub rfl l_48 (by omega) (by omega)) ?_
        intro x8 hx8
        refine T_lt rfl l_8 (fun k => ?_) (fun k => ?_)
        · rw [if_neg (by omega)] at hT
          have ep7 : (m7 77 9 + 1).toInt = (m7 77 9).toInt + 1 := i_add rfl l_1 (by omega) (by omega)
          refine T_n (Or.inl ⟨rfl, by decide⟩) g3 s3 (i_rng (lo := 0) (hi := 240) ep7 (by omega) (by omega)) ?_
          intro m9 b1 b2 b3 g9 s9
          have p9 : (m9 77 9).toInt = (m2 77 9).toInt + 2 := by rw [b1]; omega
          have e77 : ∀ s, s ≠ 9 → m9 77 s = m2 77 s := fun s hs => by rw [b2 s hs, a2 s hs]
          have e100 : m9 100 = m2 100 := by rw [b3 100 (by decide), a3 100 (by decide)]
          have e101 : m9 101 = m2 101 := by rw [b3 101 (by decide), a3 101 (by decide)]
          refine v_246 hn a1 x8 m9 g9 s9 ⟨by rw [b3 84 (by decide)]; exact q84, by rw [b2 10 (by decide)]; exact q10, by omega, ?_, ?_⟩ h1 h0 (by omega) (by rw [p9, e77 35 (by decide), e77 36 (by decide), e100, e101]; exact hT)
          · exact KR_c (e77 35 (by decide)) (e77 36 (by decide)) e101 hKR
          · intro i hi
            rw [e77 36 (by decide)] at hi
            rw [e100]
            exact hFR i hi
        · rw [if_pos (by omega)] at hT
          exact v_fail (3 : Int32) (m7 77 9) m7 g3 s3 l_3 p3 (by omega) (by omega) hT
    · rw [if_neg (by omega)] at hT
      exact v_246 hn a1 8 m2 hG hS hM h1 h0 hp hT
  · rw [if_pos (by omega)] at hT
    exact v_fail (3 : Int32) a1 M hG hS l_3 h1 (by omega) h0 hT
theorem v_108 {n : Nat} (hn : 200000 ≤ n) {M0 : qM} {R : Nat → Int32} {len pl : Int} {c : Cf} (a1 : Int32) (h1 : a1.toInt = pl) (h0 : 0 ≤ pl ∧ pl ≤ 240) (hd0 : 0 ≤ dq (tm R len pl)) : ∀ (m : Nat) (M : qM), G M → Sm lM M0 M → Mx R len M → (((M 77 9).toInt = pl ∧ (M 77 12).toInt = 0) ∨ ((M 77 9).toInt = pl + 1 ∧ (M 77 12).toInt = dq (tm R len pl)) ∨ ((M 77 9).toInt = pl + 2 ∧ 0 ≤ dq (tm R len (pl + 1)) ∧ (M 77 12).toInt = 10 * dq (tm R len pl) + dq (tm R len (pl + 1)))) → To (tm R len) len c (stT (tm R len) pl (M 77 35).toInt (stk (M 100) (M 101) (M 77 36).toInt.toNat)) → pl + 3 - (M 77 9).toInt < (m : Int) → qT (f_X12_readsStep_108 n m a1 M) (Qv R len c pl M0) := by
  intro m
  induction m with
  | zero => intro M hG _ _ _ _ h; exfalso; omega
  | succ m ih =>
    intro M hG hS hM hv hT hm
    have hM2 := hM
    obtain ⟨hR, hlen, hpl, hKR, hFR⟩ := hM2
    have h9 := r_77_9 hG
    have h10 := r_77_10 hG
    have ht0 := tm_r R len pl
    have ht1 := tm_r R len (pl + 1)
    have hd0' := dq_r (tm R len pl)
    have hd1 := dq_r (tm R len (pl + 1))
    have fin : (pl + 1 = (M 77 9).toInt ∧ dq (tm R len (pl + 1)) < 0 ∧ (M 77 12).toInt = dq (tm R len pl)) ∨ (pl + 2 = (M 77 9).toInt ∧ 0 ≤ dq (tm R len (pl + 1)) ∧ (M 77 12).toInt = 10 * dq (tm R len pl) + dq (tm R len (pl + 1))) → qT (f_X12_readsStep_157 n a1 M) (Qv R len c pl M0) := by
      intro hf
      refine v_157 hn a1 M hG hS hM h1 h0 (by omega) ?_
      unfold stT at hT
      rw [if_neg (by omega)] at hT
      rcases hf with ⟨f1, f2, f3⟩ | ⟨f1, f2, f3⟩
      · have ek : knd (tm R len) pl = (M 77 12).toInt := by unfold knd; rw [if_pos f2, f3]
        have en : nxp (tm R len) pl = (M 77 9).toInt := by unfold nxp; rw [if_pos f2, f1]
        rw [ek, en] at hT
        exact hT
      · have ek : knd (tm R len) pl = (M 77 12).toInt := by unfold knd; rw [if_neg (by omega), f3]
        have en : nxp (tm R len) pl = (M 77 9).toInt := by unfold nxp; rw [if_neg (by omega), f1]
        rw [ek, en] at hT
        exact hT
    show qT (b_X12_readsStep_108 n (f_X12_readsStep_108 n m) a1 M) _
    unfold b_X12_readsStep_108
    refine T_qc (v_digit hn M hG) ?_
    rintro r1 m2 ⟨rfl, hr1⟩
    rw [hR, hlen] at hr1
    refine T_eq rfl l_0 (fun d => ?_) (fun d => ?_)
    · refine fin ?_
      rcases hv with ⟨v1, v2⟩ | ⟨v1, v2⟩ | ⟨v1, v2, v3⟩
      · rw [v1] at hr1; omega
      · rw [v1] at hr1; exact Or.inl ⟨by omega, by omega, v2⟩
      · exact Or.inr ⟨by omega, v2, v3⟩
    · refine T_le (i_add rfl l_2 (by omega) (by omega)) rfl (fun e => ?_) (fun e => ?_)
      · refine fin ?_
        rcases hv with ⟨v1, v2⟩ | ⟨v1, v2⟩ | ⟨v1, v2, v3⟩
        · omega
        · omega
        · exact Or.inr ⟨by omega, v2, v3⟩
      · refine T_qc (v_here hn m2 hG) ?_
        rintro r3 m4 ⟨rfl, hr3⟩
        rw [hR, hlen] at hr3
        have hdd := dq_r (tm R len (m4 77 9).toInt)
        have htt := tm_r R len (m4 77 9).toInt
        have h12 : 0 ≤ (m4 77 12).toInt ∧ (m4 77 12).toInt ≤ 9 := by
          rcases hv with ⟨v1, v2⟩ | ⟨v1, v2⟩ | ⟨v1, v2, v3⟩ <;> omega
        have en : ((10 : Int32) * m4 77 12 + r3 - 48).toInt = 10 * (m4 77 12).toInt + r3.toInt - 48 := i_sub (i_add (i_mul l_10 rfl (by omega) (by omega)) rfl (by omega) (by omega)) l_48 (by omega) (by omega)
        refine T_n (Or.inl ⟨rfl, by decide⟩) hG hS trivial ?_
        intro m5 a1' a2 a3 g5 s5
        have c9 : m5 77 9 = m4 77 9 := a2 9 (by decide)
        rw [c9]
        have ep : (m4 77 9 + 1).toInt = (m4 77 9).toInt + 1 := i_add rfl l_1 (by omega) (by omega)
        refine T_n (Or.inl ⟨rfl, by decide⟩) g5 s5 (i_rng (lo := 0) (hi := 240) ep (by omega) (by omega)) ?_
        intro m6 b1 b2 b3 g6 s6
        have p6 : (m6 77 9).toInt = (m4 77 9).toInt + 1 := by rw [b1]; exact ep
        have n6 : (m6 77 12).toInt = 10 * (m4 77 12).toInt + r3.toInt - 48 := by rw [b2 12 (by decide), a1']; exact en
        have e77 : ∀ s, s ≠ 9 → s ≠ 12 → m6 77 s = m4 77 s := fun s q1 q2 => by rw [b2 s q1, a2 s q2]
        have e100 : m6 100 = m4 100 := by rw [b3 100 (by decide), a3 100 (by decide)]
        have e101 : m6 101 = m4 101 := by rw [b3 101 (by decide), a3 101 (by decide)]
        refine ih m6 g6 s6 ⟨by rw [b3 84 (by decide), a3 84 (by decide)]; exact hR, by rw [e77 10 (by decide) (by decide)]; exact hlen, by omega, KR_c (e77 35 (by decide) (by decide)) (e77 36 (by decide) (by decide)) e101 hKR, ?_⟩ ?_ (by rw [e77 35 (by decide) (by decide), e77 36 (by decide) (by decide), e100, e101]; exact hT) (by omega)
        · intro i hi
          rw [e77 36 (by decide) (by decide)] at hi
          rw [e100]
          exact hFR i hi
        · rcases hv with ⟨v1, v2⟩ | ⟨v1, v2⟩ | ⟨v1, v2, v3⟩
          · rw [v1] at hr3 hdd hr1
            exact Or.inr (Or.inl ⟨by omega, by omega⟩)
          · rw [v1] at hr3 hdd hr1
            exact Or.inr (Or.inr ⟨by omega, by omega, by omega⟩)
          · omega
theorem v_5 {n : Nat} (hn : 200000 ≤ n) {M0 : qM} {R : Nat → Int32} {len pl : Int} {c : Cf} : ∀ (m : Nat) (a1 : Int32) (M : qM), G M → Sm lM M0 M → Mx R len M → a1.toInt = (M 77 9).toInt → pl ≤ (M 77 9).toInt → To (tm R len) len c (cM 0 M) → 241 - (M 77 9).toInt < (m : Int) → qT (f_X12_readsStep_5 n m a1 M) (Qv R len c pl M0) := by
  intro m
  induction m with
  | zero => intro a1 M hG _ _ _ _ _ h; have := r_77_9 hG; exfalso; omega
  | succ m ih =>
    intro a1 M hG hS hM ha hp hT hm
    have hM2 := hM
    obtain ⟨hR, hlen, hpl, hKR, hFR⟩ := hM2
    have h9 := r_77_9 hG
    have h10 := r_77_10 hG
    have h35 := r_77_35 hG
    have h36 := r_77_36 hG
    have ht := tm_r R len (M 77 9).toInt
    have hstp : stp (tm R len) len (cM 0 M) = stA (tm R len) (M 77 9).toInt (M 77 35).toInt (stk (M 100) (M 101) (M 77 36).toInt.toNat) := rfl
    show qT (b_X12_readsStep_5 n (f_X12_readsStep_5 n m) a1 M) _
    unfold b_X12_readsStep_5
    refine T_qc (v_here hn M hG) ?_
    rintro r1 m2 ⟨rfl, hr1⟩
    rw [hR, hlen] at hr1
    refine T_eq rfl l_40 (fun d => ?_) (fun d => ?_)
    · refine T_eq rfl l_3 (fun e => ?_) (fun e => ?_)
      · refine v_fail (5 : Int32) (m2 77 9) m2 hG hS l_5 rfl (by omega) h9 (To_tr hT (To_st ?_))
        rw [hstp]
        unfold stA
        rw [if_pos (by omega), stk_len, if_pos (by omega)]
      · refine T_qg rfl (by omega) (by omega) ?_
        refine T_n (Or.inr (by decide)) hG hS trivial ?_
        intro m8 a1' a2 a3 g8 s8
        have c36 : m8 77 36 = m2 77 36 := by rw [a3 77 (by decide)]
        rw [c36]
        refine T_qg rfl (by omega) (by omega) ?_
        have c35 : m8 77 35 = m2 77 35 := by rw [a3 77 (by decide)]
        rw [c35]
        refine T_n (Or.inr (by decide)) g8 s8 (i_rng (lo := 0) (hi := 40) rfl (by omega) (by omega)) ?_
        intro m9 b1 b2 b3 g9 s9
        have d36 : m9 77 36 = m2 77 36 := by rw [b3 77 (by decide), c36]
        rw [d36]
        have ew : (m2 77 36 + 1).toInt = (m2 77 36).toInt + 1 := i_add rfl l_1 (by omega) (by omega)
        refine T_n (Or.inl ⟨rfl, by decide⟩) g9 s9 (i_rng (lo := 0) (hi := 3) ew (by omega) (by omega)) ?_
        intro m10 c1 c2 c3 g10 s10
        have d9 : m10 77 9 = m2 77 9 := by rw [c2 9 (by decide), b3 77 (by decide), a3 77 (by decide)]
        rw [d9]
        have ep : (m2 77 9 + 1).toInt = (m2 77 9).toInt + 1 := i_add rfl l_1 (by omega) (by omega)
        refine T_n (Or.inl ⟨rfl, by decide⟩) g10 s10 (i_rng (lo := 0) (hi := 240) ep (by omega) (by omega)) ?_
        intro m11 f1 f2 f3 g11 s11
        refine T_ql rfl ?_
        intro x hx
        have p11 : (m11 77 9).toInt = (m2 77 9).toInt + 1 := by rw [f1]; exact ep
        have w11 : (m11 77 36).toInt = (m2 77 36).toInt + 1 := by rw [f2 36 (by decide), c1]; exact ew
        have e35 : m11 77 35 = m2 77 35 := by rw [f2 35 (by decide), c2 35 (by decide), b3 77 (by decide), a3 77 (by decide)]
        have e10 : m11 77 10 = m2 77 10 := by rw [f2 10 (by decide), c2 10 (by decide), b3 77 (by decide), a3 77 (by decide)]
        have e84 : m11 84 = m2 84 := by rw [f3 84 (by decide), c3 84 (by decide), b3 84 (by decide), a3 84 (by decide)]
        have e100 : m11 100 = m8 100 := by rw [f3 100 (by decide), c3 100 (by decide), b3 100 (by decide)]
        have e101 : m11 101 = m9 101 := by rw [f3 101 (by decide), c3 101 (by decide)]
        have x100 : m8 100 (m2 77 36).toInt.toNat = m2 77 9 := a1'
        have x101 : m9 101 (m2 77 36).toInt.toNat = m2 77 35 := b1
        have o100 : ∀ i, i < (m2 77 36).toInt.toNat → m11 100 i = m2 100 i := fun i hi => by rw [e100]; exact a2 i (by rw [tnc]; omega)
        have o101 : ∀ i, i < (m2 77 36).toInt.toNat → m11 101 i = m2 101 i := fun i hi => by rw [e101, b2 i (by rw [tnc]; omega), a3 101 (by decide)]
        refine ih x m11 g11 s11 ⟨by rw [e84]; exact hR, by rw [e10]; exact hlen, by omega, ?_, ?_⟩ hx (by omega) (To_tr hT (To_st ?_)) (by omega)
        · intro i hi
          rw [e35]
          by_cases q : i = (m2 77 36).toInt.toNat
          · rw [q, e101, x101]; exact Int.le_refl _
          · rw [o101 i (by omega)]; exact hKR i (by omega)
        · intro i hi
          by_cases q : i = (m2 77 36).toInt.toNat
          · rw [q, e100, x100]; exact h9
          · rw [o100 i (by omega)]; exact hFR i (by omega)
        · rw [hstp]
          unfold stA
          rw [if_pos (by omega), stk_len, if_neg (by omega)]
          show _ = (0, (m11 77 9).toInt, (m11 77 35).toInt, stk (m11 100) (m11 101) (m11 77 36).toInt.toNat)
          rw [show (m11 77 36).toInt.toNat = (m2 77 36).toInt.toNat + 1 by omega]
          show _ = (0, (m11 77 9).toInt, (m11 77 35).toInt, ((m11 100 (m2 77 36).toInt.toNat).toInt, (m11 101 (m2 77 36).toInt.toNat).toInt) :: stk (m11 100) (m11 101) (m2 77 36).toInt.toNat)
          rw [stk_cg _ (fun i hi => ⟨o100 i hi, o101 i hi⟩), e100, x100, e101, x101, p11, e35]
    · have hA : To (tm R len) len c (stT (tm R len) (m2 77 9).toInt (m2 77 35).toInt (stk (m2 100) (m2 101) (m2 77 36).toInt.toNat)) := by
        refine To_tr hT (To_st ?_)
        rw [hstp]; unfold stA; rw [if_neg (by omega)]
      refine T_qc (v_digit hn m2 hG) ?_
      rintro r3 m4 ⟨rfl, hr3⟩
      rw [hR, hlen] at hr3
      refine T_eq rfl l_0 (fun e => ?_) (fun e => ?_)
      · refine v_fail (1 : Int32) (m4 77 9) m4 hG hS l_1 rfl (by omega) h9 ?_
        unfold stT at hA
        rw [if_pos (by omega)] at hA
        exact hA
      · refine T_n (Or.inl ⟨rfl, by decide⟩) hG hS trivial ?_
        intro m5 a1' a2 a3 g5 s5
        have e77 : ∀ s, s ≠ 12 → m5 77 s = m4 77 s := a2
        refine T_mono (v_108 (pl := (m4 77 9).toInt) (c := c) (len := len) (R := R) (M0 := M0) hn a1 ha h9 (by omega) n m5 g5 s5 ⟨by rw [a3 84 (by decide)]; exact hR, by rw [e77 10 (by decide)]; exact hlen, by rw [e77 9 (by decide)]; exact hpl, KR_c (e77 35 (by decide)) (e77 36 (by decide)) (a3 101 (by decide)) hKR, ?_⟩ (Or.inl ⟨by rw [e77 9 (by decide)], by rw [a1']; rfl⟩) (by rw [e77 35 (by decide), e77 36 (by decide), a3 100 (by decide), a3 101 (by decide)]; exact hA) (by rw [e77 9 (by decide)]; omega)) ?_
        · intro i hi
          rw [e77 36 (by decide)] at hi
          rw [a3 100 (by decide)]
          exact hFR i hi
        · rintro v m ⟨ho, g, s⟩
          refine ⟨?_, g, s⟩
          rcases ho with q | ⟨q1, q2, q3, q4, q5⟩
          · exact Or.inl q
          · exact Or.inr ⟨q1, q2, q3, by omega, q5⟩
