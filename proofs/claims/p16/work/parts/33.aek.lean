/-! the Java side's clauses -/
theorem KR_Lf {r : Nat} {M m : qM} {K : List Kl} (h : KRw r M K) (e : Lf r M m) : KRw r m K := by
  refine ⟨by rw [e.2.2.1]; exact h.1, Fk_cg h.2 (fun k _ => ?_)⟩
  show (_, _, _, _) = (_, _, _, _)
  rw [e.2.2.2 3 (by decide) (by decide), e.2.2.2 4 (by decide) (by decide), e.2.2.2 5 (by decide) (by decide), e.2.2.2 6 (by decide) (by decide)]
theorem KR_1 {r : Nat} (hr : q_isLaw r) {M m : qM} {K : List Kl} (h : KRw r M K) (e : ∀ c, c ≠ 1 → m c = M c) : KRw r m K := by
  have q : ∀ k, r + k ≠ 1 := fun k => by rcases hr with rfl | rfl <;> omega
  refine ⟨by rw [e r (q 0)]; exact h.1, Fk_cg h.2 (fun k _ => ?_)⟩
  show (_, _, _, _) = (_, _, _, _)
  rw [e _ (q 3), e _ (q 4), e _ (q 5), e _ (q 6)]
/-- what a clause's reader says -/
abbrev Lk (R : Nat → Int32) (len : Int) (r : Nat) (d0 : Ld) (pl0 : Int) (K : List Kl) (v : Int32) (m : qM) : Prop := (Cx R len m ∧ G m) ∧ ((v.toInt = 0 ∧ Yo (tq R len) len d0 ((4, (m 1 4).toInt, 0, [], []), (0, 0, 0), [])) ∨ (v.toInt = 1 ∧ ∃ C X, Yo (tq R len) len d0 ((6, (m 1 3).toInt, 0, C, []), X, K) ∧ CR r m C ∧ KRw r m (K ++ [(X.1, X.2.1, X.2.2, (C.length : Int))]) ∧ K.length < 16 ∧ (C.length : Int) ≤ (m 1 3).toInt ∧ pl0 < (m 1 3).toInt ∧ (m 1 3).toInt ≤ len))
theorem w_c113 {n : Nat} (hn : 200000 ≤ n) {r : Nat} (hr : q_isLaw r) {R : Nat → Int32} {len pl0 : Int} (hl : len ≤ 240) {d0 : Ld} (a1 a2 : Int32) (M : qM) (C : List Int) (K : List Kl) (hL : Ly R len r C M) (hK : KRw r M K) (h16 : K.length < 16) (h2 : 0 ≤ a2.toInt ∧ a2.toInt ≤ 240) (hp : pl0 < (M 1 3).toInt) (hY : Yo (tq R len) len d0 ((5, (M 1 3).toInt, 0, C, []), (a1.toInt, a2.toInt, 0), K)) : qT (f_X4_readClause_113 n r a1 a2 M) (Lk R len r d0 pl0 K) := by
  obtain ⟨hG, hX, hC, hcp, hpl⟩ := hL
  have h13 := r_1_3 hG
  have hc1 := hC.1
  unfold f_X4_readClause_113
  refine T_ql rfl ?_
  intro x1 hx1
  refine T_qc (w_must hn (40 : Int32) M hG (by decide)) ?_
  rintro r2 m3 ⟨ho3, z2, z3, g3⟩
  rw [hX.1, hX.2, l_40] at ho3
  have hX3 : Cx R len m3 := ⟨by rw [z3 2 (by decide)]; exact hX.1, by rw [z2 2 (by decide) (by decide)]; exact hX.2⟩
  refine T_eq rfl l_0 (fun c => ?_) (fun c => ?_)
  · refine T_ret ⟨⟨hX3, g3⟩, Or.inl ⟨l_0, Yo_tr hY (Yo_st ?_)⟩⟩
    rw [ys_5]
    unfold y5
    rw [if_neg (by omega)]
    unfold yF zF
    have : (m3 1 4).toInt = -1000 - (M 1 3).toInt := by omega
    rw [this]
    rfl
  · have e3 : (m3 1 3).toInt = (M 1 3).toInt + 1 := by omega
    have hst : Yo (tq R len) len d0 ((2, (m3 1 3).toInt, 0, C, [(13, 0)]), (a1.toInt, a2.toInt, (C.length : Int)), K) := by
      refine Yo_tr hY (Yo_st ?_)
      rw [ys_5]
      unfold y5
      rw [if_pos (by omega), e3]
    have hC3 := CR_1 hr hC z3
    have hL3 : Ly R len r C m3 := ⟨g3, hX3, hC3, by omega, by omega⟩
    refine T_qc (T_both (w_cond hn hr hl (1 : Int32) m3 C [(13, 0)] hL3 (by rw [l_1]; rfl) (by rw [l_1]; omega) rfl) (t_X4_readCondition hn hr (1 : Int32) m3 g3 (by rw [l_1]; omega) (by rw [hX3.2, hC3.1]; omega))) ?_
    rintro r4 m5 ⟨⟨⟨hX5, g5⟩, ho5⟩, _, _, hLf, _, _⟩
    refine T_eq rfl l_0 (fun d => ?_) (fun d => ?_)
    · rcases ho5 with ⟨q1, q2⟩ | ⟨q1, q2⟩
      · exact T_ret ⟨⟨hX5, g5⟩, Or.inl ⟨l_0, Yo_bad hst q2⟩⟩
      · omega
    · obtain ⟨q1, C', q2, q3, q4, q5, q6, q7⟩ := ho5.resolve_left (fun q => d q.1)
      clear ho5
      have hK5 := KR_Lf (KR_1 hr hK z3) hLf
      refine T_qc (w_must hn (41 : Int32) m5 g5 (by decide)) ?_
      rintro r6 m7 ⟨ho7, v2, v3, g7⟩
      rw [hX5.1, hX5.2, l_41] at ho7
      have hX7 : Cx R len m7 := ⟨by rw [v3 2 (by decide)]; exact hX5.1, by rw [v2 2 (by decide) (by decide)]; exact hX5.2⟩
      have hzD : zS (tq R len) (3, (m5 1 3).toInt, 0, C', [(13, 0)]) = (if tq R len (m5 1 3).toInt = 41 then (6, (m5 1 3).toInt + 1, 0, C', []) else zF 1 (m5 1 3).toInt) := by
        rw [ls_D, zD_c]
        rw [if_neg (by decide), if_neg (by decide), if_neg (fun q => absurd q.1 (by decide))]
        unfold zH
        by_cases q : tq R len (m5 1 3).toInt = 41
        · rw [if_pos ⟨q, rfl⟩, if_pos rfl, if_pos q]
        · rw [if_neg (fun x => q x.1), if_neg q7.1, if_neg q7.2, if_neg q]
      refine T_eq rfl l_0 (fun e => ?_) (fun e => ?_)
      · refine T_ret ⟨⟨hX7, g7⟩, Or.inl ⟨l_0, Yo_bad hst (Lo_tr q2 (Lo_st ?_))⟩⟩
        rw [hzD, if_neg (by omega)]
        unfold zF
        have : (m7 1 4).toInt = -1000 - (m5 1 3).toInt := by omega
        rw [this]
        rfl
      · have e7 : (m7 1 3).toInt = (m5 1 3).toInt + 1 := by omega
        have hst2 : Yo (tq R len) len d0 ((6, (m7 1 3).toInt, 0, C', []), (a1.toInt, a2.toInt, (C.length : Int)), K) := by
          refine Yo_tr hst (Yo_in (Lo_tr q2 (Lo_st ?_)))
          rw [hzD, if_pos (by omega), e7]
        refine T_qc (w_addc hr (C := C') (K := K) a1 a2 x1 m7 g7 (CR_1 hr q3 v3) (KR_1 hr hK5 v3) h16 h2 (by rw [hx1]; omega)) ?_
        rintro _ m8 ⟨u1, u2, u3, g8⟩
        have f1 : m8 1 = m7 1 := u3 1 (Or.inl (by rcases hr with rfl | rfl <;> decide))
        have f2 : m8 2 = m7 2 := u3 2 (Or.inl (by rcases hr with rfl | rfl <;> decide))
        rw [hx1, hc1] at u2
        refine T_ret ⟨⟨⟨by rw [f2]; exact hX7.1, by rw [f1]; exact hX7.2⟩, g8⟩, Or.inr ⟨l_1, C', _, by rw [f1]; exact hst2, u1, u2, h16, by rw [f1]; omega, by rw [f1]; omega, by rw [f1]; omega⟩⟩
theorem w_c48 {n : Nat} (hn : 200000 ≤ n) {r : Nat} (hr : q_isLaw r) {R : Nat → Int32} {len : Int} (hl : len ≤ 240) {d0 : Ld} (a1 : Int32) (M : qM) (C : List Int) (K : List Kl) (hL : Ly R len r C M) (hK : KRw r M K) (ha : a1.toInt = tq R len (M 1 3).toInt) (hcl : isCl (tq R len (M 1 3).toInt)) (hY : Yo (tq R len) len d0 ((7, (M 1 3).toInt, 0, C, []), (0, 0, 0), K)) : qT (f_X4_readClause_48 n r a1 M) (Lk R len r d0 (M 1 3).toInt K) := by
  obtain ⟨hG, hX, hC, hcp, hpl⟩ := hL
  have h13 := r_1_3 hG
  have h7 := rw_0_7 hr hG
  have hk := hK.1
  have hc1 := hC.1
  have ht := tq_r R len (M 1 3).toInt
  have hcl2 : tq R len (M 1 3).toInt = 97 ∨ tq R len (M 1 3).toInt = 118 ∨ tq R len (M 1 3).toInt = 102 ∨ tq R len (M 1 3).toInt = 99 := hcl
  unfold f_X4_readClause_48
  refine T_lt rfl l_16 (fun c => ?_) (fun c => ?_)
  · have h16 : K.length < 16 := by omega
    refine w_pl hG (by omega) ?_
    intro m1 y1 y2 y3 g1
    have hX1 : Cx R len m1 := ⟨by rw [y3 2 (by decide)]; exact hX.1, by rw [y2 2 (by decide)]; exact hX.2⟩
    have hC1 := CR_1 hr hC y3
    have hL1 : Ly R len r C m1 := ⟨g1, hX1, hC1, by omega, by omega⟩
    refine T_ql rfl ?_
    intro x2 hx2
    rw [hC1.1] at hx2
    refine T_eq rfl l_97 (fun d => ?_) (fun d => ?_)
    · refine w_c113 hn hr hl a1 x2 m1 C K hL1 (KR_1 hr hK y3) h16 (by omega) (by omega) (Yo_tr hY (Yo_st ?_))
      rw [ys_7]
      unfold y7
      rw [if_neg (fun q => q hcl), if_neg (by omega), if_pos (by omega), y1, d, hx2]
    · have hst : Yo (tq R len) len d0 ((0, (m1 1 3).toInt, 0, C, []), (a1.toInt, x2.toInt, 0), K) := by
        refine Yo_tr hY (Yo_st ?_)
        rw [ys_7]
        unfold y7
        rw [if_neg (fun q => q hcl), if_neg (by omega), if_neg (by omega), y1, ha, hx2]
      refine T_qc (T_both (w_sum hn hr hl (0 : Int32) m1 C 0 [] hL1 (by rw [l_0]; rfl) (by rw [l_0]; omega) (fun q q2 e => by cases e)) (t_X4_readSum hn hr (0 : Int32) m1 g1 (by rw [l_0]; omega) (by rw [hX1.2, hC1.1]; omega))) ?_
      rintro r3 m4 ⟨⟨⟨hX4, g4⟩, ho4⟩, _, _, hLf, _, _⟩
      refine T_eq rfl l_0 (fun e => ?_) (fun e => ?_)
      · rcases ho4 with ⟨q1, q2⟩ | ⟨q1, q2⟩
        · exact T_ret ⟨⟨hX4, g4⟩, Or.inl ⟨l_0, Yo_bad hst q2⟩⟩
        · omega
      · obtain ⟨q1, C', q2, q3, q4, q5, q6, q7⟩ := ho4.resolve_left (fun q => e q.1)
        clear ho4
        refine T_mono (w_c113 (pl0 := (M 1 3).toInt) hn hr hl a1 x2 m4 C' K ⟨g4, hX4, q3, by omega, q6⟩ (KR_Lf (KR_1 hr hK y3) hLf) h16 (by omega) (by omega) (Yo_tr hst (Yo_in (Lo_tr q2 (Lo_st ?_))))) (fun _ _ p => p)
        rw [ls_B]
        show zG _ _ _ _ _ _ _ = _
        unfold zG
        rw [if_neg (by rw [q7]; decide), if_neg (by decide)]
        unfold zE
        rw [if_pos rfl]
  · have h16 : K.length = 16 := by omega
    refine T_qc (w_fails (4 : Int32) (M 1 3) M hG (by decide) h13) ?_
    rintro r5 m6 ⟨w0, w1, w2, w3, g6⟩
    rw [l_4] at w1
    refine T_qb rfl (by omega) (by omega) (T_ret ⟨⟨⟨by rw [w3 2 (by decide)]; exact hX.1, by rw [w2 2 (by decide)]; exact hX.2⟩, g6⟩, Or.inl ⟨w0, Yo_tr hY (Yo_st ?_)⟩⟩)
    rw [ys_7]
    unfold y7
    rw [if_neg (fun q => q hcl), if_pos h16]
    unfold yF zF
    rw [w1]
theorem w_clause {n : Nat} (hn : 200000 ≤ n) {r : Nat} (hr : q_isLaw r) {R : Nat → Int32} {len : Int} (hl : len ≤ 240) {d0 : Ld} (M : qM) (C : List Int) (K : List Kl) (hL : Ly R len r C M) (hK : KRw r M K) (hY : Yo (tq R len) len d0 ((7, (M 1 3).toInt, 0, C, []), (0, 0, 0), K)) : qT (f_X4_readClause n r M) (Lk R len r d0 (M 1 3).toInt K) := by
  have hL2 := hL
  obtain ⟨hG, hX, hC, hcp, hpl⟩ := hL2
  have h13 := r_1_3 hG
  unfold f_X4_readClause
  refine T_qc (u_sign hn M hG) ?_
  rintro r1 m2 ⟨rfl, hr1⟩
  rw [hX.1, hX.2] at hr1
  refine T_eq rfl l_97 (fun c => ?_) (fun c1 => ?_)
  · exact w_c48 hn hr hl r1 m2 C K hL hK hr1 (Or.inl (by omega)) hY
  · refine T_eq rfl l_118 (fun c => ?_) (fun c2 => ?_)
    · exact w_c48 hn hr hl r1 m2 C K hL hK hr1 (Or.inr (Or.inl (by omega))) hY
    · refine T_eq rfl l_102 (fun c => ?_) (fun c3 => ?_)
      · exact w_c48 hn hr hl r1 m2 C K hL hK hr1 (Or.inr (Or.inr (Or.inl (by omega)))) hY
      · refine T_eq rfl l_99 (fun c => ?_) (fun c4 => ?_)
        · exact w_c48 hn hr hl r1 m2 C K hL hK hr1 (Or.inr (Or.inr (Or.inr (by omega)))) hY
        · refine T_qc (w_fails (1 : Int32) (m2 1 3) m2 hG (by decide) h13) ?_
          rintro r5 m6 ⟨w0, w1, w2, w3, g6⟩
          rw [l_1] at w1
          refine T_qb rfl (by omega) (by omega) (T_ret ⟨⟨⟨by rw [w3 2 (by decide)]; exact hX.1, by rw [w2 2 (by decide)]; exact hX.2⟩, g6⟩, Or.inl ⟨w0, Yo_tr hY (Yo_st ?_)⟩⟩)
          rw [ys_7]
          unfold y7
          rw [if_pos (fun q => by have q2 : _ ∨ _ ∨ _ ∨ _ := q; omega)]
          unfold yF zF
          rw [w1]
/-- what a law's reader says -/
abbrev Ll (R : Nat → Int32) (len : Int) (r : Nat) (v : Int32) (m : qM) : Prop := G m ∧ (Yo (tq R len) len ((7, 0, 0, [], []), (0, 0, 0), []) ((4, v.toInt, 0, [], []), (0, 0, 0), []) ∨ ∃ C K p, Yo (tq R len) len ((7, 0, 0, [], []), (0, 0, 0), []) ((8, p, 0, C, []), (0, 0, 0), K) ∧ v.toInt = (K.length : Int) ∧ CR r m C ∧ KRw r m K)
theorem w_read17 {n : Nat} (hn : 200000 ≤ n) {r : Nat} (hr : q_isLaw r) {R : Nat → Int32} {len : Int} (hl : len ≤ 240) : ∀ (m : Nat) (a2 : Int32) (M : qM) (C : List Int) (K : List Kl), Ly R len r C M → KRw r M K → a2.toInt = (K.length : Int) → Yo (tq R len) len ((7, 0, 0, [], []), (0, 0, 0), []) ((7, (M 1 3).toInt, 0, C, []), (0, 0, 0), K) → 17 - a2.toInt < (m : Int) → qT (f_X4_read_17 n r m a2 M) (Ll R len r) := by
  intro m
  induction m with
  | zero => intro a2 M C K hL hK ha _ h; have := rw_0_7 hr hL.1; have := hK.1; exfalso; omega
  | succ m ih =>
    intro a2 M C K hL hK ha hY hm
    have h7 := rw_0_7 hr hL.1
    have hk := hK.1
    show qT (b_X4_read_17 n r (f_X4_read_17 n r m) a2 M) _
    unfold b_X4_read_17
    refine T_lt l_16 rfl (fun c => by exfalso; omega) (fun c => ?_)
    refine T_qc (w_clause hn hr hl M C K hL hK hY) ?_
    rintro r1 m2 ⟨⟨hX2, g2⟩, ho2⟩
    refine T_eq rfl l_0 (fun d => ?_) (fun d => ?_)
    · rcases ho2 with ⟨q1, q2⟩ | ⟨q1, q2⟩
      · exact T_ret ⟨g2, Or.inl q2⟩
      · omega
    · obtain ⟨q1, C', X, q2, q3, q4, q5, q6, q7, q8⟩ := ho2.resolve_left (fun q => d q.1)
      clear ho2
      have h13 := r_1_3 g2
      refine T_qc (u_takes hn (M0 := m2) (59 : Int32) m2 g2 Sm.rf (by decide)) ?_
      rintro r3 m4 ⟨ho4, z2, z3, g4, _⟩
      rw [hX2.1, hX2.2, l_59] at ho4
      have hX4 : Cx R len m4 := ⟨by rw [z3 2 (by decide)]; exact hX2.1, by rw [z2 2 (by decide)]; exact hX2.2⟩
      refine T_eq rfl l_0 (fun e => ?_) (fun e => ?_)
      · have e3 : (m4 1 3).toInt = (m2 1 3).toInt := by omega
        refine T_qc (u_end m4 g4) ?_
        rintro r6 m7 ⟨ho7, v3, g7⟩
        rw [hX4.2, e3] at ho7
        refine T_eq rfl l_0 (fun f => ?_) (fun f => ?_)
        · refine T_ret ⟨g7, Or.inl (Yo_tr q2 (Yo_st ?_))⟩
          rw [ys_6]
          unfold y6
          rw [if_neg (by omega), if_neg (by omega)]
          unfold yF zF
          have : (m7 1 4).toInt = -1000 - (m2 1 3).toInt := by omega
          rw [this]
          rfl
        · have hK7 := KR_1 hr (KR_1 hr q4 z3) v3
          refine T_ret ⟨g7, Or.inr ⟨C', K ++ [(X.1, X.2.1, X.2.2, (C'.length : Int))], (m2 1 3).toInt, Yo_tr q2 (Yo_st ?_), hK7.1, CR_1 hr (CR_1 hr q3 z3) v3, hK7⟩⟩
          rw [ys_6]
          unfold y6
          rw [if_neg (by omega), if_pos (by omega)]
      · have e3 : (m4 1 3).toInt = (m2 1 3).toInt + 1 := by omega
        refine T_ql (i_add rfl l_1 (by omega) (by omega)) ?_
        intro x5 hx5
        have hKl : ((K ++ [(X.1, X.2.1, X.2.2, (C'.length : Int))]).length : Int) = (K.length : Int) + 1 := by rw [List.length_append, List.length_singleton]; omega
        refine ih x5 m4 C' (K ++ [(X.1, X.2.1, X.2.2, (C'.length : Int))]) ⟨g4, hX4, CR_1 hr q3 z3, by omega, by omega⟩ (KR_1 hr q4 z3) (by rw [hKl]; omega) (Yo_tr q2 (Yo_st ?_)) (by omega)
        rw [ys_6]
        unfold y6
        rw [if_pos (by omega), e3]
theorem w_clear {n : Nat} {w : Nat} (hw : q_isLaw w) (M : qM) (hG : G M) : qT (f_X3_clear n w M) (fun _ m => CR w m [] ∧ KRw w m [] ∧ (∀ c, c ≠ w → m c = M c) ∧ G m) := by
  have z0 : (0 : Int32).toInt = 0 := rfl
  unfold f_X3_clear
  refine T_qlm (T_qlm (T_ret ⟨⟨?_, Fn_nil⟩, ⟨?_, fun k hk => absurd hk (by simp)⟩, fun c hc => ?_, ?_⟩))
  · rw [mu_ne (Or.inr (by decide)), mu_at]; rfl
  · rw [mu_at]; rfl
  · rw [mu_nc hc, mu_nc hc]
  · exact G_lw hw (G_lw hw hG (fun _ => by omega) (fun _ => by omega) (Or.inl rfl)) (fun _ => by omega) (fun _ => by omega) (Or.inr rfl)
theorem w_read {n : Nat} (hn : 200000 ≤ n) {r : Nat} (hr : q_isLaw r) (a1 : Int32) (M : qM) (hG : G M) (ha : 1 ≤ a1.toInt ∧ a1.toInt ≤ 240) (hs : a1.toInt ≤ (M 1 1).toInt) : qT (f_X4_read n r a1 M) (Ll (M 2) a1.toInt r) := by
  have n1 : (1 : Nat) ≠ r := by rcases hr with rfl | rfl <;> decide
  have n2 : (2 : Nat) ≠ r := by rcases hr with rfl | rfl <;> decide
  unfold f_X4_read
  refine T_qc (w_clear hr M hG) ?_
  rintro _ m1 ⟨c1, k1, z1, g1⟩
  refine T_qc (u_open a1 m1 g1 (by omega)) ?_
  rintro _ m2 ⟨p1, p2, p3, p4, g2⟩
  have e2 : (m2 1 2).toInt = a1.toInt := by
    have hmin := i_min (a := a1) (b := M 1 1) rfl rfl
    rw [p2, z1 1 n1]; omega
  refine w_read17 hn hr ha.2 n 0 m2 [] [] ⟨g2, ⟨by rw [p4 2 (by decide), z1 2 n2], e2⟩, CR_1 hr c1 p4, by rw [p1]; decide, by rw [p1]; omega⟩ (KR_1 hr k1 p4) (by rw [l_0]; rfl) ?_ (by rw [l_0]; omega)
  rw [p1]
  exact Yo_rf
