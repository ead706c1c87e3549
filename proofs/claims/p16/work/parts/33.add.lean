theorem u_steps8 {n : Nat} (hn : 200000 ≤ n) {M0 : qM} {R : Nat → Int32} {len : Int} (hl : len ≤ 80) {st : List (Int × Int)} {c0 : Cf} {pl0 s0 : Int} {F : Int32 → qM → qR} (a1 : Int32)
    (hF : ∀ (M : qM), G M → Sm lP M0 M → Cx R len M → (M 1 3).toInt ≤ len → qT (F a1 M) (Pw2 R len (0, (M 1 3).toInt, (M 53 3).toInt, st) (M 1 3).toInt (M 53 3).toInt st M0)) :
    ∀ (m : Nat) (a2 a3 : Int32) (M : qM), G M → Sm lP M0 M → 0 ≤ a2.toInt ∧ a2.toInt ≤ 1 → 0 ≤ a3.toInt → Pw2 R len c0 pl0 s0 st M0 a2 M → (a2.toInt = 0 ∨ 2 * a3.toInt + 1 ≤ (M 1 3).toInt) → (a2.toInt = 0 ∨ 90 - a3.toInt < (m : Int)) → 0 < m → a3.toInt ≤ 80 → qT (f_X6_readSteps_8 n F m a1 a2 a3 M) (fun v m => Pw2 R len c0 pl0 s0 st M0 v m ∧ (v.toInt = 0 ∨ tq R len (m 1 3).toInt ≠ 44)) := by
  intro m
  induction m with
  | zero => intro a2 a3 M _ _ _ _ _ _ _ h; exfalso; omega
  | succ m ih =>
    intro a2 a3 M hG hS ha2 ha3 hP h2 h4 hm h80
    obtain ⟨⟨hC, _, _⟩, ho⟩ := hP
    have hlen := hC.2
    have h13 := r_1_3 hG
    show qT (b_X6_readSteps_8 n F (f_X6_readSteps_8 n F m) a1 a2 a3 M) _
    unfold b_X6_readSteps_8
    refine T_le l_80 rfl (fun c => ?_) (fun c => ?_)
    · refine T_qb rfl (by omega) (by omega) (T_ret ⟨⟨⟨hC, hG, hS⟩, ho⟩, ?_⟩)
      rcases ho with q | ⟨q1, q2, q3, q4, q5⟩
      · exact Or.inl q.1
      · omega
    · refine T_eq rfl l_0 (fun d => ?_) (fun d => ?_)
      · exact T_qb rfl (by omega) (by omega) (T_ret ⟨⟨⟨hC, hG, hS⟩, ho⟩, Or.inl d⟩)
      · obtain ⟨q1, q2, q3, q4, q5⟩ := ho.resolve_left (fun q => d q.1)
        refine T_qc (u_takes hn (44 : Int32) M hG hS (by decide)) ?_
        rintro r1 m2 ⟨ho2, z2, z3, g2, s2⟩
        rw [hC.1, hC.2, l_44] at ho2
        have hC2 : Cx R len m2 := ⟨by rw [z3 2 (by decide)]; exact hC.1, by rw [z2 2 (by decide)]; exact hC.2⟩
        have e53 : m2 53 = M 53 := z3 53 (by decide)
        refine T_eq rfl l_0 (fun e => ?_) (fun e => ?_)
        · have e3 : (m2 1 3).toInt = (M 1 3).toInt := by omega
          refine T_ret ⟨⟨⟨hC2, g2, s2⟩, Or.inr ⟨l_1, by rw [e3, e53]; exact q2, by omega, by omega, by rw [e53]; exact q5⟩⟩, Or.inr ?_⟩
          rw [e3]; omega
        · have e3 : (m2 1 3).toInt = (M 1 3).toInt + 1 := by omega
          have hst : To (tq R len) len c0 (0, (m2 1 3).toInt, (m2 53 3).toInt, st) := by
            refine To_tr q2 (To_st ?_)
            rw [st_B, e3, e53]
            cases st with
            | nil => show (if _ then _ else _) = _; rw [if_pos (by omega)]
            | cons x y => show (if _ then _ else _) = _; rw [if_pos (by omega)]
          refine T_qc (hF m2 g2 s2 hC2 (by omega)) ?_
          rintro r3 m4 ⟨⟨hC4, g4, s4⟩, ho4⟩
          refine T_ql (i_add rfl l_1 (by omega) (by omega)) ?_
          intro x hx
          rcases ho4 with ⟨w1, w2⟩ | ⟨w1, w2, w3, w4, w5⟩
          · exact ih r3 x m4 g4 s4 (by omega) (by omega) ⟨⟨hC4, g4, s4⟩, Or.inl ⟨w1, To_tr hst w2⟩⟩ (Or.inl w1) (Or.inl w1) (by omega) (by omega)
          · refine ih r3 x m4 g4 s4 (by omega) (by omega) ⟨⟨hC4, g4, s4⟩, Or.inr ⟨w1, To_tr hst w2, by omega, w4, by rw [e53] at w5; omega⟩⟩ (Or.inr (by omega)) (Or.inr (by omega)) (by omega) (by omega)
theorem u_rc {n : Nat} (hn : 200000 ≤ n) {M0 : qM} {R : Nat → Int32} {len : Int} (hl : len ≤ 80) : ∀ m : Nat,
    (∀ (a1 : Int32) (M : qM) (st : List (Int × Int)), G M → Sm lP M0 M → Cx R len M → (M 1 3).toInt ≤ len → (st.length : Int) = a1.toInt → 0 ≤ a1.toInt ∧ a1.toInt ≤ 3 → 2 * (3 - a1.toInt) < (m : Int) → qT (rc_X6_readStep n m 0 a1 M) (Pw2 R len (0, (M 1 3).toInt, (M 53 3).toInt, st) (M 1 3).toInt (M 53 3).toInt st M0)) ∧
    (∀ (a1 : Int32) (M : qM) (st : List (Int × Int)), G M → Sm lP M0 M → Cx R len M → (M 1 3).toInt ≤ len → (st.length : Int) = a1.toInt → 0 ≤ a1.toInt ∧ a1.toInt ≤ 3 → 2 * (3 - a1.toInt) + 1 < (m : Int) → qT (rc_X6_readStep n m 1 a1 M) (fun v m => Pw2 R len (0, (M 1 3).toInt, (M 53 3).toInt, st) (M 1 3).toInt (M 53 3).toInt st M0 v m ∧ (v.toInt = 0 ∨ tq R len (m 1 3).toInt ≠ 44))) := by
  intro m
  induction m with
  | zero => exact ⟨fun a1 M st _ _ _ _ _ q h => by exfalso; omega, fun a1 M st _ _ _ _ _ q h => by exfalso; omega⟩
  | succ m ih =>
    refine ⟨fun a1 M st hG hS hC h3 hst ha hm => ?_, fun a1 M st hG hS hC h3 hst ha hm => ?_⟩
    · show qT (fo_X6_readStep n (rc_X6_readStep n m 1) a1 M) _
      exact u_step hn hl (B := m) ih.2 a1 M st hG hS hC h3 hst ha (by omega)
    · show qT (fo_X6_readSteps n (rc_X6_readStep n m 0) a1 M) _
      unfold fo_X6_readSteps
      refine T_qc (ih.1 a1 M st hG hS hC h3 hst ha (by omega)) ?_
      rintro r1 m2 ⟨⟨hC2, g2, s2⟩, ho⟩
      have h13 := r_1_3 hG
      refine u_steps8 hn hl a1 (fun M2 g s c h => ih.1 a1 M2 st g s c h hst ha (by omega)) n r1 0 m2 g2 s2 (by rcases ho with q | q <;> omega) (by rw [l_0]; omega) ⟨⟨hC2, g2, s2⟩, ho⟩ ?_ (Or.inr (by rw [l_0]; omega)) (by omega) (by rw [l_0]; omega)
      rcases ho with q | q
      · exact Or.inl q.1
      · exact Or.inr (by rw [l_0]; omega)
theorem u_open {n : Nat} (a1 : Int32) (M : qM) (hG : G M) (ha : 0 ≤ a1.toInt ∧ a1.toInt ≤ 240) : qT (f_X9_openText n a1 M) (fun _ m => (m 1 3).toInt = 0 ∧ m 1 2 = qmin a1 (M 1 1) ∧ m 1 1 = M 1 1 ∧ (∀ c, c ≠ 1 → m c = M c) ∧ G m) := by
  have h11 := r_1_1 hG
  have hmin := i_min (a := a1) (b := M 1 1) rfl rfl
  unfold f_X9_openText
  refine T_mu (M0 := M) (l := [(1, 2, 2, 5)]) hG Sm.rf (i_rng (lo := 0) (hi := 240) rfl (by omega) (by omega)) (nw_1 _) (i := 0) rfl ⟨by decide, by decide, Or.inr ⟨by decide, by decide⟩⟩ ?_
  intro m1 e1 g1 _
  refine T_mu (M0 := m1) (l := [(1, 2, 2, 5)]) g1 Sm.rf (i_rng (lo := 0) (hi := 240) l_0 (by omega) (by omega)) (nw_1 _) (i := 0) rfl ⟨by decide, by decide, Or.inr ⟨by decide, by decide⟩⟩ ?_
  intro m2 e2 g2 _
  refine T_mu (M0 := m2) (l := [(1, 2, 2, 5)]) g2 Sm.rf trivial (nw_1 _) (i := 0) rfl ⟨by decide, by decide, Or.inr ⟨by decide, by decide⟩⟩ ?_
  intro m3 e3 g3 _
  refine T_ret ⟨?_, ?_, ?_, fun c hc => ?_, g3⟩
  · rw [e3, mu_ne (Or.inr (by decide)), e2, mu_at]; rfl
  · rw [e3, mu_ne (Or.inr (by decide)), e2, mu_ne (Or.inr (by decide)), e1, mu_at]
  · rw [e3, mu_ne (Or.inr (by decide)), e2, mu_ne (Or.inr (by decide)), e1, mu_ne (Or.inr (by decide))]
  · rw [e3, mu_nc hc, e2, mu_nc hc, e1, mu_nc hc]
theorem u_end {n : Nat} (M : qM) (hG : G M) : qT (f_X9_mustEnd n M) (fun v m => ((v.toInt = 1 ∧ (M 1 2).toInt ≤ (M 1 3).toInt) ∨ (v.toInt = 0 ∧ (M 1 3).toInt < (M 1 2).toInt ∧ (m 1 4).toInt = -1000 - (M 1 3).toInt)) ∧ (∀ c, c ≠ 1 → m c = M c) ∧ G m) := by
  have h13 := r_1_3 hG
  unfold f_X9_mustEnd
  refine T_le rfl rfl (fun d => ?_) (fun d => ?_)
  · exact T_ret ⟨Or.inl ⟨l_1, d⟩, fun _ _ => rfl, hG⟩
  · refine T_qc (u_fails (M0 := M) (1 : Int32) (M 1 3) M hG Sm.rf (by decide) h13) ?_
    rintro r m ⟨w0, w1, w2, w3, g, s⟩
    rw [l_1] at w1
    refine T_eq rfl l_0 (fun f => ?_) (fun f => absurd w0 f)
    exact T_ret ⟨Or.inr ⟨l_0, d, by omega⟩, w3, g⟩
/-- the Java side's reader: its answer is what the small machine comes to -/
theorem u_read {n : Nat} (hn : 200000 ≤ n) (a1 : Int32) (M : qM) (hG : G M) (ha : 1 ≤ a1.toInt ∧ a1.toInt ≤ 80) (hs : a1.toInt ≤ (M 1 1).toInt) : qT (f_X6_read n a1 M) (fun v _ => To (tq (M 2) a1.toInt) a1.toInt (0, 0, 0, []) (2, v.toInt, 0, []) ∨ To (tq (M 2) a1.toInt) a1.toInt (0, 0, 0, []) (3, 0, v.toInt, [])) := by
  have h11 := r_1_1 hG
  have hmin := i_min (a := a1) (b := M 1 1) rfl rfl
  unfold f_X6_read
  refine T_qc (u_open a1 M hG (by omega)) ?_
  rintro _ m1 ⟨b1, b2, b3, b4, g1⟩
  refine T_mu (M0 := m1) (l := [(53, 54, 3, 4)]) g1 Sm.rf (i_rng (lo := 0) (hi := 40) l_0 (by omega) (by omega)) (nw_53 _) (i := 0) rfl ⟨by decide, by decide, Or.inr ⟨by decide, by decide⟩⟩ ?_
  intro m4 e4 g4 _
  have p3 : (m4 1 3).toInt = 0 := by rw [e4, mu_ne (Or.inl (by decide))]; exact b1
  have p2 : (m4 1 2).toInt = a1.toInt := by rw [e4, mu_ne (Or.inl (by decide)), b2]; omega
  have pR : m4 2 = M 2 := by rw [e4, mu_nc (by decide), b4 2 (by decide)]
  have p53 : (m4 53 3).toInt = 0 := by rw [e4, mu_at]; rfl
  unfold f_X6_readSteps
  refine T_qc ((u_rc hn (M0 := m4) (R := M 2) (len := a1.toInt) (by omega) 14).2 0 m4 [] g4 Sm.rf ⟨pR, p2⟩ (by omega) (by rw [l_0]; rfl) (by rw [l_0]; omega) (by rw [l_0]; omega)) ?_
  rw [p3, p53]
  rintro r5 m6 ⟨⟨⟨hC6, g6, s6⟩, ho⟩, hne⟩
  refine T_eq rfl l_0 (fun c => ?_) (fun c => ?_)
  · rcases ho with ⟨q1, q2⟩ | ⟨q1, q2⟩
    · exact T_ret (Or.inl q2)
    · omega
  · obtain ⟨q1, q2, q3, q4, q5⟩ := ho.resolve_left (fun q => c q.1)
    have q6 := hne.resolve_left c
    have hlen6 := hC6.2
    refine T_qc (u_end m6 g6) ?_
    rintro r7 m8 ⟨ho8, f8, g8⟩
    refine T_eq rfl l_0 (fun d => ?_) (fun d => ?_)
    · refine T_ret (Or.inl (To_tr q2 (To_st ?_)))
      rw [st_B]
      show (if _ then _ else _) = _
      rw [if_neg q6, if_neg (by omega)]
      unfold cF
      have : (m8 1 4).toInt = -1000 - (m6 1 3).toInt := by omega
      rw [this]
      rfl
    · refine T_ret (Or.inr (To_tr q2 (To_st ?_)))
      rw [st_B]
      show (if _ then _ else _) = _
      rw [if_neg q6, if_pos (by omega), f8 53 (by decide)]
