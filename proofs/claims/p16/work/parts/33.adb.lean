/-! the Java side's reader of plans follows the small machine -/
abbrev lP : List Bx := [(1, 2, 3, 5), (53, 54, 3, 4), (54, 56, 0, 0)]
theorem T_p {M0 M : qM} {s : Nat} {v : Int32} {f : qM → qR} {Q : Int32 → qM → Prop} (hs : s = 3 ∨ s = 4) (hG : G M) (hS : Sm lP M0 M) (hr : Rin 1 s v) (h : ∀ m : qM, m 1 s = v → (∀ s2, s2 ≠ s → m 1 s2 = M 1 s2) → (∀ c, c ≠ 1 → m c = M c) → G m → Sm lP M0 m → qT (f m) Q) : qT (qlm (mu M 1 s v) f) Q := by
  refine h _ mu_at (fun s2 h2 => mu_ne (Or.inr h2)) (fun c hc => mu_nc hc) (G_mu hG hr (nw_1 _)) ?_
  exact hS.mu (i := 0) rfl ⟨by decide, by decide, Or.inr ⟨by show 3 ≤ s; omega, by show s < 5; omega⟩⟩
abbrev Cx (R : Nat → Int32) (len : Int) (M : qM) : Prop := M 2 = R ∧ (M 1 2).toInt = len
theorem u_sign {n : Nat} (hn : 200000 ≤ n) (M : qM) (hG : G M) : qT (f_X9_sign n M) (fun v m => m = M ∧ v.toInt = tq (M 2) (M 1 2).toInt (M 1 3).toInt) := by
  refine T_mono (t_X9_sign hn M hG) ?_
  rintro v m ⟨_, p, _, hs⟩
  refine ⟨hs.nil.symm, ?_⟩
  rcases p with ⟨p1, p2⟩ | ⟨p1, p2⟩
  · rw [p2]; unfold tq; rw [if_pos p1]; rfl
  · rw [p2]; unfold tq; rw [if_neg p1]
theorem u_digit {n : Nat} (hn : 200000 ≤ n) (M : qM) (hG : G M) : qT (f_X9_digit n M) (fun v m => m = M ∧ v.toInt = dq (tq (M 2) (M 1 2).toInt (M 1 3).toInt)) := by
  unfold f_X9_digit
  refine T_qc (u_sign hn M hG) ?_
  rintro r m ⟨rfl, hr⟩
  have hd := dq_r (tq (m 2) (m 1 2).toInt (m 1 3).toInt)
  refine T_lt rfl l_48 (fun c => ?_) (fun c => ?_)
  · exact T_ret ⟨rfl, by rw [l_m1]; omega⟩
  · refine T_lt l_57 rfl (fun d => ?_) (fun d => ?_)
    · exact T_ret ⟨rfl, by rw [l_m1]; omega⟩
    · exact T_ret ⟨rfl, by rw [i_sub rfl l_48 (by omega) (by omega)]; omega⟩
theorem u_fails {n : Nat} {M0 : qM} (a b : Int32) (M : qM) (hG : G M) (hS : Sm lP M0 M) (ha : 1 ≤ a.toInt ∧ a.toInt ≤ 6) (hb : 0 ≤ b.toInt ∧ b.toInt ≤ 240) : qT (f_X9_fails n a b M) (fun v m => v.toInt = 0 ∧ (m 1 4).toInt = -1000 * a.toInt - b.toInt ∧ (∀ s2, s2 ≠ 4 → m 1 s2 = M 1 s2) ∧ (∀ c, c ≠ 1 → m c = M c) ∧ G m ∧ Sm lP M0 m) := by
  unfold f_X9_fails
  refine T_p (Or.inr rfl) hG hS trivial ?_
  intro m e1 e2 e3 g s
  refine T_ret ⟨l_0, ?_, e2, e3, g, s⟩
  rw [e1, i_sub (i_mul l_m1000 rfl (by omega) (by omega)) rfl (by omega) (by omega)]
theorem u_takes {n : Nat} (hn : 200000 ≤ n) {M0 : qM} (a : Int32) (M : qM) (hG : G M) (hS : Sm lP M0 M) (ha : 0 ≤ a.toInt) : qT (f_X9_takes n a M) (fun v m => ((v.toInt = 1 ∧ tq (M 2) (M 1 2).toInt (M 1 3).toInt = a.toInt ∧ (M 1 3).toInt < (M 1 2).toInt ∧ (m 1 3).toInt = (M 1 3).toInt + 1) ∨ (v.toInt = 0 ∧ tq (M 2) (M 1 2).toInt (M 1 3).toInt ≠ a.toInt ∧ (m 1 3).toInt = (M 1 3).toInt)) ∧ (∀ s2, s2 ≠ 3 → m 1 s2 = M 1 s2) ∧ (∀ c, c ≠ 1 → m c = M c) ∧ G m ∧ Sm lP M0 m) := by
  have h13 := r_1_3 hG
  have h12 := r_1_2 hG
  unfold f_X9_takes
  refine T_qc (u_sign hn M hG) ?_
  rintro r m ⟨rfl, hr⟩
  have ht := tq_r (m 2) (m 1 2).toInt (m 1 3).toInt
  refine T_eq rfl rfl (fun c => ?_) (fun c => ?_)
  · have ep : (m 1 3 + 1).toInt = (m 1 3).toInt + 1 := i_add rfl l_1 (by omega) (by omega)
    refine T_p (Or.inl rfl) hG hS (i_rng (lo := 0) (hi := 240) ep (by omega) (by omega)) ?_
    intro m2 e1 e2 e3 g s
    exact T_ret ⟨Or.inl ⟨l_1, by omega, by omega, by rw [e1]; exact ep⟩, e2, e3, g, s⟩
  · exact T_ret ⟨Or.inr ⟨l_0, by omega, rfl⟩, fun _ _ => rfl, fun _ _ => rfl, hG, hS⟩
theorem u_add {n : Nat} {M0 : qM} (a b : Int32) (M : qM) (hG : G M) (hS : Sm lP M0 M) : qT (f_X6_addStep n a b M) (fun v m => (((M 53 3).toInt < 40 ∧ v.toInt = 1 ∧ (m 53 3).toInt = (M 53 3).toInt + 1) ∨ (40 ≤ (M 53 3).toInt ∧ v.toInt = 0 ∧ (m 53 3).toInt = (M 53 3).toInt)) ∧ (∀ c, c < 53 → m c = M c) ∧ G m ∧ Sm lP M0 m) := by
  have h3 := r_53_3 hG
  unfold f_X6_addStep
  refine T_lt rfl l_40 (fun c => ?_) (fun c => ?_)
  · refine T_qg rfl (by omega) (by omega) ?_
    refine T_mu hG hS (rn_54 _ _) (nw_54 _) (i := 2) rfl ⟨by decide, by decide, Or.inl rfl⟩ ?_
    intro m1 e1 g1 s1
    have c1 : m1 53 3 = M 53 3 := by rw [e1, mu_ne (Or.inl (by decide))]
    rw [c1]
    refine T_qg rfl (by omega) (by omega) ?_
    refine T_mu g1 s1 (rn_55 _ _) (nw_55 _) (i := 2) rfl ⟨by decide, by decide, Or.inl rfl⟩ ?_
    intro m2 e2 g2 s2
    have c2 : m2 53 3 = M 53 3 := by rw [e2, mu_ne (Or.inl (by decide)), c1]
    rw [c2]
    have ep : (M 53 3 + 1).toInt = (M 53 3).toInt + 1 := i_add rfl l_1 (by omega) (by omega)
    refine T_mu g2 s2 (i_rng (lo := 0) (hi := 40) ep (by omega) (by omega)) (nw_53 _) (i := 1) rfl ⟨by decide, by decide, Or.inr ⟨by decide, by decide⟩⟩ ?_
    intro m3 e3 g3 s3
    refine T_ret ⟨Or.inl ⟨c, l_1, by rw [e3, mu_at]; exact ep⟩, fun k hk => ?_, g3, s3⟩
    rw [e3, mu_nc (by omega), e2, mu_nc (by omega), e1, mu_nc (by omega)]
  · exact T_ret ⟨Or.inr ⟨c, l_0, rfl⟩, fun _ _ => rfl, hG, hS⟩
/-- what a reader of the Java side says of the small machine -/
abbrev Pst (R : Nat → Int32) (len : Int) (c : Cf) (pl : Int) (st : List (Int × Int)) (M0 : qM) (v : Int32) (m : qM) : Prop := (Cx R len m ∧ G m ∧ Sm lP M0 m) ∧ ((v.toInt = 0 ∧ c = (2, (m 1 4).toInt, 0, [])) ∨ (v.toInt = 1 ∧ c = (1, (m 1 3).toInt, (m 53 3).toInt, st) ∧ pl < (m 1 3).toInt ∧ (m 1 3).toInt ≤ len))
theorem u_169 {n : Nat} {M0 : qM} {R : Nat → Int32} {len pl : Int} {st : List (Int × Int)} (a1 a2 a3 : Int32) (M : qM) (hG : G M) (hS : Sm lP M0 M) (hC : Cx R len M) (h1 : a1.toInt = pl) (h0 : 0 ≤ pl ∧ pl ≤ 240) (h2 : pl < (M 1 3).toInt) (h3 : (M 1 3).toInt ≤ len) : qT (f_X6_readTry_169 n a1 a2 a3 M) (Pst R len (stE pl (M 1 3).toInt (M 53 3).toInt st) pl st M0) := by
  unfold f_X6_readTry_169
  refine T_qc (u_add a2 a3 M hG hS) ?_
  rintro r m ⟨ho, hf, g, s⟩
  have e1 : m 1 = M 1 := hf 1 (by decide)
  have e2 : m 2 = M 2 := hf 2 (by decide)
  refine T_eq rfl l_0 (fun c => ?_) (fun c => ?_)
  · refine T_qc (u_fails (6 : Int32) a1 m g s (by decide) (by omega)) ?_
    rintro r3 m4 ⟨q0, q1, q2, q3, g4, s4⟩
    rw [l_6] at q1
    refine T_eq rfl l_0 (fun d => ?_) (fun d => absurd q0 d)
    refine T_ret ⟨⟨⟨by rw [q3 2 (by decide), e2]; exact hC.1, by rw [q2 2 (by decide), e1]; exact hC.2⟩, g4, s4⟩, Or.inl ⟨l_0, ?_⟩⟩
    unfold stE cF
    rw [if_pos (by omega), q1, h1]
  · refine T_ret ⟨⟨⟨by rw [e2]; exact hC.1, by rw [e1]; exact hC.2⟩, g, s⟩, Or.inr ⟨l_1, ?_, by rw [e1]; exact h2, by rw [e1]; exact h3⟩⟩
    unfold stE
    rw [if_neg (by omega), e1]
    have : (m 53 3).toInt = (M 53 3).toInt + 1 := by omega
    rw [this]
theorem u_145 {n : Nat} {M0 : qM} {R : Nat → Int32} {len pl k : Int} {st : List (Int × Int)} (a : Int32) (M : qM) (hG : G M) (hS : Sm lP M0 M) (hC : Cx R len M) (ha : a.toInt = k) (hk : 1 ≤ k ∧ k ≤ 6) : qT (f_X6_readTry_145 n a M) (Pst R len (cF k (M 1 3).toInt) pl st M0) := by
  unfold f_X6_readTry_145
  have h13 := r_1_3 hG
  refine T_qc (u_fails a (M 1 3) M hG hS (by omega) h13) ?_
  rintro r3 m4 ⟨q0, q1, q2, q3, g4, s4⟩
  refine T_qb rfl (by omega) (by omega) (T_ret ⟨⟨⟨by rw [q3 2 (by decide)]; exact hC.1, by rw [q2 2 (by decide)]; exact hC.2⟩, g4, s4⟩, Or.inl ⟨q0, ?_⟩⟩)
  unfold cF
  rw [q1, ha]
theorem u_81 {n : Nat} (hn : 200000 ≤ n) {M0 : qM} {R : Nat → Int32} {len pl : Int} {st : List (Int × Int)} (a1 a2 : Int32) (M : qM) (hG : G M) (hS : Sm lP M0 M) (hC : Cx R len M) (h1 : a1.toInt = pl) (h0 : 0 ≤ pl) (h2 : pl < (M 1 3).toInt) (h3 : (M 1 3).toInt ≤ len) : qT (f_X6_readTry_81 n a1 a2 M) (Pst R len (if 12 ≤ a2.toInt then cF 3 pl else stW (tq R len) pl (M 1 3).toInt (M 53 3).toInt st) pl st M0) := by
  have h13 := r_1_3 hG
  have h12 := r_1_2 hG
  unfold f_X6_readTry_81
  refine T_lt rfl l_12 (fun c => ?_) (fun c => ?_)
  · rw [if_neg (by omega)]
    refine T_qc (u_takes hn (38 : Int32) M hG hS (by decide)) ?_
    rintro r1 m ⟨ho, q2, q3, g, s⟩
    rw [hC.1, hC.2, l_38] at ho
    have hCm : Cx R len m := ⟨by rw [q3 2 (by decide)]; exact hC.1, by rw [q2 2 (by decide)]; exact hC.2⟩
    have e53 : m 53 = M 53 := q3 53 (by decide)
    unfold stW
    refine T_eq rfl l_0 (fun d => ?_) (fun d => ?_)
    · rw [if_neg (by omega)]
      have e3 : (m 1 3).toInt = (M 1 3).toInt := by omega
      have := u_169 (n := n) (M0 := M0) (R := R) (len := len) (pl := pl) (st := st) a1 a2 (8 : Int32) m g s hCm h1 (by omega) (by omega) (by omega)
      rw [e3, e53] at this
      exact this
    · rw [if_pos (by omega)]
      have e3 : (m 1 3).toInt = (M 1 3).toInt + 1 := by omega
      refine T_qc (u_digit hn m g) ?_
      rintro r3 m4 ⟨rfl, hr3⟩
      rw [hCm.1, hCm.2, e3] at hr3
      have hd := dq_r (tq R len ((M 1 3).toInt + 1))
      have ht := tq_r R len ((M 1 3).toInt + 1)
      have k131 : ∀ k : Int, (r3.toInt = -1 ∧ k = 1) ∨ (r3.toInt ≠ -1 ∧ k = 3) → qT (f_X6_readTry_131 n r3 m4) (Pst R len (cF k ((M 1 3).toInt + 1)) pl st M0) := by
        intro k hk
        unfold f_X6_readTry_131
        refine T_eq rfl l_m1 (fun f1 => ?_) (fun f1 => ?_)
        · have := u_145 (n := n) (M0 := M0) (R := R) (len := len) (pl := pl) (k := k) (st := st) (1 : Int32) m4 g s hCm (by rw [l_1]; omega) (by omega)
          rw [e3] at this
          exact this
        · have := u_145 (n := n) (M0 := M0) (R := R) (len := len) (pl := pl) (k := k) (st := st) (3 : Int32) m4 g s hCm (by rw [l_3]; omega) (by omega)
          rw [e3] at this
          exact this
      refine T_eq rfl l_m1 (fun f1 => ?_) (fun f1 => ?_)
      · rw [if_pos (by omega)]; exact k131 1 (by omega)
      · rw [if_neg (show ¬ dq (tq R len ((M 1 3).toInt + 1)) < 0 by omega)]
        refine T_lt rfl l_8 (fun f2 => ?_) (fun f2 => ?_)
        · rw [if_neg (by omega)]
          have ep : (m4 1 3 + 1).toInt = (m4 1 3).toInt + 1 := i_add rfl l_1 (by omega) (by omega)
          refine T_p (Or.inl rfl) g s (i_rng (lo := 0) (hi := 240) ep (by omega) (by omega)) ?_
          intro m5 y1 y2 y3 g5 s5
          have e5 : (m5 1 3).toInt = (M 1 3).toInt + 2 := by rw [y1]; omega
          have := u_169 (n := n) (M0 := M0) (R := R) (len := len) (pl := pl) (st := st) a1 a2 r3 m5 g5 s5 ⟨by rw [y3 2 (by decide)]; exact hCm.1, by rw [y2 2 (by decide)]; exact hCm.2⟩ h1 (by omega) (by omega) (by omega)
          rw [e5, y3 53 (by decide), e53] at this
          exact this
        · rw [if_pos (by omega)]; exact k131 3 (by omega)
  · rw [if_pos (by omega)]
    refine T_qc (u_fails (3 : Int32) a1 M hG hS (by decide) (by omega)) ?_
    rintro r3 m4 ⟨q0, q1, q2, q3, g4, s4⟩
    rw [l_3] at q1
    refine T_qb rfl (by omega) (by omega) (T_ret ⟨⟨⟨by rw [q3 2 (by decide)]; exact hC.1, by rw [q2 2 (by decide)]; exact hC.2⟩, g4, s4⟩, Or.inl ⟨q0, ?_⟩⟩)
    unfold cF
    rw [q1, h1]
theorem u_try {n : Nat} (hn : 200000 ≤ n) {M0 : qM} {R : Nat → Int32} {len : Int} {st : List (Int × Int)} (M : qM) (hG : G M) (hS : Sm lP M0 M) (hC : Cx R len M) (h3 : (M 1 3).toInt ≤ len) : qT (f_X6_readTry n M) (Pst R len (stT (tq R len) (M 1 3).toInt (M 53 3).toInt st) (M 1 3).toInt st M0) := by
  have h13 := r_1_3 hG
  have h12 := r_1_2 hG
  have hd0 := dq_r (tq R len (M 1 3).toInt)
  have ht0 := tq_r R len (M 1 3).toInt
  have hd1 := dq_r (tq R len ((M 1 3).toInt + 1))
  have ht1 := tq_r R len ((M 1 3).toInt + 1)
  have hlen : (M 1 2).toInt = len := hC.2
  unfold f_X6_readTry
  refine T_ql rfl ?_
  intro x hx
  refine T_qc (u_digit hn M hG) ?_
  rintro r2 m3 ⟨rfl, hr2⟩
  rw [hC.1, hC.2] at hr2
  unfold stT
  refine T_eq rfl l_m1 (fun c => ?_) (fun c => ?_)
  · rw [if_pos (by omega)]
    refine T_qc (u_fails (1 : Int32) x m3 hG hS (by decide) (by omega)) ?_
    rintro r3 m4 ⟨q0, q1, q2, q3, g4, s4⟩
    rw [l_1] at q1
    refine T_qb rfl (by omega) (by omega) (T_ret ⟨⟨⟨by rw [q3 2 (by decide)]; exact hC.1, by rw [q2 2 (by decide)]; exact hC.2⟩, g4, s4⟩, Or.inl ⟨q0, ?_⟩⟩)
    unfold cF
    rw [q1, hx]
  · rw [if_neg (by omega)]
    have ep : (m3 1 3 + 1).toInt = (m3 1 3).toInt + 1 := i_add rfl l_1 (by omega) (by omega)
    refine T_p (Or.inl rfl) hG hS (i_rng (lo := 0) (hi := 240) ep (by omega) (by omega)) ?_
    intro m4 y1 y2 y3 g4 s4
    have e4 : (m4 1 3).toInt = (m3 1 3).toInt + 1 := by rw [y1]; exact ep
    have hC4 : Cx R len m4 := ⟨by rw [y3 2 (by decide)]; exact hC.1, by rw [y2 2 (by decide)]; exact hC.2⟩
    refine T_qc (u_digit hn m4 g4) ?_
    rintro r5 m6 ⟨rfl, hr5⟩
    rw [hC4.1, hC4.2, e4] at hr5
    refine T_eq rfl l_m1 (fun d => ?_) (fun d => ?_)
    · have ek : knd (tq R len) (m3 1 3).toInt = r2.toInt := by unfold knd; rw [if_pos (by omega)]; omega
      have en : nxp (tq R len) (m3 1 3).toInt = (m6 1 3).toInt := by unfold nxp; rw [if_pos (by omega)]; omega
      have := u_81 (n := n) hn (M0 := M0) (R := R) (len := len) (pl := (m3 1 3).toInt) (st := st) x r2 m6 g4 s4 hC4 hx h13.1 (by omega) (by omega)
      rw [ek, en]
      rw [y3 53 (by decide)] at this
      exact this
    · refine T_qc (u_digit hn m6 g4) ?_
      rintro r7 m8 ⟨rfl, hr7⟩
      rw [hC4.1, hC4.2, e4] at hr7
      refine T_ql (i_add (i_mul l_10 rfl (by omega) (by omega)) rfl (by omega) (by omega)) ?_
      intro x9 hx9
      have ep8 : (m8 1 3 + 1).toInt = (m8 1 3).toInt + 1 := i_add rfl l_1 (by omega) (by omega)
      refine T_p (Or.inl rfl) g4 s4 (i_rng (lo := 0) (hi := 240) ep8 (by omega) (by omega)) ?_
      intro m10 z1 z2 z3 g10 s10
      have e10 : (m10 1 3).toInt = (m3 1 3).toInt + 2 := by rw [z1]; omega
      have ek : knd (tq R len) (m3 1 3).toInt = x9.toInt := by unfold knd; rw [if_neg (by omega)]; omega
      have en : nxp (tq R len) (m3 1 3).toInt = (m10 1 3).toInt := by unfold nxp; rw [if_neg (by omega)]; omega
      have := u_81 (n := n) hn (M0 := M0) (R := R) (len := len) (pl := (m3 1 3).toInt) (st := st) x x9 m10 g10 s10 ⟨by rw [z3 2 (by decide)]; exact hC4.1, by rw [z2 2 (by decide)]; exact hC4.2⟩ hx h13.1 (by omega) (by omega)
      rw [ek, en]
      rw [z3 53 (by decide), y3 53 (by decide)] at this
      exact this
