/-! PLANS: a small machine that both readers follow. A state: (0, place, steps, rounds) a step is due; (1, ..) a step was read; (2, fault, ..); (3, .., steps, ..) done -/
def tq (R : Nat → Int32) (len p : Int) : Int := if 0 ≤ p ∧ p < len then (R p.toNat).toInt else -1
def dq (x : Int) : Int := if 48 ≤ x ∧ x ≤ 57 then x - 48 else -1
abbrev Cf : Type := Nat × Int × Int × List (Int × Int)
def cF (k w : Int) : Cf := (2, -1000 * k - w, 0, [])
def knd (T : Int → Int) (pl : Int) : Int := if dq (T (pl + 1)) < 0 then dq (T pl) else 10 * dq (T pl) + dq (T (pl + 1))
def nxp (T : Int → Int) (pl : Int) : Int := if dq (T (pl + 1)) < 0 then pl + 1 else pl + 2
def stE (pl p s : Int) (st : List (Int × Int)) : Cf := if 40 ≤ s then cF 6 pl else (1, p, s + 1, st)
def stW (T : Int → Int) (pl p s : Int) (st : List (Int × Int)) : Cf := if T p = 38 then (if dq (T (p + 1)) < 0 then cF 1 (p + 1) else if 8 ≤ dq (T (p + 1)) then cF 3 (p + 1) else stE pl (p + 2) s st) else stE pl p s st
def stT (T : Int → Int) (pl s : Int) (st : List (Int × Int)) : Cf := if dq (T pl) < 0 then cF 1 pl else if 12 ≤ knd T pl then cF 3 pl else stW T pl (nxp T pl) s st
def stA (T : Int → Int) (pl s : Int) (st : List (Int × Int)) : Cf := if T pl = 40 then (if st.length = 3 then cF 5 pl else (0, pl + 1, s, (pl, s) :: st)) else stT T pl s st
def stB (T : Int → Int) (len pl s : Int) : List (Int × Int) → Cf
  | [] => if T pl = 44 then (0, pl + 1, s, []) else if len ≤ pl then (3, 0, s, []) else cF 1 pl
  | q :: r => if T pl = 44 then (0, pl + 1, s, q :: r) else if T pl = 41 then (if dq (T (pl + 1)) < 2 then cF 1 (pl + 1) else if 40 < q.2 + (s - q.2) * dq (T (pl + 1)) then cF 6 q.1 else (1, pl + 2, q.2 + (s - q.2) * dq (T (pl + 1)), r)) else cF 1 pl
def stp (T : Int → Int) (len : Int) (c : Cf) : Cf := if c.1 = 0 then stA T c.2.1 c.2.2.1 c.2.2.2 else if c.1 = 1 then stB T len c.2.1 c.2.2.1 c.2.2.2 else c
def gO (T : Int → Int) (len : Int) : Nat → Cf → Cf
  | 0, c => c
  | n + 1, c => gO T len n (stp T len c)
theorem gO_add {T : Int → Int} {len : Int} : ∀ (n m : Nat) (c : Cf), gO T len (n + m) c = gO T len m (gO T len n c) := by
  intro n
  induction n with
  | zero => intro m c; rw [Nat.zero_add]; rfl
  | succ n ih =>
    intro m c
    rw [show n + 1 + m = (n + m) + 1 by omega]
    show gO T len (n + m) (stp T len c) = _
    rw [ih]
    rfl
def To (T : Int → Int) (len : Int) (c c' : Cf) : Prop := ∃ n, gO T len n c = c'
theorem To_rf {T : Int → Int} {len : Int} {c : Cf} : To T len c c := ⟨0, rfl⟩
theorem To_tr {T : Int → Int} {len : Int} {c d e : Cf} (h : To T len c d) (k : To T len d e) : To T len c e := by
  obtain ⟨n, rfl⟩ := h
  obtain ⟨m, rfl⟩ := k
  exact ⟨n + m, gO_add n m c⟩
theorem To_st {T : Int → Int} {len : Int} {c d : Cf} (h : stp T len c = d) : To T len c d := ⟨1, h⟩
theorem gO_fix {T : Int → Int} {len : Int} {c : Cf} (h : stp T len c = c) : ∀ n, gO T len n c = c := by
  intro n
  induction n with
  | zero => rfl
  | succ n ih =>
    show gO T len n (stp T len c) = c
    rw [h]; exact ih
theorem To_det {T : Int → Int} {len : Int} {c d e : Cf} (h : To T len c d) (k : To T len c e) (h1 : stp T len d = d) (k1 : stp T len e = e) : d = e := by
  obtain ⟨n, hn⟩ := h
  obtain ⟨m, hm⟩ := k
  by_cases q : n ≤ m
  · obtain ⟨j, rfl⟩ : ∃ j, m = n + j := ⟨m - n, by omega⟩
    rw [gO_add, hn, gO_fix h1] at hm
    exact hm
  · obtain ⟨j, rfl⟩ : ∃ j, n = m + j := ⟨n - m, by omega⟩
    rw [gO_add, hm, gO_fix k1] at hn
    exact hn.symm
theorem st_A {T : Int → Int} {len pl s : Int} {st : List (Int × Int)} : stp T len (0, pl, s, st) = stA T pl s st := rfl
theorem st_B {T : Int → Int} {len pl s : Int} {st : List (Int × Int)} : stp T len (1, pl, s, st) = stB T len pl s st := rfl
theorem st_F {T : Int → Int} {len a b : Int} {st : List (Int × Int)} : stp T len (2, a, b, st) = (2, a, b, st) := rfl
theorem st_O {T : Int → Int} {len a b : Int} {st : List (Int × Int)} : stp T len (3, a, b, st) = (3, a, b, st) := rfl
theorem dq_r (x : Int) : (dq x = -1 ∧ ¬ (48 ≤ x ∧ x ≤ 57)) ∨ (dq x = x - 48 ∧ 48 ≤ x ∧ x ≤ 57) := by
  unfold dq
  by_cases h : 48 ≤ x ∧ x ≤ 57
  · rw [if_pos h]; exact Or.inr ⟨rfl, h⟩
  · rw [if_neg h]; exact Or.inl ⟨rfl, h⟩
theorem tq_r (R : Nat → Int32) (len p : Int) : (tq R len p = -1 ∧ ¬ (0 ≤ p ∧ p < len)) ∨ (tq R len p = (R p.toNat).toInt ∧ 0 ≤ p ∧ p < len) := by
  unfold tq
  by_cases h : 0 ≤ p ∧ p < len
  · rw [if_pos h]; exact Or.inr ⟨rfl, h⟩
  · rw [if_neg h]; exact Or.inl ⟨rfl, h⟩
/-! the Java side's reader of plans follows the small machine -/
abbrev lP : List Bx := [(1, 2, 3, 5), (53, 54, 3, 4), (54, 56, 0, 0)]
theorem T_p {M0 M : qM} {s : Nat} {v : Int32} {f : qM → qR} {Q : Int32 → qM → Prop} (hs : s = 3 ∨ s = 4) (hG : G M) (hS : Sm lP M0 M) (hr : Rin 1 s v) (h : ∀ m : qM, m 1 s = v → (∀ s2, s2 ≠ s → m 1 s2 = M 1 s2) → (∀ c, c ≠ 1 → m c = M c) → G m → Sm lP M0 m → qT (f m) Q) : qT (qlm (mu M 1 s v) f) Q := by
  refine h _ mu_at (fun s2 h2 => mu_ne (Or.inr h2)) (fun c hc => mu_nc hc) (G_mu hG hr (nw_1 _)) ?_
  exact hS.mu (i := 0) rfl ⟨by decide, by decide, Or.inr ⟨by show 3 ≤ s; omega, by show s < 5; omega⟩⟩
abbrev Cx (R : Nat → Int32) (len : Int) (M : qM) : Prop := M 2 = R ∧ (M 1 2).toInt = len
theorem u_sign {n : Nat} (hn : 200000 ≤ n) (M : qM) (hG : G M) : qT (f_X9_sign n M) (fun v m => m = M ∧ v.toInt = tq (M 2) (M 1 2).toInt (M 1 3).toInt) := by
  refine T_mono (t_X9_sign hn M hG) ?_
  rintro v m ⟨_, p, _, hs⟩
  refine ⟨hs.nil.symm, ?_⟩
  rcases p with ⟨p1, p2⟩ | ⟨p1, p2⟩
  · rw [p2]; unfold tq; rw [if_pos p1]; rfl
  · rw [p2]; unfold tq; rw [if_neg p1]
theorem u_digit {n : Nat} (hn : 200000 ≤ n) (M : qM) (hG : G M) : qT (f_X9_digit n M) (fun v m => m = M ∧ v.toInt = dq (tq (M 2) (M 1 2).toInt (M 1 3).toInt)) := by
  unfold f_X9_digit
  refine T_qc (u_sign hn M hG) ?_
  rintro r m ⟨rfl, hr⟩
  have hd := dq_r (tq (m 2) (m 1 2).toInt (m 1 3).toInt)
  refine T_lt rfl l_48 (fun c => ?_) (fun c => ?_)
  · exact T_ret ⟨rfl, by rw [l_m1]; omega⟩
  · refine T_lt l_57 rfl (fun d => ?_) (fun d => ?_)
    · exact T_ret ⟨rfl, by rw [l_m1]; omega⟩
    · exact T_ret ⟨rfl, by rw [i_sub rfl l_48 (by omega) (by omega)]; omega⟩
theorem u_fails {n : Nat} {M0 : qM} (a b : Int32) (M : qM) (hG : G M) (hS : Sm lP M0 M) (ha : 1 ≤ a.toInt ∧ a.toInt ≤ 6) (hb : 0 ≤ b.toInt ∧ b.toInt ≤ 240) : qT (f_X9_fails n a b M) (fun v m => v.toInt = 0 ∧ (m 1 4).toInt = -1000 * a.toInt - b.toInt ∧ (∀ s2, s2 ≠ 4 → m 1 s2 = M 1 s2) ∧ (∀ c, c ≠ 1 → m c = M c) ∧ G m ∧ Sm lP M0 m) := by
  unfold f_X9_fails
  refine T_p (Or.inr rfl) hG hS trivial ?_
  intro m e1 e2 e3 g s
  refine T_ret ⟨l_0, ?_, e2, e3, g, s⟩
  rw [e1, i_sub (i_mul l_m1000 rfl (by omega) (by omega)) rfl (by omega) (by omega)]
theorem u_takes {n : Nat} (hn : 200000 ≤ n) {M0 : qM} (a : Int32) (M : qM) (hG : G M) (hS : Sm lP M0 M) (ha : 0 ≤ a.toInt) : qT (f_X9_takes n a M) (fun v m => ((v.toInt = 1 ∧ tq (M 2) (M 1 2).toInt (M 1 3).toInt = a.toInt ∧ (M 1 3).toInt < (M 1 2).toInt ∧ (m 1 3).toInt = (M 1 3).toInt + 1) ∨ (v.toInt = 0 ∧ tq (M 2) (M 1 2).toInt (M 1 3).toInt ≠ a.toInt ∧ (m 1 3).toInt = (M 1 3).toInt)) ∧ (∀ s2, s2 ≠ 3 → m 1 s2 = M 1 s2) ∧ (∀ c, c ≠ 1 → m c = M c) ∧ G m ∧ Sm lP M0 m) := by
  have h13 := r_1_3 hG
  have h12 := r_1_2 hG
  unfold f_X9_takes
  refine T_qc (u_sign hn M hG) ?_
  rintro r m ⟨rfl, hr⟩
  have ht := tq_r (m 2) (m 1 2).toInt (m 1 3).toInt
  refine T_eq rfl rfl (fun c => ?_) (fun c => ?_)
  · have ep : (m 1 3 + 1).toInt = (m 1 3).toInt + 1 := i_add rfl l_1 (by omega) (by omega)
    refine T_p (Or.inl rfl) hG hS (i_rng (lo := 0) (hi := 240) ep (by omega) (by omega)) ?_
    intro m2 e1 e2 e3 g s
    exact T_ret ⟨Or.inl ⟨l_1, by omega, by omega, by rw [e1]; exact ep⟩, e2, e3, g, s⟩
  · exact T_ret ⟨Or.inr ⟨l_0, by omega, rfl⟩, fun _ _ => rfl, fun _ _ => rfl, hG, hS⟩
theorem u_add {n : Nat} {M0 : qM} (a b : Int32) (M : qM) (hG : G M) (hS : Sm lP M0 M) : qT (f_X6_addStep n a b M) (fun v m => (((M 53 3).toInt < 40 ∧ v.toInt = 1 ∧ (m 53 3).toInt = (M 53 3).toInt + 1) ∨ (40 ≤ (M 53 3).toInt ∧ v.toInt = 0 ∧ (m 53 3).toInt = (M 53 3).toInt)) ∧ (∀ c, c < 53 → m c = M c) ∧ G m ∧ Sm lP M0 m) := by
  have h3 := r_53_3 hG
  unfold f_X6_addStep
  refine T_lt rfl l_40 (fun c => ?_) (fun c => ?_)
  · refine T_qg rfl (by omega) (by omega) ?_
    refine T_mu hG hS (rn_54 _ _) (nw_54 _) (i := 2) rfl ⟨by decide, by decide, Or.inl rfl⟩ ?_
    intro m1 e1 g1 s1
    have c1 : m1 53 3 = M 53 3 := by rw [e1, mu_ne (Or.inl (by decide))]
    rw [c1]
    refine T_qg rfl (by omega) (by omega) ?_
    refine T_mu g1 s1 (rn_55 _ _) (nw_55 _) (i := 2) rfl ⟨by decide, by decide, Or.inl rfl⟩ ?_
    intro m2 e2 g2 s2
    have c2 : m2 53 3 = M 53 3 := by rw [e2, mu_ne (Or.inl (by decide)), c1]
    rw [c2]
    have ep : (M 53 3 + 1).toInt = (M 53 3).toInt + 1 := i_add rfl l_1 (by omega) (by omega)
    refine T_mu g2 s2 (i_rng (lo := 0) (hi := 40) ep (by omega) (by omega)) (nw_53 _) (i := 1) rfl ⟨by decide, by decide, Or.inr ⟨by decide, by decide⟩⟩ ?_
    intro m3 e3 g3 s3
    refine T_ret ⟨Or.inl ⟨c, l_1, by rw [e3, mu_at]; exact ep⟩, fun k hk => ?_, g3, s3⟩
    rw [e3, mu_nc (by omega), e2, mu_nc (by omega), e1, mu_nc (by omega)]
  · exact T_ret ⟨Or.inr ⟨c, l_0, rfl⟩, fun _ _ => rfl, hG, hS⟩
/-- what a reader of the Java side says of the small machine -/
abbrev Pst (R : Nat → Int32) (len : Int) (c : Cf) (pl : Int) (st : List (Int × Int)) (M0 : qM) (v : Int32) (m : qM) : Prop := (Cx R len m ∧ G m ∧ Sm lP M0 m) ∧ ((v.toInt = 0 ∧ c = (2, (m 1 4).toInt, 0, [])) ∨ (v.toInt = 1 ∧ c = (1, (m 1 3).toInt, (m 53 3).toInt, st) ∧ pl < (m 1 3).toInt ∧ (m 1 3).toInt ≤ len))
theorem u_169 {n : Nat} {M0 : qM} {R : Nat → Int32} {len pl : Int} {st : List (Int × Int)} (a1 a2 a3 : Int32) (M : qM) (hG : G M) (hS : Sm lP M0 M) (hC : Cx R len M) (h1 : a1.toInt = pl) (h0 : 0 ≤ pl ∧ pl ≤ 240) (h2 : pl < (M 1 3).toInt) (h3 : (M 1 3).toInt ≤ len) : qT (f_X6_readTry_169 n a1 a2 a3 M) (Pst R len (stE pl (M 1 3).toInt (M 53 3).toInt st) pl st M0) := by
  unfold f_X6_readTry_169
  refine T_qc (u_add a2 a3 M hG hS) ?_
  rintro r m ⟨ho, hf, g, s⟩
  have e1 : m 1 = M 1 := hf 1 (by decide)
  have e2 : m 2 = M 2 := hf 2 (by decide)
  refine T_eq rfl l_0 (fun c => ?_) (fun c => ?_)
  · refine T_qc (u_fails (6 : Int32) a1 m g s (by decide) (by omega)) ?_
    rintro r3 m4 ⟨q0, q1, q2, q3, g4, s4⟩
    rw [l_6] at q1
    refine T_eq rfl l_0 (fun d => ?_) (fun d => absurd q0 d)
    refine T_ret ⟨⟨⟨by rw [q3 2 (by decide), e2]; exact hC.1, by rw [q2 2 (by decide), e1]; exact hC.2⟩, g4, s4⟩, Or.inl ⟨l_0, ?_⟩⟩
    unfold stE cF
    rw [if_pos (by omega), q1, h1]
  · refine T_ret ⟨⟨⟨by rw [e2]; exact hC.1, by rw [e1]; exact hC.2⟩, g, s⟩, Or.inr ⟨l_1, ?_, by rw [e1]; exact h2, by rw [e1]; exact h3⟩⟩
    unfold stE
    rw [if_neg (by omega), e1]
    have : (m 53 3).toInt = (M 53 3).toInt + 1 := by omega
    rw [this]
theorem u_145 {n : Nat} {M0 : qM} {R : Nat → Int32} {len pl k : Int} {st : List (Int × Int)} (a : Int32) (M : qM) (hG : G M) (hS : Sm lP M0 M) (hC : Cx R len M) (ha : a.toInt = k) (hk : 1 ≤ k ∧ k ≤ 6) : qT (f_X6_readTry_145 n a M) (Pst R len (cF k (M 1 3).toInt) pl st M0) := by
  unfold f_X6_readTry_145
  have h13 := r_1_3 hG
  refine T_qc (u_fails a (M 1 3) M hG hS (by omega) h13) ?_
  rintro r3 m4 ⟨q0, q1, q2, q3, g4, s4⟩
  refine T_qb rfl (by omega) (by omega) (T_ret ⟨⟨⟨by rw [q3 2 (by decide)]; exact hC.1, by rw [q2 2 (by decide)]; exact hC.2⟩, g4, s4⟩, Or.inl ⟨q0, ?_⟩⟩)
  unfold cF
  rw [q1, ha]
theorem u_81 {n : Nat} (hn : 200000 ≤ n) {M0 : qM} {R : Nat → Int32} {len pl : Int} {st : List (Int × Int)} (a1 a2 : Int32) (M : qM) (hG : G M) (hS : Sm lP M0 M) (hC : Cx R len M) (h1 : a1.toInt = pl) (h0 : 0 ≤ pl) (h2 : pl < (M 1 3).toInt) (h3 : (M 1 3).toInt ≤ len) : qT (f_X6_readTry_81 n a1 a2 M) (Pst R len (if 12 ≤ a2.toInt then cF 3 pl else stW (tq R len) pl (M 1 3).toInt (M 53 3).toInt st) pl st M0) := by
  have h13 := r_1_3 hG
  have h12 := r_1_2 hG
  unfold f_X6_readTry_81
  refine T_lt rfl l_12 (fun c => ?_) (fun c => ?_)
  · rw [if_neg (by omega)]
    refine T_qc (u_takes hn (38 : Int32) M hG hS (by decide)) ?_
    rintro r1 m ⟨ho, q2, q3, g, s⟩
    rw [hC.1, hC.2, l_38] at ho
    have hCm : Cx R len m := ⟨by rw [q3 2 (by decide)]; exact hC.1, by rw [q2 2 (by decide)]; exact hC.2⟩
    have e53 : m 53 = M 53 := q3 53 (by decide)
    unfold stW
    refine T_eq rfl l_0 (fun d => ?_) (fun d => ?_)
    · rw [if_neg (by omega)]
      have e3 : (m 1 3).toInt = (M 1 3).toInt := by omega
      have := u_169 (n := n) (M0 := M0) (R := R) (len := len) (pl := pl) (st := st) a1 a2 (8 : Int32) m g s hCm h1 (by omega) (by omega) (by omega)
      rw [e3, e53] at this
      exact this
    · rw [if_pos (by omega)]
      have e3 : (m 1 3).toInt = (M 1 3).toInt + 1 := by omega
      refine T_qc (u_digit hn m g) ?_
      rintro r3 m4 ⟨rfl, hr3⟩
      rw [hCm.1, hCm.2, e3] at hr3
      have hd := dq_r (tq R len ((M 1 3).toInt + 1))
      have ht := tq_r R len ((M 1 3).toInt + 1)
      have k131 : ∀ k : Int, (r3.toInt = -1 ∧ k = 1) ∨ (r3.toInt ≠ -1 ∧ k = 3) → qT (f_X6_readTry_131 n r3 m4) (Pst R len (cF k ((M 1 3).toInt + 1)) pl st M0) := by
        intro k hk
        unfold f_X6_readTry_131
        refine T_eq rfl l_m1 (fun f1 => ?_) (fun f1 => ?_)
        · have := u_145 (n := n) (M0 := M0) (R := R) (len := len) (pl := pl) (k := k) (st := st) (1 : Int32) m4 g s hCm (by rw [l_1]; omega) (by omega)
          rw [e3] at this
          exact this
        · have := u_145 (n := n) (M0 := M0) (R := R) (len := len) (pl := pl) (k := k) (st := st) (3 : Int32) m4 g s hCm (by rw [l_3]; omega) (by omega)
          rw [e3] at this
          exact this
      refine T_eq rfl l_m1 (fun f1 => ?_) (fun f1 => ?_)
      · rw [if_pos (by omega)]; exact k131 1 (by omega)
      · rw [if_neg (show ¬ dq (tq R len ((M 1 3).toInt + 1)) < 0 by omega)]
        refine T_lt rfl l_8 (fun f2 => ?_) (fun f2 => ?_)
        · rw [if_neg (by omega)]
          have ep : (m4 1 3 + 1).toInt = (m4 1 3).toInt + 1 := i_add rfl l_1 (by omega) (by omega)
          refine T_p (Or.inl rfl) g s (i_rng (lo := 0) (hi := 240) ep (by omega) (by omega)) ?_
          intro m5 y1 y2 y3 g5 s5
          have e5 : (m5 1 3).toInt = (M 1 3).toInt + 2 := by rw [y1]; omega
          have := u_169 (n := n) (M0 := M0) (R := R) (len := len) (pl := pl) (st := st) a1 a2 r3 m5 g5 s5 ⟨by rw [y3 2 (by decide)]; exact hCm.1, by rw [y2 2 (by decide)]; exact hCm.2⟩ h1 (by omega) (by omega) (by omega)
          rw [e5, y3 53 (by decide), e53] at this
          exact this
        · rw [if_pos (by omega)]; exact k131 3 (by omega)
  · rw [if_pos (by omega)]
    refine T_qc (u_fails (3 : Int32) a1 M hG hS (by decide) (by omega)) ?_
    rintro r3 m4 ⟨q0, q1, q2, q3, g4, s4⟩
    rw [l_3] at q1
    refine T_qb rfl (by omega) (by omega) (T_ret ⟨⟨⟨by rw [q3 2 (by decide)]; exact hC.1, by rw [q2 2 (by decide)]; exact hC.2⟩, g4, s4⟩, Or.inl ⟨q0, ?_⟩⟩)
    unfold cF
    rw [q1, h1]
theorem u_try {n : Nat} (hn : 200000 ≤ n) {M0 : qM} {R : Nat → Int32} {len : Int} {st : List (Int × Int)} (M : qM) (hG : G M) (hS : Sm lP M0 M) (hC : Cx R len M) (h3 : (M 1 3).toInt ≤ len) : qT (f_X6_readTry n M) (Pst R len (stT (tq R len) (M 1 3).toInt (M 53 3).toInt st) (M 1 3).toInt st M0) := by
  have h13 := r_1_3 hG
  have h12 := r_1_2 hG
  have hd0 := dq_r (tq R len (M 1 3).toInt)
  have ht0 := tq_r R len (M 1 3).toInt
  have hd1 := dq_r (tq R len ((M 1 3).toInt + 1))
  have ht1 := tq_r R len ((M 1 3).toInt + 1)
  have hlen : (M 1 2).toInt = len := hC.2
  unfold f_X6_readTry
  refine T_ql rfl ?_
  intro x hx
  refine T_qc (u_digit hn M hG) ?_
  rintro r2 m3 ⟨rfl, hr2⟩
  rw [hC.1, hC.2] at hr2
  unfold stT
  refine T_eq rfl l_m1 (fun c => ?_) (fun c => ?_)
  · rw [if_pos (by omega)]
    refine T_qc (u_fails (1 : Int32) x m3 hG hS (by decide) (by omega)) ?_
    rintro r3 m4 ⟨q0, q1, q2, q3, g4, s4⟩
    rw [l_1] at q1
    refine T_qb rfl (by omega) (by omega) (T_ret ⟨⟨⟨by rw [q3 2 (by decide)]; exact hC.1, by rw [q2 2 (by decide)]; exact hC.2⟩, g4, s4⟩, Or.inl ⟨q0, ?_⟩⟩)
    unfold cF
    rw [q1, hx]
  · rw [if_neg (by omega)]
    have ep : (m3 1 3 + 1).toInt = (m3 1 3).toInt + 1 := i_add rfl l_1 (by omega) (by omega)
    refine T_p (Or.inl rfl) hG hS (i_rng (lo := 0) (hi := 240) ep (by omega) (by omega)) ?_
    intro m4 y1 y2 y3 g4 s4
    have e4 : (m4 1 3).toInt = (m3 1 3).toInt + 1 := by rw [y1]; exact ep
    have hC4 : Cx R len m4 := ⟨by rw [y3 2 (by decide)]; exact hC.1, by rw [y2 2 (by decide)]; exact hC.2⟩
    refine T_qc (u_digit hn m4 g4) ?_
    rintro r5 m6 ⟨rfl, hr5⟩
    rw [hC4.1, hC4.2, e4] at hr5
    refine T_eq rfl l_m1 (fun d => ?_) (fun d => ?_)
    · have ek : knd (tq R len) (m3 1 3).toInt = r2.toInt := by unfold knd; rw [if_pos (by omega)]; omega
      have en : nxp (tq R len) (m3 1 3).toInt = (m6 1 3).toInt := by unfold nxp; rw [if_pos (by omega)]; omega
      have := u_81 (n := n) hn (M0 := M0) (R := R) (len := len) (pl := (m3 1 3).toInt) (st := st) x r2 m6 g4 s4 hC4 hx h13.1 (by omega) (by omega)
      rw [ek, en]
      rw [y3 53 (by decide)] at this
      exact this
    · refine T_qc (u_digit hn m6 g4) ?_
      rintro r7 m8 ⟨rfl, hr7⟩
      rw [hC4.1, hC4.2, e4] at hr7
      refine T_ql (i_add (i_mul l_10 rfl (by omega) (by omega)) rfl (by omega) (by omega)) ?_
      intro x9 hx9
      have ep8 : (m8 1 3 + 1).toInt = (m8 1 3).toInt + 1 := i_add rfl l_1 (by omega) (by omega)
      refine T_p (Or.inl rfl) g4 s4 (i_rng (lo := 0) (hi := 240) ep8 (by omega) (by omega)) ?_
      intro m10 z1 z2 z3 g10 s10
      have e10 : (m10 1 3).toInt = (m3 1 3).toInt + 2 := by rw [z1]; omega
      have ek : knd (tq R len) (m3 1 3).toInt = x9.toInt := by unfold knd; rw [if_neg (by omega)]; omega
      have en : nxp (tq R len) (m3 1 3).toInt = (m10 1 3).toInt := by unfold nxp; rw [if_neg (by omega)]; omega
      have := u_81 (n := n) hn (M0 := M0) (R := R) (len := len) (pl := (m3 1 3).toInt) (st := st) x x9 m10 g10 s10 ⟨by rw [z3 2 (by decide)]; exact hC4.1, by rw [z2 2 (by decide)]; exact hC4.2⟩ hx h13.1 (by omega) (by omega)
      rw [ek, en]
      rw [z3 53 (by decide), y3 53 (by decide)] at this
      exact this
theorem u_must {n : Nat} (hn : 200000 ≤ n) {M0 : qM} (a : Int32) (M : qM) (hG : G M) (hS : Sm lP M0 M) (ha : 0 ≤ a.toInt) : qT (f_X9_mustTake n a M) (fun v m => ((v.toInt = 1 ∧ tq (M 2) (M 1 2).toInt (M 1 3).toInt = a.toInt ∧ (M 1 3).toInt < (M 1 2).toInt ∧ (m 1 3).toInt = (M 1 3).toInt + 1) ∨ (v.toInt = 0 ∧ tq (M 2) (M 1 2).toInt (M 1 3).toInt ≠ a.toInt ∧ (m 1 4).toInt = -1000 - (M 1 3).toInt)) ∧ (∀ s2, s2 ≠ 3 → s2 ≠ 4 → m 1 s2 = M 1 s2) ∧ (∀ c, c ≠ 1 → m c = M c) ∧ G m ∧ Sm lP M0 m) := by
  unfold f_X9_mustTake
  refine T_qc (u_takes hn a M hG hS ha) ?_
  rintro r m ⟨ho, z2, z3, g, s⟩
  refine T_eq rfl l_0 (fun c => ?_) (fun c => ?_)
  · refine T_qc (u_fails (1 : Int32) (m 1 3) m g s (by decide) (r_1_3 g)) ?_
    rintro r3 m4 ⟨w0, w1, w2, w3, g4, s4⟩
    rw [l_1] at w1
    refine T_eq rfl l_0 (fun f2 => ?_) (fun f2 => absurd w0 f2)
    exact T_ret ⟨Or.inr ⟨l_0, by omega, by omega⟩, fun s2 h3 h4 => by rw [w2 s2 h4, z2 s2 h3], fun k hk => by rw [w3 k hk, z3 k hk], g4, s4⟩
  · exact T_ret ⟨Or.inl ⟨l_1, by omega, by omega, by omega⟩, fun s2 h3 _ => z2 s2 h3, z3, g, s⟩
abbrev Qr (b u t : Int) (M1 M0 : qM) (v : Int32) (m : qM) : Prop := ((v.toInt = 1 ∧ (m 53 3).toInt = b + (u - b) * t) ∨ (v.toInt = 0 ∧ 40 < b + (u - b) * t)) ∧ (∀ c, c < 53 → m c = M1 c) ∧ G m ∧ Sm lP M0 m
theorem u_rep17 {n : Nat} {b u t : Int} {M1 M0 : qM} (hb : 0 ≤ b ∧ b ≤ u ∧ u ≤ 40) {K : Int32 → Int32 → Int32 → Int32 → qM → qR} {B : Nat} (hK : ∀ (a1 a2 a3 a4 : Int32) (M : qM), G M → Sm lP M0 M → a1.toInt = b → a2.toInt = t → a3.toInt = u → 1 ≤ a4.toInt → a4.toInt ≤ t → (M 53 3).toInt = b + (u - b) * a4.toInt → (∀ c, c < 53 → M c = M1 c) → 10 - a4.toInt < (B : Int) → qT (K a1 a2 a3 a4 M) (Qr b u t M1 M0)) : ∀ (m : Nat) (a1 a2 a3 a4 a5 : Int32) (M : qM), G M → Sm lP M0 M → a1.toInt = b → a2.toInt = t → a3.toInt = u → 1 ≤ a4.toInt → a4.toInt < t → t ≤ 9 → b ≤ a5.toInt → a5.toInt ≤ u → (M 53 3).toInt = b + (u - b) * a4.toInt + (a5.toInt - b) → (∀ c, c < 53 → M c = M1 c) → 10 - a4.toInt < (B : Int) + 1 → 41 - a5.toInt < (m : Int) → qT (f_X6_repeatSteps_17 n K m a1 a2 a3 a4 a5 M) (Qr b u t M1 M0) := by
  intro m
  induction m with
  | zero => intro a1 a2 a3 a4 a5 M _ _ _ _ _ _ _ _ _ _ _ _ _ h; exfalso; omega
  | succ m ih =>
    intro a1 a2 a3 a4 a5 M hG hS h1 h2 h3 k1 k2 k3 k4 k5 k6 k7 k8 hm
    have h533 := r_53_3 hG
    have e1 : (u - b) * (a4.toInt + 1) = (u - b) * a4.toInt + (u - b) := by rw [Int.mul_add, Int.mul_one]
    have e2 : (u - b) * (a4.toInt + 1) ≤ (u - b) * t := Int.mul_le_mul_of_nonneg_left (by omega) (by omega)
    show qT (b_X6_repeatSteps_17 n K (f_X6_repeatSteps_17 n K m) a1 a2 a3 a4 a5 M) _
    unfold b_X6_repeatSteps_17
    refine T_le rfl rfl (fun c => ?_) (fun c => ?_)
    · refine T_ql (i_add rfl l_1 (by omega) (by omega)) ?_
      intro x hx
      exact hK a1 a2 a3 x M hG hS h1 h2 h3 (by omega) (by omega) (by rw [hx, e1]; omega) k7 (by omega)
    · refine T_qg rfl (by omega) (by omega) (T_qg rfl (by omega) (by omega) ?_)
      refine T_qc (u_add _ _ M hG hS) ?_
      rintro r m3 ⟨ho, hf, g, s⟩
      refine T_eq rfl l_0 (fun d => ?_) (fun d => ?_)
      · refine T_ret ⟨Or.inr ⟨l_0, by omega⟩, fun c hc => by rw [hf c hc]; exact k7 c hc, g, s⟩
      · refine T_ql (i_add rfl l_1 (by omega) (by omega)) ?_
        intro x hx
        exact ih a1 a2 a3 a4 x m3 g s h1 h2 h3 k1 k2 k3 (by omega) (by omega) (by omega) (fun c hc => by rw [hf c hc]; exact k7 c hc) k8 (by omega)
theorem u_rep8 {n : Nat} (hn : 200000 ≤ n) {b u t : Int} {M1 M0 : qM} (hb : 0 ≤ b ∧ b ≤ u ∧ u ≤ 40) (ht : t ≤ 9) : ∀ (m : Nat) (a1 a2 a3 a4 : Int32) (M : qM), G M → Sm lP M0 M → a1.toInt = b → a2.toInt = t → a3.toInt = u → 1 ≤ a4.toInt → a4.toInt ≤ t → (M 53 3).toInt = b + (u - b) * a4.toInt → (∀ c, c < 53 → M c = M1 c) → 10 - a4.toInt < (m : Int) → qT (f_X6_repeatSteps_8 n m a1 a2 a3 a4 M) (Qr b u t M1 M0) := by
  intro m
  induction m with
  | zero => intro a1 a2 a3 a4 M _ _ _ _ _ _ _ _ _ h; exfalso; omega
  | succ m ih =>
    intro a1 a2 a3 a4 M hG hS h1 h2 h3 k1 k2 k3 k7 hm
    show qT (b_X6_repeatSteps_8 n (f_X6_repeatSteps_8 n m) a1 a2 a3 a4 M) _
    unfold b_X6_repeatSteps_8
    refine T_le rfl rfl (fun c => ?_) (fun c => ?_)
    · have e : a4.toInt = t := by omega
      rw [e] at k3
      exact T_ret ⟨Or.inl ⟨l_1, k3⟩, k7, hG, hS⟩
    · exact u_rep17 hb ih n a1 a2 a3 a4 a1 M hG hS h1 h2 h3 k1 (by omega) ht (by omega) (by omega) (by rw [k3]; omega) k7 (by omega) (by omega)
theorem u_rep {n : Nat} (hn : 200000 ≤ n) {b t : Int} {M0 : qM} (a1 a2 : Int32) (M : qM) (hG : G M) (hS : Sm lP M0 M) (h1 : a1.toInt = b) (h2 : a2.toInt = t) (hb : 0 ≤ b ∧ b ≤ (M 53 3).toInt) (ht : 2 ≤ t ∧ t ≤ 9) : qT (f_X6_repeatSteps n a1 a2 M) (Qr b (M 53 3).toInt t M M0) := by
  have h533 := r_53_3 hG
  unfold f_X6_repeatSteps
  refine T_ql rfl ?_
  intro x hx
  exact u_rep8 hn (by omega) (by omega) n a1 a2 x 1 M hG hS h1 h2 hx (by rw [l_1]; omega) (by rw [l_1]; omega) (by rw [l_1, Int.mul_one]; omega) (fun _ _ => rfl) (by rw [l_1]; omega)
/-- as Pst, by the way of the small machine -/
abbrev Pw2 (R : Nat → Int32) (len : Int) (c : Cf) (pl s : Int) (st : List (Int × Int)) (M0 : qM) (v : Int32) (m : qM) : Prop := (Cx R len m ∧ G m ∧ Sm lP M0 m) ∧ ((v.toInt = 0 ∧ To (tq R len) len c (2, (m 1 4).toInt, 0, [])) ∨ (v.toInt = 1 ∧ To (tq R len) len c (1, (m 1 3).toInt, (m 53 3).toInt, st) ∧ pl < (m 1 3).toInt ∧ (m 1 3).toInt ≤ len ∧ s ≤ (m 53 3).toInt))
theorem stW_s {T : Int → Int} {pl p s : Int} {st : List (Int × Int)} {q s' : Int} (h : stW T pl p s st = (1, q, s', st)) : s ≤ s' := by
  unfold stW stE cF at h
  repeat' split at h
  all_goals (first | (injection h with h1 h2; injection h2 with h3 h4; injection h4 with h5 h6; omega) | (injection h with h1 h2; exact absurd h1 (by decide)))
theorem stT_s {T : Int → Int} {pl s : Int} {st : List (Int × Int)} {q s' : Int} (h : stT T pl s st = (1, q, s', st)) : s ≤ s' := by
  unfold stT at h
  by_cases c1 : dq (T pl) < 0
  · rw [if_pos c1] at h; unfold cF at h; injection h with h1 h2; exact absurd h1 (by decide)
  · rw [if_neg c1] at h
    by_cases c2 : 12 ≤ knd T pl
    · rw [if_pos c2] at h; unfold cF at h; injection h with h1 h2; exact absurd h1 (by decide)
    · rw [if_neg c2] at h; exact stW_s h
theorem u_step {n : Nat} (hn : 200000 ≤ n) {M0 : qM} {R : Nat → Int32} {len : Int} (hl : len ≤ 80) {F : Int32 → qM → qR} {B : Nat}
    (hF : ∀ (a1 : Int32) (M : qM) (st : List (Int × Int)), G M → Sm lP M0 M → Cx R len M → (M 1 3).toInt ≤ len → (st.length : Int) = a1.toInt → 0 ≤ a1.toInt ∧ a1.toInt ≤ 3 → 2 * (3 - a1.toInt) + 1 < (B : Int) → qT (F a1 M) (fun v m => Pw2 R len (0, (M 1 3).toInt, (M 53 3).toInt, st) (M 1 3).toInt (M 53 3).toInt st M0 v m ∧ (v.toInt = 0 ∨ tq R len (m 1 3).toInt ≠ 44)))
    (a1 : Int32) (M : qM) (st : List (Int × Int)) (hG : G M) (hS : Sm lP M0 M) (hC : Cx R len M) (h3 : (M 1 3).toInt ≤ len) (hst : (st.length : Int) = a1.toInt) (ha : 0 ≤ a1.toInt ∧ a1.toInt ≤ 3) (hB : 2 * (3 - a1.toInt) < (B : Int) + 1) : qT (fo_X6_readStep n F a1 M) (Pw2 R len (0, (M 1 3).toInt, (M 53 3).toInt, st) (M 1 3).toInt (M 53 3).toInt st M0) := by
  have h13 := r_1_3 hG
  have h12 := r_1_2 hG
  have h53 := r_53_3 hG
  have hlen := hC.2
  have ht0 := tq_r R len (M 1 3).toInt
  unfold fo_X6_readStep
  refine T_qc (u_sign hn M hG) ?_
  rintro r1 m2 ⟨rfl, hr1⟩
  rw [hC.1, hC.2] at hr1
  refine T_eq rfl l_40 (fun c => ?_) (fun c => ?_)
  · refine T_ql rfl ?_
    intro x3 hx3
    refine T_ql rfl ?_
    intro x4 hx4
    refine T_lt rfl l_3 (fun d => ?_) (fun d => ?_)
    · have ep : (m2 1 3 + 1).toInt = (m2 1 3).toInt + 1 := i_add rfl l_1 (by omega) (by omega)
      refine T_p (Or.inl rfl) hG hS (i_rng (lo := 0) (hi := 240) ep (by omega) (by omega)) ?_
      intro m5 y1 y2 y3 g5 s5
      have e5 : (m5 1 3).toInt = (m2 1 3).toInt + 1 := by rw [y1]; exact ep
      have e53 : m5 53 = m2 53 := y3 53 (by decide)
      have ea : (a1 + 1).toInt = a1.toInt + 1 := i_add rfl l_1 (by omega) (by omega)
      have hstep : To (tq R len) len (0, (m2 1 3).toInt, (m2 53 3).toInt, st) (0, (m5 1 3).toInt, (m5 53 3).toInt, ((m2 1 3).toInt, (m2 53 3).toInt) :: st) := by
        refine To_st ?_
        rw [st_A]
        unfold stA
        rw [if_pos (by omega), if_neg (by omega), e5, e53]
      refine T_qc (hF (a1 + 1) m5 (((m2 1 3).toInt, (m2 53 3).toInt) :: st) g5 s5 ⟨by rw [y3 2 (by decide)]; exact hC.1, by rw [y2 2 (by decide)]; exact hC.2⟩ (by omega) (by rw [List.length_cons, ea]; omega) (by omega) (by omega)) ?_
      rintro r6 m7 ⟨⟨⟨hC7, g7, s7⟩, ho⟩, hne⟩
      have h137 := r_1_3 g7
      have h537 := r_53_3 g7
      have hlen7 := hC7.2
      refine T_eq rfl l_0 (fun e => ?_) (fun e => ?_)
      · rcases ho with ⟨q1, q2⟩ | ⟨q1, q2⟩
        · exact T_ret ⟨⟨hC7, g7, s7⟩, Or.inl ⟨l_0, To_tr hstep q2⟩⟩
        · omega
      · obtain ⟨q1, q2, q3, q4, q5⟩ := ho.resolve_left (fun q => e q.1)
        have q6 := hne.resolve_left e
        have way := To_tr hstep q2
        have hd1 := dq_r (tq R len ((m7 1 3).toInt + 1))
        have ht1 := tq_r R len ((m7 1 3).toInt + 1)
        refine T_qc (u_must hn (41 : Int32) m7 g7 s7 (by decide)) ?_
        rintro r8 m9 ⟨ho9, z2, z3, g9, s9⟩
        rw [hC7.1, hC7.2, l_41] at ho9
        refine T_eq rfl l_0 (fun f => ?_) (fun f => ?_)
        · refine T_ret ⟨⟨⟨by rw [z3 2 (by decide)]; exact hC7.1, by rw [z2 2 (by decide) (by decide)]; exact hC7.2⟩, g9, s9⟩, Or.inl ⟨l_0, To_tr way (To_st ?_)⟩⟩
          rw [st_B]
          show (if _ then _ else _) = _
          rw [if_neg q6, if_neg (by omega)]
          unfold cF
          have : (m9 1 4).toInt = -1000 - (m7 1 3).toInt := by omega
          rw [this]
          rfl
        · have e9 : (m9 1 3).toInt = (m7 1 3).toInt + 1 := by omega
          have hC9 : Cx R len m9 := ⟨by rw [z3 2 (by decide)]; exact hC7.1, by rw [z2 2 (by decide) (by decide)]; exact hC7.2⟩
          have hT7 : tq R len (m7 1 3).toInt = 41 := by omega
          refine T_qc (u_digit hn m9 g9) ?_
          rintro r10 m11 ⟨rfl, hr10⟩
          rw [hC9.1, hC9.2, e9] at hr10
          have e953 : m11 53 = m7 53 := z3 53 (by decide)
          refine T_le l_2 rfl (fun f2 => ?_) (fun f2 => ?_)
          · have ep9 : (m11 1 3 + 1).toInt = (m11 1 3).toInt + 1 := i_add rfl l_1 (by omega) (by omega)
            refine T_p (Or.inl rfl) g9 s9 (i_rng (lo := 0) (hi := 240) ep9 (by omega) (by omega)) ?_
            intro m12 v1 v2 v3 g12 s12
            have e12 : (m12 1 3).toInt = (m7 1 3).toInt + 2 := by rw [v1]; omega
            have e1253 : m12 53 = m7 53 := by rw [v3 53 (by decide), e953]
            have hC12 : Cx R len m12 := ⟨by rw [v3 2 (by decide)]; exact hC9.1, by rw [v2 2 (by decide)]; exact hC9.2⟩
            refine T_qc (u_rep hn (b := (m2 53 3).toInt) (t := r10.toInt) x4 r10 m12 g12 s12 hx4 rfl (by rw [e1253]; rw [e53] at q5; omega) (by omega)) ?_
            rintro r13 m14 ⟨ho14, hf14, g14, s14⟩
            rw [e1253] at ho14
            have hC14 : Cx R len m14 := ⟨by rw [hf14 2 (by decide)]; exact hC12.1, by rw [hf14 1 (by decide)]; exact hC12.2⟩
            refine T_eq rfl l_0 (fun f3 => ?_) (fun f3 => ?_)
            · refine T_qc (u_fails (6 : Int32) x3 m14 g14 s14 (by decide) (by omega)) ?_
              rintro r15 m16 ⟨w0, w1, w2, w3, g16, s16⟩
              rw [l_6] at w1
              refine T_eq rfl l_0 (fun f4 => ?_) (fun f4 => absurd w0 f4)
              refine T_ret ⟨⟨⟨by rw [w3 2 (by decide)]; exact hC14.1, by rw [w2 2 (by decide)]; exact hC14.2⟩, g16, s16⟩, Or.inl ⟨l_0, To_tr way (To_st ?_)⟩⟩
              rw [st_B]
              show (if _ then _ else _) = _
              rw [if_neg q6, if_pos hT7, if_neg (by omega)]
              rw [if_pos (by show 40 < (m2 53 3).toInt + ((m7 53 3).toInt - (m2 53 3).toInt) * _; rw [← hr10]; omega)]
              unfold cF
              rw [w1, hx3]
            · have hv : (m14 53 3).toInt = (m2 53 3).toInt + ((m7 53 3).toInt - (m2 53 3).toInt) * r10.toInt := by omega
              have h5314 := r_53_3 g14
              have hpos : 0 ≤ ((m7 53 3).toInt - (m2 53 3).toInt) * r10.toInt := Int.mul_nonneg (by rw [e53] at q5; omega) (by omega)
              refine T_ret ⟨⟨hC14, g14, s14⟩, Or.inr ⟨l_1, To_tr way (To_st ?_), by rw [hf14 1 (by decide)]; omega, by rw [hf14 1 (by decide)]; omega, by omega⟩⟩
              rw [st_B]
              show (if _ then _ else _) = _
              rw [if_neg q6, if_pos hT7, if_neg (by omega)]
              rw [if_neg (by show ¬ 40 < (m2 53 3).toInt + ((m7 53 3).toInt - (m2 53 3).toInt) * _; rw [← hr10]; omega)]
              rw [hf14 1 (by decide), e12, ← hr10, hv]
          · refine T_qc (u_fails (1 : Int32) (m11 1 3) m11 g9 s9 (by decide) (r_1_3 g9)) ?_
            rintro r17 m18 ⟨w0, w1, w2, w3, g18, s18⟩
            rw [l_1] at w1
            refine T_qb rfl (by omega) (by omega) (T_ret ⟨⟨⟨by rw [w3 2 (by decide)]; exact hC9.1, by rw [w2 2 (by decide)]; exact hC9.2⟩, g18, s18⟩, Or.inl ⟨w0, To_tr way (To_st ?_)⟩⟩)
            rw [st_B]
            show (if _ then _ else _) = _
            rw [if_neg q6, if_pos hT7, if_pos (by omega)]
            unfold cF
            rw [w1, e9]
    · refine T_qc (u_fails (5 : Int32) x3 m2 hG hS (by decide) (by omega)) ?_
      rintro r19 m20 ⟨w0, w1, w2, w3, g20, s20⟩
      rw [l_5] at w1
      refine T_qb rfl (by omega) (by omega) (T_ret ⟨⟨⟨by rw [w3 2 (by decide)]; exact hC.1, by rw [w2 2 (by decide)]; exact hC.2⟩, g20, s20⟩, Or.inl ⟨w0, To_st ?_⟩⟩)
      rw [st_A]
      unfold stA cF
      rw [if_pos (by omega), if_pos (by omega), w1, hx3]
  · refine T_qc (u_try hn (st := st) m2 hG hS hC h3) ?_
    rintro r21 m22 ⟨⟨hC22, g22, s22⟩, ho⟩
    have hA : stp (tq R len) len (0, (m2 1 3).toInt, (m2 53 3).toInt, st) = stT (tq R len) (m2 1 3).toInt (m2 53 3).toInt st := by
      rw [st_A]; unfold stA; rw [if_neg (by omega)]
    rcases ho with ⟨q1, q2⟩ | ⟨q1, q2, q3, q4⟩
    · exact T_qb rfl (by omega) (by omega) (T_ret ⟨⟨hC22, g22, s22⟩, Or.inl ⟨q1, To_st (by rw [hA, q2])⟩⟩)
    · exact T_qb rfl (by omega) (by omega) (T_ret ⟨⟨hC22, g22, s22⟩, Or.inr ⟨q1, To_st (by rw [hA, q2]), q3, q4, stT_s q2⟩⟩)
theorem u_steps8 {n : Nat} (hn : 200000 ≤ n) {M0 : qM} {R : Nat → Int32} {len : Int} (hl : len ≤ 80) {st : List (Int × Int)} {c0 : Cf} {pl0 s0 : Int} {F : Int32 → qM → qR} (a1 : Int32)
    (hF : ∀ (M : qM), G M → Sm lP M0 M → Cx R len M → (M 1 3).toInt ≤ len → qT (F a1 M) (Pw2 R len (0, (M 1 3).toInt, (M 53 3).toInt, st) (M 1 3).toInt (M 53 3).toInt st M0)) :
    ∀ (m : Nat) (a2 a3 : Int32) (M : qM), G M → Sm lP M0 M → 0 ≤ a2.toInt ∧ a2.toInt ≤ 1 → 0 ≤ a3.toInt → Pw2 R len c0 pl0 s0 st M0 a2 M → (a2.toInt = 0 ∨ 2 * a3.toInt + 1 ≤ (M 1 3).toInt) → (a2.toInt = 0 ∨ 90 - a3.toInt < (m : Int)) → 0 < m → a3.toInt ≤ 80 → qT (f_X6_readSteps_8 n F m a1 a2 a3 M) (fun v m => Pw2 R len c0 pl0 s0 st M0 v m ∧ (v.toInt = 0 ∨ tq R len (m 1 3).toInt ≠ 44)) := by
  intro m
  induction m with
  | zero => intro a2 a3 M _ _ _ _ _ _ _ h; exfalso; omega
  | succ m ih =>
    intro a2 a3 M hG hS ha2 ha3 hP h2 h4 hm h80
    obtain ⟨⟨hC, _, _⟩, ho⟩ := hP
    have hlen := hC.2
    have h13 := r_1_3 hG
    show qT (b_X6_readSteps_8 n F (f_X6_readSteps_8 n F m) a1 a2 a3 M) _
    unfold b_X6_readSteps_8
    refine T_le l_80 rfl (fun c => ?_) (fun c => ?_)
    · refine T_qb rfl (by omega) (by omega) (T_ret ⟨⟨⟨hC, hG, hS⟩, ho⟩, ?_⟩)
      rcases ho with q | ⟨q1, q2, q3, q4, q5⟩
      · exact Or.inl q.1
      · omega
    · refine T_eq rfl l_0 (fun d => ?_) (fun d => ?_)
      · exact T_qb rfl (by omega) (by omega) (T_ret ⟨⟨⟨hC, hG, hS⟩, ho⟩, Or.inl d⟩)
      · obtain ⟨q1, q2, q3, q4, q5⟩ := ho.resolve_left (fun q => d q.1)
        refine T_qc (u_takes hn (44 : Int32) M hG hS (by decide)) ?_
        rintro r1 m2 ⟨ho2, z2, z3, g2, s2⟩
        rw [hC.1, hC.2, l_44] at ho2
        have hC2 : Cx R len m2 := ⟨by rw [z3 2 (by decide)]; exact hC.1, by rw [z2 2 (by decide)]; exact hC.2⟩
        have e53 : m2 53 = M 53 := z3 53 (by decide)
        refine T_eq rfl l_0 (fun e => ?_) (fun e => ?_)
        · have e3 : (m2 1 3).toInt = (M 1 3).toInt := by omega
          refine T_ret ⟨⟨⟨hC2, g2, s2⟩, Or.inr ⟨l_1, by rw [e3, e53]; exact q2, by omega, by omega, by rw [e53]; exact q5⟩⟩, Or.inr ?_⟩
          rw [e3]; omega
        · have e3 : (m2 1 3).toInt = (M 1 3).toInt + 1 := by omega
          have hst : To (tq R len) len c0 (0, (m2 1 3).toInt, (m2 53 3).toInt, st) := by
            refine To_tr q2 (To_st ?_)
            rw [st_B, e3, e53]
            cases st with
            | nil => show (if _ then _ else _) = _; rw [if_pos (by omega)]
            | cons x y => show (if _ then _ else _) = _; rw [if_pos (by omega)]
          refine T_qc (hF m2 g2 s2 hC2 (by omega)) ?_
          rintro r3 m4 ⟨⟨hC4, g4, s4⟩, ho4⟩
          refine T_ql (i_add rfl l_1 (by omega) (by omega)) ?_
          intro x hx
          rcases ho4 with ⟨w1, w2⟩ | ⟨w1, w2, w3, w4, w5⟩
          · exact ih r3 x m4 g4 s4 (by omega) (by omega) ⟨⟨hC4, g4, s4⟩, Or.inl ⟨w1, To_tr hst w2⟩⟩ (Or.inl w1) (Or.inl w1) (by omega) (by omega)
          · refine ih r3 x m4 g4 s4 (by omega) (by omega) ⟨⟨hC4, g4, s4⟩, Or.inr ⟨w1, To_tr hst w2, by omega, w4, by rw [e53] at w5; omega⟩⟩ (Or.inr (by omega)) (Or.inr (by omega)) (by omega) (by omega)
theorem u_rc {n : Nat} (hn : 200000 ≤ n) {M0 : qM} {R : Nat → Int32} {len : Int} (hl : len ≤ 80) : ∀ m : Nat,
    (∀ (a1 : Int32) (M : qM) (st : List (Int × Int)), G M → Sm lP M0 M → Cx R len M → (M 1 3).toInt ≤ len → (st.length : Int) = a1.toInt → 0 ≤ a1.toInt ∧ a1.toInt ≤ 3 → 2 * (3 - a1.toInt) < (m : Int) → qT (rc_X6_readStep n m 0 a1 M) (Pw2 R len (0, (M 1 3).toInt, (M 53 3).toInt, st) (M 1 3).toInt (M 53 3).toInt st M0)) ∧
    (∀ (a1 : Int32) (M : qM) (st : List (Int × Int)), G M → Sm lP M0 M → Cx R len M → (M 1 3).toInt ≤ len → (st.length : Int) = a1.toInt → 0 ≤ a1.toInt ∧ a1.toInt ≤ 3 → 2 * (3 - a1.toInt) + 1 < (m : Int) → qT (rc_X6_readStep n m 1 a1 M) (fun v m => Pw2 R len (0, (M 1 3).toInt, (M 53 3).toInt, st) (M 1 3).toInt (M 53 3).toInt st M0 v m ∧ (v.toInt = 0 ∨ tq R len (m 1 3).toInt ≠ 44))) := by
  intro m
  induction m with
  | zero => exact ⟨fun a1 M st _ _ _ _ _ q h => by exfalso; omega, fun a1 M st _ _ _ _ _ q h => by exfalso; omega⟩
  | succ m ih =>
    refine ⟨fun a1 M st hG hS hC h3 hst ha hm => ?_, fun a1 M st hG hS hC h3 hst ha hm => ?_⟩
    · show qT (fo_X6_readStep n (rc_X6_readStep n m 1) a1 M) _
      exact u_step hn hl (B := m) ih.2 a1 M st hG hS hC h3 hst ha (by omega)
    · show qT (fo_X6_readSteps n (rc_X6_readStep n m 0) a1 M) _
      unfold fo_X6_readSteps
      refine T_qc (ih.1 a1 M st hG hS hC h3 hst ha (by omega)) ?_
      rintro r1 m2 ⟨⟨hC2, g2, s2⟩, ho⟩
      have h13 := r_1_3 hG
      refine u_steps8 hn hl a1 (fun M2 g s c h => ih.1 a1 M2 st g s c h hst ha (by omega)) n r1 0 m2 g2 s2 (by rcases ho with q | q <;> omega) (by rw [l_0]; omega) ⟨⟨hC2, g2, s2⟩, ho⟩ ?_ (Or.inr (by rw [l_0]; omega)) (by omega) (by rw [l_0]; omega)
      rcases ho with q | q
      · exact Or.inl q.1
      · exact Or.inr (by rw [l_0]; omega)
theorem u_open {n : Nat} (a1 : Int32) (M : qM) (hG : G M) (ha : 0 ≤ a1.toInt ∧ a1.toInt ≤ 240) : qT (f_X9_openText n a1 M) (fun _ m => (m 1 3).toInt = 0 ∧ m 1 2 = qmin a1 (M 1 1) ∧ m 1 1 = M 1 1 ∧ (∀ c, c ≠ 1 → m c = M c) ∧ G m) := by
  have h11 := r_1_1 hG
  have hmin := i_min (a := a1) (b := M 1 1) rfl rfl
  unfold f_X9_openText
  refine T_mu (M0 := M) (l := [(1, 2, 2, 5)]) hG Sm.rf (i_rng (lo := 0) (hi := 240) rfl (by omega) (by omega)) (nw_1 _) (i := 0) rfl ⟨by decide, by decide, Or.inr ⟨by decide, by decide⟩⟩ ?_
  intro m1 e1 g1 _
  refine T_mu (M0 := m1) (l := [(1, 2, 2, 5)]) g1 Sm.rf (i_rng (lo := 0) (hi := 240) l_0 (by omega) (by omega)) (nw_1 _) (i := 0) rfl ⟨by decide, by decide, Or.inr ⟨by decide, by decide⟩⟩ ?_
  intro m2 e2 g2 _
  refine T_mu (M0 := m2) (l := [(1, 2, 2, 5)]) g2 Sm.rf trivial (nw_1 _) (i := 0) rfl ⟨by decide, by decide, Or.inr ⟨by decide, by decide⟩⟩ ?_
  intro m3 e3 g3 _
  refine T_ret ⟨?_, ?_, ?_, fun c hc => ?_, g3⟩
  · rw [e3, mu_ne (Or.inr (by decide)), e2, mu_at]; rfl
  · rw [e3, mu_ne (Or.inr (by decide)), e2, mu_ne (Or.inr (by decide)), e1, mu_at]
  · rw [e3, mu_ne (Or.inr (by decide)), e2, mu_ne (Or.inr (by decide)), e1, mu_ne (Or.inr (by decide))]
  · rw [e3, mu_nc hc, e2, mu_nc hc, e1, mu_nc hc]
theorem u_end {n : Nat} (M : qM) (hG : G M) : qT (f_X9_mustEnd n M) (fun v m => ((v.toInt = 1 ∧ (M 1 2).toInt ≤ (M 1 3).toInt) ∨ (v.toInt = 0 ∧ (M 1 3).toInt < (M 1 2).toInt ∧ (m 1 4).toInt = -1000 - (M 1 3).toInt)) ∧ (∀ c, c ≠ 1 → m c = M c) ∧ G m) := by
  have h13 := r_1_3 hG
  unfold f_X9_mustEnd
  refine T_le rfl rfl (fun d => ?_) (fun d => ?_)
  · exact T_ret ⟨Or.inl ⟨l_1, d⟩, fun _ _ => rfl, hG⟩
  · refine T_qc (u_fails (M0 := M) (1 : Int32) (M 1 3) M hG Sm.rf (by decide) h13) ?_
    rintro r m ⟨w0, w1, w2, w3, g, s⟩
    rw [l_1] at w1
    refine T_eq rfl l_0 (fun f => ?_) (fun f => absurd w0 f)
    exact T_ret ⟨Or.inr ⟨l_0, d, by omega⟩, w3, g⟩
/-- the Java side's reader: its answer is what the small machine comes to -/
theorem u_read {n : Nat} (hn : 200000 ≤ n) (a1 : Int32) (M : qM) (hG : G M) (ha : 1 ≤ a1.toInt ∧ a1.toInt ≤ 80) (hs : a1.toInt ≤ (M 1 1).toInt) : qT (f_X6_read n a1 M) (fun v _ => To (tq (M 2) a1.toInt) a1.toInt (0, 0, 0, []) (2, v.toInt, 0, []) ∨ To (tq (M 2) a1.toInt) a1.toInt (0, 0, 0, []) (3, 0, v.toInt, [])) := by
  have h11 := r_1_1 hG
  have hmin := i_min (a := a1) (b := M 1 1) rfl rfl
  unfold f_X6_read
  refine T_qc (u_open a1 M hG (by omega)) ?_
  rintro _ m1 ⟨b1, b2, b3, b4, g1⟩
  refine T_mu (M0 := m1) (l := [(53, 54, 3, 4)]) g1 Sm.rf (i_rng (lo := 0) (hi := 40) l_0 (by omega) (by omega)) (nw_53 _) (i := 0) rfl ⟨by decide, by decide, Or.inr ⟨by decide, by decide⟩⟩ ?_
  intro m4 e4 g4 _
  have p3 : (m4 1 3).toInt = 0 := by rw [e4, mu_ne (Or.inl (by decide))]; exact b1
  have p2 : (m4 1 2).toInt = a1.toInt := by rw [e4, mu_ne (Or.inl (by decide)), b2]; omega
  have pR : m4 2 = M 2 := by rw [e4, mu_nc (by decide), b4 2 (by decide)]
  have p53 : (m4 53 3).toInt = 0 := by rw [e4, mu_at]; rfl
  unfold f_X6_readSteps
  refine T_qc ((u_rc hn (M0 := m4) (R := M 2) (len := a1.toInt) (by omega) 14).2 0 m4 [] g4 Sm.rf ⟨pR, p2⟩ (by omega) (by rw [l_0]; rfl) (by rw [l_0]; omega) (by rw [l_0]; omega)) ?_
  rw [p3, p53]
  rintro r5 m6 ⟨⟨⟨hC6, g6, s6⟩, ho⟩, hne⟩
  refine T_eq rfl l_0 (fun c => ?_) (fun c => ?_)
  · rcases ho with ⟨q1, q2⟩ | ⟨q1, q2⟩
    · exact T_ret (Or.inl q2)
    · omega
  · obtain ⟨q1, q2, q3, q4, q5⟩ := ho.resolve_left (fun q => c q.1)
    have q6 := hne.resolve_left c
    have hlen6 := hC6.2
    refine T_qc (u_end m6 g6) ?_
    rintro r7 m8 ⟨ho8, f8, g8⟩
    refine T_eq rfl l_0 (fun d => ?_) (fun d => ?_)
    · refine T_ret (Or.inl (To_tr q2 (To_st ?_)))
      rw [st_B]
      show (if _ then _ else _) = _
      rw [if_neg q6, if_neg (by omega)]
      unfold cF
      have : (m8 1 4).toInt = -1000 - (m6 1 3).toInt := by omega
      rw [this]
      rfl
    · refine T_ret (Or.inr (To_tr q2 (To_st ?_)))
      rw [st_B]
      show (if _ then _ else _) = _
      rw [if_neg q6, if_pos (by omega), f8 53 (by decide)]
/-! the model's reader of plans follows the small machine, too -/
def tm (R : Nat → Int32) (len p : Int) : Int := if 0 ≤ p ∧ p < len then ((R p.toNat) &&& (255 : Int32)).toInt else -1
theorem tm_r (R : Nat → Int32) (len p : Int) : (tm R len p = -1 ∧ ¬ (0 ≤ p ∧ p < len)) ∨ (tm R len p = ((R p.toNat) &&& (255 : Int32)).toInt ∧ 0 ≤ p ∧ p < len ∧ 0 ≤ tm R len p) := by
  unfold tm
  by_cases h : 0 ≤ p ∧ p < len
  · rw [if_pos h]
    exact Or.inr ⟨rfl, h.1, h.2, (i_and (a := R p.toNat) (b := (255 : Int32)) l_255 (by omega)).1⟩
  · rw [if_neg h]; exact Or.inl ⟨rfl, h⟩
abbrev lM : List Bx := [(77, 78, 9, 10), (77, 78, 11, 13), (77, 78, 35, 37), (98, 102, 0, 0)]
theorem T_n {M0 M : qM} {c s : Nat} {v : Int32} {f : qM → qR} {Q : Int32 → qM → Prop} (hc : (c = 77 ∧ (s = 9 ∨ s = 11 ∨ s = 12 ∨ s = 35 ∨ s = 36)) ∨ (98 ≤ c ∧ c ≤ 101)) (hG : G M) (hS : Sm lM M0 M) (hr : Rin c s v) (h : ∀ m : qM, m c s = v → (∀ s2, s2 ≠ s → m c s2 = M c s2) → (∀ c2, c2 ≠ c → m c2 = M c2) → G m → Sm lM M0 m → qT (f m) Q) : qT (qlm (mu M c s v) f) Q := by
  refine h _ mu_at (fun s2 h2 => mu_ne (Or.inr h2)) (fun c2 hc2 => mu_nc hc2) (G_mu hG hr (by unfold nW; omega)) ?_
  rcases hc with ⟨rfl, hs⟩ | hc
  · rcases hs with rfl | rfl | rfl | rfl | rfl
    · exact hS.mu (i := 0) rfl ⟨by decide, by decide, Or.inr ⟨by decide, by decide⟩⟩
    · exact hS.mu (i := 1) rfl ⟨by decide, by decide, Or.inr ⟨by decide, by decide⟩⟩
    · exact hS.mu (i := 1) rfl ⟨by decide, by decide, Or.inr ⟨by decide, by decide⟩⟩
    · exact hS.mu (i := 2) rfl ⟨by decide, by decide, Or.inr ⟨by decide, by decide⟩⟩
    · exact hS.mu (i := 2) rfl ⟨by decide, by decide, Or.inr ⟨by decide, by decide⟩⟩
  · exact hS.mu (i := 3) rfl ⟨by show 98 ≤ c; omega, by show c < 102; omega, Or.inl rfl⟩
theorem v_here {n : Nat} (hn : 200000 ≤ n) (M : qM) (hG : G M) : qT (f_X12_here n M) (fun v m => m = M ∧ v.toInt = tm (M 84) (M 77 10).toInt (M 77 9).toInt) := by
  have h9 := r_77_9 hG
  refine T_mono (t_X12_here hn M hG) ?_
  rintro v m ⟨_, p, _, hs⟩
  refine ⟨hs.nil.symm, ?_⟩
  unfold tm
  rcases p with ⟨p1, p2⟩ | ⟨p1, p2⟩
  · rw [p1, if_neg (by omega)]
  · rw [p2, if_pos ⟨h9.1, p1⟩]; rfl
theorem v_digit {n : Nat} (hn : 200000 ≤ n) (M : qM) (hG : G M) : qT (f_X12_isDigit n M) (fun v m => m = M ∧ ((v.toInt = 1 ∧ 0 ≤ dq (tm (M 84) (M 77 10).toInt (M 77 9).toInt)) ∨ (v.toInt = 0 ∧ dq (tm (M 84) (M 77 10).toInt (M 77 9).toInt) = -1))) := by
  unfold f_X12_isDigit
  refine T_qc (v_here hn M hG) ?_
  rintro r m ⟨rfl, hr⟩
  have hd := dq_r (tm (m 84) (m 77 10).toInt (m 77 9).toInt)
  refine T_lt rfl l_48 (fun c => ?_) (fun c => ?_)
  · exact T_ret ⟨rfl, Or.inr ⟨l_0, by omega⟩⟩
  · refine T_qc (v_here hn m hG) ?_
    rintro r3 m4 ⟨rfl, hr3⟩
    refine T_lt l_57 rfl (fun d => ?_) (fun d => ?_)
    · exact T_ret ⟨rfl, Or.inr ⟨l_0, by omega⟩⟩
    · exact T_ret ⟨rfl, Or.inl ⟨l_1, by omega⟩⟩
theorem v_wrong {n : Nat} {M0 : qM} (a b : Int32) (M : qM) (hG : G M) (hS : Sm lM M0 M) (ha : 1 ≤ a.toInt ∧ a.toInt ≤ 6) (hb : 0 ≤ b.toInt ∧ b.toInt ≤ 240) : qT (f_X12_wrongAt n a b M) (fun v m => v.toInt = 0 ∧ (m 77 11).toInt = -1000 * a.toInt - b.toInt ∧ (∀ s2, s2 ≠ 11 → m 77 s2 = M 77 s2) ∧ (∀ c, c ≠ 77 → m c = M c) ∧ G m ∧ Sm lM M0 m) := by
  unfold f_X12_wrongAt
  refine T_n (Or.inl ⟨rfl, by decide⟩) hG hS trivial ?_
  intro m e1 e2 e3 g s
  refine T_ret ⟨l_0, ?_, e2, e3, g, s⟩
  rw [e1, i_sub (i_mul l_m1000 rfl (by omega) (by omega)) rfl (by omega) (by omega)]
def stk (F A : Nat → Int32) : Nat → List (Int × Int)
  | 0 => []
  | k + 1 => ((F k).toInt, (A k).toInt) :: stk F A k
theorem stk_cg {F A F' A' : Nat → Int32} : ∀ k, (∀ i, i < k → F' i = F i ∧ A' i = A i) → stk F' A' k = stk F A k := by
  intro k
  induction k with
  | zero => intro _; rfl
  | succ k ih =>
    intro h
    show ((F' k).toInt, (A' k).toInt) :: stk F' A' k = ((F k).toInt, (A k).toInt) :: stk F A k
    rw [ih (fun i hi => h i (by omega)), (h k (by omega)).1, (h k (by omega)).2]
theorem stk_len {F A : Nat → Int32} : ∀ k, (stk F A k).length = k := by
  intro k
  induction k with
  | zero => rfl
  | succ k ih => show (stk F A k).length + 1 = k + 1; rw [ih]
/-- the model's state is one of the small machine's -/
abbrev cM (t : Nat) (M : qM) : Cf := (t, (M 77 9).toInt, (M 77 35).toInt, stk (M 100) (M 101) (M 77 36).toInt.toNat)
def FR (M : qM) : Prop := ∀ i : Nat, (i : Int) < (M 77 36).toInt → 0 ≤ (M 100 i).toInt ∧ (M 100 i).toInt ≤ 240
abbrev Mx (R : Nat → Int32) (len : Int) (M : qM) : Prop := M 84 = R ∧ (M 77 10).toInt = len ∧ (M 77 9).toInt ≤ len ∧ KR M ∧ FR M
theorem v_rep {n : Nat} {M1 M0 : qM} (a1 a2 a3 : Int32) (h1 : 2 ≤ a1.toInt ∧ a1.toInt ≤ 9) (h2 : 0 ≤ a2.toInt ∧ a2.toInt ≤ 40) (h3 : 0 ≤ a3.toInt ∧ a3.toInt ≤ 40) (h4 : a2.toInt + (a3 * a1).toInt ≤ 40) (h5 : a3.toInt ≤ (a3 * a1).toInt) : ∀ (m : Nat) (a4 : Int32) (M : qM), G M → Sm lM M0 M → a3.toInt ≤ a4.toInt → a4.toInt ≤ (a3 * a1).toInt → M 77 = M1 77 → (∀ c, c ≠ 77 → c ≠ 98 → c ≠ 99 → M c = M1 c) → 41 - a4.toInt < (m : Int) → qT (f_X12_endsRound_108 n m a1 a2 a3 a4 M) (fun v m => v.toInt = 1 ∧ (m 77 35).toInt = a2.toInt + (a3 * a1).toInt ∧ (∀ s, s ≠ 35 → m 77 s = M1 77 s) ∧ (∀ c, c ≠ 77 → c ≠ 98 → c ≠ 99 → m c = M1 c) ∧ G m ∧ Sm lM M0 m) := by
  intro m
  induction m with
  | zero => intro a4 M _ _ _ _ _ _ h; exfalso; omega
  | succ m ih =>
    intro a4 M hG hS k1 k2 k3 k4 hm
    show qT (b_X12_endsRound_108 n (f_X12_endsRound_108 n m) a1 a2 a3 a4 M) _
    unfold b_X12_endsRound_108
    refine T_le rfl rfl (fun c => ?_) (fun c => ?_)
    · have ep : (a2 + a3 * a1).toInt = a2.toInt + (a3 * a1).toInt := i_add rfl rfl (by omega) (by omega)
      refine T_n (Or.inl ⟨rfl, by decide⟩) hG hS (i_rng (lo := 0) (hi := 40) ep (by omega) (by omega)) ?_
      intro m1 e1 e2 e3 g s
      exact T_ret ⟨l_1, by rw [e1]; exact ep, fun s2 hs2 => by rw [e2 s2 hs2, k3], fun k q1 q2 q3 => by rw [e3 k q1]; exact k4 k q1 q2 q3, g, s⟩
    · have ea : (a2 + a4).toInt = a2.toInt + a4.toInt := i_add rfl rfl (by omega) (by omega)
      have eb : (a2 + a4 - a3).toInt = a2.toInt + a4.toInt - a3.toInt := i_sub ea rfl (by omega) (by omega)
      refine T_qg eb (by omega) (by omega) (T_qg ea (by omega) (by omega) ?_)
      refine T_n (Or.inr (by decide)) hG hS trivial ?_
      intro m2 e1 e2 e3 g s
      refine T_qg eb (by omega) (by omega) (T_qg ea (by omega) (by omega) ?_)
      refine T_n (Or.inr (by decide)) g s trivial ?_
      intro m3 f1 f2 f3 g3 s3
      refine T_ql (i_add rfl l_1 (by omega) (by omega)) ?_
      intro x hx
      exact ih x m3 g3 s3 (by omega) (by omega) (by rw [f3 77 (by decide), e3 77 (by decide)]; exact k3) (fun k q1 q2 q3 => by rw [f3 k q3, e3 k q2]; exact k4 k q1 q2 q3) (by omega)
theorem v_ends {n : Nat} (hn : 200000 ≤ n) {M0 : qM} {R : Nat → Int32} {len : Int} (M : qM) (hG : G M) (hS : Sm lM M0 M) (hM : Mx R len M) (hT : tm R len (M 77 9).toInt = 41) (hk : 1 ≤ (M 77 36).toInt) : qT (f_X12_endsRound n M) (fun v m => ((v.toInt = 0 ∧ stp (tm R len) len (cM 1 M) = (2, (m 77 11).toInt, 0, [])) ∨ (v.toInt = 1 ∧ stp (tm R len) len (cM 1 M) = cM 1 m ∧ Mx R len m ∧ (M 77 9).toInt < (m 77 9).toInt)) ∧ G m ∧ Sm lM M0 m) := by
  obtain ⟨hR, hlen, hpl, hKR, hFR⟩ := hM
  have h9 := r_77_9 hG
  have h10 := r_77_10 hG
  have h35 := r_77_35 hG
  have h36 := r_77_36 hG
  have ht := tm_r R len (M 77 9).toInt
  have ht1 := tm_r R len ((M 77 9).toInt + 1)
  have hd1 := dq_r (tm R len ((M 77 9).toInt + 1))
  -- the stack's top
  have hk1 : (M 77 36).toInt.toNat = ((M 77 36).toInt - 1).toNat + 1 := by omega
  have hst : stk (M 100) (M 101) (M 77 36).toInt.toNat = ((M 100 ((M 77 36).toInt - 1).toNat).toInt, (M 101 ((M 77 36).toInt - 1).toNat).toInt) :: stk (M 100) (M 101) ((M 77 36).toInt - 1).toNat := by rw [hk1]; rfl
  have h101 := r_101 hG ((M 77 36).toInt - 1).toNat
  have hb := hKR ((M 77 36).toInt - 1).toNat (by omega)
  have hstp : stp (tm R len) len (cM 1 M) = (if dq (tm R len ((M 77 9).toInt + 1)) < 2 then cF 1 ((M 77 9).toInt + 1) else if 40 < (M 101 ((M 77 36).toInt - 1).toNat).toInt + ((M 77 35).toInt - (M 101 ((M 77 36).toInt - 1).toNat).toInt) * dq (tm R len ((M 77 9).toInt + 1)) then cF 6 (M 100 ((M 77 36).toInt - 1).toNat).toInt else (1, (M 77 9).toInt + 2, (M 101 ((M 77 36).toInt - 1).toNat).toInt + ((M 77 35).toInt - (M 101 ((M 77 36).toInt - 1).toNat).toInt) * dq (tm R len ((M 77 9).toInt + 1)), stk (M 100) (M 101) ((M 77 36).toInt - 1).toNat)) := by
    show stp (tm R len) len (1, (M 77 9).toInt, (M 77 35).toInt, stk (M 100) (M 101) (M 77 36).toInt.toNat) = _
    rw [st_B, hst]
    show (if _ then _ else _) = _
    rw [if_neg (by omega), if_pos hT]
  unfold f_X12_endsRound
  have ep : (M 77 9 + 1).toInt = (M 77 9).toInt + 1 := i_add rfl l_1 (by omega) (by omega)
  refine T_n (Or.inl ⟨rfl, by decide⟩) hG hS (i_rng (lo := 0) (hi := 240) ep (by omega) (by omega)) ?_
  intro m1 a1 a2 a3 g1 s1
  have p1 : (m1 77 9).toInt = (M 77 9).toInt + 1 := by rw [a1]; exact ep
  have q84 : m1 84 = R := by rw [a3 84 (by decide)]; exact hR
  have q10 : (m1 77 10).toInt = len := by rw [a2 10 (by decide)]; exact hlen
  refine T_qc (v_here hn m1 g1) ?_
  rintro r2 m3 ⟨rfl, hr2⟩
  rw [q84, q10, p1] at hr2
  refine T_qc (t_X12_in hn r2 (50 : Int32) (57 : Int32) m3 g1 (by decide) (by decide)) ?_
  rintro r4 m5 ⟨hr4, he4, _, hs5⟩
  have e5 := hs5.nil
  subst e5
  rw [l_50, l_57] at he4
  refine T_eq rfl l_0 (fun c => ?_) (fun c => ?_)
  · refine T_qc (v_wrong (1 : Int32) (m3 77 9) m3 g1 s1 (by decide) (by omega)) ?_
    rintro r15 m16 ⟨w0, w1, w2, w3, g16, s16⟩
    rw [l_1] at w1
    refine T_qb rfl (by omega) (by omega) (T_ret ⟨Or.inl ⟨w0, ?_⟩, g16, s16⟩)
    rw [hstp, if_pos (by omega)]
    unfold cF
    rw [w1, p1]
  · refine T_qc (v_here hn m3 g1) ?_
    rintro r6 m7 ⟨rfl, hr6⟩
    rw [q84, q10, p1] at hr6
    refine T_ql (i_sub rfl l_48 (by omega) (by omega)) ?_
    intro x8 hx8
    have htm : x8.toInt = dq (tm R len ((M 77 9).toInt + 1)) := by omega
    have ep7 : (m7 77 9 + 1).toInt = (m7 77 9).toInt + 1 := i_add rfl l_1 (by omega) (by omega)
    refine T_n (Or.inl ⟨rfl, by decide⟩) g1 s1 (i_rng (lo := 0) (hi := 240) ep7 (by omega) (by omega)) ?_
    intro m9 b1 b2 b3 g9 s9
    have p9 : (m9 77 9).toInt = (M 77 9).toInt + 2 := by rw [b1]; omega
    have c36 : m9 77 36 = M 77 36 := by rw [b2 36 (by decide), a2 36 (by decide)]
    rw [c36]
    have ew : (M 77 36 - 1).toInt = (M 77 36).toInt - 1 := i_sub rfl l_1 (by omega) (by omega)
    refine T_n (Or.inl ⟨rfl, by decide⟩) g9 s9 (i_rng (lo := 0) (hi := 3) ew (by omega) (by omega)) ?_
    intro m10 d1 d2 d3 g10 s10
    have w10 : (m10 77 36).toInt = (M 77 36).toInt - 1 := by rw [d1]; exact ew
    have f101 : m10 101 = M 101 := by rw [d3 101 (by decide), b3 101 (by decide), a3 101 (by decide)]
    have f100 : m10 100 = M 100 := by rw [d3 100 (by decide), b3 100 (by decide), a3 100 (by decide)]
    have f35 : m10 77 35 = M 77 35 := by rw [d2 35 (by decide), b2 35 (by decide), a2 35 (by decide)]
    refine T_qg rfl (by omega) (by omega) ?_
    have ix : (m10 77 36).toNatClampNeg = ((M 77 36).toInt - 1).toNat := by rw [tnc, w10]
    rw [ix, f101]
    refine T_ql rfl ?_
    intro x11 hx11
    rw [f35]
    refine T_ql (i_sub rfl rfl (by omega) (by omega)) ?_
    intro x12 hx12
    have hmk := i_mulk 9 (a := x12) (b := x8) rfl rfl (by omega) (by omega) (by omega) (by omega)
    have hmul : (x12 * x8).toInt = x12.toInt * x8.toInt := by
      refine i_mul rfl rfl ?_ ?_
      · have := Int.mul_nonneg (show 0 ≤ x12.toInt by omega) (show 0 ≤ x8.toInt by omega); omega
      · have h7 : x12.toInt * x8.toInt ≤ x12.toInt * 9 := Int.mul_le_mul_of_nonneg_left (by omega) (by omega)
        omega
    have hval : (M 101 ((M 77 36).toInt - 1).toNat).toInt + ((M 77 35).toInt - (M 101 ((M 77 36).toInt - 1).toNat).toInt) * dq (tm R len ((M 77 9).toInt + 1)) = x11.toInt + (x12 * x8).toInt := by
      rw [hmul, ← htm, hx12, hx11]
    refine T_le (i_add rfl rfl (by omega) (by omega)) l_40 (fun f => ?_) (fun f => ?_)
    · refine T_mono (v_rep (M1 := m10) (M0 := M0) x8 x11 x12 (by omega) (by omega) (by omega) (by omega) (by omega) n x12 m10 g10 s10 (by omega) (by omega) rfl (fun _ _ _ _ => rfl) (by omega)) ?_
      rintro v m ⟨z1, z2, z3, z4, g, s⟩
      have u36 : m 77 36 = m10 77 36 := z3 36 (by decide)
      have u9 : (m 77 9).toInt = (M 77 9).toInt + 2 := by rw [z3 9 (by decide), d2 9 (by decide)]; exact p9
      have u100 : m 100 = M 100 := by rw [z4 100 (by decide) (by decide) (by decide), f100]
      have u101 : m 101 = M 101 := by rw [z4 101 (by decide) (by decide) (by decide), f101]
      refine ⟨Or.inr ⟨z1, ?_, ⟨?_, ?_, ?_, ?_, ?_⟩, by omega⟩, g, s⟩
      · rw [hstp, if_neg (by omega), if_neg (by rw [hval]; omega), hval]
        show _ = (1, (m 77 9).toInt, (m 77 35).toInt, stk (m 100) (m 101) (m 77 36).toInt.toNat)
        rw [u9, z2, u100, u101, u36, w10]
      · rw [z4 84 (by decide) (by decide) (by decide), d3 84 (by decide), b3 84 (by decide)]; exact q84
      · rw [z3 10 (by decide), d2 10 (by decide), b2 10 (by decide)]; exact q10
      · omega
      · intro i hi
        rw [u36, w10] at hi
        rw [u101, z2]
        have := hKR i (by omega)
        omega
      · intro i hi
        rw [u36, w10] at hi
        rw [u100]
        exact hFR i (by omega)
    · refine T_qg rfl (by omega) (by omega) ?_
      rw [f100]
      refine T_qc (v_wrong (6 : Int32) (M 100 ((M 77 36).toInt - 1).toNat) m10 g10 s10 (by decide) (hFR _ (by omega))) ?_
      rintro r13 m14 ⟨w0, w1, w2, w3, g14, s14⟩
      rw [l_6] at w1
      refine T_qb rfl (by omega) (by omega) (T_ret ⟨Or.inl ⟨w0, ?_⟩, g14, s14⟩)
      rw [hstp, if_neg (by omega), if_pos (by rw [hval]; omega)]
      unfold cF
      rw [w1]
/-- what the model's reader of a step says of the small machine -/
abbrev Qv (R : Nat → Int32) (len : Int) (c : Cf) (pl : Int) (M0 : qM) (v : Int32) (m : qM) : Prop := ((v.toInt = 0 ∧ To (tm R len) len c (2, (m 77 11).toInt, 0, [])) ∨ (v.toInt = 1 ∧ To (tm R len) len c (cM 1 m) ∧ Mx R len m ∧ pl ≤ (m 77 9).toInt ∧ (tm R len (m 77 9).toInt ≠ 41 ∨ (m 77 36).toInt = 0))) ∧ G m ∧ Sm lM M0 m
theorem v_296 {n : Nat} (hn : 200000 ≤ n) {M0 : qM} {R : Nat → Int32} {len pl : Int} {c : Cf} : ∀ (m : Nat) (M : qM), G M → Sm lM M0 M → Mx R len M → To (tm R len) len c (cM 1 M) → pl ≤ (M 77 9).toInt → 241 - (M 77 9).toInt < (m : Int) → qT (f_X12_readsStep_296 n m M) (Qv R len c pl M0) := by
  intro m
  induction m with
  | zero => intro M hG _ _ _ _ h; have := r_77_9 hG; exfalso; omega
  | succ m ih =>
    intro M hG hS hM hT hp hm
    have hM2 := hM
    obtain ⟨hR, hlen, hpl, hKR, hFR⟩ := hM2
    have h36 := r_77_36 hG
    show qT (b_X12_readsStep_296 n (f_X12_readsStep_296 n m) M) _
    unfold b_X12_readsStep_296
    refine T_qc (v_here hn M hG) ?_
    rintro r1 m2 ⟨rfl, hr1⟩
    rw [hR, hlen] at hr1
    refine T_eq rfl l_41 (fun d => ?_) (fun d => ?_)
    · refine T_le rfl l_0 (fun e => ?_) (fun e => ?_)
      · exact T_ret ⟨Or.inr ⟨l_1, hT, hM, hp, Or.inr (by omega)⟩, hG, hS⟩
      · refine T_qc (v_ends hn m2 hG hS hM (by omega) (by omega)) ?_
        rintro r3 m4 ⟨ho, g4, s4⟩
        refine T_eq rfl l_0 (fun f => ?_) (fun f => ?_)
        · rcases ho with ⟨q1, q2⟩ | ⟨q1, q2⟩
          · exact T_ret ⟨Or.inl ⟨l_0, To_tr hT (To_st q2)⟩, g4, s4⟩
          · omega
        · obtain ⟨q1, q2, q3, q4⟩ := ho.resolve_left (fun q => f q.1)
          exact ih m4 g4 s4 q3 (To_tr hT (To_st q2)) (by omega) (by omega)
    · exact T_ret ⟨Or.inr ⟨l_1, hT, hM, hp, Or.inl (by omega)⟩, hG, hS⟩
theorem v_fail {n : Nat} {M0 : qM} {R : Nat → Int32} {len pl k w : Int} {c : Cf} (a b : Int32) (M : qM) (hG : G M) (hS : Sm lM M0 M) (ha : a.toInt = k) (hb : b.toInt = w) (hk : 1 ≤ k ∧ k ≤ 6) (hw : 0 ≤ w ∧ w ≤ 240) (hT : To (tm R len) len c (cF k w)) : qT (qc (f_X12_wrongAt n a b M) (fun r m => qb r (some (r, m)))) (Qv R len c pl M0) := by
  refine T_qc (v_wrong a b M hG hS (by omega) (by omega)) ?_
  rintro r m ⟨w0, w1, w2, w3, g, s⟩
  refine T_qb rfl (by omega) (by omega) (T_ret ⟨Or.inl ⟨w0, ?_⟩, g, s⟩)
  rw [w1, ha, hb]
  exact hT
theorem v_246 {n : Nat} (hn : 200000 ≤ n) {M0 : qM} {R : Nat → Int32} {len pl : Int} {c : Cf} (a1 a2 : Int32) (M : qM) (hG : G M) (hS : Sm lM M0 M) (hM : Mx R len M) (h1 : a1.toInt = pl) (h0 : 0 ≤ pl ∧ pl ≤ 240) (hp : pl ≤ (M 77 9).toInt) (hT : To (tm R len) len c (stE pl (M 77 9).toInt (M 77 35).toInt (stk (M 100) (M 101) (M 77 36).toInt.toNat))) : qT (f_X12_readsStep_246 n a1 a2 M) (Qv R len c pl M0) := by
  obtain ⟨hR, hlen, hpl, hKR, hFR⟩ := hM
  have h35 := r_77_35 hG
  unfold f_X12_readsStep_246
  unfold stE at hT
  refine T_eq rfl l_40 (fun d => ?_) (fun d => ?_)
  · rw [if_pos (by omega)] at hT
    exact v_fail (6 : Int32) a1 M hG hS l_6 h1 (by omega) h0 hT
  · rw [if_neg (by omega)] at hT
    refine T_qg rfl (by omega) (by omega) ?_
    refine T_n (Or.inr (by decide)) hG hS trivial ?_
    intro m1 a1' a2' a3 g1 s1
    have c35 : m1 77 35 = M 77 35 := by rw [a3 77 (by decide)]
    rw [c35]
    refine T_qg rfl (by omega) (by omega) ?_
    refine T_n (Or.inr (by decide)) g1 s1 trivial ?_
    intro m2 b1 b2 b3 g2 s2
    have d35 : m2 77 35 = M 77 35 := by rw [b3 77 (by decide), c35]
    rw [d35]
    have ep : (M 77 35 + 1).toInt = (M 77 35).toInt + 1 := i_add rfl l_1 (by omega) (by omega)
    refine T_n (Or.inl ⟨rfl, by decide⟩) g2 s2 (i_rng (lo := 0) (hi := 40) ep (by omega) (by omega)) ?_
    intro m3 c1 c2 c3 g3 s3
    have e35 : (m3 77 35).toInt = (M 77 35).toInt + 1 := by rw [c1]; exact ep
    have e77 : ∀ s, s ≠ 35 → m3 77 s = M 77 s := fun s hs => by rw [c2 s hs, b3 77 (by decide), a3 77 (by decide)]
    have e100 : m3 100 = M 100 := by rw [c3 100 (by decide), b3 100 (by decide), a3 100 (by decide)]
    have e101 : m3 101 = M 101 := by rw [c3 101 (by decide), b3 101 (by decide), a3 101 (by decide)]
    have h93 := r_77_9 g3
    refine v_296 hn n m3 g3 s3 ⟨by rw [c3 84 (by decide), b3 84 (by decide), a3 84 (by decide)]; exact hR, by rw [e77 10 (by decide)]; exact hlen, by rw [e77 9 (by decide)]; exact hpl, ?_, ?_⟩ ?_ (by rw [e77 9 (by decide)]; exact hp) (by omega)
    · intro i hi
      rw [e77 36 (by decide)] at hi
      rw [e101, e35]
      have := hKR i hi
      omega
    · intro i hi
      rw [e77 36 (by decide)] at hi
      rw [e100]
      exact hFR i hi
    · show To _ _ _ (1, (m3 77 9).toInt, (m3 77 35).toInt, stk (m3 100) (m3 101) (m3 77 36).toInt.toNat)
      rw [e77 9 (by decide), e35, e100, e101, e77 36 (by decide)]
      exact hT
theorem v_157 {n : Nat} (hn : 200000 ≤ n) {M0 : qM} {R : Nat → Int32} {len pl : Int} {c : Cf} (a1 : Int32) (M : qM) (hG : G M) (hS : Sm lM M0 M) (hM : Mx R len M) (h1 : a1.toInt = pl) (h0 : 0 ≤ pl ∧ pl ≤ 240) (hp : pl ≤ (M 77 9).toInt) (hT : To (tm R len) len c (if 12 ≤ (M 77 12).toInt then cF 3 pl else stW (tm R len) pl (M 77 9).toInt (M 77 35).toInt (stk (M 100) (M 101) (M 77 36).toInt.toNat))) : qT (f_X12_readsStep_157 n a1 M) (Qv R len c pl M0) := by
  have hM2 := hM
  obtain ⟨hR, hlen, hpl, hKR, hFR⟩ := hM2
  have h9 := r_77_9 hG
  have h10 := r_77_10 hG
  have ht := tm_r R len (M 77 9).toInt
  have ht1 := tm_r R len ((M 77 9).toInt + 1)
  have hd1 := dq_r (tm R len ((M 77 9).toInt + 1))
  unfold f_X12_readsStep_157
  refine T_lt rfl l_12 (fun d => ?_) (fun d => ?_)
  · rw [if_neg (by omega)] at hT
    unfold stW at hT
    refine T_qc (v_here hn M hG) ?_
    rintro r1 m2 ⟨rfl, hr1⟩
    rw [hR, hlen] at hr1
    refine T_eq rfl l_38 (fun e => ?_) (fun e => ?_)
    · rw [if_pos (by omega)] at hT
      have ep : (m2 77 9 + 1).toInt = (m2 77 9).toInt + 1 := i_add rfl l_1 (by omega) (by omega)
      refine T_n (Or.inl ⟨rfl, by decide⟩) hG hS (i_rng (lo := 0) (hi := 240) ep (by omega) (by omega)) ?_
      intro m3 a1' a2 a3 g3 s3
      have p3 : (m3 77 9).toInt = (m2 77 9).toInt + 1 := by rw [a1']; exact ep
      have q84 : m3 84 = R := by rw [a3 84 (by decide)]; exact hR
      have q10 : (m3 77 10).toInt = len := by rw [a2 10 (by decide)]; exact hlen
      refine T_qc (v_digit hn m3 g3) ?_
      rintro r4 m5 ⟨rfl, hr4⟩
      rw [q84, q10, p3] at hr4
      refine T_eq rfl l_0 (fun f => ?_) (fun f => ?_)
      · rw [if_pos (by omega)] at hT
        exact v_fail (1 : Int32) (m5 77 9) m5 g3 s3 l_1 p3 (by omega) (by omega) hT
      · rw [if_neg (by omega)] at hT
        refine T_qc (v_here hn m5 g3) ?_
        rintro r6 m7 ⟨rfl, hr6⟩
        rw [q84, q10, p3] at hr6
        refine T_ql (i_sub rfl l_48 (by omega) (by omega)) ?_
        intro x8 hx8
        refine T_lt rfl l_8 (fun k => ?_) (fun k => ?_)
        · rw [if_neg (by omega)] at hT
          have ep7 : (m7 77 9 + 1).toInt = (m7 77 9).toInt + 1 := i_add rfl l_1 (by omega) (by omega)
          refine T_n (Or.inl ⟨rfl, by decide⟩) g3 s3 (i_rng (lo := 0) (hi := 240) ep7 (by omega) (by omega)) ?_
          intro m9 b1 b2 b3 g9 s9
          have p9 : (m9 77 9).toInt = (m2 77 9).toInt + 2 := by rw [b1]; omega
          have e77 : ∀ s, s ≠ 9 → m9 77 s = m2 77 s := fun s hs => by rw [b2 s hs, a2 s hs]
          have e100 : m9 100 = m2 100 := by rw [b3 100 (by decide), a3 100 (by decide)]
          have e101 : m9 101 = m2 101 := by rw [b3 101 (by decide), a3 101 (by decide)]
          refine v_246 hn a1 x8 m9 g9 s9 ⟨by rw [b3 84 (by decide)]; exact q84, by rw [b2 10 (by decide)]; exact q10, by omega, ?_, ?_⟩ h1 h0 (by omega) (by rw [p9, e77 35 (by decide), e77 36 (by decide), e100, e101]; exact hT)
          · exact KR_c (e77 35 (by decide)) (e77 36 (by decide)) e101 hKR
          · intro i hi
            rw [e77 36 (by decide)] at hi
            rw [e100]
            exact hFR i hi
        · rw [if_pos (by omega)] at hT
          exact v_fail (3 : Int32) (m7 77 9) m7 g3 s3 l_3 p3 (by omega) (by omega) hT
    · rw [if_neg (by omega)] at hT
      exact v_246 hn a1 8 m2 hG hS hM h1 h0 hp hT
  · rw [if_pos (by omega)] at hT
    exact v_fail (3 : Int32) a1 M hG hS l_3 h1 (by omega) h0 hT
theorem v_108 {n : Nat} (hn : 200000 ≤ n) {M0 : qM} {R : Nat → Int32} {len pl : Int} {c : Cf} (a1 : Int32) (h1 : a1.toInt = pl) (h0 : 0 ≤ pl ∧ pl ≤ 240) (hd0 : 0 ≤ dq (tm R len pl)) : ∀ (m : Nat) (M : qM), G M → Sm lM M0 M → Mx R len M → (((M 77 9).toInt = pl ∧ (M 77 12).toInt = 0) ∨ ((M 77 9).toInt = pl + 1 ∧ (M 77 12).toInt = dq (tm R len pl)) ∨ ((M 77 9).toInt = pl + 2 ∧ 0 ≤ dq (tm R len (pl + 1)) ∧ (M 77 12).toInt = 10 * dq (tm R len pl) + dq (tm R len (pl + 1)))) → To (tm R len) len c (stT (tm R len) pl (M 77 35).toInt (stk (M 100) (M 101) (M 77 36).toInt.toNat)) → pl + 3 - (M 77 9).toInt < (m : Int) → qT (f_X12_readsStep_108 n m a1 M) (Qv R len c pl M0) := by
  intro m
  induction m with
  | zero => intro M hG _ _ _ _ h; exfalso; omega
  | succ m ih =>
    intro M hG hS hM hv hT hm
    have hM2 := hM
    obtain ⟨hR, hlen, hpl, hKR, hFR⟩ := hM2
    have h9 := r_77_9 hG
    have h10 := r_77_10 hG
    have ht0 := tm_r R len pl
    have ht1 := tm_r R len (pl + 1)
    have hd0' := dq_r (tm R len pl)
    have hd1 := dq_r (tm R len (pl + 1))
    have fin : (pl + 1 = (M 77 9).toInt ∧ dq (tm R len (pl + 1)) < 0 ∧ (M 77 12).toInt = dq (tm R len pl)) ∨ (pl + 2 = (M 77 9).toInt ∧ 0 ≤ dq (tm R len (pl + 1)) ∧ (M 77 12).toInt = 10 * dq (tm R len pl) + dq (tm R len (pl + 1))) → qT (f_X12_readsStep_157 n a1 M) (Qv R len c pl M0) := by
      intro hf
      refine v_157 hn a1 M hG hS hM h1 h0 (by omega) ?_
      unfold stT at hT
      rw [if_neg (by omega)] at hT
      rcases hf with ⟨f1, f2, f3⟩ | ⟨f1, f2, f3⟩
      · have ek : knd (tm R len) pl = (M 77 12).toInt := by unfold knd; rw [if_pos f2, f3]
        have en : nxp (tm R len) pl = (M 77 9).toInt := by unfold nxp; rw [if_pos f2, f1]
        rw [ek, en] at hT
        exact hT
      · have ek : knd (tm R len) pl = (M 77 12).toInt := by unfold knd; rw [if_neg (by omega), f3]
        have en : nxp (tm R len) pl = (M 77 9).toInt := by unfold nxp; rw [if_neg (by omega), f1]
        rw [ek, en] at hT
        exact hT
    show qT (b_X12_readsStep_108 n (f_X12_readsStep_108 n m) a1 M) _
    unfold b_X12_readsStep_108
    refine T_qc (v_digit hn M hG) ?_
    rintro r1 m2 ⟨rfl, hr1⟩
    rw [hR, hlen] at hr1
    refine T_eq rfl l_0 (fun d => ?_) (fun d => ?_)
    · refine fin ?_
      rcases hv with ⟨v1, v2⟩ | ⟨v1, v2⟩ | ⟨v1, v2, v3⟩
      · rw [v1] at hr1; omega
      · rw [v1] at hr1; exact Or.inl ⟨by omega, by omega, v2⟩
      · exact Or.inr ⟨by omega, v2, v3⟩
    · refine T_le (i_add rfl l_2 (by omega) (by omega)) rfl (fun e => ?_) (fun e => ?_)
      · refine fin ?_
        rcases hv with ⟨v1, v2⟩ | ⟨v1, v2⟩ | ⟨v1, v2, v3⟩
        · omega
        · omega
        · exact Or.inr ⟨by omega, v2, v3⟩
      · refine T_qc (v_here hn m2 hG) ?_
        rintro r3 m4 ⟨rfl, hr3⟩
        rw [hR, hlen] at hr3
        have hdd := dq_r (tm R len (m4 77 9).toInt)
        have htt := tm_r R len (m4 77 9).toInt
        have h12 : 0 ≤ (m4 77 12).toInt ∧ (m4 77 12).toInt ≤ 9 := by
          rcases hv with ⟨v1, v2⟩ | ⟨v1, v2⟩ | ⟨v1, v2, v3⟩ <;> omega
        have en : ((10 : Int32) * m4 77 12 + r3 - 48).toInt = 10 * (m4 77 12).toInt + r3.toInt - 48 := i_sub (i_add (i_mul l_10 rfl (by omega) (by omega)) rfl (by omega) (by omega)) l_48 (by omega) (by omega)
        refine T_n (Or.inl ⟨rfl, by decide⟩) hG hS trivial ?_
        intro m5 a1' a2 a3 g5 s5
        have c9 : m5 77 9 = m4 77 9 := a2 9 (by decide)
        rw [c9]
        have ep : (m4 77 9 + 1).toInt = (m4 77 9).toInt + 1 := i_add rfl l_1 (by omega) (by omega)
        refine T_n (Or.inl ⟨rfl, by decide⟩) g5 s5 (i_rng (lo := 0) (hi := 240) ep (by omega) (by omega)) ?_
        intro m6 b1 b2 b3 g6 s6
        have p6 : (m6 77 9).toInt = (m4 77 9).toInt + 1 := by rw [b1]; exact ep
        have n6 : (m6 77 12).toInt = 10 * (m4 77 12).toInt + r3.toInt - 48 := by rw [b2 12 (by decide), a1']; exact en
        have e77 : ∀ s, s ≠ 9 → s ≠ 12 → m6 77 s = m4 77 s := fun s q1 q2 => by rw [b2 s q1, a2 s q2]
        have e100 : m6 100 = m4 100 := by rw [b3 100 (by decide), a3 100 (by decide)]
        have e101 : m6 101 = m4 101 := by rw [b3 101 (by decide), a3 101 (by decide)]
        refine ih m6 g6 s6 ⟨by rw [b3 84 (by decide), a3 84 (by decide)]; exact hR, by rw [e77 10 (by decide) (by decide)]; exact hlen, by omega, KR_c (e77 35 (by decide) (by decide)) (e77 36 (by decide) (by decide)) e101 hKR, ?_⟩ ?_ (by rw [e77 35 (by decide) (by decide), e77 36 (by decide) (by decide), e100, e101]; exact hT) (by omega)
        · intro i hi
          rw [e77 36 (by decide) (by decide)] at hi
          rw [e100]
          exact hFR i hi
        · rcases hv with ⟨v1, v2⟩ | ⟨v1, v2⟩ | ⟨v1, v2, v3⟩
          · rw [v1] at hr3 hdd hr1
            exact Or.inr (Or.inl ⟨by omega, by omega⟩)
          · rw [v1] at hr3 hdd hr1
            exact Or.inr (Or.inr ⟨by omega, by omega, by omega⟩)
          · omega
theorem v_5 {n : Nat} (hn : 200000 ≤ n) {M0 : qM} {R : Nat → Int32} {len pl : Int} {c : Cf} : ∀ (m : Nat) (a1 : Int32) (M : qM), G M → Sm lM M0 M → Mx R len M → a1.toInt = (M 77 9).toInt → pl ≤ (M 77 9).toInt → To (tm R len) len c (cM 0 M) → 241 - (M 77 9).toInt < (m : Int) → qT (f_X12_readsStep_5 n m a1 M) (Qv R len c pl M0) := by
  intro m
  induction m with
  | zero => intro a1 M hG _ _ _ _ _ h; have := r_77_9 hG; exfalso; omega
  | succ m ih =>
    intro a1 M hG hS hM ha hp hT hm
    have hM2 := hM
    obtain ⟨hR, hlen, hpl, hKR, hFR⟩ := hM2
    have h9 := r_77_9 hG
    have h10 := r_77_10 hG
    have h35 := r_77_35 hG
    have h36 := r_77_36 hG
    have ht := tm_r R len (M 77 9).toInt
    have hstp : stp (tm R len) len (cM 0 M) = stA (tm R len) (M 77 9).toInt (M 77 35).toInt (stk (M 100) (M 101) (M 77 36).toInt.toNat) := rfl
    show qT (b_X12_readsStep_5 n (f_X12_readsStep_5 n m) a1 M) _
    unfold b_X12_readsStep_5
    refine T_qc (v_here hn M hG) ?_
    rintro r1 m2 ⟨rfl, hr1⟩
    rw [hR, hlen] at hr1
    refine T_eq rfl l_40 (fun d => ?_) (fun d => ?_)
    · refine T_eq rfl l_3 (fun e => ?_) (fun e => ?_)
      · refine v_fail (5 : Int32) (m2 77 9) m2 hG hS l_5 rfl (by omega) h9 (To_tr hT (To_st ?_))
        rw [hstp]
        unfold stA
        rw [if_pos (by omega), stk_len, if_pos (by omega)]
      · refine T_qg rfl (by omega) (by omega) ?_
        refine T_n (Or.inr (by decide)) hG hS trivial ?_
        intro m8 a1' a2 a3 g8 s8
        have c36 : m8 77 36 = m2 77 36 := by rw [a3 77 (by decide)]
        rw [c36]
        refine T_qg rfl (by omega) (by omega) ?_
        have c35 : m8 77 35 = m2 77 35 := by rw [a3 77 (by decide)]
        rw [c35]
        refine T_n (Or.inr (by decide)) g8 s8 (i_rng (lo := 0) (hi := 40) rfl (by omega) (by omega)) ?_
        intro m9 b1 b2 b3 g9 s9
        have d36 : m9 77 36 = m2 77 36 := by rw [b3 77 (by decide), c36]
        rw [d36]
        have ew : (m2 77 36 + 1).toInt = (m2 77 36).toInt + 1 := i_add rfl l_1 (by omega) (by omega)
        refine T_n (Or.inl ⟨rfl, by decide⟩) g9 s9 (i_rng (lo := 0) (hi := 3) ew (by omega) (by omega)) ?_
        intro m10 c1 c2 c3 g10 s10
        have d9 : m10 77 9 = m2 77 9 := by rw [c2 9 (by decide), b3 77 (by decide), a3 77 (by decide)]
        rw [d9]
        have ep : (m2 77 9 + 1).toInt = (m2 77 9).toInt + 1 := i_add rfl l_1 (by omega) (by omega)
        refine T_n (Or.inl ⟨rfl, by decide⟩) g10 s10 (i_rng (lo := 0) (hi := 240) ep (by omega) (by omega)) ?_
        intro m11 f1 f2 f3 g11 s11
        refine T_ql rfl ?_
        intro x hx
        have p11 : (m11 77 9).toInt = (m2 77 9).toInt + 1 := by rw [f1]; exact ep
        have w11 : (m11 77 36).toInt = (m2 77 36).toInt + 1 := by rw [f2 36 (by decide), c1]; exact ew
        have e35 : m11 77 35 = m2 77 35 := by rw [f2 35 (by decide), c2 35 (by decide), b3 77 (by decide), a3 77 (by decide)]
        have e10 : m11 77 10 = m2 77 10 := by rw [f2 10 (by decide), c2 10 (by decide), b3 77 (by decide), a3 77 (by decide)]
        have e84 : m11 84 = m2 84 := by rw [f3 84 (by decide), c3 84 (by decide), b3 84 (by decide), a3 84 (by decide)]
        have e100 : m11 100 = m8 100 := by rw [f3 100 (by decide), c3 100 (by decide), b3 100 (by decide)]
        have e101 : m11 101 = m9 101 := by rw [f3 101 (by decide), c3 101 (by decide)]
        have x100 : m8 100 (m2 77 36).toInt.toNat = m2 77 9 := a1'
        have x101 : m9 101 (m2 77 36).toInt.toNat = m2 77 35 := b1
        have o100 : ∀ i, i < (m2 77 36).toInt.toNat → m11 100 i = m2 100 i := fun i hi => by rw [e100]; exact a2 i (by rw [tnc]; omega)
        have o101 : ∀ i, i < (m2 77 36).toInt.toNat → m11 101 i = m2 101 i := fun i hi => by rw [e101, b2 i (by rw [tnc]; omega), a3 101 (by decide)]
        refine ih x m11 g11 s11 ⟨by rw [e84]; exact hR, by rw [e10]; exact hlen, by omega, ?_, ?_⟩ hx (by omega) (To_tr hT (To_st ?_)) (by omega)
        · intro i hi
          rw [e35]
          by_cases q : i = (m2 77 36).toInt.toNat
          · rw [q, e101, x101]; exact Int.le_refl _
          · rw [o101 i (by omega)]; exact hKR i (by omega)
        · intro i hi
          by_cases q : i = (m2 77 36).toInt.toNat
          · rw [q, e100, x100]; exact h9
          · rw [o100 i (by omega)]; exact hFR i (by omega)
        · rw [hstp]
          unfold stA
          rw [if_pos (by omega), stk_len, if_neg (by omega)]
          show _ = (0, (m11 77 9).toInt, (m11 77 35).toInt, stk (m11 100) (m11 101) (m11 77 36).toInt.toNat)
          rw [show (m11 77 36).toInt.toNat = (m2 77 36).toInt.toNat + 1 by omega]
          show _ = (0, (m11 77 9).toInt, (m11 77 35).toInt, ((m11 100 (m2 77 36).toInt.toNat).toInt, (m11 101 (m2 77 36).toInt.toNat).toInt) :: stk (m11 100) (m11 101) (m2 77 36).toInt.toNat)
          rw [stk_cg _ (fun i hi => ⟨o100 i hi, o101 i hi⟩), e100, x100, e101, x101, p11, e35]
    · have hA : To (tm R len) len c (stT (tm R len) (m2 77 9).toInt (m2 77 35).toInt (stk (m2 100) (m2 101) (m2 77 36).toInt.toNat)) := by
        refine To_tr hT (To_st ?_)
        rw [hstp]; unfold stA; rw [if_neg (by omega)]
      refine T_qc (v_digit hn m2 hG) ?_
      rintro r3 m4 ⟨rfl, hr3⟩
      rw [hR, hlen] at hr3
      refine T_eq rfl l_0 (fun e => ?_) (fun e => ?_)
      · refine v_fail (1 : Int32) (m4 77 9) m4 hG hS l_1 rfl (by omega) h9 ?_
        unfold stT at hA
        rw [if_pos (by omega)] at hA
        exact hA
      · refine T_n (Or.inl ⟨rfl, by decide⟩) hG hS trivial ?_
        intro m5 a1' a2 a3 g5 s5
        have e77 : ∀ s, s ≠ 12 → m5 77 s = m4 77 s := a2
        refine T_mono (v_108 (pl := (m4 77 9).toInt) (c := c) (len := len) (R := R) (M0 := M0) hn a1 ha h9 (by omega) n m5 g5 s5 ⟨by rw [a3 84 (by decide)]; exact hR, by rw [e77 10 (by decide)]; exact hlen, by rw [e77 9 (by decide)]; exact hpl, KR_c (e77 35 (by decide)) (e77 36 (by decide)) (a3 101 (by decide)) hKR, ?_⟩ (Or.inl ⟨by rw [e77 9 (by decide)], by rw [a1']; rfl⟩) (by rw [e77 35 (by decide), e77 36 (by decide), a3 100 (by decide), a3 101 (by decide)]; exact hA) (by rw [e77 9 (by decide)]; omega)) ?_
        · intro i hi
          rw [e77 36 (by decide)] at hi
          rw [a3 100 (by decide)]
          exact hFR i hi
        · rintro v m ⟨ho, g, s⟩
          refine ⟨?_, g, s⟩
          rcases ho with q | ⟨q1, q2, q3, q4, q5⟩
          · exact Or.inl q
          · exact Or.inr ⟨q1, q2, q3, by omega, q5⟩
theorem v_142 {n : Nat} {s : Int} (hs : 0 ≤ s ∧ s ≤ 40) (a1 : Int32) (ha : 0 ≤ a1.toInt ∧ a1.toInt ≤ 7) : ∀ (m : Nat) (a4 : Int32) (M : qM), (M 77 35).toInt = s → 0 ≤ a4.toInt → a4.toInt ≤ 40 → 41 - a4.toInt < (m : Int) → qT (f_X12_plan_142 n m a1 a4 M) (fun v _ => v.toInt = s) := by
  intro m
  induction m with
  | zero => intro a4 M _ _ _ h; exfalso; omega
  | succ m ih =>
    intro a4 M h1 h2 h3 hm
    show qT (b_X12_plan_142 n (f_X12_plan_142 n m) a1 a4 M) _
    unfold b_X12_plan_142
    refine T_le rfl rfl (fun c => ?_) (fun c => ?_)
    · exact T_ret h1
    · refine T_qg rfl (by omega) (by omega) ?_
      refine T_qg (i_add (i_add l_314 (i_mul l_40 rfl (by omega) (by omega)) (by omega) (by omega)) rfl (by omega) (by omega)) (by omega) (by omega) (T_qlm ?_)
      refine T_qg rfl (by omega) (by omega) ?_
      refine T_qg (i_add (i_add l_634 (i_mul l_40 rfl (by omega) (by omega)) (by omega) (by omega)) rfl (by omega) (by omega)) (by omega) (by omega) (T_qlm ?_)
      refine T_ql (i_add rfl l_1 (by omega) (by omega)) ?_
      intro x hx
      exact ih x _ (by rw [mu_ne (Or.inl (by decide)), mu_ne (Or.inl (by decide))]; exact h1) (by omega) (by omega) (by omega)
abbrev Qz (T : Int → Int) (len : Int) (v : Int32) : Prop := To T len (0, 0, 0, []) (2, v.toInt, 0, []) ∨ To T len (0, 0, 0, []) (3, 0, v.toInt, [])
theorem v_100 {n : Nat} (hn : 200000 ≤ n) {T : Int → Int} {len : Int} (a1 a3 : Int32) (M : qM) (hG : G M) (ha : 0 ≤ a1.toInt ∧ a1.toInt ≤ 7) (h : (a3.toInt = 0 ∧ To T len (0, 0, 0, []) (2, (M 77 11).toInt, 0, [])) ∨ (a3.toInt ≠ 0 ∧ To T len (0, 0, 0, []) (3, 0, (M 77 35).toInt, []))) : qT (f_X12_plan_100 n a1 a3 M) (fun v _ => Qz T len v) := by
  have h35 := r_77_35 hG
  unfold f_X12_plan_100
  refine T_qlm ?_
  refine T_eq rfl l_0 (fun c => ?_) (fun c => ?_)
  · refine T_ret ?_
    rw [mu_ne (Or.inr (by decide))]
    rcases h with q | q
    · exact Or.inl q.2
    · exact absurd c q.1
  · have q := (h.resolve_left (fun q => c q.1)).2
    refine T_qg (i_add l_296 rfl (by omega) (by omega)) (by omega) (by omega) (T_qlm ?_)
    refine T_qg (i_add l_304 rfl (by omega) (by omega)) (by omega) (by omega) (T_qlm ?_)
    refine T_mono (v_142 (s := (M 77 35).toInt) h35 a1 ha n 0 _ (by rw [mu_ne (Or.inl (by decide)), mu_ne (Or.inl (by decide)), mu_ne (Or.inr (by decide))]) (by rw [l_0]; omega) (by rw [l_0]; omega) (by rw [l_0]; omega)) ?_
    intro v m hv
    refine Or.inr ?_
    rw [hv]
    exact q
theorem v_takes {n : Nat} (hn : 200000 ≤ n) {M0 : qM} (a : Int32) (M : qM) (hG : G M) (hS : Sm lM M0 M) (ha : 0 ≤ a.toInt) : qT (f_X12_takes n a M) (fun v m => ((v.toInt = 1 ∧ tm (M 84) (M 77 10).toInt (M 77 9).toInt = a.toInt ∧ (M 77 9).toInt < (M 77 10).toInt ∧ (m 77 9).toInt = (M 77 9).toInt + 1) ∨ (v.toInt = 0 ∧ tm (M 84) (M 77 10).toInt (M 77 9).toInt ≠ a.toInt ∧ (m 77 11).toInt = -1000 - (M 77 9).toInt)) ∧ (∀ s, s ≠ 9 → s ≠ 11 → m 77 s = M 77 s) ∧ (∀ c, c ≠ 77 → m c = M c) ∧ G m ∧ Sm lM M0 m) := by
  have h9 := r_77_9 hG
  have h10 := r_77_10 hG
  unfold f_X12_takes
  refine T_qc (v_here hn M hG) ?_
  rintro r m ⟨rfl, hr⟩
  have ht := tm_r (m 84) (m 77 10).toInt (m 77 9).toInt
  refine T_eq rfl rfl (fun c => ?_) (fun c => ?_)
  · have ep : (m 77 9 + 1).toInt = (m 77 9).toInt + 1 := i_add rfl l_1 (by omega) (by omega)
    refine T_n (Or.inl ⟨rfl, by decide⟩) hG hS (i_rng (lo := 0) (hi := 240) ep (by omega) (by omega)) ?_
    intro m3 e1 e2 e3 g s
    exact T_ret ⟨Or.inl ⟨l_1, by omega, by omega, by rw [e1]; exact ep⟩, fun s2 q1 _ => e2 s2 q1, e3, g, s⟩
  · refine T_qc (v_wrong (1 : Int32) (m 77 9) m hG hS (by decide) h9) ?_
    rintro r4 m5 ⟨w0, w1, w2, w3, g, s⟩
    rw [l_1] at w1
    exact T_qb rfl (by omega) (by omega) (T_ret ⟨Or.inr ⟨w0, by omega, by omega⟩, fun s2 _ q2 => w2 s2 q2, w3, g, s⟩)
theorem v_step {n : Nat} (hn : 200000 ≤ n) {M0 : qM} {R : Nat → Int32} {len : Int} {c : Cf} (M : qM) (hG : G M) (hS : Sm lM M0 M) (hM : Mx R len M) (hT : To (tm R len) len c (cM 0 M)) : qT (f_X12_readsStep n M) (Qv R len c (M 77 9).toInt M0) := by
  have h9 := r_77_9 hG
  unfold f_X12_readsStep
  refine T_ql rfl ?_
  intro x hx
  exact v_5 hn n x M hG hS hM hx (Int.le_refl _) hT (by omega)
theorem v_53 {n : Nat} (hn : 200000 ≤ n) {M0 : qM} {R : Nat → Int32} {len : Int} (a1 : Int32) (ha : 0 ≤ a1.toInt ∧ a1.toInt ≤ 7) : ∀ (m : Nat) (a3 : Int32) (M : qM), G M → Sm lM M0 M → ((a3.toInt = 0 ∧ To (tm R len) len (0, 0, 0, []) (2, (M 77 11).toInt, 0, [])) ∨ (a3.toInt = 1 ∧ To (tm R len) len (0, 0, 0, []) (cM 1 M) ∧ Mx R len M ∧ (tm R len (M 77 9).toInt ≠ 41 ∨ (M 77 36).toInt = 0) ∧ 242 - (M 77 9).toInt < (m : Int))) → 0 < m → qT (f_X12_plan_53 n m a1 a3 M) (fun v _ => Qz (tm R len) len v) := by
  intro m
  induction m with
  | zero => intro a3 M _ _ _ h; exfalso; omega
  | succ m ih =>
    intro a3 M hG hS h hm
    have h9 := r_77_9 hG
    have h36 := r_77_36 hG
    show qT (b_X12_plan_53 n (f_X12_plan_53 n m) a1 a3 M) _
    unfold b_X12_plan_53
    refine T_eq rfl l_0 (fun c => ?_) (fun c => ?_)
    · refine v_100 hn a1 a3 M hG ha (Or.inl ?_)
      rcases h with q | q
      · exact q
      · omega
    · obtain ⟨q1, q2, q3, q4, q5⟩ := h.resolve_left (fun q => c q.1)
      have q3' := q3
      obtain ⟨hR, hlen, hpl, hKR, hFR⟩ := q3'
      have ht := tm_r R len (M 77 9).toInt
      have hstp : stp (tm R len) len (cM 1 M) = stB (tm R len) len (M 77 9).toInt (M 77 35).toInt (stk (M 100) (M 101) (M 77 36).toInt.toNat) := rfl
      have go75 : ((M 77 9).toInt < len ∨ 0 < (M 77 36).toInt) → qT (f_X12_plan_75 n (f_X12_plan_53 n m) a1 M) (fun v _ => Qz (tm R len) len v) := by
        intro hor
        unfold f_X12_plan_75
        refine T_qc (v_takes hn (M0 := M0) (44 : Int32) M hG hS (by decide)) ?_
        rintro r1 m2 ⟨ho, z2, z3, g2, s2⟩
        rw [hR, hlen, l_44] at ho
        refine T_eq rfl l_0 (fun e => ?_) (fun e => ?_)
        · refine ih 0 m2 g2 s2 (Or.inl ⟨l_0, To_tr q2 (To_st ?_)⟩) (by omega)
          rcases ho with w | ⟨w1, w2, w3⟩
          · omega
          · rw [hstp, w3]
            cases hst : stk (M 100) (M 101) (M 77 36).toInt.toNat with
            | nil =>
              have hl := stk_len (F := M 100) (A := M 101) (M 77 36).toInt.toNat
              rw [hst] at hl
              have hl2 : (M 77 36).toInt.toNat = 0 := hl.symm
              show (if _ then _ else _) = _
              rw [if_neg w2, if_neg (by omega)]
              rfl
            | cons x y =>
              have hl := stk_len (F := M 100) (A := M 101) (M 77 36).toInt.toNat
              rw [hst] at hl
              have hl2 : y.length + 1 = (M 77 36).toInt.toNat := hl
              show (if _ then _ else _) = _
              rw [if_neg w2, if_neg (by omega)]
              rfl
        · obtain ⟨w1, w2, w3, w4⟩ := ho.resolve_right (fun q => e q.1)
          have e77 : ∀ s, s ≠ 9 → s ≠ 11 → m2 77 s = M 77 s := z2
          have e35 := e77 35 (by decide) (by decide)
          have e36 := e77 36 (by decide) (by decide)
          have hM2 : Mx R len m2 := ⟨by rw [z3 84 (by decide)]; exact hR, by rw [e77 10 (by decide) (by decide)]; exact hlen, by omega, KR_c e35 e36 (z3 101 (by decide)) hKR, fun i hi => by rw [e36] at hi; rw [z3 100 (by decide)]; exact hFR i hi⟩
          have hA : To (tm R len) len (0, 0, 0, []) (cM 0 m2) := by
            refine To_tr q2 (To_st ?_)
            show stp _ _ _ = (0, (m2 77 9).toInt, (m2 77 35).toInt, stk (m2 100) (m2 101) (m2 77 36).toInt.toNat)
            rw [hstp, w4, e35, e36, z3 100 (by decide), z3 101 (by decide)]
            cases stk (M 100) (M 101) (M 77 36).toInt.toNat with
            | nil => show (if _ then _ else _) = _; rw [if_pos w2]
            | cons x y => show (if _ then _ else _) = _; rw [if_pos w2]
          refine T_qc (v_step hn m2 g2 s2 hM2 hA) ?_
          rintro r3 m4 ⟨ho4, g4, s4⟩
          refine T_eq rfl l_0 (fun f => ?_) (fun f => ?_)
          · refine ih 0 m4 g4 s4 (Or.inl ⟨l_0, ?_⟩) (by omega)
            rcases ho4 with w | w
            · exact w.2
            · omega
          · obtain ⟨u1, u2, u3, u4, u5⟩ := ho4.resolve_left (fun q => f q.1)
            exact ih 1 m4 g4 s4 (Or.inr ⟨l_1, u2, u3, u5, by omega⟩) (by omega)
      refine T_lt rfl rfl (fun d => ?_) (fun d => ?_)
      · exact go75 (Or.inl (by omega))
      · refine T_le rfl l_0 (fun e => ?_) (fun e => ?_)
        · refine v_100 hn a1 a3 M hG ha (Or.inr ⟨c, To_tr q2 (To_st ?_)⟩)
          rw [hstp, show (M 77 36).toInt.toNat = 0 by omega]
          show (if _ then _ else _) = _
          rw [if_neg (by omega), if_pos (by omega)]
        · exact go75 (Or.inr (by omega))
/-- the tapes are alike -/
def TR (M : qM) : Prop := ∀ i : Nat, (i : Int) < (M 1 1).toInt → (M 2 i).toInt = ((M 84 i) &&& (255 : Int32)).toInt
theorem TR_t {M : qM} (h : TR M) {len : Int} (hl : len ≤ (M 1 1).toInt) : tq (M 2) len = tm (M 84) len := by
  funext p
  unfold tq tm
  by_cases q : 0 ≤ p ∧ p < len
  · rw [if_pos q, if_pos q]; exact h p.toNat (by omega)
  · rw [if_neg q, if_neg q]
theorem Qz_eq {T : Int → Int} {len : Int} {v w : Int32} (h : Qz T len v) (k : Qz T len w) : v = w := by
  have key : v.toInt = w.toInt := by
    rcases h with h | h <;> rcases k with k | k
    · have := To_det h k st_F st_F
      injection this with _ q
      injection q
    · have := To_det h k st_F st_O
      injection this with q
      exact absurd q (by decide)
    · have := To_det h k st_O st_F
      injection this with q
      exact absurd q (by decide)
    · have := To_det h k st_O st_O
      injection this with _ q
      injection q with _ q2
      injection q2
  exact Int32.toInt_inj.mp key
/-! plan: both answers -/
theorem v_plan {n : Nat} (hn : 200000 ≤ n) (a1 a2 : Int32) (M : qM) (hG : G M) (h2 : 1 ≤ a2.toInt ∧ a2.toInt ≤ 80 ∧ a2.toInt ≤ (M 77 8).toInt) (hp : 0 ≤ a1.toInt ∧ a1.toInt ≤ 7) (hb : ((M 78 312) >>> (a1 &&& 31)) &&& (1 : Int32) = 1) : qT (f_X12_plan n a1 a2 M) (fun v _ => Qz (tm (M 84) a2.toInt) a2.toInt v) := by
  have h8 := r_77_8 hG
  unfold f_X12_plan
  have hper : f_X12_isPerson n a1 M = some (1, M) := by
    unfold f_X12_isPerson f_X12_has0
    rw [if_neg (by rw [Int32.lt_iff_toInt_lt]; have z : (0 : Int32).toInt = 0 := rfl; omega), if_neg (by rw [Int32.le_iff_toInt_le]; have z : (8 : Int32).toInt = 8 := rfl; omega), if_pos hb, qc_v, if_neg (by decide)]
  have hin : f_X12_in n a2 (1 : Int32) (80 : Int32) M = some (1, M) := by
    rw [in_eq, if_neg]
    rw [Int32.lt_iff_toInt_lt, Int32.lt_iff_toInt_lt]
    have z1 : (1 : Int32).toInt = 1 := rfl
    have z2 : (80 : Int32).toInt = 80 := rfl
    omega
  rw [hper, qc_v, if_neg (by decide), hin, qc_v, if_neg (by decide)]
  refine T_le rfl rfl (fun c => ?_) (fun c => by exfalso; omega)
  refine T_mu (M0 := M) (l := [(77, 78, 9, 10)]) hG Sm.rf (i_rng (lo := 0) (hi := 240) l_0 (by omega) (by omega)) nw_77_9 (i := 0) rfl ⟨by decide, by decide, Or.inr ⟨by decide, by decide⟩⟩ ?_
  intro m5 e5 g5 _
  refine T_mu (M0 := m5) (l := [(77, 78, 10, 11)]) g5 Sm.rf (i_rng (lo := 0) (hi := 240) rfl (by omega) (by omega)) nw_77_10 (i := 0) rfl ⟨by decide, by decide, Or.inr ⟨by decide, by decide⟩⟩ ?_
  intro m6 e6 g6 _
  refine T_mu (M0 := m6) (l := [(77, 78, 35, 36)]) g6 Sm.rf (i_rng (lo := 0) (hi := 40) l_0 (by omega) (by omega)) nw_77_35 (i := 0) rfl ⟨by decide, by decide, Or.inr ⟨by decide, by decide⟩⟩ ?_
  intro m7 e7 g7 _
  refine T_mu (M0 := m7) (l := [(77, 78, 36, 37)]) g7 Sm.rf (i_rng (lo := 0) (hi := 3) l_0 (by omega) (by omega)) nw_77_36 (i := 0) rfl ⟨by decide, by decide, Or.inr ⟨by decide, by decide⟩⟩ ?_
  intro m8 e8 g8 _
  have p36 : (m8 77 36).toInt = 0 := by rw [e8, mu_at]; rfl
  have p35 : (m8 77 35).toInt = 0 := by rw [e8, mu_ne (Or.inr (by decide)), e7, mu_at]; rfl
  have p10 : (m8 77 10).toInt = a2.toInt := by rw [e8, mu_ne (Or.inr (by decide)), e7, mu_ne (Or.inr (by decide)), e6, mu_at]
  have p9 : (m8 77 9).toInt = 0 := by rw [e8, mu_ne (Or.inr (by decide)), e7, mu_ne (Or.inr (by decide)), e6, mu_ne (Or.inr (by decide)), e5, mu_at]; rfl
  have p84 : m8 84 = M 84 := by rw [e8, mu_nc (by decide), e7, mu_nc (by decide), e6, mu_nc (by decide), e5, mu_nc (by decide)]
  have hMx : Mx (M 84) a2.toInt m8 := ⟨p84, p10, by omega, fun i hi => absurd hi (by omega), fun i hi => absurd hi (by omega)⟩
  have hA : To (tm (M 84) a2.toInt) a2.toInt (0, 0, 0, []) (cM 0 m8) := by
    show To _ _ _ (0, (m8 77 9).toInt, (m8 77 35).toInt, stk (m8 100) (m8 101) (m8 77 36).toInt.toNat)
    rw [p9, p35, p36]
    exact To_rf
  refine T_qc (v_step hn (M0 := m8) m8 g8 Sm.rf hMx hA) ?_
  rintro r9 m10 ⟨ho, g10, s10⟩
  have h9 := r_77_9 g10
  refine v_53 hn (M0 := m8) a1 hp n r9 m10 g10 s10 ?_ (by omega)
  rcases ho with q | ⟨q1, q2, q3, q4, q5⟩
  · exact Or.inl q
  · exact Or.inr ⟨q1, q2, q3, q5, by omega⟩
theorem u_plan {n : Nat} (hn : 200000 ≤ n) (a1 a2 : Int32) (M : qM) (hG : G M) (h2 : 1 ≤ a2.toInt ∧ a2.toInt ≤ 80 ∧ a2.toInt ≤ (M 1 1).toInt) (hp : 0 ≤ a1.toInt ∧ a1.toInt ≤ 7) (hb : ((M 7 8) >>> (a1 &&& 31)) &&& (1 : Int32) = 1) {v : Int32} {m : qM} (e : f_X11_plan n a1 a2 M = some (v, m)) : Qz (tq (M 2) a2.toInt) a2.toInt v := by
  have hk : f_X10_knows n 7 a1 M = some (1, M) := by
    unfold f_X10_knows
    rw [if_neg (by rw [Int32.lt_iff_toInt_lt]; have z : (0 : Int32).toInt = 0 := rfl; omega), if_neg (by rw [Int32.le_iff_toInt_le]; have z : (8 : Int32).toInt = 8 := rfl; omega), if_pos hb]
  obtain ⟨v3, m4, e3, hq⟩ := u_read hn a2 M hG ⟨h2.1, h2.2.1⟩ h2.2.2
  unfold f_X11_plan at e
  rw [hk, qc_v, if_neg (by decide), if_neg (by rw [Int32.lt_iff_toInt_lt]; have z : (1 : Int32).toInt = 1 := rfl; omega), if_neg (by rw [Int32.lt_iff_toInt_lt]; have z : (80 : Int32).toInt = 80 := rfl; omega), if_pos (by rw [Int32.le_iff_toInt_le]; omega), e3, qc_v] at e
  have hv : v = v3 := by
    cases hc : f_X9_clear n m4 with
    | none => rw [hc] at e; exact absurd e (by simp [qc])
    | some q =>
      obtain ⟨w, m5⟩ := q
      rw [hc, qc_v] at e
      by_cases c : v3 ≤ (0 : Int32)
      · rw [if_pos c] at e; injection e with e; injection e with e1 e2; exact e1.symm
      · rw [if_neg c] at e
        cases hc2 : f_X10_takePlan n 7 a1 m5 with
        | none => rw [hc2] at e; exact absurd e (by simp [qc])
        | some q2 =>
          obtain ⟨w2, m6⟩ := q2
          rw [hc2, qc_v] at e
          injection e with e; injection e with e1 e2; exact e1.symm
  rw [hv]
  exact hq
/-- where the people, the tapes and their sizes agree, so do the answers of plan -/
theorem plan_ag {n : Nat} (hn : 200000 ≤ n) {a1 a2 v1 v2 : Int32} {M m1 m2 : qM} (hG : G M) (hG1 : G m1) (hT : TR M) (hs : (M 1 1).toInt = (m1 77 8).toInt) (hpe : M 7 8 = m1 78 312) (h84 : m1 84 = M 84) (e1 : f_X11_plan n a1 a2 M = some (v1, m1)) (e2 : f_X12_plan n a1 a2 m1 = some (v2, m2)) : v1 = v2 := by
  have z0 : (0 : Int32).toInt = 0 := rfl
  have z1 : (1 : Int32).toInt = 1 := rfl
  have z8 : (8 : Int32).toInt = 8 := rfl
  have z80 : (80 : Int32).toInt = 80 := rfl
  have no : ∀ {v : Int32} {M : qM} {w : Int32} {m : qM}, (some (v, M) : qR) = some (w, m) → v = w := by
    intro v M w m h
    injection h with h; injection h
  by_cases hp : (0 ≤ a1.toInt ∧ a1.toInt ≤ 7) ∧ ((M 7 8) >>> (a1 &&& 31)) &&& (1 : Int32) = 1
  · obtain ⟨hp, hb⟩ := hp
    have hb2 : ((m1 78 312) >>> (a1 &&& 31)) &&& (1 : Int32) = 1 := by rw [← hpe]; exact hb
    by_cases h2 : 1 ≤ a2.toInt ∧ a2.toInt ≤ 80 ∧ a2.toInt ≤ (M 1 1).toInt
    · have q1 := u_plan hn a1 a2 M hG h2 hp hb e1
      obtain ⟨w, mw, ew, q2⟩ := v_plan hn a1 a2 m1 hG1 ⟨h2.1, h2.2.1, by omega⟩ hp hb2
      rw [e2] at ew
      have hw : v2 = w := no ew
      rw [← hw, h84, ← TR_t hT h2.2.2] at q2
      exact Qz_eq q1 q2
    · have hk : f_X10_knows n 7 a1 M = some (1, M) := by
        unfold f_X10_knows
        rw [if_neg (by rw [Int32.lt_iff_toInt_lt]; omega), if_neg (by rw [Int32.le_iff_toInt_le]; omega), if_pos hb]
      have hper : f_X12_isPerson n a1 m1 = some (1, m1) := by
        unfold f_X12_isPerson f_X12_has0
        rw [if_neg (by rw [Int32.lt_iff_toInt_lt]; omega), if_neg (by rw [Int32.le_iff_toInt_le]; omega), if_pos hb2, qc_v, if_neg (by decide)]
      have r1 : v1 = -1 := by
        unfold f_X11_plan at e1
        rw [hk, qc_v, if_neg (by decide)] at e1
        by_cases c1 : a2 < (1 : Int32)
        · rw [if_pos c1] at e1; exact (no e1).symm
        · rw [if_neg c1] at e1
          by_cases c2 : (80 : Int32) < a2
          · rw [if_pos c2] at e1; exact (no e1).symm
          · rw [if_neg c2] at e1
            rw [Int32.lt_iff_toInt_lt] at c1 c2
            rw [if_neg (by rw [Int32.le_iff_toInt_le]; omega)] at e1
            exact (no e1).symm
      have r2 : v2 = -1 := by
        unfold f_X12_plan at e2
        rw [hper, qc_v, if_neg (by decide), in_eq, qc_v] at e2
        by_cases c1 : a2 < (1 : Int32) ∨ (80 : Int32) < a2
        · rw [if_pos c1, if_pos rfl] at e2; exact (no e2).symm
        · rw [if_neg c1, if_neg (by decide)] at e2
          rw [Int32.lt_iff_toInt_lt, Int32.lt_iff_toInt_lt] at c1
          rw [if_neg (by rw [Int32.le_iff_toInt_le]; omega)] at e2
          exact (no e2).symm
      rw [r1, r2]
  · have hk : f_X10_knows n 7 a1 M = some (0, M) := by
      unfold f_X10_knows
      by_cases c1 : a1 < (0 : Int32)
      · rw [if_pos c1]
      · rw [if_neg c1]
        by_cases c2 : (8 : Int32) ≤ a1
        · rw [if_pos c2]
        · rw [if_neg c2]
          rw [Int32.lt_iff_toInt_lt] at c1
          rw [Int32.le_iff_toInt_le] at c2
          rw [if_neg (fun q => hp ⟨by omega, q⟩)]
    have hper : f_X12_isPerson n a1 m1 = some (0, m1) := by
      unfold f_X12_isPerson f_X12_has0
      by_cases c1 : a1 < (0 : Int32)
      · rw [if_pos c1]
      · rw [if_neg c1]
        by_cases c2 : (8 : Int32) ≤ a1
        · rw [if_pos c2]
        · rw [if_neg c2]
          rw [Int32.lt_iff_toInt_lt] at c1
          rw [Int32.le_iff_toInt_le] at c2
          rw [if_neg (fun q => hp ⟨by omega, by rw [hpe]; exact q⟩), qc_v, if_pos rfl]
    have r1 : v1 = -1 := by
      unfold f_X11_plan at e1
      rw [hk, qc_v, if_pos rfl] at e1
      exact (no e1).symm
    have r2 : v2 = -1 := by
      unfold f_X12_plan at e2
      rw [hper, qc_v, if_pos rfl] at e2
      exact (no e2).symm
    rw [r1, r2]
/-! feed keeps the tapes alike -/
theorem byte255 (x : Int32) : (vp_nar .byte x) &&& (255 : Int32) = x &&& (255 : Int32) := by
  show (x.toInt8.toInt32) &&& (255 : Int32) = x &&& (255 : Int32)
  apply Int32.toBitVec_inj.mp
  rw [Int32.toBitVec_and, Int32.toBitVec_and]
  show (BitVec.signExtend 32 (BitVec.signExtend 8 x.toBitVec)) &&& (255 : Int32).toBitVec = x.toBitVec &&& (255 : Int32).toBitVec
  apply BitVec.eq_of_getLsbD_eq
  intro i hi
  rw [BitVec.getLsbD_and, BitVec.getLsbD_and]
  by_cases h : i < 8
  · rw [BitVec.getLsbD_signExtend, BitVec.getLsbD_signExtend]
    simp [h, show i < 32 by omega]
  · have : (255 : Int32).toBitVec.getLsbD i = false := by
      have q := (by decide +kernel : ∀ j, j < 32 → 8 ≤ j → (255 : Int32).toBitVec.getLsbD j = false) i hi (by omega)
      exact q
    rw [this, Bool.and_false, Bool.and_false]
def bO (a : Int32) (k : Nat) : Int32 := (a >>> (nI (24 - 8 * k) &&& 31)) &&& (255 : Int32)
theorem p_put3 {n : Nat} {s : Int} {M1 : qM} (hs : 0 ≤ s ∧ s ≤ 256) (a : Int32) : ∀ (m j : Nat) (a2 : Int32) (M : qM), a2.toInt = 24 - 8 * (j : Int) → j ≤ 4 → (M 1 1).toInt = s + j → (∀ i : Nat, (i : Int) < s → M 2 i = M1 2 i) → (∀ k, k < j → M 2 (s.toNat + k) = bO a k) → (∀ c, c ≠ 1 → c ≠ 2 → M c = M1 c) → 5 - j < m → qT (f_X9_put_3 n m a a2 M) (fun _ m' => (m' 1 1).toInt = s + 4 ∧ (∀ i : Nat, (i : Int) < s → m' 2 i = M1 2 i) ∧ (∀ k, k < 4 → m' 2 (s.toNat + k) = bO a k) ∧ (∀ c, c ≠ 1 → c ≠ 2 → m' c = M1 c)) := by
  intro m
  induction m with
  | zero => intro j a2 M _ _ _ _ _ _ h; exfalso; omega
  | succ m ih =>
    intro j a2 M h1 h2 h3 h4 h5 h6 hm
    show qT (b_X9_put_3 n (f_X9_put_3 n m) a a2 M) _
    unfold b_X9_put_3
    refine T_lt rfl l_0 (fun c => ?_) (fun c => ?_)
    · have e : j = 4 := by omega
      subst e
      exact T_ret ⟨h3, h4, h5, h6⟩
    · refine T_le l_260 rfl (fun d => by exfalso; omega) (fun d => ?_)
      refine T_qg rfl (by omega) (by omega) (T_qlm (T_qlm ?_))
      refine T_ql (i_add rfl l_m8 (by omega) (by omega)) ?_
      intro x hx
      have e11 : mu M 2 (M 1 1).toNatClampNeg ((a >>> (a2 &&& 31)) &&& (255 : Int32)) 1 1 = M 1 1 := mu_ne (Or.inl (by decide))
      rw [e11]
      have ea : a2 = nI (24 - 8 * j) := Int32.toInt_inj.mp (by rw [nI_toInt (by omega), h1]; omega)
      have ix : (M 1 1).toNatClampNeg = s.toNat + j := by rw [tnc, h3]; omega
      refine ih (j + 1) x _ (by omega) (by omega) ?_ (fun i hi => ?_) (fun k hk => ?_) (fun c q1 q2 => ?_) (by omega)
      · rw [mu_at, i_add rfl l_1 (by omega) (by omega)]; omega
      · rw [mu_ne (Or.inl (by decide)), mu_ne (Or.inr (by rw [ix]; omega))]; exact h4 i hi
      · rw [mu_ne (Or.inl (by decide))]
        by_cases q : k = j
        · subst q
          rw [ix, mu_at, ea]; rfl
        · rw [mu_ne (Or.inr (by rw [ix]; omega))]; exact h5 k (by omega)
      · rw [mu_nc q1, mu_nc q2]; exact h6 c q1 q2
theorem p_put {n : Nat} (hn : 200000 ≤ n) (a : Int32) (M : qM) (hs : 0 ≤ (M 1 1).toInt ∧ (M 1 1).toInt ≤ 256) : qT (f_X9_put n a M) (fun _ m' => (m' 1 1).toInt = (M 1 1).toInt + 4 ∧ (∀ i : Nat, (i : Int) < (M 1 1).toInt → m' 2 i = M 2 i) ∧ (∀ k, k < 4 → m' 2 ((M 1 1).toInt.toNat + k) = bO a k) ∧ (∀ c, c ≠ 1 → c ≠ 2 → m' c = M c)) := by
  unfold f_X9_put
  exact p_put3 hs a n 0 24 M (by rw [l_24]; omega) (by omega) (by omega) (fun _ _ => rfl) (fun k hk => absurd hk (by omega)) (fun _ _ _ => rfl) (by omega)
theorem p_types2 {n : Nat} {s : Int} {M1 : qM} (hs : 0 ≤ s ∧ s ≤ 256) (a : Int32) : ∀ (m j : Nat) (a2 : Int32) (M : qM), a2.toInt = 3 - (j : Int) → j ≤ 4 → (M 77 8).toInt = s + j → (∀ i : Nat, (i : Int) < s → M 84 i = M1 84 i) → (∀ k, k < j → (M 84 (s.toNat + k)) &&& (255 : Int32) = bO a k) → (∀ c, c ≠ 77 → c ≠ 84 → M c = M1 c) → 5 - j < m → qT (f_X12_types_2 n m a a2 M) (fun _ m' => (m' 77 8).toInt = s + 4 ∧ (∀ i : Nat, (i : Int) < s → m' 84 i = M1 84 i) ∧ (∀ k, k < 4 → (m' 84 (s.toNat + k)) &&& (255 : Int32) = bO a k) ∧ (∀ c, c ≠ 77 → c ≠ 84 → m' c = M1 c)) := by
  intro m
  induction m with
  | zero => intro j a2 M _ _ _ _ _ _ h; exfalso; omega
  | succ m ih =>
    intro j a2 M h1 h2 h3 h4 h5 h6 hm
    show qT (b_X12_types_2 n (f_X12_types_2 n m) a a2 M) _
    unfold b_X12_types_2
    refine T_lt rfl l_0 (fun c => ?_) (fun c => ?_)
    · have e : j = 4 := by omega
      subst e
      exact T_ret ⟨h3, h4, h5, h6⟩
    · refine T_qg rfl (by omega) (by omega) (T_qlm (T_qlm ?_))
      refine T_ql (i_add rfl l_m1 (by omega) (by omega)) ?_
      intro x hx
      have e11 : mu M 84 (M 77 8).toNatClampNeg (vp_nar .byte (((a >>> (((8 : Int32) * a2) &&& 31)).toInt8).toInt32)) 77 8 = M 77 8 := mu_ne (Or.inl (by decide))
      rw [e11]
      have ea : (8 : Int32) * a2 = nI (24 - 8 * j) := Int32.toInt_inj.mp (by rw [nI_toInt (by omega), i_mul l_8 rfl (by omega) (by omega), h1]; omega)
      have ix : (M 77 8).toNatClampNeg = s.toNat + j := by rw [tnc, h3]; omega
      refine ih (j + 1) x _ (by omega) (by omega) ?_ (fun i hi => ?_) (fun k hk => ?_) (fun c q1 q2 => ?_) (by omega)
      · rw [mu_at, i_add rfl l_1 (by omega) (by omega)]; omega
      · rw [mu_ne (Or.inl (by decide)), mu_ne (Or.inr (by rw [ix]; omega))]; exact h4 i hi
      · rw [mu_ne (Or.inl (by decide))]
        by_cases q : k = j
        · subst q
          rw [ix, mu_at, byte255, ea]
          exact byte255 _
        · rw [mu_ne (Or.inr (by rw [ix]; omega))]; exact h5 k (by omega)
      · rw [mu_nc q1, mu_nc q2]; exact h6 c q1 q2
theorem p_types {n : Nat} (hn : 200000 ≤ n) (a : Int32) (M : qM) (hs : 0 ≤ (M 77 8).toInt ∧ (M 77 8).toInt ≤ 256) : qT (f_X12_types n a M) (fun _ m' => (m' 77 8).toInt = (M 77 8).toInt + 4 ∧ (∀ i : Nat, (i : Int) < (M 77 8).toInt → m' 84 i = M 84 i) ∧ (∀ k, k < 4 → (m' 84 ((M 77 8).toInt.toNat + k)) &&& (255 : Int32) = bO a k) ∧ (∀ c, c ≠ 77 → c ≠ 84 → m' c = M c)) := by
  unfold f_X12_types
  exact p_types2 hs a n 0 3 M (by rw [l_3]; omega) (by omega) (by omega) (fun _ _ => rfl) (fun k hk => absurd hk (by omega)) (fun _ _ _ => rfl) (by omega)
/-- five words: what lies from s on -/
def wB (a : Nat → Int32) (i : Nat) : Int32 := bO (a (i / 4)) (i % 4)
theorem p_more {R R' : Nat → Int32} {a : Nat → Int32} {s : Int} {j : Nat} (h0 : 0 ≤ s) (h1 : ∀ i, i < 4 * j → R (s.toNat + i) = wB a i) (h2 : ∀ i : Nat, (i : Int) < s + 4 * j → R' i = R i) (h3 : ∀ k, k < 4 → R' ((s + 4 * j).toNat + k) = bO (a j) k) : ∀ i, i < 4 * (j + 1) → R' (s.toNat + i) = wB a i := by
  intro i hi
  by_cases q : i < 4 * j
  · rw [h2 _ (by omega)]; exact h1 i q
  · have e : s.toNat + i = (s + 4 * j).toNat + (i - 4 * j) := by omega
    rw [e, h3 _ (by omega)]
    unfold wB
    rw [show i / 4 = j by omega, show i % 4 = i - 4 * j by omega]
def five (a b c d e : Int32) : Nat → Int32
  | 0 => a
  | 1 => b
  | 2 => c
  | 3 => d
  | _ => e
theorem p_feed {n : Nat} (hn : 200000 ≤ n) (a b c d e : Int32) (M : qM) (hs : 0 ≤ (M 1 1).toInt ∧ (M 1 1).toInt ≤ 240) : qT (f_X11_feed n a b c d e M) (fun _ m => (m 1 1).toInt = (M 1 1).toInt + 20 ∧ (∀ i : Nat, (i : Int) < (M 1 1).toInt → m 2 i = M 2 i) ∧ (∀ i, i < 20 → m 2 ((M 1 1).toInt.toNat + i) = wB (five a b c d e) i) ∧ (∀ c, c ≠ 1 → c ≠ 2 → m c = M c)) := by
  unfold f_X11_feed
  refine T_le (i_add rfl l_20 (by omega) (by omega)) l_260 (fun _ => ?_) (fun q => by exfalso; omega)
  refine T_qc (p_put hn a M (by omega)) ?_
  rintro _ m1 ⟨s1, o1, n1, f1⟩
  refine T_qc (p_put hn b m1 (by omega)) ?_
  rintro _ m2 ⟨s2, o2, n2, f2⟩
  refine T_qc (p_put hn c m2 (by omega)) ?_
  rintro _ m3 ⟨s3, o3, n3, f3⟩
  refine T_qc (p_put hn d m3 (by omega)) ?_
  rintro _ m4 ⟨s4, o4, n4, f4⟩
  refine T_qc (p_put hn e m4 (by omega)) ?_
  rintro _ m5 ⟨s5, o5, n5, f5⟩
  have w0 : ∀ i, i < 4 * 0 → M 2 ((M 1 1).toInt.toNat + i) = wB (five a b c d e) i := fun i hi => absurd hi (by omega)
  have w1 := p_more (a := five a b c d e) (j := 0) hs.1 w0 (fun i hi => o1 i (by omega)) (fun k hk => by rw [show ((M 1 1).toInt + 4 * ((0 : Nat) : Int)).toNat = (M 1 1).toInt.toNat by omega]; exact n1 k hk)
  have w2 := p_more (a := five a b c d e) (j := 1) hs.1 w1 (fun i hi => o2 i (by omega)) (fun k hk => by rw [show ((M 1 1).toInt + 4 * ((1 : Nat) : Int)).toNat = (m1 1 1).toInt.toNat by omega]; exact n2 k hk)
  have w3 := p_more (a := five a b c d e) (j := 2) hs.1 w2 (fun i hi => o3 i (by omega)) (fun k hk => by rw [show ((M 1 1).toInt + 4 * ((2 : Nat) : Int)).toNat = (m2 1 1).toInt.toNat by omega]; exact n3 k hk)
  have w4 := p_more (a := five a b c d e) (j := 3) hs.1 w3 (fun i hi => o4 i (by omega)) (fun k hk => by rw [show ((M 1 1).toInt + 4 * ((3 : Nat) : Int)).toNat = (m3 1 1).toInt.toNat by omega]; exact n4 k hk)
  have w5 := p_more (a := five a b c d e) (j := 4) hs.1 w4 (fun i hi => o5 i (by omega)) (fun k hk => by rw [show ((M 1 1).toInt + 4 * ((4 : Nat) : Int)).toNat = (m4 1 1).toInt.toNat by omega]; exact n5 k hk)
  refine T_ret ⟨by omega, fun i hi => by rw [o5 i (by omega), o4 i (by omega), o3 i (by omega), o2 i (by omega), o1 i hi], fun i hi => w5 i (by omega), fun k q1 q2 => by rw [f5 k q1 q2, f4 k q1 q2, f3 k q1 q2, f2 k q1 q2, f1 k q1 q2]⟩
theorem q_feed {n : Nat} (hn : 200000 ≤ n) (a b c d e : Int32) (M : qM) (hs : 0 ≤ (M 77 8).toInt ∧ (M 77 8).toInt ≤ 240) : qT (f_X12_feed n a b c d e M) (fun _ m => (m 77 8).toInt = (M 77 8).toInt + 20 ∧ (∀ i : Nat, (i : Int) < (M 77 8).toInt → m 84 i = M 84 i) ∧ (∀ i, i < 20 → (m 84 ((M 77 8).toInt.toNat + i)) &&& (255 : Int32) = wB (five a b c d e) i) ∧ (∀ c, c ≠ 77 → c ≠ 84 → m c = M c)) := by
  unfold f_X12_feed
  refine T_le (i_add rfl l_20 (by omega) (by omega)) l_260 (fun _ => ?_) (fun q => by exfalso; omega)
  refine T_qc (p_types hn a M (by omega)) ?_
  rintro _ m1 ⟨s1, o1, n1, f1⟩
  refine T_qc (p_types hn b m1 (by omega)) ?_
  rintro _ m2 ⟨s2, o2, n2, f2⟩
  refine T_qc (p_types hn c m2 (by omega)) ?_
  rintro _ m3 ⟨s3, o3, n3, f3⟩
  refine T_qc (p_types hn d m3 (by omega)) ?_
  rintro _ m4 ⟨s4, o4, n4, f4⟩
  refine T_qc (p_types hn e m4 (by omega)) ?_
  rintro _ m5 ⟨s5, o5, n5, f5⟩
  have w0 : ∀ i, i < 4 * 0 → (fun i => M 84 i &&& (255 : Int32)) ((M 77 8).toInt.toNat + i) = wB (five a b c d e) i := fun i hi => absurd hi (by omega)
  have w1 := p_more (R := fun i => M 84 i &&& (255 : Int32)) (R' := fun i => m1 84 i &&& (255 : Int32)) (a := five a b c d e) (j := 0) hs.1 w0 (fun i hi => by show m1 84 i &&& (255 : Int32) = M 84 i &&& (255 : Int32); rw [o1 i (by omega)]) (fun k hk => by rw [show ((M 77 8).toInt + 4 * ((0 : Nat) : Int)).toNat = (M 77 8).toInt.toNat by omega]; exact n1 k hk)
  have w2 := p_more (R := fun i => m1 84 i &&& (255 : Int32)) (R' := fun i => m2 84 i &&& (255 : Int32)) (a := five a b c d e) (j := 1) hs.1 w1 (fun i hi => by show m2 84 i &&& (255 : Int32) = m1 84 i &&& (255 : Int32); rw [o2 i (by omega)]) (fun k hk => by rw [show ((M 77 8).toInt + 4 * ((1 : Nat) : Int)).toNat = (m1 77 8).toInt.toNat by omega]; exact n2 k hk)
  have w3 := p_more (R := fun i => m2 84 i &&& (255 : Int32)) (R' := fun i => m3 84 i &&& (255 : Int32)) (a := five a b c d e) (j := 2) hs.1 w2 (fun i hi => by show m3 84 i &&& (255 : Int32) = m2 84 i &&& (255 : Int32); rw [o3 i (by omega)]) (fun k hk => by rw [show ((M 77 8).toInt + 4 * ((2 : Nat) : Int)).toNat = (m2 77 8).toInt.toNat by omega]; exact n3 k hk)
  have w4 := p_more (R := fun i => m3 84 i &&& (255 : Int32)) (R' := fun i => m4 84 i &&& (255 : Int32)) (a := five a b c d e) (j := 3) hs.1 w3 (fun i hi => by show m4 84 i &&& (255 : Int32) = m3 84 i &&& (255 : Int32); rw [o4 i (by omega)]) (fun k hk => by rw [show ((M 77 8).toInt + 4 * ((3 : Nat) : Int)).toNat = (m3 77 8).toInt.toNat by omega]; exact n4 k hk)
  have w5 := p_more (R := fun i => m4 84 i &&& (255 : Int32)) (R' := fun i => m5 84 i &&& (255 : Int32)) (a := five a b c d e) (j := 4) hs.1 w4 (fun i hi => by show m5 84 i &&& (255 : Int32) = m4 84 i &&& (255 : Int32); rw [o5 i (by omega)]) (fun k hk => by rw [show ((M 77 8).toInt + 4 * ((4 : Nat) : Int)).toNat = (m4 77 8).toInt.toNat by omega]; exact n5 k hk)
  refine T_ret ⟨by omega, fun i hi => by rw [o5 i (by omega), o4 i (by omega), o3 i (by omega), o2 i (by omega), o1 i hi], fun i hi => w5 i (by omega), fun k q1 q2 => by rw [f5 k q1 q2, f4 k q1 q2, f3 k q1 q2, f2 k q1 q2, f1 k q1 q2]⟩
theorem feed_TR {n : Nat} (hn : 200000 ≤ n) {a b c d e v1 v2 : Int32} {M m1 m2 : qM} (hG : G M) (hT : TR M) (hs : (M 1 1).toInt = (M 77 8).toInt) (e1 : f_X11_feed n a b c d e M = some (v1, m1)) (e2 : f_X12_feed n a b c d e m1 = some (v2, m2)) : TR m2 := by
  have h11 := r_1_1 hG
  by_cases hc : (M 1 1).toInt ≤ 240
  · obtain ⟨w, mw, ew, s1, o1, n1, f1⟩ := p_feed hn a b c d e M (by omega)
    rw [e1] at ew
    cases ew
    have e8 : m1 77 = M 77 := f1 77 (by decide) (by decide)
    have e84 : m1 84 = M 84 := f1 84 (by decide) (by decide)
    obtain ⟨w2, mw2, ew2, s2, o2, n2, f2⟩ := q_feed hn a b c d e m1 (by rw [e8]; omega)
    rw [e2] at ew2
    cases ew2
    rw [e8] at s2 o2 n2
    rw [e84] at o2
    have g1 : m2 1 = m1 1 := f2 1 (by decide) (by decide)
    have g2 : m2 2 = m1 2 := f2 2 (by decide) (by decide)
    intro i hi
    rw [g1] at hi
    rw [g2]
    by_cases q : (i : Int) < (M 1 1).toInt
    · rw [o1 i q, o2 i (by omega)]; exact hT i q
    · have k1 := n1 (i - (M 1 1).toInt.toNat) (by omega)
      have k2 := n2 (i - (M 1 1).toInt.toNat) (by omega)
      rw [show (M 1 1).toInt.toNat + (i - (M 1 1).toInt.toNat) = i by omega] at k1
      rw [show (M 77 8).toInt.toNat + (i - (M 1 1).toInt.toNat) = i by omega] at k2
      rw [k1, k2]
  · have z : ((260 : Int32).toInt : Int) = 260 := rfl
    have r1 : m1 = M := by
      unfold f_X11_feed at e1
      rw [if_neg (by rw [Int32.le_iff_toInt_le, i_add rfl l_20 (by omega) (by omega)]; omega)] at e1
      injection e1 with e1; injection e1 with _ e1; exact e1.symm
    subst r1
    have r2 : m2 = m1 := by
      unfold f_X12_feed at e2
      rw [if_neg (by rw [Int32.le_iff_toInt_le, i_add rfl l_20 (by omega) (by omega)]; omega)] at e2
      injection e2 with e2; injection e2 with _ e2; exact e2.symm
    rw [r2]; exact hT
theorem TR_le {M m : qM} (h : TR M) (e1 : (m 1 1).toInt ≤ (M 1 1).toInt) (e2 : m 2 = M 2) (e3 : m 84 = M 84) : TR m := fun i hi => by rw [e2, e3]; exact h i (by omega)
