/-! PLANS: their contents. A state: (0 a step is due, 1 a step was read, 3 done; the place; how many steps; the steps; at how many each open round began). Faults are none. -/
abbrev Dn : Type := Nat → Int × Int
def up1 (D : Dn) (s : Nat) (x : Int × Int) : Dn := fun i => if i = s then x else D i
def rp1z (D : Dn) (b u w : Nat) : Dn := fun i => if u ≤ i ∧ i < w then D (b + (i - b) % (u - b)) else D i
abbrev Ce : Type := Nat × Int × Nat × Dn × List Nat
def eE (p : Int) (s : Nat) (D : Dn) (x : Int × Int) (st : List Nat) : Option Ce := if 40 ≤ s then none else some (1, p, s + 1, up1 D s x, st)
def eA (T : Int → Int) (pl : Int) (s : Nat) (D : Dn) (st : List Nat) : Option Ce :=
  if T pl = 40 then (if st.length = 3 then none else some (0, pl + 1, s, D, s :: st))
  else if dq (T pl) < 0 then none else if 12 ≤ knd T pl then none
  else if T (nxp T pl) = 38 then (if dq (T (nxp T pl + 1)) < 0 then none else if 8 ≤ dq (T (nxp T pl + 1)) then none else eE (nxp T pl + 2) s D (knd T pl, dq (T (nxp T pl + 1))) st)
  else eE (nxp T pl) s D (knd T pl, 8) st
def eB (T : Int → Int) (len pl : Int) (s : Nat) (D : Dn) : List Nat → Option Ce
  | [] => if T pl = 44 then some (0, pl + 1, s, D, []) else if len ≤ pl then some (3, pl, s, D, []) else none
  | b :: r => if T pl = 44 then some (0, pl + 1, s, D, b :: r) else if T pl = 41 then (if dq (T (pl + 1)) < 2 then none else if 40 < b + (s - b) * (dq (T (pl + 1))).toNat then none else some (1, pl + 2, b + (s - b) * (dq (T (pl + 1))).toNat, rp1z D b s (b + (s - b) * (dq (T (pl + 1))).toNat), r)) else none
def eS (T : Int → Int) (len : Int) (c : Ce) : Option Ce := if c.1 = 0 then eA T c.2.1 c.2.2.1 c.2.2.2.1 c.2.2.2.2 else if c.1 = 1 then eB T len c.2.1 c.2.2.1 c.2.2.2.1 c.2.2.2.2 else some c
def eI (T : Int → Int) (len : Int) : Nat → Ce → Option Ce
  | 0, c => some c
  | n + 1, c => match eS T len c with
    | none => none
    | some d => eI T len n d
theorem eI_s {T : Int → Int} {len : Int} {n : Nat} {c d : Ce} (h : eS T len c = some d) : eI T len (n + 1) c = eI T len n d := by
  show (match eS T len c with | none => none | some d => eI T len n d) = _
  rw [h]
theorem eI_cut {T : Int → Int} {len : Int} : ∀ (n : Nat) {c d : Ce} (j : Nat), eI T len n c = some d → eI T len (n + j) c = eI T len j d := by
  intro n
  induction n with
  | zero => intro c d j h; have h2 : some c = some d := h; cases h2; rw [Nat.zero_add]
  | succ n ih =>
    intro c d j h
    rw [show n + 1 + j = (n + j) + 1 by omega]
    cases e : eS T len c with
    | none =>
      have h2 : (match eS T len c with | none => none | some d => eI T len n d) = some d := h
      rw [e] at h2
      cases h2
    | some x =>
      rw [eI_s e] at h
      rw [eI_s e]
      exact ih j h
def Eo (T : Int → Int) (len : Int) (c c' : Ce) : Prop := ∃ n, eI T len n c = some c'
theorem Eo_rf {T : Int → Int} {len : Int} {c : Ce} : Eo T len c c := ⟨0, rfl⟩
theorem Eo_tr {T : Int → Int} {len : Int} {c d e : Ce} (h : Eo T len c d) (k : Eo T len d e) : Eo T len c e := by
  obtain ⟨n, hn⟩ := h
  obtain ⟨m, hm⟩ := k
  exact ⟨n + m, by rw [eI_cut n m hn]; exact hm⟩
theorem Eo_st {T : Int → Int} {len : Int} {c d : Ce} (h : eS T len c = some d) : Eo T len c d := ⟨1, by rw [eI_s h]; rfl⟩
theorem eI_fix {T : Int → Int} {len : Int} {c : Ce} (h : eS T len c = some c) : ∀ n, eI T len n c = some c := by
  intro n
  induction n with
  | zero => rfl
  | succ n ih => rw [eI_s h]; exact ih
theorem Eo_det {T : Int → Int} {len : Int} {c d e : Ce} (h : Eo T len c d) (k : Eo T len c e) (h1 : eS T len d = some d) (k1 : eS T len e = some e) : d = e := by
  obtain ⟨n, hn⟩ := h
  obtain ⟨m, hm⟩ := k
  by_cases q : n ≤ m
  · obtain ⟨j, rfl⟩ : ∃ j, m = n + j := ⟨m - n, by omega⟩
    rw [eI_cut n j hn, eI_fix h1] at hm
    injection hm
  · obtain ⟨j, rfl⟩ : ∃ j, n = m + j := ⟨n - m, by omega⟩
    rw [eI_cut m j hm, eI_fix k1] at hn
    injection hn with hn
    exact hn.symm
theorem es_A {T : Int → Int} {len pl : Int} {s : Nat} {D : Dn} {st : List Nat} : eS T len (0, pl, s, D, st) = eA T pl s D st := rfl
theorem es_B {T : Int → Int} {len pl : Int} {s : Nat} {D : Dn} {st : List Nat} : eS T len (1, pl, s, D, st) = eB T len pl s D st := rfl
theorem es_3 {T : Int → Int} {len pl : Int} {s : Nat} {D : Dn} {st : List Nat} : eS T len (3, pl, s, D, st) = some (3, pl, s, D, st) := rfl
theorem eB_c {T : Int → Int} {len pl : Int} {s b : Nat} {D : Dn} {r : List Nat} : eB T len pl s D (b :: r) = (if T pl = 44 then some (0, pl + 1, s, D, b :: r) else if T pl = 41 then (if dq (T (pl + 1)) < 2 then none else if 40 < b + (s - b) * (dq (T (pl + 1))).toNat then none else some (1, pl + 2, b + (s - b) * (dq (T (pl + 1))).toNat, rp1z D b s (b + (s - b) * (dq (T (pl + 1))).toNat), r)) else none) := rfl
theorem eB_n {T : Int → Int} {len pl : Int} {s : Nat} {D : Dn} : eB T len pl s D [] = (if T pl = 44 then some (0, pl + 1, s, D, []) else if len ≤ pl then some (3, pl, s, D, []) else none) := rfl
theorem eB_44 {T : Int → Int} {len pl : Int} {s : Nat} {D : Dn} {st : List Nat} (h : T pl = 44) : eB T len pl s D st = some (0, pl + 1, s, D, st) := by
  cases st with
  | nil => rw [eB_n, if_pos h]
  | cons b r => rw [eB_c, if_pos h]
/-! the Java side -/
abbrev CJ (m : qM) (D : Dn) : Prop := ∀ i : Nat, (i : Int) < (m 53 3).toInt → ((m 54 i).toInt, (m 55 i).toInt) = D i
abbrev sJ (m : qM) : Nat := (m 53 3).toInt.toNat
abbrev PZ (T : Int → Int) (len : Int) (c : Ce) (st : List Nat) (v : Int32) (m : qM) : Prop := v.toInt ≠ 0 → ∃ D', Eo T len c (1, (m 1 3).toInt, sJ m, D', st) ∧ CJ m D'
theorem z_fails {n : Nat} (a b : Int32) (M : qM) : qP (f_X9_fails n a b M) (fun v _ => v.toInt = 0) := by
  unfold f_X9_fails
  exact P_qlm (P_ret l_0)
theorem z_add {n : Nat} (a b : Int32) (M : qM) (hG : G M) : qP (f_X6_addStep n a b M) (fun v m => v.toInt ≠ 0 → (M 53 3).toInt < 40 ∧ (m 53 3).toInt = (M 53 3).toInt + 1 ∧ m 54 (sJ M) = a ∧ m 55 (sJ M) = b ∧ (∀ i, i ≠ sJ M → m 54 i = M 54 i ∧ m 55 i = M 55 i) ∧ ∀ c, c < 53 → m c = M c) := by
  have h3 := r_53_3 hG
  unfold f_X6_addStep
  refine P_lt rfl l_40 (fun c => ?_) (fun c => P_ret (fun z => absurd l_0 z))
  refine P_qg (fun _ _ => P_m (fun m1 a1 a2 a3 => ?_))
  rw [a3 53 (by decide)]
  refine P_qg (fun _ _ => P_m (fun m2 b1 b2 b3 => ?_))
  rw [b3 53 (by decide), a3 53 (by decide)]
  refine P_m (fun m3 c1 c2 c3 => P_ret (fun _ => ⟨c, ?_, ?_, ?_, fun i hi => ⟨?_, ?_⟩, fun k hk => ?_⟩))
  · rw [c1]; exact i_add rfl l_1 (by omega) (by omega)
  · rw [c3 54 (by decide), b3 54 (by decide)]; exact a1
  · rw [c3 55 (by decide)]; exact b1
  · rw [c3 54 (by decide), b3 54 (by decide)]; exact a2 i hi
  · rw [c3 55 (by decide), b2 i hi, a3 55 (by decide)]
  · rw [c3 k (by omega), b3 k (by omega), a3 k (by omega)]
theorem CJ_add {M m : qM} {D : Dn} {a b : Int32} {x : Int × Int} (hG : G M) (h : CJ M D) (e1 : (m 53 3).toInt = (M 53 3).toInt + 1) (e2 : m 54 (sJ M) = a) (e3 : m 55 (sJ M) = b) (e4 : ∀ i, i ≠ sJ M → m 54 i = M 54 i ∧ m 55 i = M 55 i) (hx : (a.toInt, b.toInt) = x) : CJ m (up1 D (sJ M) x) := by
  have h3 := r_53_3 hG
  intro i hi
  show _ = (if i = sJ M then x else D i)
  by_cases c : i = sJ M
  · rw [if_pos c, c, e2, e3]; exact hx
  · rw [if_neg c, (e4 i c).1, (e4 i c).2]
    exact h i (by have : i ≠ (M 53 3).toInt.toNat := c; omega)
theorem z_169 {n : Nat} {D : Dn} (a1 a2 a3 : Int32) (M : qM) (hG : G M) (hD : CJ M D) : qP (f_X6_readTry_169 n a1 a2 a3 M) (fun v m => v.toInt ≠ 0 → (M 53 3).toInt < 40 ∧ (m 53 3).toInt = (M 53 3).toInt + 1 ∧ CJ m (up1 D (sJ M) (a2.toInt, a3.toInt)) ∧ m 1 = M 1) := by
  unfold f_X6_readTry_169
  refine P_qc (z_add a2 a3 M hG) ?_
  intro r m h
  refine P_eq rfl l_0 (fun c => ?_) (fun c => ?_)
  · refine P_qc (z_fails 6 a1 m) ?_
    intro r3 m4 h3
    exact P_eq rfl l_0 (fun _ => P_ret (fun z => absurd l_0 z)) (fun d => absurd h3 d)
  · obtain ⟨q1, q2, q3, q4, q5, q6⟩ := h c
    exact P_ret (fun _ => ⟨q1, q2, CJ_add hG hD q2 q3 q4 q5 rfl, q6 1 (by decide)⟩)
theorem z_131 {n : Nat} (a3 : Int32) (M : qM) : qP (f_X6_readTry_131 n a3 M) (fun v _ => v.toInt = 0) := by
  unfold f_X6_readTry_131 f_X6_readTry_145
  exact P_if (fun _ => P_qc (z_fails 1 _ M) (fun r m h => P_qb (P_ret h))) (fun _ => P_qc (z_fails 3 _ M) (fun r m h => P_qb (P_ret h)))
theorem z_81 {n : Nat} (hn : 200000 ≤ n) {R : Nat → Int32} {len : Int} {D : Dn} (a1 a2 : Int32) (M : qM) (hG : G M) (hC : Cx R len M) (hD : CJ M D) : qP (f_X6_readTry_81 n a1 a2 M) (fun v m => v.toInt ≠ 0 → a2.toInt < 12 ∧ (M 53 3).toInt < 40 ∧ (m 53 3).toInt = (M 53 3).toInt + 1 ∧ ((tq R len (M 1 3).toInt ≠ 38 ∧ (m 1 3).toInt = (M 1 3).toInt ∧ CJ m (up1 D (sJ M) (a2.toInt, 8))) ∨ (tq R len (M 1 3).toInt = 38 ∧ 0 ≤ dq (tq R len ((M 1 3).toInt + 1)) ∧ dq (tq R len ((M 1 3).toInt + 1)) < 8 ∧ (m 1 3).toInt = (M 1 3).toInt + 2 ∧ CJ m (up1 D (sJ M) (a2.toInt, dq (tq R len ((M 1 3).toInt + 1))))))) := by
  have h13 := r_1_3 hG
  unfold f_X6_readTry_81
  refine P_lt rfl l_12 (fun c => ?_) (fun c => P_qc (z_fails 3 a1 M) (fun r m h => P_qb (P_ret (fun z => absurd h z))))
  refine P_qc (P_T (u_takes hn (M0 := M) (38 : Int32) M hG Sm.rf (by decide))) ?_
  rintro r1 m2 ⟨ho, q2, q3, g2, _⟩
  rw [hC.1, hC.2, l_38] at ho
  have e53 : m2 53 = M 53 := q3 53 (by decide)
  have hD2 : CJ m2 D := by
    intro i hi
    rw [q3 54 (by decide), q3 55 (by decide)]
    rw [e53] at hi
    exact hD i hi
  have hC2 : Cx R len m2 := ⟨by rw [q3 2 (by decide)]; exact hC.1, by rw [q2 2 (by decide)]; exact hC.2⟩
  refine P_eq rfl l_0 (fun d => ?_) (fun d => ?_)
  · refine P_mono (z_169 a1 a2 8 m2 g2 hD2) (fun v m h z => ?_)
    obtain ⟨x1, x2, x3, x4⟩ := h z
    have es : sJ m2 = sJ M := by show (m2 53 3).toInt.toNat = _; rw [e53]
    rw [es, show ((8 : Int32).toInt : Int) = 8 from rfl] at x3
    rw [e53] at x1 x2
    exact ⟨c, x1, x2, Or.inl ⟨by omega, by rw [x4]; omega, x3⟩⟩
  · have e3 : (m2 1 3).toInt = (M 1 3).toInt + 1 := by omega
    refine P_qc (P_T (u_digit hn m2 g2)) ?_
    rintro r3 m4 ⟨rfl, hr3⟩
    rw [hC2.1, hC2.2, e3] at hr3
    have hd := dq_r (tq R len ((M 1 3).toInt + 1))
    refine P_eq rfl l_m1 (fun f => P_mono (z_131 r3 m4) (fun v m h z => absurd h z)) (fun f => ?_)
    refine P_lt rfl l_8 (fun f2 => ?_) (fun f2 => P_mono (z_131 r3 m4) (fun v m h z => absurd h z))
    have h134 := r_1_3 g2
    have ht := tq_r R len ((M 1 3).toInt + 1)
    have h12 := r_1_2 g2
    have hl2 := hC2.2
    have ep : (m4 1 3 + 1).toInt = (m4 1 3).toInt + 1 := i_add rfl l_1 (by omega) (by omega)
    refine P_g g2 (i_rng (lo := 0) (hi := 240) ep (by omega) (by omega)) (nw_1 _) ?_
    intro m5 y1 y2 y3 g5
    have hD5 : CJ m5 D := by
      intro i hi
      rw [y3 54 (by decide), y3 55 (by decide)]
      rw [y3 53 (by decide)] at hi
      exact hD2 i hi
    refine P_mono (z_169 a1 a2 r3 m5 g5 hD5) (fun v m h z => ?_)
    obtain ⟨x1, x2, x3, x4⟩ := h z
    have es : sJ m5 = sJ M := by show (m5 53 3).toInt.toNat = _; rw [y3 53 (by decide), e53]
    rw [es, hr3] at x3
    rw [y3 53 (by decide), e53] at x1 x2
    exact ⟨c, x1, x2, Or.inr ⟨by omega, by omega, by omega, by rw [x4, y1, ep]; omega, x3⟩⟩
theorem z_try {n : Nat} (hn : 200000 ≤ n) {R : Nat → Int32} {len : Int} {D : Dn} {st : List Nat} (M : qM) (hG : G M) (hC : Cx R len M) (hD : CJ M D) (h40 : tq R len (M 1 3).toInt ≠ 40) : qP (f_X6_readTry n M) (PZ (tq R len) len (0, (M 1 3).toInt, sJ M, D, st) st) := by
  have h13 := r_1_3 hG
  have h12 := r_1_2 hG
  have h533 := r_53_3 hG
  have hd0 := dq_r (tq R len (M 1 3).toInt)
  have ht0 := tq_r R len (M 1 3).toInt
  have hd1 := dq_r (tq R len ((M 1 3).toInt + 1))
  have ht1 := tq_r R len ((M 1 3).toInt + 1)
  have hlen : (M 1 2).toInt = len := hC.2
  unfold f_X6_readTry
  refine P_ql rfl (fun x hx => P_qc (P_T (u_digit hn M hG)) ?_)
  rintro r2 m3 ⟨rfl, hr2⟩
  rw [hC.1, hC.2] at hr2
  refine P_eq rfl l_m1 (fun c => P_qc (z_fails 1 x m3) (fun r m h => P_qb (P_ret (fun z => absurd h z)))) (fun c => ?_)
  have ep : (m3 1 3 + 1).toInt = (m3 1 3).toInt + 1 := i_add rfl l_1 (by omega) (by omega)
  refine P_g hG (i_rng (lo := 0) (hi := 240) ep (by omega) (by omega)) (nw_1 _) ?_
  intro m4 y1 y2 y3 g4
  have e4 : (m4 1 3).toInt = (m3 1 3).toInt + 1 := by rw [y1]; exact ep
  have hC4 : Cx R len m4 := ⟨by rw [y3 2 (by decide)]; exact hC.1, by rw [y2 2 (by decide)]; exact hC.2⟩
  have fin : ∀ (a2 : Int32) (m5 : qM), G m5 → Cx R len m5 → (∀ c, c ≠ 1 → m5 c = m3 c) → knd (tq R len) (m3 1 3).toInt = a2.toInt → nxp (tq R len) (m3 1 3).toInt = (m5 1 3).toInt → qP (f_X6_readTry_81 n x a2 m5) (PZ (tq R len) len (0, (m3 1 3).toInt, sJ m3, D, st) st) := by
    intro a2 m5 g5 hC5 e5 ek en
    have hD5 : CJ m5 D := by
      intro i hi
      rw [e5 54 (by decide), e5 55 (by decide)]
      rw [e5 53 (by decide)] at hi
      exact hD i hi
    have es : sJ m5 = sJ m3 := by show (m5 53 3).toInt.toNat = _; rw [e5 53 (by decide)]
    refine P_mono (z_81 hn x a2 m5 g5 hC5 hD5) (fun v m h z => ?_)
    obtain ⟨x1, x2, x3, x4⟩ := h z
    rw [e5 53 (by decide)] at x2 x3
    have esm : sJ m = sJ m3 + 1 := by show (m 53 3).toInt.toNat = (m3 53 3).toInt.toNat + 1; rw [x3]; omega
    rw [es, ← en] at x4
    rcases x4 with ⟨w1, w2, w3⟩ | ⟨w1, w2, w3, w4, w5⟩
    · refine ⟨_, Eo_st ?_, w3⟩
      rw [es_A]
      unfold eA eE
      rw [if_neg h40, if_neg (by omega), if_neg (by omega), if_neg w1, if_neg (by show ¬ 40 ≤ (m3 53 3).toInt.toNat; omega), w2, esm, ek]
    · refine ⟨_, Eo_st ?_, w5⟩
      rw [es_A]
      unfold eA eE
      rw [if_neg h40, if_neg (by omega), if_neg (by omega), if_pos w1, if_neg (by omega), if_neg (by omega), if_neg (by show ¬ 40 ≤ (m3 53 3).toInt.toNat; omega), w4, esm, ek]
  refine P_qc (P_T (u_digit hn m4 g4)) ?_
  rintro r5 m6 ⟨rfl, hr5⟩
  rw [hC4.1, hC4.2, e4] at hr5
  refine P_eq rfl l_m1 (fun d => ?_) (fun d => ?_)
  · exact fin r2 m6 g4 hC4 y3 (by unfold knd; rw [if_pos (by omega)]; omega) (by unfold nxp; rw [if_pos (by omega)]; omega)
  · refine P_qc (P_T (u_digit hn m6 g4)) ?_
    rintro r7 m8 ⟨rfl, hr7⟩
    rw [hC4.1, hC4.2, e4] at hr7
    refine P_ql (i_add (i_mul l_10 rfl (by omega) (by omega)) rfl (by omega) (by omega)) (fun x9 hx9 => ?_)
    have ep8 : (m8 1 3 + 1).toInt = (m8 1 3).toInt + 1 := i_add rfl l_1 (by omega) (by omega)
    refine P_g g4 (i_rng (lo := 0) (hi := 240) ep8 (by omega) (by omega)) (nw_1 _) ?_
    intro m10 z1 z2 z3 g10
    have e10 : (m10 1 3).toInt = (m3 1 3).toInt + 2 := by rw [z1]; omega
    exact fin x9 m10 g10 ⟨by rw [z3 2 (by decide)]; exact hC4.1, by rw [z2 2 (by decide)]; exact hC4.2⟩ (fun c hc => by rw [z3 c hc, y3 c hc]) (by unfold knd; rw [if_neg (by omega)]; omega) (by unfold nxp; rw [if_neg (by omega)]; omega)
/-! a fault's number is below 0 -/
def nzp (c : Cf) : Prop := (c.1 = 2 ∧ c.2.1 < 0) ∨ (c.1 ≠ 2 ∧ 0 ≤ c.2.1 ∧ ∀ q ∈ c.2.2.2, 0 ≤ q.1)
theorem nzp_F {k w : Int} (hk : 1 ≤ k) (hw : 0 ≤ w) : nzp (cF k w) := Or.inl ⟨rfl, by show -1000 * k - w < 0; omega⟩
theorem nzp_mk {t : Nat} {pl s : Int} {st : List (Int × Int)} (ht : t ≠ 2) (h : 0 ≤ pl) (hs : ∀ q ∈ st, 0 ≤ q.1) : nzp (t, pl, s, st) := Or.inr ⟨ht, h, hs⟩
theorem nzp_E {pl p s : Int} {st : List (Int × Int)} (h1 : 0 ≤ pl) (h2 : 0 ≤ p) (hs : ∀ q ∈ st, 0 ≤ q.1) : nzp (stE pl p s st) := by
  unfold stE
  by_cases c : 40 ≤ s
  · rw [if_pos c]; exact nzp_F (by decide) h1
  · rw [if_neg c]; exact nzp_mk (by decide) h2 hs
theorem nzp_st {T : Int → Int} {len : Int} {c : Cf} (h : nzp c) : nzp (stp T len c) := by
  obtain ⟨t, pl, s, st⟩ := c
  by_cases c0 : t = 0
  · subst c0
    rw [st_A]
    rcases h with h | ⟨_, h0, hs⟩
    · exact absurd h.1 (by show ¬ (0 : Nat) = 2; decide)
    have h0' : 0 ≤ pl := h0
    have hs' : ∀ q ∈ st, 0 ≤ q.1 := hs
    have hn : 0 ≤ nxp T pl := by unfold nxp; split <;> omega
    unfold stA stT stW
    repeat' split
    all_goals first | exact nzp_F (by decide) (by omega) | exact nzp_E h0' (by omega) hs' | (refine nzp_mk (by decide) (by omega) (fun q hq => ?_); rcases List.mem_cons.mp hq with rfl | hq2; exact h0'; exact hs' q hq2)
  · by_cases c1 : t = 1
    · subst c1
      rw [st_B]
      rcases h with h | ⟨_, h0, hs⟩
      · exact absurd h.1 (by show ¬ (1 : Nat) = 2; decide)
      have h0' : 0 ≤ pl := h0
      have hs' : ∀ q ∈ st, 0 ≤ q.1 := hs
      cases st with
      | nil =>
        show nzp (if T pl = 44 then (0, pl + 1, s, []) else if len ≤ pl then (3, 0, s, []) else cF 1 pl)
        by_cases a : T pl = 44
        · rw [if_pos a]; exact nzp_mk (by decide) (by omega) hs'
        · rw [if_neg a]
          by_cases b : len ≤ pl
          · rw [if_pos b]; exact nzp_mk (by decide) (Int.le_refl _) hs'
          · rw [if_neg b]; exact nzp_F (by decide) h0'
      | cons x r =>
        have hx : 0 ≤ x.1 := hs' x List.mem_cons_self
        have hr : ∀ q ∈ r, 0 ≤ q.1 := fun q hq => hs' q (List.mem_cons_of_mem _ hq)
        show nzp (if T pl = 44 then (0, pl + 1, s, x :: r) else if T pl = 41 then (if dq (T (pl + 1)) < 2 then cF 1 (pl + 1) else if 40 < x.2 + (s - x.2) * dq (T (pl + 1)) then cF 6 x.1 else (1, pl + 2, x.2 + (s - x.2) * dq (T (pl + 1)), r)) else cF 1 pl)
        by_cases a : T pl = 44
        · rw [if_pos a]; exact nzp_mk (by decide) (by omega) hs'
        · rw [if_neg a]
          by_cases b : T pl = 41
          · rw [if_pos b]
            by_cases d : dq (T (pl + 1)) < 2
            · rw [if_pos d]; exact nzp_F (by decide) (by omega)
            · rw [if_neg d]
              by_cases e : 40 < x.2 + (s - x.2) * dq (T (pl + 1))
              · rw [if_pos e]; exact nzp_F (by decide) hx
              · rw [if_neg e]; exact nzp_mk (by decide) (by omega) hr
          · rw [if_neg b]; exact nzp_F (by decide) h0'
    · have e : stp T len (t, pl, s, st) = (t, pl, s, st) := by
        unfold stp
        rw [if_neg c0, if_neg c1]
      rw [e]; exact h
theorem nzp_I {T : Int → Int} {len : Int} : ∀ (n : Nat) {c : Cf}, nzp c → nzp (gO T len n c) := by
  intro n
  induction n with
  | zero => intro c h; exact h
  | succ n ih => intro c h; exact ih (nzp_st h)
theorem To_neg {T : Int → Int} {len f : Int} (h : To T len (0, 0, 0, []) (2, f, 0, [])) : f < 0 := by
  obtain ⟨n, hn⟩ := h
  have h1 := nzp_I (T := T) (len := len) n (c := (0, 0, 0, [])) (nzp_mk (by decide) (Int.le_refl _) (fun q hq => by cases hq))
  rw [hn] at h1
  rcases h1 with h1 | h1
  · exact h1.2
  · exact absurd rfl h1.1
def rpu (D : Dn) (b u : Nat) : Dn := fun i => if u ≤ i then D (b + (i - b) % (u - b)) else D i
theorem rp1_u {D : Dn} {b u w i : Nat} (h : i < w) : rp1z D b u w i = rpu D b u i := by
  show (if u ≤ i ∧ i < w then _ else _) = (if u ≤ i then _ else _)
  by_cases c : u ≤ i
  · rw [if_pos ⟨c, h⟩, if_pos c]
  · rw [if_neg (fun z => c z.1), if_neg c]
theorem rpu_at {D : Dn} {b u k r s : Nat} (hr : r < u - b) (hs : s = b + ((u - b) * k + r)) (hk : u ≤ s) : rpu D b u s = D (b + r) := by
  show (if u ≤ s then _ else _) = _
  rw [if_pos hk, hs, Nat.add_sub_cancel_left, Nat.mul_add_mod, Nat.mod_eq_of_lt hr]
abbrev RJ (M : qM) (D : Dn) (b u : Nat) : Prop := ∀ i, i < sJ M → ((M 54 i).toInt, (M 55 i).toInt) = rpu D b u i
abbrev Qrp (M1 : qM) (D : Dn) (b u t : Nat) (v : Int32) (m : qM) : Prop := v.toInt ≠ 0 → sJ m = b + (u - b) * t ∧ RJ m D b u ∧ (∀ c, c < 53 → m c = M1 c)
theorem z_rep17 {n b u t : Nat} {D : Dn} {M1 : qM} (hbu : b ≤ u) (hu : u ≤ 40) {K8 : Int32 → Int32 → Int32 → Int32 → qM → qR} (hK : ∀ (k : Nat) (a1 a2 a3 a4 : Int32) (M : qM), G M → a1.toInt = (b : Int) → a2.toInt = (t : Int) → a3.toInt = (u : Int) → a4.toInt = (k : Int) → 1 ≤ k → k ≤ t → sJ M = b + (u - b) * k → RJ M D b u → (∀ c, c < 53 → M c = M1 c) → qP (K8 a1 a2 a3 a4 M) (Qrp M1 D b u t)) : ∀ (m k at' : Nat) (a1 a2 a3 a4 a5 : Int32) (M : qM), G M → a1.toInt = (b : Int) → a2.toInt = (t : Int) → a3.toInt = (u : Int) → a4.toInt = (k : Int) → a5.toInt = (at' : Int) → 1 ≤ k → k < t → t ≤ 9 → b ≤ at' → at' ≤ u → sJ M = b + ((u - b) * k + (at' - b)) → RJ M D b u → (∀ c, c < 53 → M c = M1 c) → qP (f_X6_repeatSteps_17 n K8 m a1 a2 a3 a4 a5 M) (Qrp M1 D b u t) := by
  intro m
  induction m with
  | zero => intro k at' a1 a2 a3 a4 a5 M _ _ _ _ _ _ _ _ _ _ _ _ _ _; exact P_none
  | succ m ih =>
    intro k at' a1 a2 a3 a4 a5 M hG h1 h2 h3 h4 h5 hk hkt ht hb hau hs hR hf
    have h533 := r_53_3 hG
    have hsj : sJ M = (M 53 3).toInt.toNat := rfl
    show qP (b_X6_repeatSteps_17 n K8 (f_X6_repeatSteps_17 n K8 m) a1 a2 a3 a4 a5 M) _
    unfold b_X6_repeatSteps_17
    refine P_le rfl rfl (fun c => ?_) (fun c => ?_)
    · refine P_ql (i_add rfl l_1 (by omega) (by omega)) (fun x hx => ?_)
      have e : at' = u := by omega
      subst e
      refine hK (k + 1) a1 a2 a3 x M hG h1 h2 h3 (by omega) (by omega) (by omega) ?_ hR hf
      rw [hs, Nat.mul_add, Nat.mul_one]
    · have ea : a5.toNatClampNeg = at' := by rw [tnc, h5]; rfl
      have hlt : at' < u := by omega
      refine P_qg (fun _ _ => P_qg (fun _ _ => ?_))
      rw [ea]
      refine P_qc (P_and (z_add (M 54 at') (M 55 at') M hG) (P_T (u_add (M0 := M) (M 54 at') (M 55 at') M hG Sm.rf))) ?_
      rintro r m3 ⟨hz, _, _, g3, _⟩
      refine P_eq rfl l_0 (fun d => P_ret (fun z => absurd l_0 z)) (fun d => ?_)
      obtain ⟨q1, q2, q3, q4, q5, q6⟩ := hz d
      refine P_ql (i_add rfl l_1 (by omega) (by omega)) (fun x hx => ?_)
      have es : sJ m3 = sJ M + 1 := by show (m3 53 3).toInt.toNat = (M 53 3).toInt.toNat + 1; rw [q2]; omega
      have hm1 : u - b ≤ (u - b) * k := Nat.le_mul_of_pos_right _ (by omega)
      refine ih k (at' + 1) a1 a2 a3 a4 x m3 g3 h1 h2 h3 h4 (by omega) hk hkt ht (by omega) (by omega) (by rw [es, hs]; omega) (fun i hi => ?_) (fun c hc => by rw [q6 c hc]; exact hf c hc)
      by_cases e : i = sJ M
      · rw [e, q3, q4, rpu_at (k := k) (r := at' - b) (by omega) hs (by omega), show b + (at' - b) = at' by omega]
        have hq := hR at' (by rw [hs]; omega)
        rw [hq]
        show (if u ≤ at' then _ else _) = _
        rw [if_neg (by omega)]
      · rw [(q5 i e).1, (q5 i e).2]
        exact hR i (by omega)
theorem z_rep8 {n b u t : Nat} {D : Dn} {M1 : qM} (hbu : b ≤ u) (hu : u ≤ 40) (ht : t ≤ 9) : ∀ (m k : Nat) (a1 a2 a3 a4 : Int32) (M : qM), G M → a1.toInt = (b : Int) → a2.toInt = (t : Int) → a3.toInt = (u : Int) → a4.toInt = (k : Int) → 1 ≤ k → k ≤ t → sJ M = b + (u - b) * k → RJ M D b u → (∀ c, c < 53 → M c = M1 c) → qP (f_X6_repeatSteps_8 n m a1 a2 a3 a4 M) (Qrp M1 D b u t) := by
  intro m
  induction m with
  | zero => intro k a1 a2 a3 a4 M _ _ _ _ _ _ _ _ _ _; exact P_none
  | succ m ih =>
    intro k a1 a2 a3 a4 M hG h1 h2 h3 h4 hk hkt hs hR hf
    show qP (b_X6_repeatSteps_8 n (f_X6_repeatSteps_8 n m) a1 a2 a3 a4 M) _
    unfold b_X6_repeatSteps_8
    refine P_le rfl rfl (fun c => P_ret (fun _ => ?_)) (fun c => ?_)
    · have e : k = t := by omega
      rw [e] at hs
      exact ⟨hs, hR, hf⟩
    · exact z_rep17 hbu hu ih n k b a1 a2 a3 a4 a1 M hG h1 h2 h3 h4 h1 hk (by omega) ht (Nat.le_refl _) hbu (by rw [hs]; omega) hR hf
theorem z_rep {n b t : Nat} {D : Dn} (a1 a2 : Int32) (M : qM) (hG : G M) (h1 : a1.toInt = (b : Int)) (h2 : a2.toInt = (t : Int)) (hb : b ≤ sJ M) (ht : 2 ≤ t ∧ t ≤ 9) (hD : CJ M D) : qP (f_X6_repeatSteps n a1 a2 M) (Qrp M D b (sJ M) t) := by
  have h533 := r_53_3 hG
  unfold f_X6_repeatSteps
  refine P_ql rfl (fun x hx => ?_)
  refine z_rep8 hb (by show (M 53 3).toInt.toNat ≤ 40; omega) ht.2 n 1 a1 a2 x 1 M hG h1 h2 (by rw [hx]; show _ = ((M 53 3).toInt.toNat : Int); omega) l_1 (Nat.le_refl _) (by omega) (by rw [Nat.mul_one]; omega) (fun i hi => ?_) (fun _ _ => rfl)
  show _ = (if sJ M ≤ i then _ else D i)
  rw [if_neg (by omega)]
  exact hD i (by have : i < (M 53 3).toInt.toNat := hi; omega)
theorem CJ_1 {M m : qM} {D : Dn} (h : CJ M D) (e : ∀ c, c ≠ 1 → m c = M c) : CJ m D ∧ sJ m = sJ M := by
  refine ⟨fun i hi => ?_, by show (m 53 3).toInt.toNat = _; rw [e 53 (by decide)]⟩
  rw [e 54 (by decide), e 55 (by decide)]
  rw [e 53 (by decide)] at hi
  exact h i hi
theorem z_step {n : Nat} (hn : 200000 ≤ n) {R : Nat → Int32} {len : Int} (hl : len ≤ 80) {F : Int32 → qM → qR} {B : Nat}
    (hO : ∀ (a1 : Int32) (M : qM) (st : List (Int × Int)), G M → Sm lP M M → Cx R len M → (M 1 3).toInt ≤ len → (st.length : Int) = a1.toInt → 0 ≤ a1.toInt ∧ a1.toInt ≤ 3 → 2 * (3 - a1.toInt) + 1 < (B : Int) → qT (F a1 M) (fun v m => Pw2 R len (0, (M 1 3).toInt, (M 53 3).toInt, st) (M 1 3).toInt (M 53 3).toInt st M v m ∧ (v.toInt = 0 ∨ tq R len (m 1 3).toInt ≠ 44)))
    (hF : ∀ (a1 : Int32) (M : qM) (D : Dn) (st : List Nat), G M → Cx R len M → (M 1 3).toInt ≤ len → (st.length : Int) = a1.toInt → 0 ≤ a1.toInt ∧ a1.toInt ≤ 3 → 2 * (3 - a1.toInt) + 1 < (B : Int) → CJ M D → qP (F a1 M) (PZ (tq R len) len (0, (M 1 3).toInt, sJ M, D, st) st))
    (a1 : Int32) (M : qM) (D : Dn) (st : List Nat) (hG : G M) (hC : Cx R len M) (h3 : (M 1 3).toInt ≤ len) (hst : (st.length : Int) = a1.toInt) (ha : 0 ≤ a1.toInt ∧ a1.toInt ≤ 3) (hB : 2 * (3 - a1.toInt) < (B : Int) + 1) (hD : CJ M D) : qP (fo_X6_readStep n F a1 M) (PZ (tq R len) len (0, (M 1 3).toInt, sJ M, D, st) st) := by
  have h13 := r_1_3 hG
  have h12 := r_1_2 hG
  have h53 := r_53_3 hG
  have hlen := hC.2
  have ht0 := tq_r R len (M 1 3).toInt
  unfold fo_X6_readStep
  refine P_qc (P_T (u_sign hn M hG)) ?_
  rintro r1 m2 ⟨rfl, hr1⟩
  rw [hC.1, hC.2] at hr1
  refine P_eq rfl l_40 (fun c => ?_) (fun c => ?_)
  · refine P_ql rfl (fun x3 hx3 => P_ql rfl (fun x4 hx4 => ?_))
    refine P_lt rfl l_3 (fun d => ?_) (fun d => P_qc (z_fails 5 x3 m2) (fun r m h => P_qb (P_ret (fun z => absurd h z))))
    have ep : (m2 1 3 + 1).toInt = (m2 1 3).toInt + 1 := i_add rfl l_1 (by omega) (by omega)
    refine P_g hG (i_rng (lo := 0) (hi := 240) ep (by omega) (by omega)) (nw_1 _) ?_
    intro m5 y1 y2 y3 g5
    have e5 : (m5 1 3).toInt = (m2 1 3).toInt + 1 := by rw [y1]; exact ep
    have ea : (a1 + 1).toInt = a1.toInt + 1 := i_add rfl l_1 (by omega) (by omega)
    have hC5 : Cx R len m5 := ⟨by rw [y3 2 (by decide)]; exact hC.1, by rw [y2 2 (by decide)]; exact hC.2⟩
    obtain ⟨hD5, es5⟩ := CJ_1 hD y3
    have e53 : m5 53 = m2 53 := y3 53 (by decide)
    have hstep : Eo (tq R len) len (0, (m2 1 3).toInt, sJ m2, D, st) (0, (m5 1 3).toInt, sJ m5, D, sJ m2 :: st) := by
      refine Eo_st ?_
      rw [es_A]
      unfold eA
      rw [if_pos (by omega), if_neg (by omega), e5, es5]
    refine P_qc (P_and (hF (a1 + 1) m5 D (sJ m2 :: st) g5 hC5 (by omega) (by rw [List.length_cons, ea]; omega) (by omega) (by omega) hD5) (P_T (hO (a1 + 1) m5 (List.replicate (st.length + 1) (0, 0)) g5 Sm.rf hC5 (by omega) (by rw [List.length_replicate, ea]; omega) (by omega) (by omega)))) ?_
    rintro r6 m7 ⟨hz7, ⟨⟨hC7, g7, _⟩, ho⟩, hne⟩
    refine P_eq rfl l_0 (fun e => P_ret (fun z => absurd l_0 z)) (fun e => ?_)
    obtain ⟨D7, way7, hD7⟩ := hz7 e
    obtain ⟨_, _, q3, q4, q5⟩ := ho.resolve_left (fun q => e q.1)
    clear ho
    have h137 := r_1_3 g7
    have h537 := r_53_3 g7
    have hlen7 := hC7.2
    refine P_qc (P_T (u_must hn (M0 := m7) (41 : Int32) m7 g7 Sm.rf (by decide))) ?_
    rintro r8 m9 ⟨ho9, z2, z3, g9, _⟩
    rw [hC7.1, hC7.2, l_41] at ho9
    refine P_eq rfl l_0 (fun f => P_ret (fun z => absurd l_0 z)) (fun f => ?_)
    have e9 : (m9 1 3).toInt = (m7 1 3).toInt + 1 := by omega
    have hT7 : tq R len (m7 1 3).toInt = 41 := by omega
    have hC9 : Cx R len m9 := ⟨by rw [z3 2 (by decide)]; exact hC7.1, by rw [z2 2 (by decide) (by decide)]; exact hC7.2⟩
    obtain ⟨hD9, es9⟩ := CJ_1 hD7 z3
    refine P_qc (P_T (u_digit hn m9 g9)) ?_
    rintro r10 m11 ⟨rfl, hr10⟩
    rw [hC9.1, hC9.2, e9] at hr10
    have hd1 := dq_r (tq R len ((m7 1 3).toInt + 1))
    have ht1 := tq_r R len ((m7 1 3).toInt + 1)
    refine P_le l_2 rfl (fun f2 => ?_) (fun f2 => P_qc (z_fails 1 (m11 1 3) m11) (fun r m h => P_qb (P_ret (fun z => absurd h z))))
    have h139 := r_1_3 g9
    have h129 := r_1_2 g9
    have hl9 := hC9.2
    have ep9 : (m11 1 3 + 1).toInt = (m11 1 3).toInt + 1 := i_add rfl l_1 (by omega) (by omega)
    refine P_g g9 (i_rng (lo := 0) (hi := 240) ep9 (by omega) (by omega)) (nw_1 _) ?_
    intro m12 v1 v2 v3 g12
    obtain ⟨hD12, es12⟩ := CJ_1 hD9 v3
    have e12 : (m12 1 3).toInt = (m7 1 3).toInt + 2 := by rw [v1]; omega
    have hb : sJ m2 ≤ sJ m12 := by
      rw [es12, es9]
      show (m2 53 3).toInt.toNat ≤ (m7 53 3).toInt.toNat
      rw [e53] at q5
      omega
    have hbi : x4.toInt = ((sJ m2 : Nat) : Int) := by rw [hx4]; show _ = ((m2 53 3).toInt.toNat : Int); omega
    have hti : r10.toInt = ((r10.toInt.toNat : Nat) : Int) := by omega
    refine P_qc (P_and (z_rep (b := sJ m2) (t := r10.toInt.toNat) x4 r10 m12 g12 hbi hti hb (by omega) hD12) (P_T (u_rep hn (M0 := m12) (b := x4.toInt) (t := r10.toInt) x4 r10 m12 g12 Sm.rf rfl rfl (by rw [hx4, v3 53 (by decide), z3 53 (by decide)]; rw [e53] at q5; omega) (by omega)))) ?_
    rintro r13 m14 ⟨hz14, _, _, g14, _⟩
    refine P_eq rfl l_0 (fun f3 => ?_) (fun f3 => ?_)
    · refine P_qc (z_fails 6 x3 m14) ?_
      intro r15 m16 h15
      exact P_eq rfl l_0 (fun _ => P_ret (fun z => absurd l_0 z)) (fun w => absurd h15 w)
    · obtain ⟨x1, x2, x3'⟩ := hz14 f3
      have h5314 := r_53_3 g14
      have e14 : (m14 1 3).toInt = (m7 1 3).toInt + 2 := by rw [x3' 1 (by decide)]; exact e12
      have e7s : sJ m12 = sJ m7 := by rw [es12, es9]
      rw [e7s] at x1 x2
      refine P_ret (fun _ => ⟨rp1z D7 (sJ m2) (sJ m7) (sJ m2 + (sJ m7 - sJ m2) * r10.toInt.toNat), Eo_tr hstep (Eo_tr way7 (Eo_st ?_)), fun i hi => ?_⟩)
      · rw [es_B, eB_c, if_neg (by omega), if_pos hT7, if_neg (by omega), ← hr10, if_neg (by rw [← x1]; show ¬ 40 < (m14 53 3).toInt.toNat; omega), e14, x1]
      · have hi2 : i < sJ m14 := by show i < (m14 53 3).toInt.toNat; omega
        rw [x2 i hi2, rp1_u (by rw [← x1]; exact hi2)]
  · refine P_qc (z_try hn (st := st) m2 hG hC hD (by omega)) ?_
    intro r21 m22 h
    exact P_qb (P_ret h)
theorem z_steps8 {n : Nat} (hn : 200000 ≤ n) {R : Nat → Int32} {len : Int} (hl : len ≤ 80) {st : List Nat} {c0 : Ce} {F : Int32 → qM → qR} (a1 : Int32)
    (hO : ∀ (M : qM), G M → Cx R len M → (M 1 3).toInt ≤ len → qP (F a1 M) (fun v m => (Cx R len m ∧ G m) ∧ (v.toInt = 0 ∨ (m 1 3).toInt ≤ len)))
    (hF : ∀ (M : qM) (D : Dn), G M → Cx R len M → (M 1 3).toInt ≤ len → CJ M D → qP (F a1 M) (PZ (tq R len) len (0, (M 1 3).toInt, sJ M, D, st) st)) :
    ∀ (m : Nat) (a2 a3 : Int32) (M : qM), G M → Cx R len M → (a2.toInt = 0 ∨ (M 1 3).toInt ≤ len) → PZ (tq R len) len c0 st a2 M → 0 ≤ a3.toInt → qP (f_X6_readSteps_8 n F m a1 a2 a3 M) (PZ (tq R len) len c0 st) := by
  intro m
  induction m with
  | zero => intro a2 a3 M _ _ _ _ _; exact P_none
  | succ m ih =>
    intro a2 a3 M hG hC hle hP ha3
    have h13 := r_1_3 hG
    show qP (b_X6_readSteps_8 n F (f_X6_readSteps_8 n F m) a1 a2 a3 M) _
    unfold b_X6_readSteps_8
    refine P_le l_80 rfl (fun c => P_qb (P_ret hP)) (fun c => ?_)
    refine P_eq rfl l_0 (fun d => P_qb (P_ret hP)) (fun d => ?_)
    obtain ⟨D, way, hD⟩ := hP d
    refine P_qc (P_T (u_takes hn (M0 := M) (44 : Int32) M hG Sm.rf (by decide))) ?_
    rintro r1 m2 ⟨ho2, z2, z3, g2, _⟩
    rw [hC.1, hC.2, l_44] at ho2
    have hC2 : Cx R len m2 := ⟨by rw [z3 2 (by decide)]; exact hC.1, by rw [z2 2 (by decide)]; exact hC.2⟩
    obtain ⟨hD2, es2⟩ := CJ_1 hD z3
    refine P_eq rfl l_0 (fun e => P_ret (fun _ => ⟨D, ?_, hD2⟩)) (fun e => ?_)
    · have e3 : (m2 1 3).toInt = (M 1 3).toInt := by omega
      rw [e3, es2]; exact way
    · have e3 : (m2 1 3).toInt = (M 1 3).toInt + 1 := by omega
      have hst : Eo (tq R len) len c0 (0, (m2 1 3).toInt, sJ m2, D, st) := by
        refine Eo_tr way (Eo_st ?_)
        rw [es_B, eB_44 (by omega), e3, es2]
      refine P_qc (P_and (hF m2 D g2 hC2 (by omega) hD2) (hO m2 g2 hC2 (by omega))) ?_
      rintro r3 m4 ⟨hz, ⟨hC4, g4⟩, hle4⟩
      refine P_ql (i_add rfl l_1 (by omega) (by omega)) (fun x hx => ?_)
      exact ih r3 x m4 g4 hC4 hle4 (fun z => by obtain ⟨D4, w4, h4⟩ := hz z; exact ⟨D4, Eo_tr hst w4, h4⟩) (by omega)
theorem z_rc {n : Nat} (hn : 200000 ≤ n) {R : Nat → Int32} {len : Int} (hl : len ≤ 80) : ∀ m : Nat,
    (∀ (a1 : Int32) (M : qM) (D : Dn) (st : List Nat), G M → Cx R len M → (M 1 3).toInt ≤ len → (st.length : Int) = a1.toInt → 0 ≤ a1.toInt ∧ a1.toInt ≤ 3 → 2 * (3 - a1.toInt) < (m : Int) → CJ M D → qP (rc_X6_readStep n m 0 a1 M) (PZ (tq R len) len (0, (M 1 3).toInt, sJ M, D, st) st)) ∧
    (∀ (a1 : Int32) (M : qM) (D : Dn) (st : List Nat), G M → Cx R len M → (M 1 3).toInt ≤ len → (st.length : Int) = a1.toInt → 0 ≤ a1.toInt ∧ a1.toInt ≤ 3 → 2 * (3 - a1.toInt) + 1 < (m : Int) → CJ M D → qP (rc_X6_readStep n m 1 a1 M) (PZ (tq R len) len (0, (M 1 3).toInt, sJ M, D, st) st)) := by
  intro m
  induction m with
  | zero => exact ⟨fun a1 M D st _ _ _ _ _ h => by exfalso; omega, fun a1 M D st _ _ _ _ _ h => by exfalso; omega⟩
  | succ m ih =>
    refine ⟨fun a1 M D st hG hC h3 hst ha hm hD => ?_, fun a1 M D st hG hC h3 hst ha hm hD => ?_⟩
    · show qP (fo_X6_readStep n (rc_X6_readStep n m 1) a1 M) _
      exact z_step hn hl (B := m) (fun a1 M st g s c h1 h2 h3 h4 => (u_rc hn (M0 := M) hl m).2 a1 M st g s c h1 h2 h3 h4) ih.2 a1 M D st hG hC h3 hst ha (by omega) hD
    · show qP (fo_X6_readSteps n (rc_X6_readStep n m 0) a1 M) _
      have old : ∀ M : qM, G M → Cx R len M → (M 1 3).toInt ≤ len → qP (rc_X6_readStep n m 0 a1 M) (fun v m => (Cx R len m ∧ G m) ∧ (v.toInt = 0 ∨ (m 1 3).toInt ≤ len)) := by
        intro M g c h
        refine P_mono (P_T ((u_rc hn (M0 := M) hl m).1 a1 M (List.replicate st.length (0, 0)) g Sm.rf c h (by rw [List.length_replicate]; exact hst) ha (by omega))) (fun v m h => ?_)
        obtain ⟨⟨c2, g2, _⟩, ho⟩ := h
        refine ⟨⟨c2, g2⟩, ?_⟩
        rcases ho with q | q
        · exact Or.inl q.1
        · exact Or.inr q.2.2.2.1
      unfold fo_X6_readSteps
      refine P_qc (P_and (ih.1 a1 M D st hG hC h3 hst ha (by omega) hD) (old M hG hC h3)) ?_
      rintro r1 m2 ⟨hz, ⟨hC2, g2⟩, hle⟩
      exact z_steps8 hn hl a1 old (fun M D g c h hD => ih.1 a1 M D st g c h hst ha (by omega) hD) n r1 0 m2 g2 hC2 hle hz (by rw [l_0]; omega)
/-- the Java side's reader: the steps that it holds are what the small machine comes to -/
theorem z_read {n : Nat} (hn : 200000 ≤ n) (a1 : Int32) (M : qM) (hG : G M) (ha : 1 ≤ a1.toInt ∧ a1.toInt ≤ 80) (hs : a1.toInt ≤ (M 1 1).toInt) : qP (f_X6_read n a1 M) (fun v m => 0 < v.toInt → ∃ p D, Eo (tq (M 2) a1.toInt) a1.toInt (0, 0, 0, fun _ => (0, 0), []) (3, p, sJ m, D, []) ∧ CJ m D ∧ v = m 53 3) := by
  have h11 := r_1_1 hG
  have hmin := i_min (a := a1) (b := M 1 1) rfl rfl
  unfold f_X6_read
  refine P_qc (P_T (u_open a1 M hG (by omega))) ?_
  rintro _ m1 ⟨b1, b2, b3, b4, g1⟩
  refine P_g g1 (i_rng (lo := 0) (hi := 40) l_0 (by omega) (by omega)) (nw_53 _) ?_
  intro m4 c1 c2 c3 g4
  have p3 : (m4 1 3).toInt = 0 := by rw [c3 1 (by decide)]; exact b1
  have p2 : (m4 1 2).toInt = a1.toInt := by rw [c3 1 (by decide), b2]; omega
  have pR : m4 2 = M 2 := by rw [c3 2 (by decide), b4 2 (by decide)]
  have p53 : (m4 53 3).toInt = 0 := by rw [c1]; rfl
  have hC4 : Cx (M 2) a1.toInt m4 := ⟨pR, p2⟩
  have hD4 : CJ m4 (fun _ => (0, 0)) := fun i hi => by rw [p53] at hi; omega
  have s4 : sJ m4 = 0 := by show (m4 53 3).toInt.toNat = 0; rw [p53]; rfl
  unfold f_X6_readSteps
  refine P_qc (P_and ((z_rc hn (R := M 2) (len := a1.toInt) (by omega) 14).2 0 m4 (fun _ => (0, 0)) [] g4 hC4 (by omega) (by rw [l_0]; rfl) (by rw [l_0]; omega) (by rw [l_0]; omega) hD4) (P_T ((u_rc hn (M0 := m4) (R := M 2) (len := a1.toInt) (by omega) 14).2 0 m4 [] g4 Sm.rf hC4 (by omega) (by rw [l_0]; rfl) (by rw [l_0]; omega) (by rw [l_0]; omega)))) ?_
  rw [p3, p53, s4]
  rintro r5 m6 ⟨hz, ⟨⟨hC6, g6, _⟩, ho⟩, hne⟩
  have hlen6 := hC6.2
  refine P_eq rfl l_0 (fun c => P_ret (fun z => ?_)) (fun c => ?_)
  · exfalso
    rcases ho with ⟨q1, q2⟩ | ⟨q1, q2⟩
    · have := To_neg q2; omega
    · omega
  · obtain ⟨D, way, hD⟩ := hz c
    obtain ⟨q1, q2, q3, q4, q5⟩ := ho.resolve_left (fun q => c q.1)
    have q6 := hne.resolve_left c
    clear ho hne
    refine P_qc (P_T (u_end m6 g6)) ?_
    rintro r7 m8 ⟨ho8, f8, g8⟩
    refine P_eq rfl l_0 (fun d => P_ret (fun z => ?_)) (fun d => P_ret (fun _ => ?_))
    · exfalso; omega
    · obtain ⟨hD8, es8⟩ := CJ_1 hD f8
      refine ⟨(m6 1 3).toInt, D, Eo_tr way (Eo_st ?_), hD8, rfl⟩
      rw [es_B, eB_n, if_neg q6, if_pos (by omega), es8]
/-! the model's side: contents of plans -/
theorem Eo_pos {T : Int → Int} {len : Int} {c : Ce} : ∀ (n : Nat) {c d : Ce}, ((c.1 = 1 ∨ c.1 = 3) → 1 ≤ c.2.2.1) → eI T len n c = some d → (d.1 = 1 ∨ d.1 = 3) → 1 ≤ d.2.2.1 := by
  intro n
  induction n with
  | zero => intro c d h e; have h2 : some c = some d := e; cases h2; exact h
  | succ n ih =>
    intro c d h e
    cases es : eS T len c with
    | none =>
      have h2 : (match eS T len c with | none => none | some d => eI T len n d) = some d := e
      rw [es] at h2
      cases h2
    | some x =>
      rw [eI_s es] at e
      refine ih ?_ e
      obtain ⟨t, pl, s, D, st⟩ := c
      intro hx
      by_cases c0 : t = 0
      · subst c0
        rw [es_A] at es
        unfold eA eE at es
        repeat' split at es
        all_goals first | (cases es; done) | (injection es with es; subst es; first | exact Nat.le_add_left 1 _ | (exfalso; rcases hx with z | z; (have z2 : (0 : Nat) = 1 := z; omega); (have z2 : (0 : Nat) = 3 := z; omega)))
      · by_cases c1 : t = 1
        · subst c1
          have hs : 1 ≤ s := h (Or.inl rfl)
          rw [es_B] at es
          cases st with
          | nil =>
            rw [eB_n] at es
            repeat' split at es
            all_goals first | (cases es; done) | (injection es with es; subst es; exact hs)
          | cons b r =>
            rw [eB_c] at es
            by_cases d1 : T pl = 44
            · rw [if_pos d1] at es; injection es with es; subst es; exact hs
            · rw [if_neg d1] at es
              by_cases d2 : T pl = 41
              · rw [if_pos d2] at es
                by_cases d3 : dq (T (pl + 1)) < 2
                · rw [if_pos d3] at es; cases es
                · rw [if_neg d3] at es
                  by_cases d4 : 40 < b + (s - b) * (dq (T (pl + 1))).toNat
                  · rw [if_pos d4] at es; cases es
                  · rw [if_neg d4] at es
                    injection es with es
                    subst es
                    have : (s - b) * 1 ≤ (s - b) * (dq (T (pl + 1))).toNat := Nat.mul_le_mul_left _ (by omega)
                    show 1 ≤ b + (s - b) * (dq (T (pl + 1))).toNat
                    omega
              · rw [if_neg d2] at es; cases es
        · have e2 : eS T len (t, pl, s, D, st) = some (t, pl, s, D, st) := by
            unfold eS
            rw [if_neg c0, if_neg c1]
          rw [e2] at es
          injection es with es
          subst es
          exact h hx
theorem Eo_ps {T : Int → Int} {len p : Int} {s : Nat} {D D0 : Dn} {st : List Nat} (h : Eo T len (0, 0, 0, D0, []) (3, p, s, D, st)) : 1 ≤ s := by
  obtain ⟨n, hn⟩ := h
  refine Eo_pos (c := (0, 0, 0, D0, [])) n (fun z => ?_) hn (Or.inr rfl)
  rcases z with z | z
  · have z2 : (0 : Nat) = 1 := z
    omega
  · have z2 : (0 : Nat) = 3 := z
    omega
abbrev CM (m : qM) (D : Dn) : Prop := ∀ i : Nat, (i : Int) < (m 77 35).toInt → ((m 98 i).toInt, (m 99 i).toInt) = D i
abbrev sM (m : qM) : Nat := (m 77 35).toInt.toNat
def skN (f : Nat → Int32) : Nat → List Nat
  | 0 => []
  | k + 1 => (f k).toInt.toNat :: skN f k
theorem skN_cg {f g : Nat → Int32} : ∀ {k : Nat}, (∀ i, i < k → g i = f i) → skN g k = skN f k := by
  intro k
  induction k with
  | zero => intro _; rfl
  | succ k ih =>
    intro h
    show (g k).toInt.toNat :: skN g k = (f k).toInt.toNat :: skN f k
    rw [h k (by omega), ih (fun i hi => h i (by omega))]
theorem skN_len {f : Nat → Int32} : ∀ k : Nat, (skN f k).length = k := by
  intro k
  induction k with
  | zero => rfl
  | succ k ih => show (_ :: skN f k).length = _; rw [List.length_cons, ih]
abbrev rM (m : qM) : List Nat := skN (m 101) (m 77 36).toInt.toNat
theorem rpu_s {D : Dn} {b u k : Nat} (h0 : b < u) (h : u - b ≤ k) : rpu D b u (b + k - (u - b)) = rpu D b u (b + k) := by
  have e1 : rpu D b u (b + k) = D (b + k % (u - b)) := by
    show (if u ≤ b + k then _ else _) = _
    rw [if_pos (by omega), Nat.add_sub_cancel_left]
  rw [e1, Nat.mod_eq_sub_mod h]
  show (if u ≤ b + k - (u - b) then _ else _) = _
  by_cases c : u ≤ b + k - (u - b)
  · rw [if_pos c, show b + k - (u - b) - b = k - (u - b) by omega]
  · rw [if_neg c, Nat.mod_eq_of_lt (by omega), show b + (k - (u - b)) = b + k - (u - b) by omega]
theorem q_rep {n b u t : Nat} {D : Dn} {M1 : qM} (hbu0 : b ≤ u) (h40 : b + (u - b) * t ≤ 40) (ht : t ≤ 9) : ∀ (m k : Nat) (a1 a2 a3 a4 : Int32) (M : qM), G M → a1.toInt = (t : Int) → a2.toInt = (b : Int) → a3.toInt = ((u - b : Nat) : Int) → a4.toInt = (k : Int) → u - b ≤ k → k ≤ (u - b) * t → (∀ i, i < b + k → ((M 98 i).toInt, (M 99 i).toInt) = rpu D b u i) → (∀ c, c ≠ 98 → c ≠ 99 → M c = M1 c) → qP (f_X12_endsRound_108 n m a1 a2 a3 a4 M) (fun v m => (m 77 35).toInt = ((b + (u - b) * t : Nat) : Int) ∧ (∀ i, i < b + (u - b) * t → ((m 98 i).toInt, (m 99 i).toInt) = rpu D b u i) ∧ (∀ s, s ≠ 35 → m 77 s = M1 77 s) ∧ (∀ c, c ≠ 77 → c ≠ 98 → c ≠ 99 → m c = M1 c) ∧ G m) := by
  intro m
  induction m with
  | zero => intro k a1 a2 a3 a4 M _ _ _ _ _ _ _ _ _; exact P_none
  | succ m ih =>
    intro k a1 a2 a3 a4 M hG h1 h2 h3 h4 hk hkt hR hf
    have hmul : (((u - b) * t : Nat) : Int) = ((u - b : Nat) : Int) * (t : Int) := Int.natCast_mul _ _
    have e31 : (a3 * a1).toInt = (((u - b) * t : Nat) : Int) := by rw [i_mul h3 h1 (by rw [← hmul]; omega) (by rw [← hmul]; omega), hmul]
    show qP (b_X12_endsRound_108 n (f_X12_endsRound_108 n m) a1 a2 a3 a4 M) _
    unfold b_X12_endsRound_108
    refine P_le e31 h4 (fun c => ?_) (fun c => ?_)
    · have ek : k = (u - b) * t := by omega
      have ev : (a2 + a3 * a1).toInt = ((b + (u - b) * t : Nat) : Int) := by rw [i_add h2 e31 (by omega) (by omega)]; omega
      refine P_g hG (i_rng (lo := 0) (hi := 40) ev (by omega) (by omega)) (by unfold nW; omega) ?_
      intro m1 y1 y2 y3 g1
      refine P_ret ⟨by rw [y1]; exact ev, fun i hi => ?_, fun s hs => by rw [y2 s hs, hf 77 (by decide) (by decide)], fun c q1 q2 q3 => by rw [y3 c q1]; exact hf c q2 q3, g1⟩
      rw [y3 98 (by decide), y3 99 (by decide)]
      exact hR i (by omega)
    · have hbu : b < u := by
        apply Classical.byContradiction
        intro q
        have z : u - b = 0 := by omega
        rw [z, Nat.zero_mul] at c
        omega
      have e24 : (a2 + a4).toInt = ((b + k : Nat) : Int) := by rw [i_add h2 h4 (by omega) (by omega)]; omega
      have e243 : (a2 + a4 - a3).toInt = ((b + k - (u - b) : Nat) : Int) := by rw [i_sub e24 h3 (by omega) (by omega)]; omega
      have n1 : (a2 + a4).toNatClampNeg = b + k := by rw [tnc, e24]; rfl
      have n2 : (a2 + a4 - a3).toNatClampNeg = b + k - (u - b) := by rw [tnc, e243]; rfl
      refine P_qg (fun _ _ => P_qg (fun _ _ => ?_))
      rw [n1, n2]
      refine P_g hG (rn_98 _ _) (nw_98 _) ?_
      intro m2 y1 y2 y3 g2
      refine P_qg (fun _ _ => P_qg (fun _ _ => ?_))
      refine P_g g2 (rn_99 _ _) (nw_99 _) ?_
      intro m3 z1 z2 z3 g3
      rw [y3 99 (by decide)] at z1 z2
      refine P_ql (i_add h4 l_1 (by omega) (by omega)) (fun x hx => ?_)
      refine ih (k + 1) a1 a2 a3 x m3 g3 h1 h2 h3 (by rw [hx]; omega) (by omega) (by omega) (fun i hi => ?_) (fun c q1 q2 => by rw [z3 c q2, y3 c q1]; exact hf c q1 q2)
      rw [z3 98 (by decide)]
      by_cases e : i = b + k
      · rw [e, y1, z1, ← rpu_s hbu hk]
        exact hR _ (by omega)
      · rw [y2 i e, z2 i e]
        exact hR i (by omega)
abbrev My (R : Nat → Int32) (len : Int) (M : qM) : Prop := M 84 = R ∧ (M 77 10).toInt = len ∧ KR M
abbrev QN (R : Nat → Int32) (len : Int) (c : Ce) (v : Int32) (m : qM) : Prop := v.toInt ≠ 0 → (∃ D', Eo (tm R len) len c (1, (m 77 9).toInt, sM m, D', rM m) ∧ CM m D') ∧ My R len m ∧ G m
theorem y_wrong {n : Nat} (a b : Int32) (M : qM) : qP (f_X12_wrongAt n a b M) (fun v _ => v.toInt = 0) := by
  unfold f_X12_wrongAt
  exact P_qlm (P_ret l_0)
theorem y_bad {n : Nat} {R : Nat → Int32} {len : Int} {c : Ce} (a b : Int32) (M : qM) : qP (qc (f_X12_wrongAt n a b M) (fun r m => qb r (some (r, m)))) (QN R len c) := P_qc (y_wrong a b M) (fun r m h => P_qb (P_ret (fun z => absurd h z)))
/-- a round ends -/
theorem q_ends {n : Nat} (hn : 200000 ≤ n) {R : Nat → Int32} {len : Int} {c : Ce} {D : Dn} (M : qM) (hG : G M) (hM : My R len M) (hT : tm R len (M 77 9).toInt = 41) (hk : 1 ≤ (M 77 36).toInt) (hE : Eo (tm R len) len c (1, (M 77 9).toInt, sM M, D, rM M)) (hD : CM M D) : qP (f_X12_endsRound n M) (QN R len c) := by
  obtain ⟨h84, h10, hKR⟩ := hM
  have h9 := r_77_9 hG
  have h1010 := r_77_10 hG
  have h36 := r_77_36 hG
  have h35 := r_77_35 hG
  have ht := tm_r R len (M 77 9).toInt
  have ep : (M 77 9 + 1).toInt = (M 77 9).toInt + 1 := i_add rfl l_1 (by omega) (by omega)
  unfold f_X12_endsRound
  refine P_g hG (i_rng (lo := 0) (hi := 240) ep (by omega) (by omega)) (by unfold nW; omega) ?_
  intro m1 y1 y2 y3 g1
  have e1 : (m1 77 9).toInt = (M 77 9).toInt + 1 := by rw [y1]; exact ep
  refine P_qc (P_T (v_here hn m1 g1)) ?_
  rintro r2 m3 ⟨rfl, hr2⟩
  rw [y3 84 (by decide), h84, y2 10 (by decide), h10, e1] at hr2
  have hd := dq_r (tm R len ((M 77 9).toInt + 1))
  have ht1 := tm_r R len ((M 77 9).toInt + 1)
  rw [in_eq, qc_v]
  refine P_if (fun c0 => y_bad 1 (m3 77 9) m3) (fun c0 => ?_)
  have hin : 50 ≤ r2.toInt ∧ r2.toInt ≤ 57 := by
    apply Classical.byContradiction
    intro q
    refine c0 (if_pos ?_)
    rw [Int32.lt_iff_toInt_lt, Int32.lt_iff_toInt_lt, l_50, l_57]
    omega
  refine P_qc (P_T (v_here hn m3 g1)) ?_
  rintro r6 m7 ⟨rfl, hr6⟩
  rw [y3 84 (by decide), h84, y2 10 (by decide), h10, e1] at hr6
  refine P_ql (i_sub rfl l_48 (by omega) (by omega)) (fun x8 hx8 => ?_)
  have hx8d : x8.toInt = dq (tm R len ((M 77 9).toInt + 1)) := by omega
  have ep2 : (m7 77 9 + 1).toInt = (M 77 9).toInt + 2 := by rw [i_add rfl l_1 (by omega) (by omega)]; omega
  refine P_g g1 (i_rng (lo := 0) (hi := 240) ep2 (by omega) (by omega)) (by unfold nW; omega) ?_
  intro m9 z1 z2 z3 g9
  have q36 : m9 77 36 = M 77 36 := by rw [z2 36 (by decide), y2 36 (by decide)]
  rw [q36]
  have e36 : (M 77 36 - 1).toInt = (M 77 36).toInt - 1 := i_sub rfl l_1 (by omega) (by omega)
  refine P_g g9 (i_rng (lo := 0) (hi := 3) e36 (by omega) (by omega)) (by unfold nW; omega) ?_
  intro m10 w1 w2 w3 g10
  have c101 : m10 101 = M 101 := by rw [w3 101 (by decide), z3 101 (by decide), y3 101 (by decide)]
  have c35 : m10 77 35 = M 77 35 := by rw [w2 35 (by decide), z2 35 (by decide), y2 35 (by decide)]
  have c9 : (m10 77 9).toInt = (M 77 9).toInt + 2 := by rw [w2 9 (by decide), z1]; exact ep2
  have c10 : m10 77 10 = M 77 10 := by rw [w2 10 (by decide), z2 10 (by decide), y2 10 (by decide)]
  have c98 : m10 98 = M 98 := by rw [w3 98 (by decide), z3 98 (by decide), y3 98 (by decide)]
  have c99 : m10 99 = M 99 := by rw [w3 99 (by decide), z3 99 (by decide), y3 99 (by decide)]
  have c84 : m10 84 = R := by rw [w3 84 (by decide), z3 84 (by decide), y3 84 (by decide)]; exact h84
  obtain ⟨k, hkk⟩ : ∃ k : Nat, (M 77 36).toInt = (k : Int) + 1 := ⟨((M 77 36).toInt - 1).toNat, by omega⟩
  have n36 : (m10 77 36).toNatClampNeg = k := by rw [w1, tnc, e36]; omega
  refine P_qg (fun _ _ => ?_)
  rw [n36, c101, c35]
  have h101 := r_101 hG k
  have hb := hKR k (by omega)
  refine P_ql rfl (fun x11 hx11 => P_ql (i_sub rfl rfl (by omega) (by omega)) (fun x12 hx12 => ?_))
  have hmk := i_mulk 9 (a := x12) (b := x8) rfl rfl (by omega) (by omega) (by omega) (by omega)
  have hmul : (x12 * x8).toInt = x12.toInt * x8.toInt := i_mul rfl rfl (by have := Int.mul_nonneg (show 0 ≤ x12.toInt by omega) (show 0 ≤ x8.toInt by omega); omega) (by have := Int.mul_le_mul_of_nonneg_left (show x8.toInt ≤ 9 by omega) (show 0 ≤ x12.toInt by omega); omega)
  refine P_le (i_add rfl rfl (by omega) (by omega)) l_40 (fun f => ?_) (fun f => P_qg (fun _ _ => y_bad 6 _ m10))
  have hbN : x11.toInt = ((x11.toInt.toNat : Nat) : Int) := by omega
  have hubN : x12.toInt = ((sM M - x11.toInt.toNat : Nat) : Int) := by show _ = (((M 77 35).toInt.toNat - x11.toInt.toNat : Nat) : Int); omega
  have htN : x8.toInt = ((x8.toInt.toNat : Nat) : Int) := by omega
  have hcast : (((sM M - x11.toInt.toNat) * x8.toInt.toNat : Nat) : Int) = x12.toInt * x8.toInt := by rw [Int.natCast_mul, ← hubN, ← htN]
  have h40 : x11.toInt.toNat + (sM M - x11.toInt.toNat) * x8.toInt.toNat ≤ 40 := by omega
  have hle : sM M - x11.toInt.toNat ≤ (sM M - x11.toInt.toNat) * x8.toInt.toNat := Nat.le_mul_of_pos_right _ (by omega)
  have hbu : x11.toInt.toNat ≤ sM M := by show _ ≤ (M 77 35).toInt.toNat; omega
  refine P_mono (q_rep (n := n) (D := D) (M1 := m10) hbu h40 (by omega) n (sM M - x11.toInt.toNat) x8 x11 x12 x12 m10 g10 htN hbN hubN hubN (Nat.le_refl _) hle (fun i hi => ?_) (fun _ _ _ => rfl)) (fun v m h z => ?_)
  · rw [c98, c99]
    show _ = (if sM M ≤ i then _ else D i)
    rw [if_neg (by omega)]
    exact hD i (by have : i < (M 77 35).toInt.toNat := by show i < sM M; omega
                   omega)
  · obtain ⟨d1, d2, d3, d4, d5⟩ := h
    have sm : sM m = x11.toInt.toNat + (sM M - x11.toInt.toNat) * x8.toInt.toNat := by show (m 77 35).toInt.toNat = _; rw [d1]; rfl
    have rm : rM M = x11.toInt.toNat :: rM m := by
      show skN (M 101) (M 77 36).toInt.toNat = _ :: skN (m 101) (m 77 36).toInt.toNat
      rw [d3 36 (by decide), w1, e36, d4 101 (by decide) (by decide) (by decide), c101, hkk, show ((k : Int) + 1).toNat = k + 1 by omega, show ((k : Int) + 1 - 1).toNat = k by omega, hx11]
      rfl
    refine ⟨⟨rp1z D x11.toInt.toNat (sM M) (x11.toInt.toNat + (sM M - x11.toInt.toNat) * x8.toInt.toNat), Eo_tr hE (Eo_st ?_), fun i hi => ?_⟩, ⟨by rw [d4 84 (by decide) (by decide) (by decide)]; exact c84, by rw [d3 10 (by decide), c10]; exact h10, fun i hi => ?_⟩, d5⟩
    · rw [es_B, rm, eB_c, if_neg (by omega), if_pos hT, if_neg (by omega), ← hx8d, if_neg (by omega), sm, d3 9 (by decide), c9]
    · have hi2 : i < x11.toInt.toNat + (sM M - x11.toInt.toNat) * x8.toInt.toNat := by rw [← sm]; show i < (m 77 35).toInt.toNat; omega
      rw [d2 i hi2, rp1_u hi2]
    · rw [d3 36 (by decide), w1, e36] at hi
      rw [d4 101 (by decide) (by decide) (by decide), c101, d1]
      have := hKR i (by omega)
      have : sM M = (M 77 35).toInt.toNat := rfl
      omega
theorem q_296 {n : Nat} (hn : 200000 ≤ n) {R : Nat → Int32} {len : Int} {c : Ce} : ∀ (m : Nat) (D : Dn) (M : qM), G M → My R len M → Eo (tm R len) len c (1, (M 77 9).toInt, sM M, D, rM M) → CM M D → qP (f_X12_readsStep_296 n m M) (QN R len c) := by
  intro m
  induction m with
  | zero => intro D M _ _ _ _; exact P_none
  | succ m ih =>
    intro D M hG hM hE hD
    show qP (b_X12_readsStep_296 n (f_X12_readsStep_296 n m) M) _
    unfold b_X12_readsStep_296
    refine P_qc (P_T (v_here hn M hG)) ?_
    rintro r1 m2 ⟨rfl, hr1⟩
    rw [hM.1, hM.2.1] at hr1
    refine P_eq rfl l_41 (fun d => ?_) (fun d => P_ret (fun _ => ⟨⟨D, hE, hD⟩, hM, hG⟩))
    refine P_le rfl l_0 (fun e => P_ret (fun _ => ⟨⟨D, hE, hD⟩, hM, hG⟩)) (fun e => ?_)
    refine P_qc (q_ends hn m2 hG hM (by omega) (by omega) hE hD) ?_
    intro r3 m4 h
    refine P_eq rfl l_0 (fun f => P_ret (fun z => absurd l_0 z)) (fun f => ?_)
    obtain ⟨⟨D4, w4, h4⟩, hM4, g4⟩ := h f
    exact ih D4 m4 g4 hM4 w4 h4
theorem q_246 {n : Nat} (hn : 200000 ≤ n) {R : Nat → Int32} {len : Int} {c : Ce} {D : Dn} (a1 a2 : Int32) (M : qM) (hG : G M) (hM : My R len M) (hD : CM M D) (hE : sM M < 40 → Eo (tm R len) len c (1, (M 77 9).toInt, sM M + 1, up1 D (sM M) ((M 77 12).toInt, a2.toInt), rM M)) : qP (f_X12_readsStep_246 n a1 a2 M) (QN R len c) := by
  have h35 := r_77_35 hG
  unfold f_X12_readsStep_246
  refine P_eq rfl l_40 (fun d => y_bad 6 a1 M) (fun d => P_qg (fun _ _ => ?_))
  refine P_g hG (rn_98 _ _) (nw_98 _) ?_
  intro m1 y1 y2 y3 g1
  rw [y3 77 (by decide)]
  refine P_qg (fun _ _ => P_g g1 (rn_99 _ _) (nw_99 _) ?_)
  intro m2 z1 z2 z3 g2
  rw [z3 77 (by decide), y3 77 (by decide)]
  have ep : (M 77 35 + 1).toInt = (M 77 35).toInt + 1 := i_add rfl l_1 (by omega) (by omega)
  refine P_g g2 (i_rng (lo := 0) (hi := 40) ep (by omega) (by omega)) (by unfold nW; omega) ?_
  intro m3 w1 w2 w3 g3
  have e77 : ∀ s, s ≠ 35 → m3 77 s = M 77 s := fun s hs => by rw [w2 s hs, z3 77 (by decide), y3 77 (by decide)]
  have e101 : m3 101 = M 101 := by rw [w3 101 (by decide), z3 101 (by decide), y3 101 (by decide)]
  have es : sM m3 = sM M + 1 := by show (m3 77 35).toInt.toNat = (M 77 35).toInt.toNat + 1; rw [w1, ep]; omega
  have er : rM m3 = rM M := by show skN (m3 101) _ = skN (M 101) _; rw [e101, e77 36 (by decide)]
  refine q_296 hn n (up1 D (sM M) ((M 77 12).toInt, a2.toInt)) m3 g3 ⟨by rw [w3 84 (by decide), z3 84 (by decide), y3 84 (by decide)]; exact hM.1, by rw [e77 10 (by decide)]; exact hM.2.1, fun i hi => ?_⟩ (by rw [e77 9 (by decide), es, er]; exact hE (by show (M 77 35).toInt.toNat < 40; omega)) (fun i hi => ?_)
  · rw [e77 36 (by decide)] at hi
    rw [e101, w1, ep]
    have := hM.2.2 i hi
    omega
  · show _ = (if i = sM M then _ else D i)
    rw [w3 98 (by decide), z3 98 (by decide), w3 99 (by decide)]
    rw [w1, ep] at hi
    have es0 : (M 77 35).toNatClampNeg = sM M := rfl
    rw [es0] at y1 y2 z1 z2
    by_cases e : i = sM M
    · rw [if_pos e, e, y1, z1]
    · rw [if_neg e, y2 i e, z2 i e, y3 99 (by decide)]
      exact hD i (by have : i ≠ (M 77 35).toInt.toNat := e; omega)
theorem q_157 {n : Nat} (hn : 200000 ≤ n) {R : Nat → Int32} {len pl : Int} {c : Ce} {D : Dn} (a1 : Int32) (M : qM) (hG : G M) (hM : My R len M) (hD : CM M D) (hle : (M 77 9).toInt ≤ len) (h40 : tm R len pl ≠ 40) (hd0 : 0 ≤ dq (tm R len pl)) (hk : (M 77 12).toInt = knd (tm R len) pl) (hp : (M 77 9).toInt = nxp (tm R len) pl) (hE : Eo (tm R len) len c (0, pl, sM M, D, rM M)) : qP (f_X12_readsStep_157 n a1 M) (QN R len c) := by
  have h9 := r_77_9 hG
  have h10 := r_77_10 hG
  have hl := hM.2.1
  have ht := tm_r R len (M 77 9).toInt
  have hd1 := dq_r (tm R len ((M 77 9).toInt + 1))
  have ht1 := tm_r R len ((M 77 9).toInt + 1)
  unfold f_X12_readsStep_157
  refine P_lt rfl l_12 (fun c12 => ?_) (fun c12 => y_bad 3 a1 M)
  refine P_qc (P_T (v_here hn M hG)) ?_
  rintro r1 m2 ⟨rfl, hr1⟩
  rw [hM.1, hM.2.1] at hr1
  refine P_eq rfl l_38 (fun d => ?_) (fun d => ?_)
  · have ep : (m2 77 9 + 1).toInt = (m2 77 9).toInt + 1 := i_add rfl l_1 (by omega) (by omega)
    refine P_g hG (i_rng (lo := 0) (hi := 240) ep (by omega) (by omega)) (by unfold nW; omega) ?_
    intro m3 y1 y2 y3 g3
    have e3 : (m3 77 9).toInt = (m2 77 9).toInt + 1 := by rw [y1]; exact ep
    have h843 : m3 84 = R := by rw [y3 84 (by decide)]; exact hM.1
    have h103 : (m3 77 10).toInt = len := by rw [y2 10 (by decide)]; exact hM.2.1
    refine P_qc (P_T (v_digit hn m3 g3)) ?_
    rintro r4 m5 ⟨rfl, hr4⟩
    rw [h843, h103, e3] at hr4
    refine P_eq rfl l_0 (fun e => y_bad 1 _ m5) (fun e => ?_)
    refine P_qc (P_T (v_here hn m5 g3)) ?_
    rintro r6 m7 ⟨rfl, hr6⟩
    rw [h843, h103, e3] at hr6
    refine P_ql (i_sub rfl l_48 (by omega) (by omega)) (fun x8 hx8 => ?_)
    refine P_lt rfl l_8 (fun f => ?_) (fun f => y_bad 3 _ m7)
    have ep2 : (m7 77 9 + 1).toInt = (m2 77 9).toInt + 2 := by rw [i_add rfl l_1 (by omega) (by omega)]; omega
    refine P_g g3 (i_rng (lo := 0) (hi := 240) ep2 (by omega) (by omega)) (by unfold nW; omega) ?_
    intro m9 z1 z2 z3 g9
    have e77 : ∀ s, s ≠ 9 → m9 77 s = m2 77 s := fun s hs => by rw [z2 s hs, y2 s hs]
    have eo : ∀ c, c ≠ 77 → m9 c = m2 c := fun c hc => by rw [z3 c hc, y3 c hc]
    have es : sM m9 = sM m2 := by show (m9 77 35).toInt.toNat = _; rw [e77 35 (by decide)]
    have er : rM m9 = rM m2 := by show skN (m9 101) _ = skN (m2 101) _; rw [eo 101 (by decide), e77 36 (by decide)]
    refine q_246 hn (D := D) a1 x8 m9 g9 ⟨by rw [eo 84 (by decide)]; exact hM.1, by rw [e77 10 (by decide)]; exact hM.2.1, fun i hi => ?_⟩ (fun i hi => ?_) (fun hs => Eo_tr hE (Eo_st ?_))
    · rw [e77 36 (by decide)] at hi; rw [eo 101 (by decide), e77 35 (by decide)]; exact hM.2.2 i hi
    · rw [e77 35 (by decide)] at hi; rw [eo 98 (by decide), eo 99 (by decide)]; exact hD i hi
    · rw [es_A, es, er, e77 12 (by decide), z1, ep2]
      unfold eA eE
      rw [if_neg h40, if_neg (by omega), if_neg (by omega), ← hp, if_pos (by omega), if_neg (by omega), if_neg (by omega), if_neg (by rw [es] at hs; omega), hk, show x8.toInt = dq (tm R len ((m2 77 9).toInt + 1)) by omega]
  · refine q_246 hn (D := D) a1 8 m2 hG hM hD (fun hs => Eo_tr hE (Eo_st ?_))
    rw [es_A]
    unfold eA eE
    rw [if_neg h40, if_neg (by omega), if_neg (by omega), ← hp, if_neg (by omega), if_neg (by omega), hk]
    rfl
theorem q_108 {n : Nat} (hn : 200000 ≤ n) {R : Nat → Int32} {len pl : Int} {c : Ce} (a1 : Int32) (h1 : a1.toInt = pl) (h0 : 0 ≤ pl ∧ pl ≤ 240) (h40 : tm R len pl ≠ 40) (hd0 : 0 ≤ dq (tm R len pl)) : ∀ (m : Nat) (D : Dn) (M : qM), G M → My R len M → CM M D → (M 77 9).toInt ≤ len → (((M 77 9).toInt = pl ∧ (M 77 12).toInt = 0) ∨ ((M 77 9).toInt = pl + 1 ∧ (M 77 12).toInt = dq (tm R len pl)) ∨ ((M 77 9).toInt = pl + 2 ∧ 0 ≤ dq (tm R len (pl + 1)) ∧ (M 77 12).toInt = 10 * dq (tm R len pl) + dq (tm R len (pl + 1)))) → Eo (tm R len) len c (0, pl, sM M, D, rM M) → qP (f_X12_readsStep_108 n m a1 M) (QN R len c) := by
  intro m
  induction m with
  | zero => intro D M _ _ _ _ _ _; exact P_none
  | succ m ih =>
    intro D M hG hM hD hle hs hE
    have h9 := r_77_9 hG
    have h10 := r_77_10 hG
    have hl := hM.2.1
    have hdp := dq_r (tm R len pl)
    have htp := tm_r R len pl
    have hd1 := dq_r (tm R len (pl + 1))
    have ht1 := tm_r R len (pl + 1)
    have go : ∀ m2 : qM, m2 = M → (dq (tm R len (M 77 9).toInt) = -1 ∨ pl + 2 ≤ (M 77 9).toInt) → qP (f_X12_readsStep_157 n a1 m2) (QN R len c) := by
      intro m2 em hx
      subst em
      rcases hs with ⟨s1, s2⟩ | ⟨s1, s2⟩ | ⟨s1, s2, s3⟩
      · exfalso
        rcases hx with hx | hx
        · rw [s1] at hx; omega
        · omega
      · refine q_157 hn (pl := pl) (D := D) a1 m2 hG hM hD hle h40 hd0 ?_ ?_ hE
        · unfold knd
          rw [if_pos (by rcases hx with hx | hx; rw [s1] at hx; omega; omega)]
          exact s2
        · unfold nxp
          rw [if_pos (by rcases hx with hx | hx; rw [s1] at hx; omega; omega)]
          exact s1
      · refine q_157 hn (pl := pl) (D := D) a1 m2 hG hM hD hle h40 hd0 ?_ ?_ hE
        · unfold knd
          rw [if_neg (by omega)]
          exact s3
        · unfold nxp
          rw [if_neg (by omega)]
          exact s1
    show qP (b_X12_readsStep_108 n (f_X12_readsStep_108 n m) a1 M) _
    unfold b_X12_readsStep_108
    refine P_qc (P_T (v_digit hn M hG)) ?_
    rintro r1 m2 ⟨em, hr1⟩
    rw [hM.1, hM.2.1] at hr1
    refine P_eq rfl l_0 (fun d => go m2 em (Or.inl (by omega))) (fun d => ?_)
    refine P_le (i_add h1 l_2 (by omega) (by omega)) rfl (fun e => go m2 em (Or.inr (by rw [em] at e; exact e))) (fun e => ?_)
    subst em
    have hdm := dq_r (tm R len (m2 77 9).toInt)
    have htm := tm_r R len (m2 77 9).toInt
    have hdg : 0 ≤ dq (tm R len (m2 77 9).toInt) := by omega
    refine P_qc (P_T (v_here hn m2 hG)) ?_
    rintro r3 m4 ⟨rfl, hr3⟩
    rw [hM.1, hM.2.1] at hr3
    have h12b : 0 ≤ (m4 77 12).toInt ∧ (m4 77 12).toInt ≤ 99 := by
      rcases hs with ⟨s1, s2⟩ | ⟨s1, s2⟩ | ⟨s1, s2, s3⟩
      · omega
      · omega
      · omega
    have ev : ((10 : Int32) * (m4 77 12) + r3 - (48 : Int32)).toInt = 10 * (m4 77 12).toInt + r3.toInt - 48 := i_sub (i_add (i_mul l_10 rfl (by omega) (by omega)) rfl (by omega) (by omega)) l_48 (by omega) (by omega)
    refine P_g hG trivial (by unfold nW; omega) ?_
    intro m5 y1 y2 y3 g5
    rw [y2 9 (by decide)]
    have ep : (m4 77 9 + 1).toInt = (m4 77 9).toInt + 1 := i_add rfl l_1 (by omega) (by omega)
    refine P_g g5 (i_rng (lo := 0) (hi := 240) ep (by omega) (by omega)) (by unfold nW; omega) ?_
    intro m6 z1 z2 z3 g6
    have e77 : ∀ s, s ≠ 9 → s ≠ 12 → m6 77 s = m4 77 s := fun s hs1 hs2 => by rw [z2 s hs1, y2 s hs2]
    have eo : ∀ c, c ≠ 77 → m6 c = m4 c := fun c hc => by rw [z3 c hc, y3 c hc]
    have es : sM m6 = sM m4 := by show (m6 77 35).toInt.toNat = _; rw [e77 35 (by decide) (by decide)]
    have er : rM m6 = rM m4 := by show skN (m6 101) _ = skN (m4 101) _; rw [eo 101 (by decide), e77 36 (by decide) (by decide)]
    refine ih D m6 g6 ⟨by rw [eo 84 (by decide)]; exact hM.1, by rw [e77 10 (by decide) (by decide)]; exact hM.2.1, fun i hi => ?_⟩ (fun i hi => ?_) (by rw [z1, ep]; omega) ?_ (by rw [es, er]; exact hE)
    · rw [e77 36 (by decide) (by decide)] at hi; rw [eo 101 (by decide), e77 35 (by decide) (by decide)]; exact hM.2.2 i hi
    · rw [e77 35 (by decide) (by decide)] at hi; rw [eo 98 (by decide), eo 99 (by decide)]; exact hD i hi
    · rw [z1, ep, z2 12 (by decide), y1, ev]
      rcases hs with ⟨s1, s2⟩ | ⟨s1, s2⟩ | ⟨s1, s2, s3⟩
      · rw [s1] at hdm hr3 hdg
        exact Or.inr (Or.inl ⟨by omega, by omega⟩)
      · rw [s1] at hdm hr3 hdg
        exact Or.inr (Or.inr ⟨by omega, by omega, by omega⟩)
      · exfalso; omega
theorem q_5 {n : Nat} (hn : 200000 ≤ n) {R : Nat → Int32} {len : Int} {c : Ce} : ∀ (m : Nat) (a1 : Int32) (D : Dn) (M : qM), G M → My R len M → CM M D → (M 77 9).toInt ≤ len → a1.toInt = (M 77 9).toInt → Eo (tm R len) len c (0, (M 77 9).toInt, sM M, D, rM M) → qP (f_X12_readsStep_5 n m a1 M) (QN R len c) := by
  intro m
  induction m with
  | zero => intro a1 D M _ _ _ _ _ _; exact P_none
  | succ m ih =>
    intro a1 D M hG hM hD hle ha hE
    have h9 := r_77_9 hG
    have h10 := r_77_10 hG
    have h36 := r_77_36 hG
    have h35 := r_77_35 hG
    have hl := hM.2.1
    have ht := tm_r R len (M 77 9).toInt
    show qP (b_X12_readsStep_5 n (f_X12_readsStep_5 n m) a1 M) _
    unfold b_X12_readsStep_5
    refine P_qc (P_T (v_here hn M hG)) ?_
    rintro r1 m2 ⟨rfl, hr1⟩
    rw [hM.1, hM.2.1] at hr1
    refine P_eq rfl l_40 (fun d => ?_) (fun d => ?_)
    · refine P_eq rfl l_3 (fun e => y_bad 5 _ m2) (fun e => ?_)
      have n36 : (m2 77 36).toNatClampNeg = (m2 77 36).toInt.toNat := rfl
      refine P_qg (fun _ _ => P_g hG (rn_100 _ _) (nw_100 _) ?_)
      intro m8 y1 y2 y3 g8
      rw [y3 77 (by decide)]
      refine P_qg (fun _ _ => P_g g8 (i_rng (lo := 0) (hi := 40) rfl (by omega) (by omega)) (nw_101 _) ?_)
      intro m9 z1 z2 z3 g9
      rw [z3 77 (by decide), y3 77 (by decide)]
      have e36 : (m2 77 36 + 1).toInt = (m2 77 36).toInt + 1 := i_add rfl l_1 (by omega) (by omega)
      refine P_g g9 (i_rng (lo := 0) (hi := 3) e36 (by omega) (by omega)) (by unfold nW; omega) ?_
      intro m10 w1 w2 w3 g10
      rw [w2 9 (by decide), z3 77 (by decide), y3 77 (by decide)]
      have ep : (m2 77 9 + 1).toInt = (m2 77 9).toInt + 1 := i_add rfl l_1 (by omega) (by omega)
      refine P_g g10 (i_rng (lo := 0) (hi := 240) ep (by omega) (by omega)) (by unfold nW; omega) ?_
      intro m11 v1 v2 v3 g11
      have e77 : ∀ s, s ≠ 9 → s ≠ 36 → m11 77 s = m2 77 s := fun s q1 q2 => by rw [v2 s q1, w2 s q2, z3 77 (by decide), y3 77 (by decide)]
      have e3611 : (m11 77 36).toInt = (m2 77 36).toInt + 1 := by rw [v2 36 (by decide), w1]; exact e36
      have eo : ∀ c, c ≠ 77 → c ≠ 100 → c ≠ 101 → m11 c = m2 c := fun c q1 q2 q3 => by rw [v3 c q1, w3 c q1, z3 c q3, y3 c q2]
      have t101 : m11 101 (m2 77 36).toInt.toNat = m2 77 35 := by rw [v3 101 (by decide), w3 101 (by decide)]; exact z1
      have o101 : ∀ i, i ≠ (m2 77 36).toInt.toNat → m11 101 i = m2 101 i := fun i hi => by rw [v3 101 (by decide), w3 101 (by decide), z2 i hi, y3 101 (by decide)]
      have es : sM m11 = sM m2 := by show (m11 77 35).toInt.toNat = _; rw [e77 35 (by decide) (by decide)]
      have er : rM m11 = sM m2 :: rM m2 := by
        show skN (m11 101) (m11 77 36).toInt.toNat = _
        rw [e3611, show ((m2 77 36).toInt + 1).toNat = (m2 77 36).toInt.toNat + 1 by omega]
        show (m11 101 (m2 77 36).toInt.toNat).toInt.toNat :: skN (m11 101) (m2 77 36).toInt.toNat = _
        rw [t101, skN_cg (fun i hi => o101 i (by omega))]
      refine P_ql rfl (fun x12 hx12 => ?_)
      refine ih x12 D m11 g11 ⟨by rw [eo 84 (by decide) (by decide) (by decide)]; exact hM.1, by rw [e77 10 (by decide) (by decide)]; exact hM.2.1, fun i hi => ?_⟩ (fun i hi => ?_) (by rw [v1, ep]; omega) hx12 ?_
      · rw [e77 35 (by decide) (by decide)]
        by_cases e2 : i = (m2 77 36).toInt.toNat
        · rw [e2, t101]; exact Int.le_refl _
        · rw [o101 i e2]; exact hM.2.2 i (by rw [e3611] at hi; omega)
      · rw [e77 35 (by decide) (by decide)] at hi; rw [eo 98 (by decide) (by decide) (by decide), eo 99 (by decide) (by decide) (by decide)]; exact hD i hi
      · refine Eo_tr hE (Eo_st ?_)
        rw [es_A, es, er, v1, ep]
        unfold eA
        rw [if_pos (by omega), if_neg (by show ¬ (skN (m2 101) (m2 77 36).toInt.toNat).length = 3; rw [skN_len]; omega)]
    · refine P_qc (P_T (v_digit hn m2 hG)) ?_
      rintro r3 m4 ⟨rfl, hr3⟩
      rw [hM.1, hM.2.1] at hr3
      refine P_eq rfl l_0 (fun e => y_bad 1 _ m4) (fun e => ?_)
      refine P_g hG trivial (by unfold nW; omega) ?_
      intro m5 y1 y2 y3 g5
      have es : sM m5 = sM m4 := by show (m5 77 35).toInt.toNat = _; rw [y2 35 (by decide)]
      have er : rM m5 = rM m4 := by show skN (m5 101) _ = skN (m4 101) _; rw [y3 101 (by decide), y2 36 (by decide)]
      refine q_108 hn (pl := (m4 77 9).toInt) a1 ha h9 (by omega) (by omega) n D m5 g5 ⟨by rw [y3 84 (by decide)]; exact hM.1, by rw [y2 10 (by decide)]; exact hM.2.1, fun i hi => ?_⟩ (fun i hi => ?_) (by rw [y2 9 (by decide)]; exact hle) (Or.inl ⟨by rw [y2 9 (by decide)], by rw [y1]; rfl⟩) (by rw [es, er]; exact hE)
      · rw [y2 36 (by decide)] at hi; rw [y3 101 (by decide), y2 35 (by decide)]; exact hM.2.2 i hi
      · rw [y2 35 (by decide)] at hi; rw [y3 98 (by decide), y3 99 (by decide)]; exact hD i hi
theorem q_step {n : Nat} (hn : 200000 ≤ n) {R : Nat → Int32} {len : Int} {c : Ce} {D : Dn} (M : qM) (hG : G M) (hM : My R len M) (hD : CM M D) (hle : (M 77 9).toInt ≤ len) (hE : Eo (tm R len) len c (0, (M 77 9).toInt, sM M, D, rM M)) : qP (f_X12_readsStep n M) (QN R len c) := by
  unfold f_X12_readsStep
  exact P_ql rfl (fun x hx => q_5 hn n x D M hG hM hD hle hx hE)
/-! the plan is laid into the town -/
theorem q_142 {n p : Nat} (hp : p < 8) : ∀ (m k : Nat) (M : qM), k ≤ 40 → (M 77 35).toInt ≤ 40 → qP (f_X12_plan_142 n m (nI p) (nI k) M) (fun v m' => v = M 77 35 ∧ (∀ i, i < 314 ∨ 954 ≤ i → m' 78 i = M 78 i) ∧ (∀ i, i < 320 → (¬ (40 * p + k ≤ i ∧ i < 40 * p + (M 77 35).toInt.toNat) → m' 78 (314 + i) = M 78 (314 + i) ∧ m' 78 (634 + i) = M 78 (634 + i))) ∧ (∀ q, k ≤ q → (q : Int) < (M 77 35).toInt → m' 78 (314 + (40 * p + q)) = M 98 q ∧ m' 78 (634 + (40 * p + q)) = M 99 q)) := by
  intro m
  induction m with
  | zero => intro k M _ _; exact P_none
  | succ m ih =>
    intro k M hk h35
    have tk : (nI k).toInt = (k : Int) := nI_toInt (by omega)
    have tp : (nI p).toInt = (p : Int) := nI_toInt (by omega)
    show qP (b_X12_plan_142 n (f_X12_plan_142 n m) (nI p) (nI k) M) _
    unfold b_X12_plan_142
    refine P_le rfl tk (fun c => P_ret ⟨rfl, fun _ _ => rfl, fun _ _ _ => ⟨rfl, rfl⟩, fun q h1 h2 => by omega⟩) (fun c => ?_)
    have ek : (nI k).toNatClampNeg = k := by rw [tnc, tk]; rfl
    have e1 : ((314 : Int32) + (40 : Int32) * nI p + nI k).toNatClampNeg = 314 + (40 * p + k) := by rw [tnc, i_add (i_add l_314 (i_mul l_40 tp (by omega) (by omega)) (by omega) (by omega)) tk (by omega) (by omega)]; omega
    have e2 : ((634 : Int32) + (40 : Int32) * nI p + nI k).toNatClampNeg = 634 + (40 * p + k) := by rw [tnc, i_add (i_add l_634 (i_mul l_40 tp (by omega) (by omega)) (by omega) (by omega)) tk (by omega) (by omega)]; omega
    refine P_qg (fun _ _ => P_qg (fun _ _ => ?_))
    rw [ek, e1]
    refine P_m (fun m1 a1 a2 a3 => P_qg (fun _ _ => P_qg (fun _ _ => ?_)))
    rw [e2, a3 99 (by decide)]
    refine P_m (fun m2 b1 b2 b3 => P_ql (i_add tk l_1 (by omega) (by omega)) (fun x hx => ?_))
    rw [nI_i (a := x) (k := k + 1) (by rw [hx]; omega)]
    have q77 : m2 77 = M 77 := by rw [b3 77 (by decide), a3 77 (by decide)]
    have o78 : ∀ i, i ≠ 314 + (40 * p + k) → i ≠ 634 + (40 * p + k) → m2 78 i = M 78 i := fun i q1 q2 => by rw [b2 i q2, a2 i q1]
    refine P_mono (ih (k + 1) m2 (by omega) (by rw [q77]; exact h35)) (fun v m' h => ?_)
    rw [q77, b3 98 (by decide), a3 98 (by decide), b3 99 (by decide), a3 99 (by decide)] at h
    obtain ⟨d1, d2, d3, d4⟩ := h
    refine ⟨d1, fun i hi => by rw [d2 i hi, o78 i (by omega) (by omega)], fun i hi hn => ?_, fun q h1 h2 => ?_⟩
    · have := d3 i hi (by omega)
      rw [this.1, this.2, o78 _ (by omega) (by omega), o78 _ (by omega) (by omega)]
      exact ⟨rfl, rfl⟩
    · by_cases e : q = k
      · subst e
        have := d3 (40 * p + q) (by omega) (by omega)
        rw [this.1, this.2, b1, b2 _ (by omega), a1]
        exact ⟨rfl, rfl⟩
      · exact d4 q (by omega) h2
/-- what the model's plan does to its rows: a step's contents, or nothing -/
abbrev QP (R : Nat → Int32) (len : Int) (p : Nat) (A : qM) (v : Int32) (m : qM) : Prop := ((∀ i, i < 954 → m 78 i = A 78 i) ∧ To (tm R len) len (0, 0, 0, []) (2, v.toInt, 0, [])) ∨ ∃ pz s D, Eo (tm R len) len (0, 0, 0, fun _ => (0, 0), []) (3, pz, s, D, []) ∧ v.toInt = (s : Int) ∧ s ≤ 40 ∧ (m 78 (296 + p)).toInt = (s : Int) ∧ m 78 (304 + p) = 0 ∧ (∀ q, q < s → ((m 78 (314 + (40 * p + q))).toInt, (m 78 (634 + (40 * p + q))).toInt) = D q) ∧ (∀ i, i < 314 → i ≠ 296 + p → i ≠ 304 + p → m 78 i = A 78 i) ∧ (∀ i, i < 320 → (i < 40 * p ∨ 40 * p + 40 ≤ i) → m 78 (314 + i) = A 78 (314 + i) ∧ m 78 (634 + i) = A 78 (634 + i))
theorem q_100 {n p : Nat} (hp : p < 8) {R : Nat → Int32} {len : Int} {A : qM} (a3 : Int32) (M : qM) (hG : G M) (hA : ∀ i, i < 954 → M 78 i = A 78 i) (h : (a3.toInt = 0 ∧ To (tm R len) len (0, 0, 0, []) (2, (M 77 11).toInt, 0, [])) ∨ (a3.toInt ≠ 0 ∧ ∃ pz D, Eo (tm R len) len (0, 0, 0, fun _ => (0, 0), []) (3, pz, sM M, D, []) ∧ CM M D)) : qP (f_X12_plan_100 n (nI p) a3 M) (QP R len p A) := by
  have tp : (nI p).toInt = (p : Int) := nI_toInt (by omega)
  have h35 := r_77_35 hG
  unfold f_X12_plan_100
  refine P_m (fun m1 y1 y2 y3 => ?_)
  refine P_eq rfl l_0 (fun c => ?_) (fun c => ?_)
  · refine P_ret (Or.inl ⟨fun i hi => by rw [y3 78 (by decide)]; exact hA i hi, ?_⟩)
    rcases h with ⟨_, h⟩ | ⟨h, _⟩
    · rw [y2 11 (by decide)]; exact h
    · exact absurd c h
  · obtain ⟨_, pz, D, hE, hD⟩ := h.resolve_left (fun z => c z.1)
    have e1 : ((296 : Int32) + nI p).toNatClampNeg = 296 + p := by rw [tnc, i_add l_296 tp (by omega) (by omega)]; omega
    have e2 : ((304 : Int32) + nI p).toNatClampNeg = 304 + p := by rw [tnc, i_add l_304 tp (by omega) (by omega)]; omega
    refine P_qg (fun _ _ => ?_)
    rw [e1, y2 35 (by decide)]
    refine P_m (fun m2 z1 z2 z3 => P_qg (fun _ _ => ?_))
    rw [e2]
    refine P_m (fun m3 w1 w2 w3 => ?_)
    have c77 : m3 77 35 = M 77 35 := by rw [w3 77 (by decide), z3 77 (by decide), y2 35 (by decide)]
    have c98 : m3 98 = M 98 := by rw [w3 98 (by decide), z3 98 (by decide), y3 98 (by decide)]
    have c99 : m3 99 = M 99 := by rw [w3 99 (by decide), z3 99 (by decide), y3 99 (by decide)]
    have c78 : ∀ i, i ≠ 296 + p → i ≠ 304 + p → m3 78 i = M 78 i := fun i q1 q2 => by rw [w2 i q2, z2 i q1, y3 78 (by decide)]
    refine P_mono (q_142 hp n 0 m3 (by omega) (by rw [c77]; omega)) (fun v m h => ?_)
    rw [c77, c98, c99] at h
    obtain ⟨d1, d2, d3, d4⟩ := h
    refine Or.inr ⟨pz, sM M, D, hE, by rw [d1]; show _ = ((M 77 35).toInt.toNat : Int); omega, by show (M 77 35).toInt.toNat ≤ 40; omega, ?_, ?_, fun q hq => ?_, fun i hi q1 q2 => ?_, fun i hi q1 => ?_⟩
    · rw [d2 _ (by omega), w2 _ (by omega), z1]; show _ = ((M 77 35).toInt.toNat : Int); omega
    · rw [d2 _ (by omega), w1]
    · have hq2 : (q : Int) < (M 77 35).toInt := by have : q < (M 77 35).toInt.toNat := hq; omega
      rw [(d4 q (by omega) hq2).1, (d4 q (by omega) hq2).2]
      exact hD q hq2
    · rw [d2 i (by omega), c78 i q1 q2]; exact hA i (by omega)
    · have := d3 i hi (by omega)
      rw [this.1, this.2, c78 _ (by omega) (by omega), c78 _ (by omega) (by omega)]
      exact ⟨hA _ (by omega), hA _ (by omega)⟩
theorem q_53 {n p : Nat} (hn : 200000 ≤ n) (hp : p < 8) {R : Nat → Int32} {len : Int} {A : qM} : ∀ (m : Nat) (a3 : Int32) (M : qM), G M → Sm lM A M → ((a3.toInt = 0 ∧ To (tm R len) len (0, 0, 0, []) (2, (M 77 11).toInt, 0, [])) ∨ (a3.toInt = 1 ∧ To (tm R len) len (0, 0, 0, []) (cM 1 M) ∧ Mx R len M ∧ (tm R len (M 77 9).toInt ≠ 41 ∨ (M 77 36).toInt = 0))) → (a3.toInt ≠ 0 → ∃ D, Eo (tm R len) len (0, 0, 0, fun _ => (0, 0), []) (1, (M 77 9).toInt, sM M, D, rM M) ∧ CM M D) → qP (f_X12_plan_53 n m (nI p) a3 M) (QP R len p A) := by
  intro m
  induction m with
  | zero => intro a3 M _ _ _ _; exact P_none
  | succ m ih =>
    intro a3 M hG hS h hN
    have h9 := r_77_9 hG
    have h36 := r_77_36 hG
    have hA : ∀ i, i < 954 → M 78 i = A 78 i := fun i _ => hS 78 i (outc rfl)
    show qP (b_X12_plan_53 n (f_X12_plan_53 n m) (nI p) a3 M) _
    unfold b_X12_plan_53
    refine P_eq rfl l_0 (fun c => ?_) (fun c => ?_)
    · refine q_100 hp a3 M hG hA (Or.inl ?_)
      rcases h with q | q
      · exact q
      · omega
    · obtain ⟨q1, q2, q3, q4⟩ := h.resolve_left (fun q => c q.1)
      clear h
      obtain ⟨D, way, hD⟩ := hN c
      have q3' := q3
      obtain ⟨hR, hlen, hpl, hKR, hFR⟩ := q3'
      have ht := tm_r R len (M 77 9).toInt
      have hstp : stp (tm R len) len (cM 1 M) = stB (tm R len) len (M 77 9).toInt (M 77 35).toInt (stk (M 100) (M 101) (M 77 36).toInt.toNat) := rfl
      have go75 : ((M 77 9).toInt < len ∨ 0 < (M 77 36).toInt) → qP (f_X12_plan_75 n (f_X12_plan_53 n m) (nI p) M) (QP R len p A) := by
        intro hor
        unfold f_X12_plan_75
        refine P_qc (P_T (v_takes hn (M0 := A) (44 : Int32) M hG hS (by decide))) ?_
        rintro r1 m2 ⟨ho, z2, z3, g2, s2⟩
        rw [hR, hlen, l_44] at ho
        refine P_eq rfl l_0 (fun e => ?_) (fun e => ?_)
        · refine ih 0 m2 g2 s2 (Or.inl ⟨l_0, To_tr q2 (To_st ?_)⟩) (fun z => absurd l_0 z)
          rcases ho with w | ⟨w1, w2, w3⟩
          · omega
          · rw [hstp, w3]
            cases hst : stk (M 100) (M 101) (M 77 36).toInt.toNat with
            | nil =>
              have hl := stk_len (F := M 100) (A := M 101) (M 77 36).toInt.toNat
              rw [hst] at hl
              have hl2 : (M 77 36).toInt.toNat = 0 := hl.symm
              show (if _ then _ else _) = _
              rw [if_neg w2, if_neg (by omega)]
              rfl
            | cons x y =>
              have hl := stk_len (F := M 100) (A := M 101) (M 77 36).toInt.toNat
              rw [hst] at hl
              have hl2 : y.length + 1 = (M 77 36).toInt.toNat := hl
              show (if _ then _ else _) = _
              rw [if_neg w2, if_neg (by omega)]
              rfl
        · obtain ⟨w1, w2, w3, w4⟩ := ho.resolve_right (fun q => e q.1)
          clear ho
          have e77 : ∀ s, s ≠ 9 → s ≠ 11 → m2 77 s = M 77 s := z2
          have e35 := e77 35 (by decide) (by decide)
          have e36 := e77 36 (by decide) (by decide)
          have hM2 : Mx R len m2 := ⟨by rw [z3 84 (by decide)]; exact hR, by rw [e77 10 (by decide) (by decide)]; exact hlen, by omega, KR_c e35 e36 (z3 101 (by decide)) hKR, fun i hi => by rw [e36] at hi; rw [z3 100 (by decide)]; exact hFR i hi⟩
          have hA2 : To (tm R len) len (0, 0, 0, []) (cM 0 m2) := by
            refine To_tr q2 (To_st ?_)
            show stp _ _ _ = (0, (m2 77 9).toInt, (m2 77 35).toInt, stk (m2 100) (m2 101) (m2 77 36).toInt.toNat)
            rw [hstp, w4, e35, e36, z3 100 (by decide), z3 101 (by decide)]
            cases stk (M 100) (M 101) (M 77 36).toInt.toNat with
            | nil => show (if _ then _ else _) = _; rw [if_pos w2]
            | cons x y => show (if _ then _ else _) = _; rw [if_pos w2]
          have es : sM m2 = sM M := by show (m2 77 35).toInt.toNat = _; rw [e35]
          have er : rM m2 = rM M := by show skN (m2 101) _ = skN (M 101) _; rw [z3 101 (by decide), e36]
          have way2 : Eo (tm R len) len (0, 0, 0, fun _ => (0, 0), []) (0, (m2 77 9).toInt, sM m2, D, rM m2) := by
            refine Eo_tr way (Eo_st ?_)
            rw [es_B, eB_44 w2, w4, es, er]
          have hD2 : CM m2 D := fun i hi => by rw [e35] at hi; rw [z3 98 (by decide), z3 99 (by decide)]; exact hD i hi
          refine P_qc (P_and (q_step hn m2 g2 ⟨hM2.1, hM2.2.1, hM2.2.2.2.1⟩ hD2 hM2.2.2.1 way2) (P_T (v_step hn m2 g2 s2 hM2 hA2))) ?_
          rintro r3 m4 ⟨hz, ho4, g4, s4⟩
          refine P_eq rfl l_0 (fun f => ?_) (fun f => ?_)
          · refine ih 0 m4 g4 s4 (Or.inl ⟨l_0, ?_⟩) (fun z => absurd l_0 z)
            rcases ho4 with w | w
            · exact w.2
            · omega
          · obtain ⟨u1, u2, u3, u4, u5⟩ := ho4.resolve_left (fun q => f q.1)
            exact ih 1 m4 g4 s4 (Or.inr ⟨l_1, u2, u3, u5⟩) (fun _ => (hz f).1)
      refine P_lt rfl rfl (fun d => ?_) (fun d => ?_)
      · exact go75 (Or.inl (by omega))
      · refine P_le rfl l_0 (fun e => ?_) (fun e => go75 (Or.inr (by omega)))
        refine q_100 hp a3 M hG hA (Or.inr ⟨c, (M 77 9).toInt, D, Eo_tr way (Eo_st ?_), hD⟩)
        have er : rM M = [] := by show skN (M 101) (M 77 36).toInt.toNat = []; rw [show (M 77 36).toInt.toNat = 0 by omega]; rfl
        rw [es_B, er, eB_n, if_neg (by omega), if_pos (by omega)]
theorem q_plan {n p : Nat} (hn : 200000 ≤ n) (hp : p < 8) (a2 : Int32) (M : qM) (hG : G M) (h2 : 1 ≤ a2.toInt ∧ a2.toInt ≤ 80 ∧ a2.toInt ≤ (M 77 8).toInt) (hb : bitI (M 78 312) p) : qP (f_X12_plan n (nI p) a2 M) (QP (M 84) a2.toInt p M) := by
  have h8 := r_77_8 hG
  have tp : (nI p).toInt = (p : Int) := nI_toInt (by omega)
  unfold f_X12_plan
  have hper : f_X12_isPerson n (nI p) M = some (1, M) := by
    unfold f_X12_isPerson f_X12_has0
    rw [if_neg (nI_n0 (by omega)), if_neg (show ¬ (8 : Int32) ≤ nI p from nI_ge (a := p) (b := 8) (by omega) (by decide)), if_pos hb, qc_v, if_neg (by decide)]
  have hin : f_X12_in n a2 (1 : Int32) (80 : Int32) M = some (1, M) := by
    rw [in_eq, if_neg]
    rw [Int32.lt_iff_toInt_lt, Int32.lt_iff_toInt_lt]
    have z1 : (1 : Int32).toInt = 1 := rfl
    have z2 : (80 : Int32).toInt = 80 := rfl
    omega
  rw [hper, qc_v, if_neg (by decide), hin, qc_v, if_neg (by decide)]
  refine P_le rfl rfl (fun c => ?_) (fun c => by exfalso; omega)
  refine P_g hG (i_rng (lo := 0) (hi := 240) l_0 (by omega) (by omega)) nw_77_9 ?_
  intro m5 a5 b5 c5 g5
  refine P_g g5 (i_rng (lo := 0) (hi := 240) rfl (by omega) (by omega)) nw_77_10 ?_
  intro m6 a6 b6 c6 g6
  refine P_g g6 (i_rng (lo := 0) (hi := 40) l_0 (by omega) (by omega)) nw_77_35 ?_
  intro m7 a7 b7 c7 g7
  refine P_g g7 (i_rng (lo := 0) (hi := 3) l_0 (by omega) (by omega)) nw_77_36 ?_
  intro m8 a8 b8 c8 g8
  have p36 : (m8 77 36).toInt = 0 := by rw [a8]; rfl
  have p35 : (m8 77 35).toInt = 0 := by rw [b8 35 (by decide), a7]; rfl
  have p10 : (m8 77 10).toInt = a2.toInt := by rw [b8 10 (by decide), b7 10 (by decide), a6]
  have p9 : (m8 77 9).toInt = 0 := by rw [b8 9 (by decide), b7 9 (by decide), b6 9 (by decide), a5]; rfl
  have eo : ∀ c, c ≠ 77 → m8 c = M c := fun c hc => by rw [c8 c hc, c7 c hc, c6 c hc, c5 c hc]
  have hMx : Mx (M 84) a2.toInt m8 := ⟨eo 84 (by decide), p10, by omega, fun i hi => absurd hi (by omega), fun i hi => absurd hi (by omega)⟩
  have hA : To (tm (M 84) a2.toInt) a2.toInt (0, 0, 0, []) (cM 0 m8) := by
    show To _ _ _ (0, (m8 77 9).toInt, (m8 77 35).toInt, stk (m8 100) (m8 101) (m8 77 36).toInt.toNat)
    rw [p9, p35, p36]
    exact To_rf
  have es : sM m8 = 0 := by show (m8 77 35).toInt.toNat = 0; rw [p35]; rfl
  have er : rM m8 = [] := by show skN (m8 101) (m8 77 36).toInt.toNat = []; rw [p36]; rfl
  refine P_qc (P_and (q_step hn (c := (0, 0, 0, fun _ => (0, 0), [])) (D := fun _ => (0, 0)) m8 g8 ⟨hMx.1, hMx.2.1, hMx.2.2.2.1⟩ (fun i hi => by rw [p35] at hi; omega) (by rw [p9]; omega) (by rw [p9, es, er]; exact Eo_rf)) (P_T (v_step hn (M0 := m8) m8 g8 Sm.rf hMx hA))) ?_
  rintro r9 m10 ⟨hz, ho, g10, s10⟩
  refine P_mono (q_53 hn hp (A := m8) n r9 m10 g10 s10 ?_ (fun z => (hz z).1)) (fun v m h => ?_)
  · rcases ho with q | ⟨q1, q2, q3, q4, q5⟩
    · exact Or.inl q
    · exact Or.inr ⟨q1, q2, q3, q5⟩
  · unfold QP at h
    rw [show m8 78 = M 78 from eo 78 (by decide)] at h
    exact h
/-! the class's plan -/
theorem P_qcp {sp dp n : Int32} {n0 n1 : Nat} {E : qR} {P : Int32 → qM → Prop} (h : qP E P) : qP (qcp sp dp n n0 n1 E) P := by
  unfold qcp
  by_cases c : sp < 0 ∨ dp < 0 ∨ n < 0 ∨ n0 < sp.toNatClampNeg + n.toNatClampNeg ∨ n1 < dp.toNatClampNeg + n.toNatClampNeg
  · rw [if_pos c]; exact P_none
  · rw [if_neg c]; exact h
theorem mr_at {M : qM} {i : Nat} {f : Nat → Int32} : mr M i f i = f := by unfold mr; rw [if_pos rfl]
theorem mr_ne {M : qM} {i a : Nat} {f : Nat → Int32} (h : a ≠ i) : mr M i f a = M a := by unfold mr; rw [if_neg h]
theorem z_take {n p : Nat} (hp : p < 8) (M : qM) : qP (f_X10_takePlan n 7 (nI p) M) (fun _ m => (∀ i, i < 40 → m 12 (40 * p + i) = M 54 i ∧ m 13 (40 * p + i) = M 55 i) ∧ (∀ i, (i < 40 * p ∨ 40 * p + 40 ≤ i) → m 12 i = M 12 i ∧ m 13 i = M 13 i) ∧ m 14 p = M 53 3 ∧ (∀ i, i ≠ p → m 14 i = M 14 i) ∧ m 15 p = 0 ∧ (∀ i, i ≠ p → m 15 i = M 15 i) ∧ ∀ c, c ≠ 12 → c ≠ 13 → c ≠ 14 → c ≠ 15 → m c = M c) := by
  have tp : (nI p).toInt = (p : Int) := nI_toInt (by omega)
  have ep : (nI p).toNatClampNeg = p := by rw [tnc, tp]; rfl
  have e40 : (nI p * (40 : Int32)).toNatClampNeg = 40 * p := by rw [tnc, i_mul tp l_40 (by omega) (by omega)]; omega
  have e0 : (0 : Int32).toNatClampNeg = 0 := rfl
  have e4 : (40 : Int32).toNatClampNeg = 40 := rfl
  unfold f_X10_takePlan
  refine P_qcp (P_qlm (P_qcp (P_qlm ?_)))
  rw [e40, e0, e4]
  refine P_qg (fun _ _ => ?_)
  rw [ep]
  refine P_m (fun m3 a1 a2 a3 => P_qg (fun _ _ => P_m (fun m4 b1 b2 b3 => P_ret ?_)))
  have q12 : m4 12 = va_cpy (M 54) (M 12) 0 (40 * p) 40 := by rw [b3 12 (by decide), a3 12 (by decide), mr_ne (by decide), mr_at]
  have q13 : m4 13 = va_cpy (M 55) (M 13) 0 (40 * p) 40 := by rw [b3 13 (by decide), a3 13 (by decide), mr_at, mr_ne (by decide), mr_ne (by decide)]
  refine ⟨fun i hi => ?_, fun i hi => ?_, ?_, fun i hi => ?_, b1, fun i hi => ?_, fun c h1 h2 h3 h4 => ?_⟩
  · rw [q12, q13, pk_cpy_in (by omega) (by omega), pk_cpy_in (by omega) (by omega), show 0 + (40 * p + i - 40 * p) = i by omega]
    exact ⟨rfl, rfl⟩
  · rw [q12, q13, pk_cpy_out (by omega), pk_cpy_out (by omega)]
    exact ⟨rfl, rfl⟩
  · rw [b3 14 (by decide), a1, mr_ne (by decide), mr_ne (by decide)]
  · rw [b3 14 (by decide), a2 i hi, mr_ne (by decide), mr_ne (by decide)]
  · rw [b2 i hi, a3 15 (by decide), mr_ne (by decide), mr_ne (by decide)]
  · rw [b3 c h4, a3 c h3, mr_ne h2, mr_ne h1]
theorem out715 {l : List Bx} {c s : Nat} (h1 : 7 ≤ c) (h2 : c ≤ 15) (h : l.all (fun b => decide (b.2.1 ≤ 7) || decide (16 ≤ b.1)) = true) : ∀ b ∈ l, ¬ inB b c s := by
  intro b hb hi
  rw [List.all_eq_true] at h
  have h3 := h b hb
  obtain ⟨a1, a2, _⟩ := hi
  simp only [Bool.or_eq_true, decide_eq_true_eq] at h3
  omega
abbrev QC (R : Nat → Int32) (len : Int) (p : Nat) (A : qM) (v : Int32) (m : qM) : Prop := (v.toInt ≤ 0 ∧ ∀ c, 7 ≤ c → c ≤ 15 → m c = A c) ∨ ∃ pz s D, Eo (tq R len) len (0, 0, 0, fun _ => (0, 0), []) (3, pz, s, D, []) ∧ v.toInt = (s : Int) ∧ (m 14 p).toInt = (s : Int) ∧ m 15 p = 0 ∧ (∀ q, q < s → ((m 12 (40 * p + q)).toInt, (m 13 (40 * p + q)).toInt) = D q) ∧ (∀ i, (i < 40 * p ∨ 40 * p + 40 ≤ i) → m 12 i = A 12 i ∧ m 13 i = A 13 i) ∧ (∀ i, i ≠ p → m 14 i = A 14 i ∧ m 15 i = A 15 i) ∧ (∀ c, 7 ≤ c → c ≤ 11 → m c = A c)
theorem z_plan {n p : Nat} (hn : 200000 ≤ n) (hp : p < 8) (a2 : Int32) (M : qM) (hG : G M) (h2 : 1 ≤ a2.toInt ∧ a2.toInt ≤ 80 ∧ a2.toInt ≤ (M 1 1).toInt) (hb : bitI (M 7 8) p) : qP (f_X11_plan n (nI p) a2 M) (QC (M 2) a2.toInt p M) := by
  have hk : f_X10_knows n 7 (nI p) M = some (1, M) := by
    unfold f_X10_knows
    rw [if_neg (nI_n0 (by omega)), if_neg (show ¬ (8 : Int32) ≤ nI p from nI_ge (a := p) (b := 8) (by omega) (by decide)), if_pos hb]
  unfold f_X11_plan
  rw [hk, qc_v, if_neg (by decide), if_neg (show ¬ a2 < (1 : Int32) by rw [Int32.lt_iff_toInt_lt, l_1]; omega), if_neg (show ¬ (80 : Int32) < a2 by rw [Int32.lt_iff_toInt_lt, l_80]; omega), if_pos (show a2 ≤ M 1 1 by rw [Int32.le_iff_toInt_le]; omega)]
  refine P_qc (P_and (z_read hn a2 M hG ⟨h2.1, h2.2.1⟩ h2.2.2) (P_T (t_X6_read hn a2 M hG (by omega)))) ?_
  rintro r3 m4 ⟨hz, h40, st4⟩
  have s4 : ∀ c, 7 ≤ c → c ≤ 15 → m4 c = M c := fun c h7 h15 => funext (fun s_ => st4 c s_ (out715 h7 h15 rfl))
  refine P_qc (clear_1 m4) ?_
  intro _ m5 e5
  refine P_le rfl l_0 (fun c => P_ret (Or.inl ⟨c, fun c2 q1 q2 => by rw [e5 c2 (by omega)]; exact s4 c2 q1 q2⟩)) (fun c => ?_)
  obtain ⟨pz, D, hE, hD, hv⟩ := hz c
  refine P_qc (z_take hp m5) ?_
  rintro _ m6 ⟨d1, d2, d3, d4, d5, d6, d7⟩
  have h533 := r_53_3 h40
  refine P_ret (Or.inr ⟨pz, sJ m4, D, hE, ?_, ?_, d5, fun q hq => ?_, fun i hi => ?_, fun i hi => ⟨?_, ?_⟩, fun c2 q1 q2 => ?_⟩)
  · rw [hv]; show _ = ((m4 53 3).toInt.toNat : Int); omega
  · rw [d3, e5 53 (by decide)]; show _ = ((m4 53 3).toInt.toNat : Int); omega
  · have hq2 : q < (m4 53 3).toInt.toNat := hq
    rw [(d1 q (by omega)).1, (d1 q (by omega)).2, e5 54 (by decide), e5 55 (by decide)]
    exact hD q (by omega)
  · rw [(d2 i hi).1, (d2 i hi).2, e5 12 (by decide), e5 13 (by decide), s4 12 (by decide) (by decide), s4 13 (by decide) (by decide)]
    exact ⟨rfl, rfl⟩
  · rw [d4 i hi, e5 14 (by decide), s4 14 (by decide) (by decide)]
  · rw [d6 i hi, e5 15 (by decide), s4 15 (by decide) (by decide)]
  · rw [d7 c2 (by omega) (by omega) (by omega) (by omega), e5 c2 (by omega), s4 c2 q1 (by omega)]
