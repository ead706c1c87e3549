/-! the model's reader of plans follows the small machine, too -/
def tm (R : Nat → Int32) (len p : Int) : Int := if 0 ≤ p ∧ p < len then ((R p.toNat) &&& (255 : Int32)).toInt else -1
theorem tm_r (R : Nat → Int32) (len p : Int) : (tm R len p = -1 ∧ ¬ (0 ≤ p ∧ p < len)) ∨ (tm R len p = ((R p.toNat) &&& (255 : Int32)).toInt ∧ 0 ≤ p ∧ p < len ∧ 0 ≤ tm R len p) := by
  unfold tm
  by_cases h : 0 ≤ p ∧ p < len
  · rw [if_pos h]
    exact Or.inr ⟨rfl, h.1, h.2, (i_and (a := R p.toNat) (b := (255 : Int32)) l_255 (by omega)).1⟩
  · rw [if_neg h]; exact Or.inl ⟨rfl, h⟩
abbrev lM : List Bx := [(77, 78, 9, 10), (77, 78, 11, 13), (77, 78, 35, 37), (98, 102, 0, 0)]
theorem T_n {M0 M : qM} {c s : Nat} {v : Int32} {f : qM → qR} {Q : Int32 → qM → Prop} (hc : (c = 77 ∧ (s = 9 ∨ s = 11 ∨ s = 12 ∨ s = 35 ∨ s = 36)) ∨ (98 ≤ c ∧ c ≤ 101)) (hG : G M) (hS : Sm lM M0 M) (hr : Rin c s v) (h : ∀ m : qM, m c s = v → (∀ s2, s2 ≠ s → m c s2 = M c s2) → (∀ c2, c2 ≠ c → m c2 = M c2) → G m → Sm lM M0 m → qT (f m) Q) : qT (qlm (mu M c s v) f) Q := by
  refine h _ mu_at (fun s2 h2 => mu_ne (Or.inr h2)) (fun c2 hc2 => mu_nc hc2) (G_mu hG hr (by unfold nW; omega)) ?_
  rcases hc with ⟨rfl, hs⟩ | hc
  · rcases hs with rfl | rfl | rfl | rfl | rfl
    · exact hS.mu (i := 0) rfl ⟨by decide, by decide, Or.inr ⟨by decide, by decide⟩⟩
    · exact hS.mu (i := 1) rfl ⟨by decide, by decide, Or.inr ⟨by decide, by decide⟩⟩
    · exact hS.mu (i := 1) rfl ⟨by decide, by decide, Or.inr ⟨by decide, by decide⟩⟩
    · exact hS.mu (i := 2) rfl ⟨by decide, by decide, Or.inr ⟨by decide, by decide⟩⟩
    · exact hS.mu (i := 2) rfl ⟨by decide, by decide, Or.inr ⟨by decide, by decide⟩⟩
  · exact hS.mu (i := 3) rfl ⟨by show 98 ≤ c; omega, by show c < 102; omega, Or.inl rfl⟩
theorem v_here {n : Nat} (hn : 200000 ≤ n) (M : qM) (hG : G M) : qT (f_X12_here n M) (fun v m => m = M ∧ v.toInt = tm (M 84) (M 77 10).toInt (M 77 9).toInt) := by
  have h9 := r_77_9 hG
  refine T_mono (t_X12_here hn M hG) ?_
  rintro v m ⟨_, p, _, hs⟩
  refine ⟨hs.nil.symm, ?_⟩
  unfold tm
  rcases p with ⟨p1, p2⟩ | ⟨p1, p2⟩
  · rw [p1, if_neg (by omega)]
  · rw [p2, if_pos ⟨h9.1, p1⟩]; rfl
theorem v_digit {n : Nat} (hn : 200000 ≤ n) (M : qM) (hG : G M) : qT (f_X12_isDigit n M) (fun v m => m = M ∧ ((v.toInt = 1 ∧ 0 ≤ dq (tm (M 84) (M 77 10).toInt (M 77 9).toInt)) ∨ (v.toInt = 0 ∧ dq (tm (M 84) (M 77 10).toInt (M 77 9).toInt) = -1))) := by
  unfold f_X12_isDigit
  refine T_qc (v_here hn M hG) ?_
  rintro r m ⟨rfl, hr⟩
  have hd := dq_r (tm (m 84) (m 77 10).toInt (m 77 9).toInt)
  refine T_lt rfl l_48 (fun c => ?_) (fun c => ?_)
  · exact T_ret ⟨rfl, Or.inr ⟨l_0, by omega⟩⟩
  · refine T_qc (v_here hn m hG) ?_
    rintro r3 m4 ⟨rfl, hr3⟩
    refine T_lt l_57 rfl (fun d => ?_) (fun d => ?_)
    · exact T_ret ⟨rfl, Or.inr ⟨l_0, by omega⟩⟩
    · exact T_ret ⟨rfl, Or.inl ⟨l_1, by omega⟩⟩
theorem v_wrong {n : Nat} {M0 : qM} (a b : Int32) (M : qM) (hG : G M) (hS : Sm lM M0 M) (ha : 1 ≤ a.toInt ∧ a.toInt ≤ 6) (hb : 0 ≤ b.toInt ∧ b.toInt ≤ 240) : qT (f_X12_wrongAt n a b M) (fun v m => v.toInt = 0 ∧ (m 77 11).toInt = -1000 * a.toInt - b.toInt ∧ (∀ s2, s2 ≠ 11 → m 77 s2 = M 77 s2) ∧ (∀ c, c ≠ 77 → m c = M c) ∧ G m ∧ Sm lM M0 m) := by
  unfold f_X12_wrongAt
  refine T_n (Or.inl ⟨rfl, by decide⟩) hG hS trivial ?_
  intro m e1 e2 e3 g s
  refine T_ret ⟨l_0, ?_, e2, e3, g, s⟩
  rw [e1, i_sub (i_mul l_m1000 rfl (by omega) (by omega)) rfl (by omega) (by omega)]
def stk (F A : Nat → Int32) : Nat → List (Int × Int)
  | 0 => []
  | k + 1 => ((F k).toInt, (A k).toInt) :: stk F A k
theorem stk_cg {F A F' A' : Nat → Int32} : ∀ k, (∀ i, i < k → F' i = F i ∧ A' i = A i) → stk F' A' k = stk F A k := by
  intro k
  induction k with
  | zero => intro _; rfl
  | succ k ih =>
    intro h
    show ((F' k).toInt, (A' k).toInt) :: stk F' A' k = ((F k).toInt, (A k).toInt) :: stk F A k
    rw [ih (fun i hi => h i (by omega)), (h k (by omega)).1, (h k (by omega)).2]
theorem stk_len {F A : Nat → Int32} : ∀ k, (stk F A k).length = k := by
  intro k
  induction k with
  | zero => rfl
  | succ k ih => show (stk F A k).length + 1 = k + 1; rw [ih]
/-- the model's state is one of the small machine's -/
abbrev cM (t : Nat) (M : qM) : Cf := (t, (M 77 9).toInt, (M 77 35).toInt, stk (M 100) (M 101) (M 77 36).toInt.toNat)
def FR (M : qM) : Prop := ∀ i : Nat, (i : Int) < (M 77 36).toInt → 0 ≤ (M 100 i).toInt ∧ (M 100 i).toInt ≤ 240
abbrev Mx (R : Nat → Int32) (len : Int) (M : qM) : Prop := M 84 = R ∧ (M 77 10).toInt = len ∧ (M 77 9).toInt ≤ len ∧ KR M ∧ FR M
theorem v_rep {n : Nat} {M1 M0 : qM} (a1 a2 a3 : Int32) (h1 : 2 ≤ a1.toInt ∧ a1.toInt ≤ 9) (h2 : 0 ≤ a2.toInt ∧ a2.toInt ≤ 40) (h3 : 0 ≤ a3.toInt ∧ a3.toInt ≤ 40) (h4 : a2.toInt + (a3 * a1).toInt ≤ 40) (h5 : a3.toInt ≤ (a3 * a1).toInt) : ∀ (m : Nat) (a4 : Int32) (M : qM), G M → Sm lM M0 M → a3.toInt ≤ a4.toInt → a4.toInt ≤ (a3 * a1).toInt → M 77 = M1 77 → (∀ c, c ≠ 77 → c ≠ 98 → c ≠ 99 → M c = M1 c) → 41 - a4.toInt < (m : Int) → qT (f_X12_endsRound_108 n m a1 a2 a3 a4 M) (fun v m => v.toInt = 1 ∧ (m 77 35).toInt = a2.toInt + (a3 * a1).toInt ∧ (∀ s, s ≠ 35 → m 77 s = M1 77 s) ∧ (∀ c, c ≠ 77 → c ≠ 98 → c ≠ 99 → m c = M1 c) ∧ G m ∧ Sm lM M0 m) := by
  intro m
  induction m with
  | zero => intro a4 M _ _ _ _ _ _ h; exfalso; omega
  | succ m ih =>
    intro a4 M hG hS k1 k2 k3 k4 hm
    show qT (b_X12_endsRound_108 n (f_X12_endsRound_108 n m) a1 a2 a3 a4 M) _
    unfold b_X12_endsRound_108
    refine T_le rfl rfl (fun c => ?_) (fun c => ?_)
    · have ep : (a2 + a3 * a1).toInt = a2.toInt + (a3 * a1).toInt := i_add rfl rfl (by omega) (by omega)
      refine T_n (Or.inl ⟨rfl, by decide⟩) hG hS (i_rng (lo := 0) (hi := 40) ep (by omega) (by omega)) ?_
      intro m1 e1 e2 e3 g s
      exact T_ret ⟨l_1, by rw [e1]; exact ep, fun s2 hs2 => by rw [e2 s2 hs2, k3], fun k q1 q2 q3 => by rw [e3 k q1]; exact k4 k q1 q2 q3, g, s⟩
    · have ea : (a2 + a4).toInt = a2.toInt + a4.toInt := i_add rfl rfl (by omega) (by omega)
      have eb : (a2 + a4 - a3).toInt = a2.toInt + a4.toInt - a3.toInt := i_sub ea rfl (by omega) (by omega)
      refine T_qg eb (by omega) (by omega) (T_qg ea (by omega) (by omega) ?_)
      refine T_n (Or.inr (by decide)) hG hS trivial ?_
      intro m2 e1 e2 e3 g s
      refine T_qg eb (by omega) (by omega) (T_qg ea (by omega) (by omega) ?_)
      refine T_n (Or.inr (by decide)) g s trivial ?_
      intro m3 f1 f2 f3 g3 s3
      refine T_ql (i_add rfl l_1 (by omega) (by omega)) ?_
      intro x hx
      exact ih x m3 g3 s3 (by omega) (by omega) (by rw [f3 77 (by decide), e3 77 (by decide)]; exact k3) (fun k q1 q2 q3 => by rw [f3 k q3, e3 k q2]; exact k4 k q1 q2 q3) (by omega)
theorem v_ends {n : Nat} (hn : 200000 ≤ n) {M0 : qM} {R : Nat → Int32} {len : Int} (M : qM) (hG : G M) (hS : Sm lM M0 M) (hM : Mx R len M) (hT : tm R len (M 77 9).toInt = 41) (hk : 1 ≤ (M 77 36).toInt) : qT (f_X12_endsRound n M) (fun v m => ((v.toInt = 0 ∧ stp (tm R len) len (cM 1 M) = (2, (m 77 11).toInt, 0, [])) ∨ (v.toInt = 1 ∧ stp (tm R len) len (cM 1 M) = cM 1 m ∧ Mx R len m ∧ (M 77 9).toInt < (m 77 9).toInt)) ∧ G m ∧ Sm lM M0 m) := by
  obtain ⟨hR, hlen, hpl, hKR, hFR⟩ := hM
  have h9 := r_77_9 hG
  have h10 := r_77_10 hG
  have h35 := r_77_35 hG
  have h36 := r_77_36 hG
  have ht := tm_r R len (M 77 9).toInt
  have ht1 := tm_r R len ((M 77 9).toInt + 1)
  have hd1 := dq_r (tm R len ((M 77 9).toInt + 1))
  -- the stack's top
  have hk1 : (M 77 36).toInt.toNat = ((M 77 36).toInt - 1).toNat + 1 := by omega
  have hst : stk (M 100) (M 101) (M 77 36).toInt.toNat = ((M 100 ((M 77 36).toInt - 1).toNat).toInt, (M 101 ((M 77 36).toInt - 1).toNat).toInt) :: stk (M 100) (M 101) ((M 77 36).toInt - 1).toNat := by rw [hk1]; rfl
  have h101 := r_101 hG ((M 77 36).toInt - 1).toNat
  have hb := hKR ((M 77 36).toInt - 1).toNat (by omega)
  have hstp : stp (tm R len) len (cM 1 M) = (if dq (tm R len ((M 77 9).toInt + 1)) < 2 then cF 1 ((M 77 9).toInt + 1) else if 40 < (M 101 ((M 77 36).toInt - 1).toNat).toInt + ((M 77 35).toInt - (M 101 ((M 77 36).toInt - 1).toNat).toInt) * dq (tm R len ((M 77 9).toInt + 1)) then cF 6 (M 100 ((M 77 36).toInt - 1).toNat).toInt else (1, (M 77 9).toInt + 2, (M 101 ((M 77 36).toInt - 1).toNat).toInt + ((M 77 35).toInt - (M 101 ((M 77 36).toInt - 1).toNat).toInt) * dq (tm R len ((M 77 9).toInt + 1)), stk (M 100) (M 101) ((M 77 36).toInt - 1).toNat)) := by
    show stp (tm R len) len (1, (M 77 9).toInt, (M 77 35).toInt, stk (M 100) (M 101) (M 77 36).toInt.toNat) = _
    rw [st_B, hst]
    show (if _ then _ else _) = _
    rw [if_neg (by omega), if_pos hT]
  unfold f_X12_endsRound
  have ep : (M 77 9 + 1).toInt = (M 77 9).toInt + 1 := i_add rfl l_1 (by omega) (by omega)
  refine T_n (Or.inl ⟨rfl, by decide⟩) hG hS (i_rng (lo := 0) (hi := 240) ep (by omega) (by omega)) ?_
  intro m1 a1 a2 a3 g1 s1
  have p1 : (m1 77 9).toInt = (M 77 9).toInt + 1 := by rw [a1]; exact ep
  have q84 : m1 84 = R := by rw [a3 84 (by decide)]; exact hR
  have q10 : (m1 77 10).toInt = len := by rw [a2 10 (by decide)]; exact hlen
  refine T_qc (v_here hn m1 g1) ?_
  rintro r2 m3 ⟨rfl, hr2⟩
  rw [q84, q10, p1] at hr2
  refine T_qc (t_X12_in hn r2 (50 : Int32) (57 : Int32) m3 g1 (by decide) (by decide)) ?_
  rintro r4 m5 ⟨hr4, he4, _, hs5⟩
  have e5 := hs5.nil
  subst e5
  rw [l_50, l_57] at he4
  refine T_eq rfl l_0 (fun c => ?_) (fun c => ?_)
  · refine T_qc (v_wrong (1 : Int32) (m3 77 9) m3 g1 s1 (by decide) (by omega)) ?_
    rintro r15 m16 ⟨w0, w1, w2, w3, g16, s16⟩
    rw [l_1] at w1
    refine T_qb rfl (by omega) (by omega) (T_ret ⟨Or.inl ⟨w0, ?_⟩, g16, s16⟩)
    rw [hstp, if_pos (by omega)]
    unfold cF
    rw [w1, p1]
  · refine T_qc (v_here hn m3 g1) ?_
    rintro r6 m7 ⟨rfl, hr6⟩
    rw [q84, q10, p1] at hr6
    refine T_ql (i_sub rfl l_48 (by omega) (by omega)) ?_
    intro x8 hx8
    have htm : x8.toInt = dq (tm R len ((M 77 9).toInt + 1)) := by omega
    have ep7 : (m7 77 9 + 1).toInt = (m7 77 9).toInt + 1 := i_add rfl l_1 (by omega) (by omega)
    refine T_n (Or.inl ⟨rfl, by decide⟩) g1 s1 (i_rng (lo := 0) (hi := 240) ep7 (by omega) (by omega)) ?_
    intro m9 b1 b2 b3 g9 s9
    have p9 : (m9 77 9).toInt = (M 77 9).toInt + 2 := by rw [b1]; omega
    have c36 : m9 77 36 = M 77 36 := by rw [b2 36 (by decide), a2 36 (by decide)]
    rw [c36]
    have ew : (M 77 36 - 1).toInt = (M 77 36).toInt - 1 := i_sub rfl l_1 (by omega) (by omega)
    refine T_n (Or.inl ⟨rfl, by decide⟩) g9 s9 (i_rng (lo := 0) (hi := 3) ew (by omega) (by omega)) ?_
    intro m10 d1 d2 d3 g10 s10
    have w10 : (m10 77 36).toInt = (M 77 36).toInt - 1 := by rw [d1]; exact ew
    have f101 : m10 101 = M 101 := by rw [d3 101 (by decide), b3 101 (by decide), a3 101 (by decide)]
    have f100 : m10 100 = M 100 := by rw [d3 100 (by decide), b3 100 (by decide), a3 100 (by decide)]
    have f35 : m10 77 35 = M 77 35 := by rw [d2 35 (by decide), b2 35 (by decide), a2 35 (by decide)]
    refine T_qg rfl (by omega) (by omega) ?_
    have ix : (m10 77 36).toNatClampNeg = ((M 77 36).toInt - 1).toNat := by rw [tnc, w10]
    rw [ix, f101]
    refine T_ql rfl ?_
    intro x11 hx11
    rw [f35]
    refine T_ql (i_sub rfl rfl (by omega) (by omega)) ?_
    intro x12 hx12
    have hmk := i_mulk 9 (a := x12) (b := x8) rfl rfl (by omega) (by omega) (by omega) (by omega)
    have hmul : (x12 * x8).toInt = x12.toInt * x8.toInt := by
      refine i_mul rfl rfl ?_ ?_
      · have := Int.mul_nonneg (show 0 ≤ x12.toInt by omega) (show 0 ≤ x8.toInt by omega); omega
      · have h7 : x12.toInt * x8.toInt ≤ x12.toInt * 9 := Int.mul_le_mul_of_nonneg_left (by omega) (by omega)
        omega
    have hval : (M 101 ((M 77 36).toInt - 1).toNat).toInt + ((M 77 35).toInt - (M 101 ((M 77 36).toInt - 1).toNat).toInt) * dq (tm R len ((M 77 9).toInt + 1)) = x11.toInt + (x12 * x8).toInt := by
      rw [hmul, ← htm, hx12, hx11]
    refine T_le (i_add rfl rfl (by omega) (by omega)) l_40 (fun f => ?_) (fun f => ?_)
    · refine T_mono (v_rep (M1 := m10) (M0 := M0) x8 x11 x12 (by omega) (by omega) (by omega) (by omega) (by omega) n x12 m10 g10 s10 (by omega) (by omega) rfl (fun _ _ _ _ => rfl) (by omega)) ?_
      rintro v m ⟨z1, z2, z3, z4, g, s⟩
      have u36 : m 77 36 = m10 77 36 := z3 36 (by decide)
      have u9 : (m 77 9).toInt = (M 77 9).toInt + 2 := by rw [z3 9 (by decide), d2 9 (by decide)]; exact p9
      have u100 : m 100 = M 100 := by rw [z4 100 (by decide) (by decide) (by decide), f100]
      have u101 : m 101 = M 101 := by rw [z4 101 (by decide) (by decide) (by decide), f101]
      refine ⟨Or.inr ⟨z1, ?_, ⟨?_, ?_, ?_, ?_, ?_⟩, by omega⟩, g, s⟩
      · rw [hstp, if_neg (by omega), if_neg (by rw [hval]; omega), hval]
        show _ = (1, (m 77 9).toInt, (m 77 35).toInt, stk (m 100) (m 101) (m 77 36).toInt.toNat)
        rw [u9, z2, u100, u101, u36, w10]
      · rw [z4 84 (by decide) (by decide) (by decide), d3 84 (by decide), b3 84 (by decide)]; exact q84
      · rw [z3 10 (by decide), d2 10 (by decide), b2 10 (by decide)]; exact q10
      · omega
      · intro i hi
        rw [u36, w10] at hi
        rw [u101, z2]
        have := hKR i (by omega)
        omega
      · intro i hi
        rw [u36, w10] at hi
        rw [u100]
        exact hFR i (by omega)
    · refine T_qg rfl (by omega) (by omega) ?_
      rw [f100]
      refine T_qc (v_wrong (6 : Int32) (M 100 ((M 77 36).toInt - 1).toNat) m10 g10 s10 (by decide) (hFR _ (by omega))) ?_
      rintro r13 m14 ⟨w0, w1, w2, w3, g14, s14⟩
      rw [l_6] at w1
      refine T_qb rfl (by omega) (by omega) (T_ret ⟨Or.inl ⟨w0, ?_⟩, g14, s14⟩)
      rw [hstp, if_neg (by omega), if_pos (by rw [hval]; omega)]
      unfold cF
      rw [w1]
