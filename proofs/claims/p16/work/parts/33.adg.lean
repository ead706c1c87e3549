theorem v_142 {n : Nat} {s : Int} (hs : 0 ≤ s ∧ s ≤ 40) (a1 : Int32) (ha : 0 ≤ a1.toInt ∧ a1.toInt ≤ 7) : ∀ (m : Nat) (a4 : Int32) (M : qM), (M 77 35).toInt = s → 0 ≤ a4.toInt → a4.toInt ≤ 40 → 41 - a4.toInt < (m : Int) → qT (f_X12_plan_142 n m a1 a4 M) (fun v _ => v.toInt = s) := by
  intro m
  induction m with
  | zero => intro a4 M _ _ _ h; exfalso; omega
  | succ m ih =>
    intro a4 M h1 h2 h3 hm
    show qT (b_X12_plan_142 n (f_X12_plan_142 n m) a1 a4 M) _
    unfold b_X12_plan_142
    refine T_le rfl rfl (fun c => ?_) (fun c => ?_)
    · exact T_ret h1
    · refine T_qg rfl (by omega) (by omega) ?_
      refine T_qg (i_add (i_add l_314 (i_mul l_40 rfl (by omega) (by omega)) (by omega) (by omega)) rfl (by omega) (by omega)) (by omega) (by omega) (T_qlm ?_)
      refine T_qg rfl (by omega) (by omega) ?_
      refine T_qg (i_add (i_add l_634 (i_mul l_40 rfl (by omega) (by omega)) (by omega) (by omega)) rfl (by omega) (by omega)) (by omega) (by omega) (T_qlm ?_)
      refine T_ql (i_add rfl l_1 (by omega) (by omega)) ?_
      intro x hx
      exact ih x _ (by rw [mu_ne (Or.inl (by decide)), mu_ne (Or.inl (by decide))]; exact h1) (by omega) (by omega) (by omega)
abbrev Qz (T : Int → Int) (len : Int) (v : Int32) : Prop := To T len (0, 0, 0, []) (2, v.toInt, 0, []) ∨ To T len (0, 0, 0, []) (3, 0, v.toInt, [])
theorem v_100 {n : Nat} (hn : 200000 ≤ n) {T : Int → Int} {len : Int} (a1 a3 : Int32) (M : qM) (hG : G M) (ha : 0 ≤ a1.toInt ∧ a1.toInt ≤ 7) (h : (a3.toInt = 0 ∧ To T len (0, 0, 0, []) (2, (M 77 11).toInt, 0, [])) ∨ (a3.toInt ≠ 0 ∧ To T len (0, 0, 0, []) (3, 0, (M 77 35).toInt, []))) : qT (f_X12_plan_100 n a1 a3 M) (fun v _ => Qz T len v) := by
  have h35 := r_77_35 hG
  unfold f_X12_plan_100
  refine T_qlm ?_
  refine T_eq rfl l_0 (fun c => ?_) (fun c => ?_)
  · refine T_ret ?_
    rw [mu_ne (Or.inr (by decide))]
    rcases h with q | q
    · exact Or.inl q.2
    · exact absurd c q.1
  · have q := (h.resolve_left (fun q => c q.1)).2
    refine T_qg (i_add l_296 rfl (by omega) (by omega)) (by omega) (by omega) (T_qlm ?_)
    refine T_qg (i_add l_304 rfl (by omega) (by omega)) (by omega) (by omega) (T_qlm ?_)
    refine T_mono (v_142 (s := (M 77 35).toInt) h35 a1 ha n 0 _ (by rw [mu_ne (Or.inl (by decide)), mu_ne (Or.inl (by decide)), mu_ne (Or.inr (by decide))]) (by rw [l_0]; omega) (by rw [l_0]; omega) (by rw [l_0]; omega)) ?_
    intro v m hv
    refine Or.inr ?_
    rw [hv]
    exact q
theorem v_takes {n : Nat} (hn : 200000 ≤ n) {M0 : qM} (a : Int32) (M : qM) (hG : G M) (hS : Sm lM M0 M) (ha : 0 ≤ a.toInt) : qT (f_X12_takes n a M) (fun v m => ((v.toInt = 1 ∧ tm (M 84) (M 77 10).toInt (M 77 9).toInt = a.toInt ∧ (M 77 9).toInt < (M 77 10).toInt ∧ (m 77 9).toInt = (M 77 9).toInt + 1) ∨ (v.toInt = 0 ∧ tm (M 84) (M 77 10).toInt (M 77 9).toInt ≠ a.toInt ∧ (m 77 11).toInt = -1000 - (M 77 9).toInt)) ∧ (∀ s, s ≠ 9 → s ≠ 11 → m 77 s = M 77 s) ∧ (∀ c, c ≠ 77 → m c = M c) ∧ G m ∧ Sm lM M0 m) := by
  have h9 := r_77_9 hG
  have h10 := r_77_10 hG
  unfold f_X12_takes
  refine T_qc (v_here hn M hG) ?_
  rintro r m ⟨rfl, hr⟩
  have ht := tm_r (m 84) (m 77 10).toInt (m 77 9).toInt
  refine T_eq rfl rfl (fun c => ?_) (fun c => ?_)
  · have ep : (m 77 9 + 1).toInt = (m 77 9).toInt + 1 := i_add rfl l_1 (by omega) (by omega)
    refine T_n (Or.inl ⟨rfl, by decide⟩) hG hS (i_rng (lo := 0) (hi := 240) ep (by omega) (by omega)) ?_
    intro m3 e1 e2 e3 g s
    exact T_ret ⟨Or.inl ⟨l_1, by omega, by omega, by rw [e1]; exact ep⟩, fun s2 q1 _ => e2 s2 q1, e3, g, s⟩
  · refine T_qc (v_wrong (1 : Int32) (m 77 9) m hG hS (by decide) h9) ?_
    rintro r4 m5 ⟨w0, w1, w2, w3, g, s⟩
    rw [l_1] at w1
    exact T_qb rfl (by omega) (by omega) (T_ret ⟨Or.inr ⟨w0, by omega, by omega⟩, fun s2 _ q2 => w2 s2 q2, w3, g, s⟩)
theorem v_step {n : Nat} (hn : 200000 ≤ n) {M0 : qM} {R : Nat → Int32} {len : Int} {c : Cf} (M : qM) (hG : G M) (hS : Sm lM M0 M) (hM : Mx R len M) (hT : To (tm R len) len c (cM 0 M)) : qT (f_X12_readsStep n M) (Qv R len c (M 77 9).toInt M0) := by
  have h9 := r_77_9 hG
  unfold f_X12_readsStep
  refine T_ql rfl ?_
  intro x hx
  exact v_5 hn n x M hG hS hM hx (Int.le_refl _) hT (by omega)
theorem v_53 {n : Nat} (hn : 200000 ≤ n) {M0 : qM} {R : Nat → Int32} {len : Int} (a1 : Int32) (ha : 0 ≤ a1.toInt ∧ a1.toInt ≤ 7) : ∀ (m : Nat) (a3 : Int32) (M : qM), G M → Sm lM M0 M → ((a3.toInt = 0 ∧ To (tm R len) len (0, 0, 0, []) (2, (M 77 11).toInt, 0, [])) ∨ (a3.toInt = 1 ∧ To (tm R len) len (0, 0, 0, []) (cM 1 M) ∧ Mx R len M ∧ (tm R len (M 77 9).toInt ≠ 41 ∨ (M 77 36).toInt = 0) ∧ 242 - (M 77 9).toInt < (m : Int))) → 0 < m → qT (f_X12_plan_53 n m a1 a3 M) (fun v _ => Qz (tm R len) len v) := by
  intro m
  induction m with
  | zero => intro a3 M _ _ _ h; exfalso; omega
  | succ m ih =>
    intro a3 M hG hS h hm
    have h9 := r_77_9 hG
    have h36 := r_77_36 hG
    show qT (b_X12_plan_53 n (f_X12_plan_53 n m) a1 a3 M) _
    unfold b_X12_plan_53
    refine T_eq rfl l_0 (fun c => ?_) (fun c => ?_)
    · refine v_100 hn a1 a3 M hG ha (Or.inl ?_)
      rcases h with q | q
      · exact q
      · omega
    · obtain ⟨q1, q2, q3, q4, q5⟩ := h.resolve_left (fun q => c q.1)
      have q3' := q3
      obtain ⟨hR, hlen, hpl, hKR, hFR⟩ := q3'
      have ht := tm_r R len (M 77 9).toInt
      have hstp : stp (tm R len) len (cM 1 M) = stB (tm R len) len (M 77 9).toInt (M 77 35).toInt (stk (M 100) (M 101) (M 77 36).toInt.toNat) := rfl
      have go75 : ((M 77 9).toInt < len ∨ 0 < (M 77 36).toInt) → qT (f_X12_plan_75 n (f_X12_plan_53 n m) a1 M) (fun v _ => Qz (tm R len) len v) := by
        intro hor
        unfold f_X12_plan_75
        refine T_qc (v_takes hn (M0 := M0) (44 : Int32) M hG hS (by decide)) ?_
        rintro r1 m2 ⟨ho, z2, z3, g2, s2⟩
        rw [hR, hlen, l_44] at ho
        refine T_eq rfl l_0 (fun e => ?_) (fun e => ?_)
        · refine ih 0 m2 g2 s2 (Or.inl ⟨l_0, To_tr q2 (To_st ?_)⟩) (by omega)
          rcases ho with w | ⟨w1, w2, w3⟩
          · omega
          · rw [hstp, w3]
            cases hst : stk (M 100) (M 101) (M 77 36).toInt.toNat with
            | nil =>
              have hl := stk_len (F := M 100) (A := M 101) (M 77 36).toInt.toNat
              rw [hst] at hl
              have hl2 : (M 77 36).toInt.toNat = 0 := hl.symm
              show (if _ then _ else _) = _
              rw [if_neg w2, if_neg (by omega)]
              rfl
            | cons x y =>
              have hl := stk_len (F := M 100) (A := M 101) (M 77 36).toInt.toNat
              rw [hst] at hl
              have hl2 : y.length + 1 = (M 77 36).toInt.toNat := hl
              show (if _ then _ else _) = _
              rw [if_neg w2, if_neg (by omega)]
              rfl
        · obtain ⟨w1, w2, w3, w4⟩ := ho.resolve_right (fun q => e q.1)
          have e77 : ∀ s, s ≠ 9 → s ≠ 11 → m2 77 s = M 77 s := z2
          have e35 := e77 35 (by decide) (by decide)
          have e36 := e77 36 (by decide) (by decide)
          have hM2 : Mx R len m2 := ⟨by rw [z3 84 (by decide)]; exact hR, by rw [e77 10 (by decide) (by decide)]; exact hlen, by omega, KR_c e35 e36 (z3 101 (by decide)) hKR, fun i hi => by rw [e36] at hi; rw [z3 100 (by decide)]; exact hFR i hi⟩
          have hA : To (tm R len) len (0, 0, 0, []) (cM 0 m2) := by
            refine To_tr q2 (To_st ?_)
            show stp _ _ _ = (0, (m2 77 9).toInt, (m2 77 35).toInt, stk (m2 100) (m2 101) (m2 77 36).toInt.toNat)
            rw [hstp, w4, e35, e36, z3 100 (by decide), z3 101 (by decide)]
            cases stk (M 100) (M 101) (M 77 36).toInt.toNat with
            | nil => show (if _ then _ else _) = _; rw [if_pos w2]
            | cons x y => show (if _ then _ else _) = _; rw [if_pos w2]
          refine T_qc (v_step hn m2 g2 s2 hM2 hA) ?_
          rintro r3 m4 ⟨ho4, g4, s4⟩
          refine T_eq rfl l_0 (fun f => ?_) (fun f => ?_)
          · refine ih 0 m4 g4 s4 (Or.inl ⟨l_0, ?_⟩) (by omega)
            rcases ho4 with w | w
            · exact w.2
            · omega
          · obtain ⟨u1, u2, u3, u4, u5⟩ := ho4.resolve_left (fun q => f q.1)
            exact ih 1 m4 g4 s4 (Or.inr ⟨l_1, u2, u3, u5, by omega⟩) (by omega)
      refine T_lt rfl rfl (fun d => ?_) (fun d => ?_)
      · exact go75 (Or.inl (by omega))
      · refine T_le rfl l_0 (fun e => ?_) (fun e => ?_)
        · refine v_100 hn a1 a3 M hG ha (Or.inr ⟨c, To_tr q2 (To_st ?_)⟩)
          rw [hstp, show (M 77 36).toInt.toNat = 0 by omega]
          show (if _ then _ else _) = _
          rw [if_neg (by omega), if_pos (by omega)]
        · exact go75 (Or.inr (by omega))
/-- the tapes are alike -/
def TR (M : qM) : Prop := ∀ i : Nat, (i : Int) < (M 1 1).toInt → (M 2 i).toInt = ((M 84 i) &&& (255 : Int32)).toInt
theorem TR_t {M : qM} (h : TR M) {len : Int} (hl : len ≤ (M 1 1).toInt) : tq (M 2) len = tm (M 84) len := by
  funext p
  unfold tq tm
  by_cases q : 0 ≤ p ∧ p < len
  · rw [if_pos q, if_pos q]; exact h p.toNat (by omega)
  · rw [if_neg q, if_neg q]
theorem Qz_eq {T : Int → Int} {len : Int} {v w : Int32} (h : Qz T len v) (k : Qz T len w) : v = w := by
  have key : v.toInt = w.toInt := by
    rcases h with h | h <;> rcases k with k | k
    · have := To_det h k st_F st_F
      injection this with _ q
      injection q
    · have := To_det h k st_F st_O
      injection this with q
      exact absurd q (by decide)
    · have := To_det h k st_O st_F
      injection this with q
      exact absurd q (by decide)
    · have := To_det h k st_O st_O
      injection this with _ q
      injection q with _ q2
      injection q2
  exact Int32.toInt_inj.mp key
