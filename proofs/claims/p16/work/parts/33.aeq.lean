/-! the model's clauses -/
theorem P_g {M : qM} {c s : Nat} {v : Int32} {f : qM → qR} {Q : Int32 → qM → Prop} (hG : G M) (hr : Rin c s v) (hw : nW c s) (h : ∀ m : qM, m c s = v → (∀ s2, s2 ≠ s → m c s2 = M c s2) → (∀ c2, c2 ≠ c → m c2 = M c2) → G m → qP (f m) Q) : qP (qlm (mu M c s v) f) Q := h _ mu_at (fun s2 h2 => mu_ne (Or.inr h2)) (fun c2 hc2 => mu_nc hc2) (G_mu hG hr hw)
abbrev Mq (R : Nat → Int32) (len : Int) (C : List Int) (K : List Kl) (M : qM) : Prop := G M ∧ M 84 = R ∧ (M 77 10).toInt = len ∧ (M 77 9).toInt ≤ len ∧ (M 77 14).toInt = (C.length : Int) ∧ Fn (fun k => (M 85 k).toInt) C ∧ (M 77 16).toInt = (K.length : Int) ∧ Fk (eK 87 88 89 90 M) K
abbrev Xk (R : Nat → Int32) (len : Int) (d0 : Ld) (K : List Kl) (v : Int32) (m : qM) : Prop := (v.toInt = 0 ∧ G m ∧ Yo (tm R len) len d0 ((4, (m 77 11).toInt, 0, [], []), (0, 0, 0), [])) ∨ (v.toInt = 1 ∧ ∃ C X, Yo (tm R len) len d0 ((6, (m 77 9).toInt, 0, C, []), X, K) ∧ Mq R len C (K ++ [(X.1, X.2.1, X.2.2, (C.length : Int))]) m)
theorem x_c99 {n : Nat} (hn : 200000 ≤ n) {R : Nat → Int32} {len x s : Int} {d0 : Ld} (M : qM) (C : List Int) (K : List Kl) (h : Mq R len C K M) (h16 : K.length < 16) (hb : (M 77 14).toInt ≤ (M 77 9).toInt) (hx : (M 87 K.length).toInt = x) (hs : (M 88 K.length).toInt = s) (hY : Yo (tm R len) len d0 ((5, (M 77 9).toInt, 0, C, []), (x, s, 0), K)) : qP (f_X12_readsClause_99 n M) (Xk R len d0 K) := by
  obtain ⟨hG, h84, hl, hp, hc, hf, hk, hF⟩ := h
  have h10 := r_77_10 hG
  have h14 := r_77_14 hG
  have ei : (M 77 16).toNatClampNeg = K.length := by rw [tnc, hk]; rfl
  unfold f_X12_readsClause_99
  refine P_qg (fun _ _ => ?_)
  rw [ei]
  refine P_g hG (i_rng (lo := 0) (hi := 250) rfl (by omega) (by omega)) (by unfold nW; omega) ?_
  intro m1 a1 a2 a3 g1
  have a77 : m1 77 = M 77 := a3 77 (by decide)
  have a85 : m1 85 = M 85 := a3 85 (by decide)
  refine P_qc (P_and (x_cond hn (R := R) (len := len) (M0 := m1) m1 C g1 Sm.rf (by rw [a3 84 (by decide)]; exact h84) (by rw [a77]; exact hl) (by rw [a77]; exact hp) (by rw [a77]; exact hc) (by rw [a85]; exact hf)) (P_T (m_cond hn m1 g1 (Sm.rf (M := m1)) (by rw [a77]; exact hb) (by rw [a77]; omega)))) ?_
  rw [a77, a85]
  rintro r2 m3 ⟨hx3, t1, t2, g3, s3⟩
  rcases hx3 with ⟨q0, q1, q2, q3, _⟩ | ⟨q1, hx3⟩
  · refine P_eq rfl l_0 (fun _ => ?_) (fun e => by omega)
    refine P_ret (Or.inl ⟨l_0, q3, Yo_tr hY (Yo_st ?_)⟩)
    rw [ys_5]
    unfold y5
    rw [if_neg q1]
    unfold yF zF
    rw [q2]
  · have hst : Yo (tm R len) len d0 ((2, (M 77 9).toInt + 1, 0, C, [(13, 0)]), (x, s, (C.length : Int)), K) := by
      refine Yo_tr hY (Yo_st ?_)
      rw [ys_5]
      unfold y5
      rw [if_pos q1]
    rcases hx3 with ⟨q0, q2, q3, _⟩ | ⟨q0, C3, W3, q2, q3, q4, rfl⟩
    · refine P_eq rfl l_0 (fun _ => ?_) (fun e => by omega)
      exact P_ret (Or.inl ⟨l_0, q3, Yo_bad hst q2⟩)
    · refine P_eq rfl l_0 (fun e => by omega) (fun e => ?_)
      obtain ⟨u1, u2, u3, u4, u5, u6⟩ := t2.resolve_left e
      obtain ⟨_, _, e84, e10, e9, ec, ef, _, _, _, _⟩ := q2
      have h103 := r_77_10 g3
      have h143 := r_77_14 g3
      have b16 : m3 77 16 = M 77 16 := by rw [s3 77 16 (by decide), a77]
      have b87 : m3 87 = M 87 := by rw [funext (fun s_ => s3 87 s_ (outc rfl)), a3 87 (by decide)]
      have b88 : m3 88 = M 88 := by rw [funext (fun s_ => s3 88 s_ (outc rfl)), a3 88 (by decide)]
      have b89 : m3 89 = m1 89 := funext (fun s_ => s3 89 s_ (outc rfl))
      have b90 : m3 90 = M 90 := by rw [funext (fun s_ => s3 90 s_ (outc rfl)), a3 90 (by decide)]
      rw [b16]
      refine P_qg (fun _ _ => ?_)
      rw [ei]
      refine P_g g3 (i_rng (lo := 0) (hi := 250) rfl (by omega) (by omega)) (by unfold nW; omega) ?_
      intro m4 c1 c2 c3 g4
      have c77 : m4 77 = m3 77 := c3 77 (by decide)
      rw [c77, b16]
      have ew : (M 77 16 + 1).toInt = (M 77 16).toInt + 1 := i_add rfl l_1 (by omega) (by omega)
      refine P_g g4 (i_rng (lo := 0) (hi := 16) ew (by omega) (by omega)) (by unfold nW; omega) ?_
      intro m5 d1 d2 d3 g5
      have f9 : m5 77 9 = m3 77 9 := by rw [d2 9 (by decide), c77]
      have f87 : m5 87 = M 87 := by rw [d3 87 (by decide), c3 87 (by decide), b87]
      have f88 : m5 88 = M 88 := by rw [d3 88 (by decide), c3 88 (by decide), b88]
      have f89 : m5 89 = m1 89 := by rw [d3 89 (by decide), c3 89 (by decide), b89]
      have f90 : m5 90 = m4 90 := d3 90 (by decide)
      refine P_ret (Or.inr ⟨l_1, C3, (x, s, (C.length : Int)), by rw [f9]; exact Yo_tr hst (Yo_in q3), g5, by rw [d3 84 (by decide), c3 84 (by decide)]; exact e84, by rw [d2 10 (by decide), c77]; exact e10, by rw [f9]; exact e9, by rw [d2 14 (by decide), c77]; exact ec, by rw [d3 85 (by decide), c3 85 (by decide)]; exact ef, ?_, ?_⟩)
      · rw [d1, ew, hk, List.length_append, List.length_singleton]; omega
      · refine Fk_app hF (fun k hk2 => ?_) ?_
        · show (_, _, _, _) = (_, _, _, _)
          rw [f87, f88, f89, f90, a2 k (by omega), c2 k (by omega), b90]
        · show (_, _, _, _) = (_, _, _, _)
          rw [f87, f88, f89, f90, a1, c1, hx, hs, hc, ec]
theorem x_isCl {n : Nat} (a0 : Int32) (M : qM) : qP (f_X12_isClause n a0 M) (fun v m => m = M ∧ ((v.toInt = 1 ∧ isCl a0.toInt) ∨ (v.toInt = 0 ∧ ¬ isCl a0.toInt))) := by
  refine P_T ?_
  unfold f_X12_isClause
  refine T_eq rfl l_97 (fun c => T_ret ⟨rfl, Or.inl ⟨l_1, Or.inl c⟩⟩) (fun c1 => ?_)
  refine T_eq rfl l_118 (fun c => T_ret ⟨rfl, Or.inl ⟨l_1, Or.inr (Or.inl c)⟩⟩) (fun c2 => ?_)
  refine T_eq rfl l_102 (fun c => T_ret ⟨rfl, Or.inl ⟨l_1, Or.inr (Or.inr (Or.inl c))⟩⟩) (fun c3 => ?_)
  refine T_eq rfl l_99 (fun c => T_ret ⟨rfl, Or.inl ⟨l_1, Or.inr (Or.inr (Or.inr c))⟩⟩) (fun c4 => ?_)
  exact T_ret ⟨rfl, Or.inr ⟨l_0, fun q => by rcases q with q | q | q | q <;> omega⟩⟩
theorem x_clause {n : Nat} (hn : 200000 ≤ n) {R : Nat → Int32} {len : Int} {d0 : Ld} (M : qM) (C : List Int) (K : List Kl) (h : Mq R len C K M) (hb : (M 77 14).toInt ≤ (M 77 9).toInt) (hY : Yo (tm R len) len d0 ((7, (M 77 9).toInt, 0, C, []), (0, 0, 0), K)) : qP (f_X12_readsClause n M) (Xk R len d0 K) := by
  obtain ⟨hG, h84, hl, hp, hc, hf, hk, hF⟩ := h
  have h10 := r_77_10 hG
  have h14 := r_77_14 hG
  have h16 := r_77_16 hG
  have h9 := r_77_9 hG
  have ht := tm_r R len (M 77 9).toInt
  have ei : (M 77 16).toNatClampNeg = K.length := by rw [tnc, hk]; rfl
  have hv := v_here hn M hG
  rw [h84, hl] at hv
  have bad : ∀ (a : Int32) (k : Int), a.toInt = k → 1 ≤ k ∧ k ≤ 6 → y7 (tm R len) (M 77 9).toInt C K = yF k (M 77 9).toInt → qP (qc (f_X12_wrongAt n a (M 77 9) M) (fun r m => qb r (some (r, m)))) (Xk R len d0 K) := by
    intro a k hak hk6 hy
    refine P_qc (x_wrong (M0 := M) a (M 77 9) M hG Sm.rf (by omega) h9) ?_
    rintro r m ⟨w0, w1, g, _⟩
    refine P_qb (P_ret (Or.inl ⟨w0, g, Yo_tr hY (Yo_st ?_)⟩))
    rw [ys_7, hy, w1, hak]
    rfl
  unfold f_X12_readsClause
  refine P_qc (P_T hv) ?_
  rintro r1 m2 ⟨rfl, hr1⟩
  refine P_qc (x_isCl r1 m2) ?_
  rintro r3 m4 ⟨rfl, hr3⟩
  rw [hr1] at hr3
  refine P_eq rfl l_0 (fun c => ?_) (fun c => ?_)
  · refine bad (1 : Int32) 1 l_1 (by decide) ?_
    unfold y7
    rw [if_pos (by rcases hr3 with ⟨q, _⟩ | ⟨_, q⟩; exact absurd q (by omega); exact q)]
  · have hcl : isCl (tm R len (m4 77 9).toInt) := by
      rcases hr3 with ⟨_, q⟩ | ⟨q, _⟩
      · exact q
      · exact absurd q c
    have hcl2 : tm R len (m4 77 9).toInt = 97 ∨ tm R len (m4 77 9).toInt = 118 ∨ tm R len (m4 77 9).toInt = 102 ∨ tm R len (m4 77 9).toInt = 99 := hcl
    refine P_eq rfl l_16 (fun c6 => ?_) (fun c6 => ?_)
    · refine bad (4 : Int32) 4 l_4 (by decide) ?_
      unfold y7
      rw [if_neg (fun q => q hcl), if_pos (by omega)]
    · have hK16 : K.length < 16 := by omega
      refine P_qg (fun _ _ => ?_)
      rw [ei]
      refine P_g hG trivial (by unfold nW; omega) ?_
      intro m5 a1 a2 a3 g5
      have a77 : m5 77 = m4 77 := a3 77 (by decide)
      rw [a77]
      have ep : (m4 77 9 + 1).toInt = (m4 77 9).toInt + 1 := i_add rfl l_1 (by omega) (by omega)
      refine P_g g5 (i_rng (lo := 0) (hi := 240) ep (by omega) (by omega)) (by unfold nW; omega) ?_
      intro m6 b1 b2 b3 g6
      have b16 : m6 77 16 = m4 77 16 := by rw [b2 16 (by decide), a77]
      have b14 : m6 77 14 = m4 77 14 := by rw [b2 14 (by decide), a77]
      rw [b16]
      refine P_qg (fun _ _ => ?_)
      rw [b14, ei]
      refine P_g g6 (i_rng (lo := 0) (hi := 250) rfl (by omega) (by omega)) (by unfold nW; omega) ?_
      intro m7 c1 c2 c3 g7
      refine P_g g7 trivial (by unfold nW; omega) ?_
      intro m8 d1 d2 d3 g8
      refine P_g g8 (i_rng (lo := 0) (hi := 260) l_0 (by omega) (by omega)) (by unfold nW; omega) ?_
      intro m9 f1 f2 f3 g9
      have w9 : (m9 77 15).toInt = 0 := by rw [f1]; rfl
      have w13 : (m9 77 13).toInt = 0 := by rw [f2 13 (by decide), d1]; rfl
      have e16 : m9 77 16 = m4 77 16 := by rw [f2 16 (by decide), d2 16 (by decide), c3 77 (by decide), b16]
      have e14 : m9 77 14 = m4 77 14 := by rw [f2 14 (by decide), d2 14 (by decide), c3 77 (by decide), b14]
      have e10 : m9 77 10 = m4 77 10 := by rw [f2 10 (by decide), d2 10 (by decide), c3 77 (by decide), b2 10 (by decide), a77]
      have e9 : (m9 77 9).toInt = (m4 77 9).toInt + 1 := by rw [f2 9 (by decide), d2 9 (by decide), c3 77 (by decide), b1]; exact ep
      have e84 : m9 84 = R := by rw [f3 84 (by decide), d3 84 (by decide), c3 84 (by decide), b3 84 (by decide), a3 84 (by decide)]; exact h84
      have e85 : m9 85 = m4 85 := by rw [f3 85 (by decide), d3 85 (by decide), c3 85 (by decide), b3 85 (by decide), a3 85 (by decide)]
      have e87 : m9 87 = m5 87 := by rw [f3 87 (by decide), d3 87 (by decide), c3 87 (by decide), b3 87 (by decide)]
      have e88 : m9 88 = m7 88 := by rw [f3 88 (by decide), d3 88 (by decide)]
      have m688 : m6 88 = m4 88 := by rw [b3 88 (by decide), a3 88 (by decide)]
      have e89 : m9 89 = m4 89 := by rw [f3 89 (by decide), d3 89 (by decide), c3 89 (by decide), b3 89 (by decide), a3 89 (by decide)]
      have e90 : m9 90 = m4 90 := by rw [f3 90 (by decide), d3 90 (by decide), c3 90 (by decide), b3 90 (by decide), a3 90 (by decide)]
      have hF9 : Fk (eK 87 88 89 90 m9) K := by
        refine Fk_cg hF (fun k hk2 => ?_)
        show (_, _, _, _) = (_, _, _, _)
        rw [e87, e88, e89, e90, a2 k (by omega), c2 k (by omega), m688]
      have hM9 : Mq R len C K m9 := ⟨g9, e84, by rw [e10]; exact hl, by rw [e9]; omega, by rw [e14]; exact hc, by rw [e85]; exact hf, by rw [e16]; exact hk, hF9⟩
      have hx9 : (m9 87 K.length).toInt = tm R len (m4 77 9).toInt := by rw [e87, a1]; exact hr1
      have hs9 : (m9 88 K.length).toInt = (C.length : Int) := by rw [e88, c1]; exact hc
      refine P_eq rfl l_97 (fun c7 => ?_) (fun c7 => ?_)
      · refine x_c99 hn m9 C K hM9 hK16 (by rw [e14, e9]; omega) hx9 hs9 (Yo_tr hY (Yo_st ?_))
        rw [ys_7]
        unfold y7
        rw [if_neg (fun q => q hcl), if_neg (by omega), if_pos (by omega), e9, show tm R len (m4 77 9).toInt = 97 by omega]
      · have hMw : Mw R len m9 C [] m9 := ⟨g9, Sm.rf, e84, hM9.2.2.1, hM9.2.2.2.1, hM9.2.2.2.2.1, hM9.2.2.2.2.2.1, by rw [w9]; rfl, by rw [w13]; rfl, by show (0 : Int) ≤ 6; decide, fun q hq => absurd hq (by simp)⟩
        have hwc : wc (m9 86) 0 (m9 77 15).toInt.toNat = 0 := by rw [w9]; rfl
        have hI : SI (m9 77 14).toInt.toNat (m9 77 14).toInt.toNat 0 0 0 (fun _ => False) (m9 86) (m9 85) m9 := by
          refine ⟨?_, fun i _ i2 => absurd i2 (by omega), fun i hi => rfl, fun _ _ => rfl, ?_⟩
          · rw [hwc, e14, e9, e10]; omega
          · rw [hwc]; exact CI_init
        have hst : Yo (tm R len) len d0 ((0, (m9 77 9).toInt, 0, C, []), (tm R len (m4 77 9).toInt, (C.length : Int), 0), K) := by
          refine Yo_tr hY (Yo_st ?_)
          rw [ys_7]
          unfold y7
          rw [if_neg (fun q => q hcl), if_neg (by omega), if_neg (by omega), e9]
        refine P_qc (P_and (x_sum hn (W0 := []) (c0 := (0, (m9 77 9).toInt, 0, C, [])) (ph := 0) ⟨by show ¬ ((2 : Int) ≤ -1 ∧ (-1 : Int) ≤ 6); decide, by show (-1 : Int) ≠ 14; decide⟩ m9 C hMw Lo_rf) (P_T (m_sum hn (fun i hi => absurd hi (by omega)) (by omega) (by omega) m9 g9 (Sm.rf (M := m9)) hI (by rw [w9]; rfl)))) ?_
        rintro r10 m11 ⟨hx11, t1, t2, g11, s11⟩
        rcases hx11 with ⟨q0, q2, q3, _⟩ | ⟨q0, C3, W3, q2, q3, q4, rfl, q5⟩
        · refine P_eq rfl l_0 (fun _ => ?_) (fun e => by omega)
          exact P_ret (Or.inl ⟨l_0, q3, Yo_bad hst q2⟩)
        · refine P_eq rfl l_0 (fun e => by omega) (fun e => ?_)
          obtain ⟨u1, u2, u3⟩ := t2.resolve_left e
          obtain ⟨j1, j2, j3, j4, j5⟩ := u1
          have u2b : (m11 77 15).toInt = 0 := u2
          have hwc2 : wc (m11 86) 0 (m11 77 15).toInt.toNat = 0 := by rw [u2b]; rfl
          rw [hwc2] at j1
          obtain ⟨_, _, k84, k10, k9, kc, kf, _, _, _, _⟩ := q2
          have k16 : m11 77 16 = m4 77 16 := by rw [s11 77 16 (by decide), e16]
          have k87 : m11 87 = m9 87 := funext (fun s_ => s11 87 s_ (outc rfl))
          have k88 : m11 88 = m9 88 := funext (fun s_ => s11 88 s_ (outc rfl))
          have k89 : m11 89 = m9 89 := funext (fun s_ => s11 89 s_ (outc rfl))
          have k90 : m11 90 = m9 90 := funext (fun s_ => s11 90 s_ (outc rfl))
          have hM11 : Mq R len C3 K m11 := ⟨g11, k84, k10, k9, kc, kf, by rw [k16]; exact hk, Fk_cg hF9 (fun k _ => by show (_, _, _, _) = (_, _, _, _); rw [k87, k88, k89, k90])⟩
          refine x_c99 hn m11 C3 K hM11 hK16 (by omega) (by rw [k87]; exact hx9) (by rw [k88]; exact hs9) (Yo_tr hst (Yo_in (Lo_tr q3 (Lo_st ?_))))
          rw [z_end ⟨by show ¬ ((2 : Int) ≤ -1 ∧ (-1 : Int) ≤ 6); decide, by show (-1 : Int) ≠ 14; decide⟩ q5]
          unfold zE
          rw [if_pos rfl]
