theorem m_ends {n : Nat} {f : Nat} {C0 : Nat → Int32} {M0 M1 : qM} : ∀ (m : Nat) (M : qM), G M → Sm lQ M0 M → BI f 1 0 C0 M → 1 ≤ (M 77 15).toInt → M 77 9 = M1 77 9 → (M 77 15).toInt < (m : Int) → qT (f_X12_endsPiece_0 n m M) (fun _ M' => BI f 1 0 C0 M' ∧ 1 ≤ (M' 77 15).toInt ∧ M' 77 9 = M1 77 9 ∧ G M' ∧ Sm lQ M0 M') := by
  intro m
  induction m with
  | zero => intro M hG _ _ h1 _ h; exfalso; omega
  | succ m ih =>
    intro M hG hS hI h1 hp hm
    have h15 := r_77_15 hG
    have h10 := r_77_10 hG
    have hI2 := hI
    obtain ⟨j1, j2, j3, j4, j5⟩ := hI2
    have hnn := wn_nn (W := M 86) (M 77 15).toInt.toNat
    show qT (b_X12_endsPiece_0 n (f_X12_endsPiece_0 n m) M) _
    unfold b_X12_endsPiece_0
    refine T_qc (m_top M hG) ?_
    rintro r1 m2 ⟨rfl, ht⟩
    refine T_eq rfl l_10 (fun c => ?_) (fun c => ?_)
    · have k10 : (m2 86 ((m2 77 15).toInt - 1).toNat).toInt / 1048576 = 10 := by omega
      have h2 : 2 ≤ (m2 77 15).toInt := by
        apply Classical.byContradiction
        intro q
        rw [show ((m2 77 15).toInt - 1).toNat = 0 by omega] at k10
        omega
      refine T_qc (m_notes (10 : Int32) 0 m2 hG hS (by rw [l_10]; omega) (by rw [l_0]; omega) (by omega)) ?_
      rintro _ m3 ⟨d1, d2, d3, d4, d5, g3, s3⟩
      rw [l_10, l_0] at d2
      have c15 : m3 77 15 = m2 77 15 := d4 15 (by decide)
      rw [c15]
      have ew : (m2 77 15 - 1).toInt = (m2 77 15).toInt - 1 := i_sub rfl l_1 (by omega) (by omega)
      refine T_w (Or.inr (by decide)) g3 s3 (i_rng (lo := 0) (hi := 260) ew (by omega) (by omega)) ?_
      intro m4 f1 f2 f3 g4 s4
      refine T_w (Or.inr (by decide)) g4 s4 trivial ?_
      intro m5 y1 y2 y3 g5 s5
      have w5 : (m5 77 15).toInt = (m2 77 15).toInt - 1 := by rw [y2 15 (by decide), f1]; exact ew
      have q1 := BJ_note (d' := 1) hI d1 d3 (Or.inl ⟨by rw [d2]; omega, by omega, rfl⟩)
      have q2 := (BJ_pop q1 w5 (by omega) (by rw [w5]; omega)).2 (by rw [w5]; exact k10)
      rw [show (0 : Int) - 1 + 1 = 0 by omega] at q2
      exact ih m5 g5 s5 (BI_mk q2 (by rw [y2 9 (by decide), f2 9 (by decide), d4 9 (by decide)]) (by rw [y2 10 (by decide), f2 10 (by decide), d4 10 (by decide)]) rfl (by rw [y2 14 (by decide), f2 14 (by decide)]) (by rw [y3 86 (by decide), f3 86 (by decide), d5 86 (by decide) (by decide)]) (by rw [y3 85 (by decide), f3 85 (by decide)])) (by omega) (by rw [y2 9 (by decide), f2 9 (by decide), d4 9 (by decide)]; exact hp) (by omega)
    · exact T_ret ⟨hI, h1, hp, hG, hS⟩
theorem m_lands {n : Nat} {f : Nat} {C0 : Nat → Int32} {M0 M1 : qM} (a : Int32) : ∀ (m : Nat) (M : qM), G M → Sm lQ M0 M → BI f 1 0 C0 M → 1 ≤ (M 77 15).toInt → M 77 9 = M1 77 9 → (M 77 15).toInt < (m : Int) → qT (f_X12_lands_0 n m a M) (fun _ M' => BI f 1 0 C0 M' ∧ 1 ≤ (M' 77 15).toInt ∧ M' 77 9 = M1 77 9 ∧ (a.toInt ≠ 0 → ¬ ((M' 86 ((M' 77 15).toInt - 1).toNat).toInt / 1048576 = 11 ∨ (M' 86 ((M' 77 15).toInt - 1).toNat).toInt / 1048576 = 12)) ∧ G M' ∧ Sm lQ M0 M') := by
  intro m
  induction m with
  | zero => intro M hG _ _ h1 _ h; exfalso; omega
  | succ m ih =>
    intro M hG hS hI h1 hp hm
    have h15 := r_77_15 hG
    have h10 := r_77_10 hG
    have h14 := r_77_14 hG
    have hI2 := hI
    obtain ⟨j1, j2, j3, j4, j5⟩ := hI2
    have hnn := wn_nn (W := M 86) (M 77 15).toInt.toNat
    have step : ((M 86 ((M 77 15).toInt - 1).toNat).toInt / 1048576 = 11 ∨ (M 86 ((M 77 15).toInt - 1).toNat).toInt / 1048576 = 12) → qT (f_X12_lands_22 n (f_X12_lands_0 n m) a M) (fun _ M' => BI f 1 0 C0 M' ∧ 1 ≤ (M' 77 15).toInt ∧ M' 77 9 = M1 77 9 ∧ (a.toInt ≠ 0 → ¬ ((M' 86 ((M' 77 15).toInt - 1).toNat).toInt / 1048576 = 11 ∨ (M' 86 ((M' 77 15).toInt - 1).toNat).toInt / 1048576 = 12)) ∧ G M' ∧ Sm lQ M0 M') := by
      intro hk
      have h2 : 2 ≤ (M 77 15).toInt := by
        apply Classical.byContradiction
        intro q
        rw [show ((M 77 15).toInt - 1).toNat = 0 by omega] at hk
        omega
      obtain ⟨a1, a2, a3⟩ := (j3 ((M 77 15).toInt - 1).toNat (by omega)).2 hk
      unfold f_X12_lands_22
      have e1 : (M 77 15 - 1).toInt = (M 77 15).toInt - 1 := i_sub rfl l_1 (by omega) (by omega)
      refine T_qg e1 (by omega) (by omega) ?_
      have h86 := r_86 hG (M 77 15 - 1).toNatClampNeg
      have ei : (M 77 15 - 1).toNatClampNeg = ((M 77 15).toInt - 1).toNat := by rw [tnc, e1]
      rw [ei] at h86 ⊢
      have hm2 := Int.emod_nonneg (M 86 ((M 77 15).toInt - 1).toNat).toInt (show (1048576 : Int) ≠ 0 by decide)
      refine T_ql (i_sub rfl (i_mul (i_div rfl l_1048576 h86.1 (by decide)) l_1048576 (by omega) (by omega)) (by omega) (by omega)) ?_
      intro x hx
      have hx2 : x.toInt = (M 86 ((M 77 15).toInt - 1).toNat).toInt % 1048576 := by omega
      refine T_qg rfl (by omega) (by omega) (T_qg rfl (by omega) (by omega) ?_)
      have h85 := r_85 hG x.toNatClampNeg
      have ev : ((1048576 : Int32) * (M 85 x.toNatClampNeg / 1048576) + M 77 14).toInt = 1048576 * ((M 85 x.toNatClampNeg).toInt / 1048576) + (M 77 14).toInt := i_add (i_mul l_1048576 (i_div rfl l_1048576 h85.1 (by decide)) (by omega) (by omega)) rfl (by omega) (by omega)
      have eo : (M 85 x.toNatClampNeg).toInt / 1048576 = (M 86 ((M 77 15).toInt - 1).toNat).toInt / 1048576 := by
        rw [tnc, hx2]; exact a3
      refine T_r (Or.inl rfl) hG hS (by rw [ev]; omega) ?_
      intro m2 b1 b2 b3 g2 s2
      have c15 : m2 77 15 = M 77 15 := by rw [b3 77 (by decide)]
      rw [c15]
      refine T_w (Or.inr (by decide)) g2 s2 (i_rng (lo := 0) (hi := 260) e1 (by omega) (by omega)) ?_
      intro m3 f1 f2 f3 g3 s3
      have w3 : (m3 77 15).toInt = (M 77 15).toInt - 1 := by rw [f1]; exact e1
      have q1 := BJ_land (C' := m3 85) (j := x.toNatClampNeg) hI w3 (by omega) (by rw [w3]; exact hk) (by rw [tnc, hx2, w3]) (by omega) (fun k hk2 => by rw [f3 85 (by decide)]; exact b2 k hk2) (by rw [f3 85 (by decide), b1]; exact ev)
      exact ih m3 g3 s3 (BI_mk q1 (by rw [f2 9 (by decide), b3 77 (by decide)]) (by rw [f2 10 (by decide), b3 77 (by decide)]) rfl (by rw [f2 14 (by decide), b3 77 (by decide)]) (by rw [f3 86 (by decide), b3 86 (by decide)]) rfl) (by omega) (by rw [f2 9 (by decide), b3 77 (by decide)]; exact hp) (by omega)
    show qT (b_X12_lands_0 n (f_X12_lands_0 n m) a M) _
    unfold b_X12_lands_0
    refine T_qc (m_top M hG) ?_
    rintro r1 m2 ⟨rfl, ht⟩
    refine T_eq rfl l_11 (fun c => ?_) (fun c => ?_)
    · exact step (by omega)
    · refine T_eq rfl l_0 (fun c0 => ?_) (fun c0 => ?_)
      · exact T_ret ⟨hI, h1, hp, fun h => absurd c0 h, hG, hS⟩
      · refine T_qc (m_top m2 hG) ?_
        rintro r3 m4 ⟨rfl, ht3⟩
        refine T_eq rfl l_12 (fun c3 => ?_) (fun c3 => ?_)
        · exact step (by omega)
        · exact T_ret ⟨hI, h1, hp, fun _ => by omega, hG, hS⟩
theorem m_jumps {n : Nat} {f : Nat} {C0 : Nat → Int32} {M0 : qM} (a : Int32) (M : qM) (hG : G M) (hS : Sm lQ M0 M) (hI : BI f 1 0 C0 M) (h1 : 1 ≤ (M 77 15).toInt) (hpl : (M 77 9).toInt < (M 77 10).toInt) (ha : a.toInt = 11 ∨ a.toInt = 12) : qT (f_X12_jumps n a M) (fun _ M' => BI f 0 0 C0 M' ∧ 1 ≤ (M' 77 15).toInt ∧ (M' 77 9).toInt = (M 77 9).toInt + 1 ∧ G M' ∧ Sm lQ M0 M') := by
  have h15 := r_77_15 hG
  have h10 := r_77_10 hG
  have h9 := r_77_9 hG
  have h14 := r_77_14 hG
  have hI2 := hI
  obtain ⟨j1, j2, j3, j4, j5⟩ := hI2
  have hnn := wn_nn (W := M 86) (M 77 15).toInt.toNat
  unfold f_X12_jumps
  refine T_qg rfl (by omega) (by omega) ?_
  have ev : ((1048576 : Int32) * a + M 77 14).toInt = 1048576 * a.toInt + (M 77 14).toInt := i_add (i_mul l_1048576 rfl (by omega) (by omega)) rfl (by omega) (by omega)
  refine T_r (Or.inr rfl) hG hS (by rw [ev]; omega) ?_
  intro m1 b1 b2 b3 g1 s1
  have c15 : m1 77 15 = M 77 15 := by rw [b3 77 (by decide)]
  rw [c15]
  have ew : (M 77 15 + 1).toInt = (M 77 15).toInt + 1 := i_add rfl l_1 (by omega) (by omega)
  refine T_w (Or.inr (by decide)) g1 s1 (i_rng (lo := 0) (hi := 260) ew (by omega) (by omega)) ?_
  intro m2 f1 f2 f3 g2 s2
  have c14 : m2 77 14 = M 77 14 := by rw [f2 14 (by decide), b3 77 (by decide)]
  refine T_qc (m_notes a 0 m2 g2 s2 (by omega) (by rw [l_0]; omega) (by rw [c14]; omega)) ?_
  rintro _ m3 ⟨d1, d2, d3, d4, d5, g3, s3⟩
  rw [c14] at d1 d2 d3
  rw [l_0] at d2
  have c9 : m3 77 9 = M 77 9 := by rw [d4 9 (by decide), f2 9 (by decide), b3 77 (by decide)]
  rw [c9]
  have ep : (M 77 9 + 1).toInt = (M 77 9).toInt + 1 := i_add rfl l_1 (by omega) (by omega)
  refine T_w (Or.inl rfl) g3 s3 (i_rng (lo := 0) (hi := 240) ep (by omega) (by omega)) ?_
  intro m4 y1 y2 y3 g4 s4
  have p4 : (m4 77 9).toInt = (M 77 9).toInt + 1 := by rw [y1]; exact ep
  have w4 : (m4 77 15).toInt = (M 77 15).toInt + 1 := by rw [y2 15 (by decide), d4 15 (by decide), f1]; exact ew
  have k4 : (m4 77 14).toInt = (M 77 14).toInt + 1 := by rw [y2 14 (by decide)]; exact d1
  have e86 : m4 86 = m1 86 := by rw [y3 86 (by decide), d5 86 (by decide) (by decide), f3 86 (by decide)]
  have e85 : m4 85 = m3 85 := y3 85 (by decide)
  have m285 : m2 85 = M 85 := by rw [f3 85 (by decide), b3 85 (by decide)]
  have b4 : m1 86 (M 77 15).toInt.toNat = 1048576 * a + M 77 14 := b1
  have q1 := BJ_jump (W' := m4 86) (C' := m4 85) (a := a.toInt) hI h1 w4 p4 (by omega) k4 (by omega) ha (fun i hi => by rw [e86]; exact b2 i hi) (by rw [e86, b4]; exact ev) (fun k hk => by rw [e85, d3 k hk, m285]) (by rw [e85]; exact d2)
  exact T_ret ⟨BI_mk q1 rfl (by rw [y2 10 (by decide), d4 10 (by decide), f2 10 (by decide), b3 77 (by decide)]) rfl rfl rfl rfl, by omega, p4, g4, s4⟩
theorem m_compared {n : Nat} (hn : 200000 ≤ n) {f : Nat} {C0 : Nat → Int32} {M0 : qM} (M : qM) (hG : G M) (hS : Sm lQ M0 M) (hI : BI f 0 0 C0 M) (h1 : 1 ≤ (M 77 15).toInt) : qT (f_X12_readsCompared n M) (fun v M' => (0 ≤ v.toInt ∧ v.toInt ≤ 1) ∧ (v.toInt = 0 ∨ (BI f 1 0 C0 M' ∧ 1 ≤ (M' 77 15).toInt ∧ (M 77 9).toInt ≤ (M' 77 9).toInt)) ∧ G M' ∧ Sm lQ M0 M') := by
  have hnn := wn_nn (W := M 86) (M 77 15).toInt.toNat
  unfold f_X12_readsCompared
  refine T_qc (m_sum hn (BJ_nk hI) (by omega) (by omega) M hG hS (BJ_SJ hI) (by omega)) ?_
  rintro r1 m2 ⟨t1, t2, g2, s2⟩
  refine T_eq rfl l_0 (fun c => ?_) (fun c => ?_)
  · exact T_ret ⟨⟨by decide, by decide⟩, Or.inl l_0, g2, s2⟩
  obtain ⟨u1, u2, u3⟩ := t2.resolve_left c
  have v1 : BI f (0 + 1) 0 C0 m2 := BJ_sum hI h1 u1 (by omega)
  rw [show (0 : Int) + 1 = 1 by omega] at v1
  have h92 := r_77_9 g2
  have h102 := r_77_10 g2
  have h152 := r_77_15 g2
  have key : ∀ s0 : Int32, (s0.toInt = -1 ∨ (7 ≤ s0.toInt ∧ s0.toInt ≤ 9 ∧ (m2 77 9).toInt < (m2 77 10).toInt)) → qT (f_X12_readsCompared_52 n s0 m2) (fun v M' => (0 ≤ v.toInt ∧ v.toInt ≤ 1) ∧ (v.toInt = 0 ∨ (BI f 1 0 C0 M' ∧ 1 ≤ (M' 77 15).toInt ∧ (M 77 9).toInt ≤ (M' 77 9).toInt)) ∧ G M' ∧ Sm lQ M0 M') := by
    intro s0 hs0
    unfold f_X12_readsCompared_52
    refine T_eq rfl l_m1 (fun d => ?_) (fun d => ?_)
    · refine T_qc (t_X12_wrongAt hn (1 : Int32) (m2 77 9) m2 g2 (by decide)) ?_
      rintro r m9 ⟨hr9, hg, hs9⟩
      exact T_qb rfl (by omega) (by omega) (T_ret ⟨by omega, Or.inl (by omega), hg, s2.tr (hs9.mono rfl)⟩)
    · obtain ⟨o1, o2, o3⟩ := hs0.resolve_left d
      have ep : (m2 77 9 + 1).toInt = (m2 77 9).toInt + 1 := i_add rfl l_1 (by omega) (by omega)
      refine T_w (Or.inl rfl) g2 s2 (i_rng (lo := 0) (hi := 240) ep (by omega) (by omega)) ?_
      intro m3 y1 y2 y3 g3 s3
      have p3 : (m3 77 9).toInt = (m2 77 9).toInt + 1 := by rw [y1]; exact ep
      have q1 := BJ_pl (pl' := (m3 77 9).toInt) v1 (by omega) (by omega)
      rw [show (0 : Int) + ((m3 77 9).toInt - (m2 77 9).toInt) = 1 by omega] at q1
      have q2 : BI f 1 1 C0 m3 := BI_mk q1 rfl (by rw [y2 10 (by decide)]) (by rw [y2 15 (by decide)]) (by rw [y2 14 (by decide)]) (y3 86 (by decide)) (y3 85 (by decide))
      have hnn3 := wn_nn (W := m3 86) (m3 77 15).toInt.toNat
      have h153 := r_77_15 g3
      have w3 : 1 ≤ (m3 77 15).toInt := by rw [y2 15 (by decide)]; omega
      refine T_qc (m_sum hn (BJ_nk q2) (by omega) (by omega) m3 g3 s3 (BJ_SJ q2) (by omega)) ?_
      rintro r2 m4 ⟨x1, x2, g4, s4⟩
      refine T_eq rfl l_0 (fun c2 => ?_) (fun c2 => ?_)
      · exact T_ret ⟨⟨by decide, by decide⟩, Or.inl l_0, g4, s4⟩
      obtain ⟨z1, z2, z3⟩ := x2.resolve_left c2
      have q3 : BI f (1 + 1) 1 C0 m4 := BJ_sum q2 w3 z1 (by omega)
      rw [show (1 : Int) + 1 = 2 by omega] at q3
      have h104 := r_77_10 g4
      have hk := q3
      obtain ⟨j1, j2, j3, j4, j5⟩ := hk
      have hnn4 := wn_nn (W := m4 86) (m4 77 15).toInt.toNat
      refine T_qc (m_notes s0 0 m4 g4 s4 (by omega) (by rw [l_0]; omega) (by omega)) ?_
      rintro _ m5 ⟨d1, d2, d3, d4, d5, g5, s5⟩
      rw [l_0] at d2
      have q4 := BJ_note (d' := 1) q3 d1 d3 (Or.inr ⟨by rw [d2]; omega, by rw [d2]; omega, by omega, by omega⟩)
      rw [show (1 : Int) - 1 = 0 by omega] at q4
      have q5 : BI f 1 0 C0 m5 := BI_mk q4 (by rw [d4 9 (by decide)]) (by rw [d4 10 (by decide)]) (by rw [d4 15 (by decide)]) rfl (d5 86 (by decide) (by decide)) rfl
      have h155 := r_77_15 g5
      unfold f_X12_endsPiece
      refine T_qc (m_ends (M1 := m5) n m5 g5 s5 q5 (by rw [d4 15 (by decide)]; omega) rfl (by omega)) ?_
      rintro _ m6 ⟨k1, k2, k3, g6, s6⟩
      exact T_ret ⟨⟨by decide, by decide⟩, Or.inr ⟨k1, k2, by rw [k3, d4 9 (by decide)]; omega⟩, g6, s6⟩
  refine T_qc (t_X12_here hn m2 g2) ?_
  rintro r3 m4 ⟨hr3, he3, hg3, hs3⟩
  have e3 := hs3.nil
  subst e3
  refine T_eq rfl l_60 (fun c3 => ?_) (fun c3 => ?_)
  · exact key 7 (by rw [l_7]; omega)
  refine T_qc (t_X12_here hn m2 g2) ?_
  rintro r5 m4 ⟨hr5, he5, hg5, hs5⟩
  have e5 := hs5.nil
  subst e5
  refine T_eq rfl l_62 (fun c5 => ?_) (fun c5 => ?_)
  · exact key 8 (by rw [l_8]; omega)
  refine T_qc (t_X12_here hn m2 g2) ?_
  rintro r7 m4 ⟨hr7, he7, hg7, hs7⟩
  have e7 := hs7.nil
  subst e7
  refine T_eq rfl l_61 (fun c7 => ?_) (fun c7 => ?_)
  · exact key 9 (by rw [l_9]; omega)
  · exact key (-1) (Or.inl l_m1)
