abbrev Qs (f g b : Nat) (e s : Int) (P : Nat → Prop) (W0 C0 : Nat → Int32) (M0 M1 : qM) (v : Int32) (M' : qM) : Prop := (0 ≤ v.toInt ∧ v.toInt ≤ 1) ∧ (v.toInt = 0 ∨ (SI f g b (e + 1) s P W0 C0 M' ∧ (M' 77 15).toInt = (b : Int) ∧ (M1 77 9).toInt ≤ (M' 77 9).toInt)) ∧ G M' ∧ Sm lQ M0 M'
theorem m_sumend {n : Nat} (hn : 200000 ≤ n) {f g b : Nat} {e s : Int} {P : Nat → Prop} {W0 C0 : Nat → Int32} (hw : ∀ i, i < b → ¬ (2 ≤ (W0 i).toInt / 1048576 ∧ (W0 i).toInt / 1048576 ≤ 6)) (he : 0 ≤ e) (hs : 0 ≤ s) {M0 M1 : qM} (a1 : Int32) (ha : a1.toInt = (b : Int)) (hb : b ≤ 260) (M : qM) (hG : G M) (hS : Sm lQ M0 M) (hI : SI f g b (e + 1) s P W0 C0 M) (hM : (M1 77 9).toInt ≤ (M 77 9).toInt) : qT (f_X12_readsSum_138 n a1 M) (Qs f g b e s P W0 C0 M0 M1) := by
  unfold f_X12_readsSum_138
  unfold f_X12_hasOpenSum
  have h15 := r_77_15 hG
  refine T_qc (m_hasOpen a1 (by omega) n a1 M hG (by omega) (by omega) (fun i i1 i2 => absurd i1 (by omega)) (by omega)) ?_
  rintro r1 m2 ⟨rfl, hr, ho⟩
  refine T_eq rfl l_0 (fun c => ?_) (fun c => ?_)
  · have no := (ho.resolve_right (fun q => q.1 c)).2
    unfold f_X12_closesSums
    refine T_qc (m_closes hw (by omega) hs (1 : Int32) (M1 := m2) n m2 hG hS hI Pm_rf (by omega)) ?_
    rintro _ m3 ⟨k1, k2, k3, g3, s3⟩
    have h3 := k3 (by rw [l_1]; decide)
    have hk := k1
    obtain ⟨j1, j2, j3, j4, j5⟩ := hk
    have hp := k2.2.1
    have hle := k2.2.2.1
    refine T_ret ⟨⟨by decide, by decide⟩, Or.inr ⟨k1, ?_, by rw [hp]; exact hM⟩, g3, s3⟩
    apply Classical.byContradiction
    intro q
    have hj := j2 ((m3 77 15).toInt - 1).toNat (by omega) (by omega)
    rcases h3 with h3 | h3
    · omega
    · rcases hj with hj | hj
      · exact h3 hj
      · rw [k2.1] at hj
        exact no _ (by omega) (by omega) hj
  · refine T_qc (t_X12_wrongAt hn (1 : Int32) (m2 77 9) m2 hG (by decide)) ?_
    rintro r m9 ⟨hr9, hg, hs9⟩
    exact T_qb rfl (by omega) (by omega) (T_ret ⟨by omega, Or.inl (by omega), hg, hS.tr (hs9.mono rfl)⟩)
theorem m_sumloop {n : Nat} (hn : 200000 ≤ n) {f g b : Nat} {e s : Int} {P : Nat → Prop} {W0 C0 : Nat → Int32} (hw : ∀ i, i < b → ¬ (2 ≤ (W0 i).toInt / 1048576 ∧ (W0 i).toInt / 1048576 ≤ 6)) (he : 0 ≤ e) (hs : 0 ≤ s) {M0 M1 : qM} (a1 : Int32) (ha : a1.toInt = (b : Int)) (hb : b ≤ 260) : ∀ (m : Nat) (M : qM), G M → Sm lQ M0 M → SI f g b (e + 1) s P W0 C0 M → (M1 77 9).toInt ≤ (M 77 9).toInt → 241 - (M 77 9).toInt < (m : Int) → qT (f_X12_readsSum_14 n m a1 M) (Qs f g b e s P W0 C0 M0 M1) := by
  intro m
  induction m with
  | zero => intro M hG _ _ _ h; have := r_77_9 hG; exfalso; omega
  | succ m ih =>
    intro M hG hS hI hM hm
    have h15 := r_77_15 hG
    have h10 := r_77_10 hG
    have h9 := r_77_9 hG
    have hend := m_sumend hn hw he hs a1 ha hb M hG hS hI hM
    have push : ∀ (r3 s1 : Int32), 2 ≤ r3.toInt → r3.toInt ≤ 6 → (M 77 9).toInt < (M 77 10).toInt → qT (f_X12_readsSum_38 n (f_X12_readsSum_14 n m) a1 r3 s1 M) (Qs f g b e s P W0 C0 M0 M1) := by
      intro r3 s1 k1 k2 k3
      unfold f_X12_readsSum_38
      unfold f_X12_closesSums
      refine T_qc (m_closes hw (by omega) hs s1 (M1 := M) n M hG hS hI Pm_rf (by omega)) ?_
      rintro _ m1 ⟨i1, i2, _, g1, s1'⟩
      have e9 : m1 77 9 = M 77 9 := i2.2.1
      have h15b := r_77_15 g1
      have h10b := r_77_10 g1
      have hi := i1
      obtain ⟨j1, j2, j3, j4, j5⟩ := hi
      have e10 : (m1 77 10).toInt = (M 77 10).toInt := by
        have w1 := s1' 77 10 (by decide)
        have w2 := hS 77 10 (by decide)
        rw [w1, w2]
      refine T_qg rfl (by omega) (by omega) ?_
      have ev : ((1048576 : Int32) * r3).toInt = 1048576 * r3.toInt := i_mul l_1048576 rfl (by omega) (by omega)
      refine T_r (Or.inr rfl) g1 s1' (by rw [ev]; omega) ?_
      intro m2 b1 b2 b3 g2 s2
      have d15 : m2 77 15 = m1 77 15 := by rw [b3 77 (by decide)]
      rw [d15]
      have ew : (m1 77 15 + 1).toInt = (m1 77 15).toInt + 1 := i_add rfl l_1 (by omega) (by omega)
      refine T_w (Or.inr (by decide)) g2 s2 (i_rng (lo := 0) (hi := 260) ew (by omega) (by omega)) ?_
      intro m3 c1 c2 c3 g3 s3
      have d9 : m3 77 9 = m1 77 9 := by rw [c2 9 (by decide), b3 77 (by decide)]
      rw [d9]
      have ep : (m1 77 9 + 1).toInt = (m1 77 9).toInt + 1 := i_add rfl l_1 (by rw [e9]; omega) (by rw [e9]; omega)
      refine T_w (Or.inl rfl) g3 s3 (i_rng (lo := 0) (hi := 240) ep (by rw [e9]; omega) (by rw [e9]; omega)) ?_
      intro m4 f1 f2 f3 g4 s4
      have p4 : (m4 77 9).toInt = (m1 77 9).toInt + 1 := by rw [f1]; exact ep
      have w4 : (m4 77 15).toInt = (m1 77 15).toInt + 1 := by rw [f2 15 (by decide), c1]; exact ew
      have b4 : m4 86 (m1 77 15).toInt.toNat = 1048576 * r3 := by rw [f3 86 (by decide), c3 86 (by decide)]; exact b1
      have q1 := SJ_push (W' := m4 86) i1 w4 p4 (by rw [p4, e9]; omega) (fun i hi2 => by rw [f3 86 (by decide), c3 86 (by decide)]; exact b2 i hi2) (by rw [b4, ev]; omega) (by rw [b4, ev]; omega)
      rw [show e + 1 - 1 = e by omega] at q1
      have q2 : SI f g b e s P W0 C0 m4 := SI_mk q1 rfl (by rw [f2 10 (by decide), c2 10 (by decide), b3 77 (by decide)]) rfl (by rw [f2 14 (by decide), c2 14 (by decide), b3 77 (by decide)]) rfl (by rw [f3 85 (by decide), c3 85 (by decide), b3 85 (by decide)])
      unfold f_X12_readsFactor
      have h94 := r_77_9 g4
      refine T_qc (m_factor hn hs (M1 := m4) n m4 g4 s4 q2 (Int.le_refl _) (by omega)) ?_
      rintro r5 m6 ⟨t1, t2, t3, t4⟩
      refine T_eq rfl l_0 (fun c => ?_) (fun c => ?_)
      · exact T_ret ⟨⟨by decide, by decide⟩, Or.inl l_0, t3, t4⟩
      · obtain ⟨u1, u2⟩ := t2.resolve_left c
        rw [e9] at p4
        exact ih m6 t3 t4 u1 (by omega) (by omega)
    show qT (b_X12_readsSum_14 n (f_X12_readsSum_14 n m) a1 M) _
    unfold b_X12_readsSum_14
    refine T_qc (t_X12_here hn M hG) ?_
    rintro r1 m2 ⟨hr1, he1, hg1, hs1⟩
    have q1 := hs1.nil
    subst q1
    refine T_qc (t_X12_sumSign hn r1 M hG) ?_
    rintro r3 m4 ⟨hr3, he3, hg3, hs3⟩
    have q3 := hs3.nil
    subst q3
    refine T_eq rfl l_m1 (fun c => ?_) (fun c => ?_)
    · refine T_qc (t_X12_here hn M hG) ?_
      rintro r5 m6 ⟨hr5, he5, hg5, hs5⟩
      have q5 := hs5.nil
      subst q5
      refine T_eq rfl l_93 (fun c5 => ?_) (fun c5 => ?_)
      · unfold f_X12_hasOpenSum
        refine T_qc (m_hasOpen a1 (by omega) n a1 M hG (by omega) (by omega) (fun i i1 i2 => absurd i1 (by omega)) (by omega)) ?_
        rintro r7 m8 ⟨rfl, hr7, ho⟩
        refine T_eq rfl l_0 (fun c7 => ?_) (fun c7 => ?_)
        · exact hend
        · obtain ⟨io, o1, o2, o3⟩ := (ho.resolve_left (fun q => c7 q.1)).2
          clear ho
          unfold f_X12_closesSums
          refine T_qc (m_closes hw (by omega) hs (1 : Int32) (M1 := m8) n m8 hG hS hI Pm_rf (by omega)) ?_
          rintro _ m9 ⟨k1, k2, k3, g9, s9⟩
          have h3 := k3 (by rw [l_1]; decide)
          have e9 : m9 77 9 = m8 77 9 := k2.2.1
          have h15b := r_77_15 g9
          have hlt : (io : Int) < (m9 77 15).toInt := by
            apply Classical.byContradiction
            intro q
            have := k2.2.2.2 io (by omega) o2
            omega
          have ew : (m9 77 15 - 1).toInt = (m9 77 15).toInt - 1 := i_sub rfl l_1 (by omega) (by omega)
          refine T_w (Or.inr (by decide)) g9 s9 (i_rng (lo := 0) (hi := 260) ew (by omega) (by omega)) ?_
          intro m10 x1 x2 x3 g10 s10
          refine T_w (Or.inr (by decide)) g10 s10 trivial ?_
          intro m11 y1 y2 y3 g11 s11
          have d9 : m11 77 9 = m8 77 9 := by rw [y2 9 (by decide), x2 9 (by decide), e9]
          rw [d9]
          have ep : (m8 77 9 + 1).toInt = (m8 77 9).toInt + 1 := i_add rfl l_1 (by omega) (by omega)
          refine T_w (Or.inl rfl) g11 s11 (i_rng (lo := 0) (hi := 240) ep (by omega) (by omega)) ?_
          intro m12 z1 z2 z3 g12 s12
          have p12 : (m12 77 9).toInt = (m8 77 9).toInt + 1 := by rw [z1]; exact ep
          have w12 : (m12 77 15).toInt = (m9 77 15).toInt - 1 := by rw [z2 15 (by decide), y2 15 (by decide), x1]; exact ew
          have e10 : (m9 77 10).toInt = (m8 77 10).toInt := by
            have w1 := s9 77 10 (by decide)
            have w2 := hS 77 10 (by decide)
            rw [w1, w2]
          have q6 := SJ_popo k1 w12 (by omega) (by rw [w12]; exact h3.resolve_left (by omega))
          have q7 := SJ_pl (pl' := (m12 77 9).toInt) q6 (by rw [e9]; omega) (by rw [e10]; omega)
          have q8 := SJ_s (s' := s) q7 (by rw [e9]; omega)
          have q9 : SI f g b (e + 1) s P W0 C0 m12 := SI_mk q8 rfl (by rw [z2 10 (by decide), y2 10 (by decide), x2 10 (by decide)]) rfl (by rw [z2 14 (by decide), y2 14 (by decide), x2 14 (by decide)]) (by rw [z3 86 (by decide), y3 86 (by decide), x3 86 (by decide)]) (by rw [z3 85 (by decide), y3 85 (by decide), x3 85 (by decide)])
          exact ih m12 g12 s12 q9 (by omega) (by omega)
      · exact hend
    · refine T_le l_4 rfl (fun c4 => ?_) (fun c4 => ?_)
      · exact push r3 0 (by omega) (by omega) (by omega)
      · exact push r3 1 (by omega) (by omega) (by omega)
theorem m_sum {n : Nat} (hn : 200000 ≤ n) {f g b : Nat} {e s : Int} {P : Nat → Prop} {W0 C0 : Nat → Int32} (hw : ∀ i, i < b → ¬ (2 ≤ (W0 i).toInt / 1048576 ∧ (W0 i).toInt / 1048576 ≤ 6)) (he : 0 ≤ e) (hs : 0 ≤ s) {M0 : qM} (M : qM) (hG : G M) (hS : Sm lQ M0 M) (hI : SI f g b e s P W0 C0 M) (hb : (M 77 15).toInt = (b : Int)) : qT (f_X12_readsSum n M) (Qs f g b e s P W0 C0 M0 M) := by
  have h15 := r_77_15 hG
  have h9 := r_77_9 hG
  unfold f_X12_readsSum
  refine T_ql rfl ?_
  intro x hx
  unfold f_X12_readsFactor
  refine T_qc (m_factor hn hs (M1 := M) n M hG hS hI (Int.le_refl _) (by omega)) ?_
  rintro r2 m3 ⟨t1, t2, t3, t4⟩
  refine T_eq rfl l_0 (fun c => ?_) (fun c => ?_)
  · exact T_ret ⟨⟨by decide, by decide⟩, Or.inl l_0, t3, t4⟩
  · obtain ⟨u1, u2⟩ := t2.resolve_left c
    have h93 := r_77_9 t3
    exact m_sumloop hn hw he hs x (by omega) (by omega) n m3 t3 t4 u1 u2 (by omega)
