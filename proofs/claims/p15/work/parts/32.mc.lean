theorem m_opens {n : Nat} {M0 : qM} (hn : 200000 ≤ n) (a : Int32) (M : qM) (hG : G M) (hS : Sm lQ M0 M) (ha : 0 ≤ a.toInt ∧ a.toInt ≤ 14) (hpl : (M 77 9).toInt < (M 77 10).toInt) (hwt : (M 77 15).toInt ≤ (M 77 9).toInt) : qT (f_X12_opens n a M) (fun v m => (0 ≤ v.toInt ∧ v.toInt ≤ 1) ∧ (v.toInt = 0 ∨ ((m 77 15).toInt = (M 77 15).toInt + 1 ∧ (m 77 9).toInt = (M 77 9).toInt + 1 ∧ m 77 10 = M 77 10 ∧ m 77 14 = M 77 14 ∧ (m 86 (M 77 15).toInt.toNat).toInt = 1048576 * a.toInt ∧ (∀ i, i ≠ (M 77 15).toInt.toNat → m 86 i = M 86 i) ∧ m 85 = M 85)) ∧ G m ∧ Sm lQ M0 m) := by
  have h15 := r_77_15 hG
  have h9 := r_77_9 hG
  have h10 := r_77_10 hG
  unfold f_X12_opens
  refine T_eq rfl l_6 (fun c => ?_) (fun c => ?_)
  · refine T_qc (t_X12_wrongAt hn (5 : Int32) (M 77 9) M hG (by decide)) ?_
    rintro r m ⟨hr, hg, hs⟩
    exact T_qb rfl (by omega) (by omega) (T_ret ⟨by omega, Or.inl (by omega), hg, hS.tr (hs.mono rfl)⟩)
  · refine T_w (Or.inr (by decide)) hG hS trivial ?_
    intro m1 a1 a2 a3 g1 s1
    have c15 : m1 77 15 = M 77 15 := a2 15 (by decide)
    rw [c15]
    refine T_qg rfl (by omega) (by omega) ?_
    have ev : ((1048576 : Int32) * a).toInt = 1048576 * a.toInt := i_mul l_1048576 rfl (by omega) (by omega)
    refine T_r (Or.inr rfl) g1 s1 (by rw [ev]; omega) ?_
    intro m2 b1 b2 b3 g2 s2
    have d15 : m2 77 15 = M 77 15 := by rw [b3 77 (by decide), c15]
    rw [d15]
    have ew : (M 77 15 + 1).toInt = (M 77 15).toInt + 1 := i_add rfl l_1 (by omega) (by omega)
    refine T_w (Or.inr (by decide)) g2 s2 (i_rng (lo := 0) (hi := 260) ew (by omega) (by omega)) ?_
    intro m3 c1 c2 c3 g3 s3
    have d9 : m3 77 9 = M 77 9 := by rw [c2 9 (by decide), b3 77 (by decide), a2 9 (by decide)]
    rw [d9]
    have ep : (M 77 9 + 1).toInt = (M 77 9).toInt + 1 := i_add rfl l_1 (by omega) (by omega)
    refine T_w (Or.inl rfl) g3 s3 (i_rng (lo := 0) (hi := 240) ep (by omega) (by omega)) ?_
    intro m4 f1 f2 f3 g4 s4
    refine T_ret ⟨⟨by decide, by decide⟩, Or.inr ⟨?_, ?_, ?_, ?_, ?_, fun i hi => ?_, ?_⟩, g4, s4⟩
    · rw [f2 15 (by decide), c1]; exact ew
    · rw [f1]; exact ep
    · rw [f2 10 (by decide), c2 10 (by decide), b3 77 (by decide), a2 10 (by decide)]
    · rw [f2 14 (by decide), c2 14 (by decide), b3 77 (by decide), a2 14 (by decide)]
    · rw [f3 86 (by decide), c3 86 (by decide)]
      have b4 : m2 86 (M 77 15).toInt.toNat = 1048576 * a := b1
      rw [b4]; exact ev
    · rw [f3 86 (by decide), c3 86 (by decide), b2 i hi, a3 86 (by decide)]
    · rw [f3 85 (by decide), c3 85 (by decide), b3 85 (by decide), a3 85 (by decide)]
abbrev Qf (f g b : Nat) (e s : Int) (P : Nat → Prop) (W0 C0 : Nat → Int32) (M0 M1 : qM) (v : Int32) (M' : qM) : Prop := (0 ≤ v.toInt ∧ v.toInt ≤ 1) ∧ (v.toInt = 0 ∨ (SI f g b (e + 1) s P W0 C0 M' ∧ (M1 77 9).toInt ≤ (M' 77 9).toInt)) ∧ G M' ∧ Sm lQ M0 M'
theorem m_factor {n : Nat} (hn : 200000 ≤ n) {f g b : Nat} {e s : Int} {P : Nat → Prop} {W0 C0 : Nat → Int32} (hs : 0 ≤ s) {M0 M1 : qM} : ∀ (m : Nat) (M : qM), G M → Sm lQ M0 M → SI f g b e s P W0 C0 M → (M1 77 9).toInt ≤ (M 77 9).toInt → 241 - (M 77 9).toInt < (m : Int) → qT (f_X12_readsFactor_0 n m M) (Qf f g b e s P W0 C0 M0 M1) := by
  intro m
  induction m with
  | zero => intro M hG _ _ _ h; have := r_77_9 hG; exfalso; omega
  | succ m ih =>
    intro M hG hS hI hM hm
    have h15 := r_77_15 hG
    have h10 := r_77_10 hG
    have h14 := r_77_14 hG
    have h9 := r_77_9 hG
    have hI2 := hI
    obtain ⟨j1, j2, j3, j4, j5⟩ := hI2
    have hnn := wc_nn (W := M 86) (b := b) (M 77 15).toInt.toNat
    show qT (b_X12_readsFactor_0 n (f_X12_readsFactor_0 n m) M) _
    unfold b_X12_readsFactor_0
    refine T_qc (t_X12_here hn M hG) ?_
    rintro r1 m2 ⟨hr1, he1, hg1, hs1⟩
    have q1 := hs1.nil
    subst q1
    refine T_eq rfl l_91 (fun c => ?_) (fun c => ?_)
    · refine T_qc (m_opens hn (14 : Int32) M hG hS (by rw [l_14]; omega) (by omega) (by omega)) ?_
      rintro r m3 ⟨hr, ho, g3, s3⟩
      refine T_eq rfl l_0 (fun c2 => ?_) (fun c2 => ?_)
      · exact T_ret ⟨⟨by decide, by decide⟩, Or.inl l_0, g3, s3⟩
      · obtain ⟨o1, o2, o3, o4, o5, o6, o7⟩ := ho.resolve_left c2
        rw [l_14] at o5
        have q2 := SJ_open hI o1 o2 (by omega) o6 (by omega)
        exact ih m3 g3 s3 (SI_mk q2 rfl (by rw [o3]) rfl (by rw [o4]) rfl o7) (by omega) (by omega)
    · refine T_qc (t_X12_isDigit hn M hG) ?_
      rintro r3 m4 ⟨hr3, he3, hg3, hs3⟩
      have q3 := hs3.nil
      subst q3
      refine T_eq rfl l_0 (fun c3 => ?_) (fun c3 => ?_)
      · refine T_qc (t_X12_here hn M hG) ?_
        rintro r5 m6 ⟨hr5, he5, hg5, hs5⟩
        have q5 := hs5.nil
        subst q5
        refine T_qc (t_X12_factOf hn r5 M hG) ?_
        rintro r7 m8 ⟨hr7, he7, hg7, hs7⟩
        have q7 := hs7.nil
        subst q7
        refine T_eq rfl l_m1 (fun c7 => ?_) (fun c7 => ?_)
        · refine T_qc (t_X12_wrongAt hn (1 : Int32) (M 77 9) M hG (by decide)) ?_
          rintro r m9 ⟨hr, hg, hs9⟩
          exact T_qb rfl (by omega) (by omega) (T_ret ⟨by omega, Or.inl (by omega), hg, hS.tr (hs9.mono rfl)⟩)
        · refine T_qc (m_notes (1 : Int32) r7 M hG hS (by rw [l_1]; omega) (by omega) (by omega)) ?_
          rintro _ m9 ⟨d1, d2, d3, d4, d5, g9, s9⟩
          rw [l_1] at d2
          have c9 : m9 77 9 = M 77 9 := d4 9 (by decide)
          rw [c9]
          have ep : (M 77 9 + 1).toInt = (M 77 9).toInt + 1 := i_add rfl l_1 (by omega) (by omega)
          refine T_w (Or.inl rfl) g9 s9 (i_rng (lo := 0) (hi := 240) ep (by omega) (by omega)) ?_
          intro m10 f1 f2 f3 g10 s10
          have p10 : (m10 77 9).toInt = (M 77 9).toInt + 1 := by rw [f1]; exact ep
          have q8 := SJ_note (e' := e + 1) hI d1 d3 (by
            rw [d2]
            right; left
            exact ⟨by omega, by omega, rfl⟩)
          have q9 := SJ_pl (pl' := (m10 77 9).toInt) q8 (by omega) (by omega)
          have q10 := SJ_s (s' := s) q9 (by omega)
          exact T_ret ⟨⟨by decide, by decide⟩, Or.inr ⟨SI_mk q10 rfl (by rw [f2 10 (by decide), d4 10 (by decide)]) (by rw [f2 15 (by decide), d4 15 (by decide)]) (by rw [f2 14 (by decide)]) (by rw [f3 86 (by decide), d5 86 (by decide) (by decide)]) (f3 85 (by decide)), by omega⟩, g10, s10⟩
      · refine T_qc (t_X12_readsNumber hn M hG (by omega)) ?_
        rintro r13 m14 ⟨hr13, he13, hg13, hs13⟩
        refine T_eq rfl l_0 (fun c13 => ?_) (fun c13 => ?_)
        · exact T_ret ⟨⟨by decide, by decide⟩, Or.inl l_0, hg13, hS.tr (hs13.mono rfl)⟩
        · have e10 : m14 77 10 = M 77 10 := hs13 77 10 (by decide)
          have e14 : m14 77 14 = M 77 14 := hs13 77 14 (by decide)
          have e15 : m14 77 15 = M 77 15 := hs13 77 15 (by decide)
          have e85 : m14 85 = M 85 := funext (fun s_ => hs13 85 s_ (outc rfl))
          have e86 : m14 86 = M 86 := funext (fun s_ => hs13 86 s_ (outc rfl))
          have e13 := he13.resolve_left c13
          have q8 := SJ_pl (pl' := (m14 77 9).toInt) hI (by omega) (by rw [← e10]; omega)
          have q9 : SI f g b e (s + ((m14 77 9).toInt - (M 77 9).toInt)) P W0 C0 m14 := SI_mk q8 rfl (by rw [e10]) (by rw [e15]) (by rw [e14]) e86 e85
          have h10b := r_77_10 hg13
          refine T_qc (m_notes (0 : Int32) (m14 77 12) m14 hg13 (hS.tr (hs13.mono rfl)) (by rw [l_0]; omega) (by omega) (by rw [e14]; omega)) ?_
          rintro _ m15 ⟨d1, d2, d3, d4, d5, g15, s15⟩
          rw [l_0] at d2
          have q10 := SJ_note (e' := e + 1) q9 d1 d3 (by
            rw [d2]
            left
            exact ⟨by omega, rfl⟩)
          have q11 := SJ_s (s' := s) q10 (by omega)
          exact T_ret ⟨⟨by decide, by decide⟩, Or.inr ⟨SI_mk q11 (by rw [d4 9 (by decide)]) (by rw [d4 10 (by decide)]) (by rw [d4 15 (by decide)]) rfl (d5 86 (by decide) (by decide)) rfl, by rw [d4 9 (by decide)]; omega⟩, g15, s15⟩
theorem m_hasOpen {n : Nat} (a1 : Int32) (h0 : 0 ≤ a1.toInt) : ∀ (m : Nat) (a2 : Int32) (M : qM), G M → a1.toInt ≤ a2.toInt → a2.toInt ≤ 260 → (∀ i : Nat, a1.toInt ≤ (i : Int) → (i : Int) < a2.toInt → (M 86 i).toInt / 1048576 ≠ 14) → 261 - a2.toInt < (m : Int) → qT (f_X12_hasOpenSum_2 n m a2 M) (fun v M' => M' = M ∧ (0 ≤ v.toInt ∧ v.toInt ≤ 1) ∧ ((v.toInt = 0 ∧ ∀ i : Nat, a1.toInt ≤ (i : Int) → (i : Int) < (M 77 15).toInt → (M 86 i).toInt / 1048576 ≠ 14) ∨ (v.toInt ≠ 0 ∧ ∃ i : Nat, a1.toInt ≤ (i : Int) ∧ (i : Int) < (M 77 15).toInt ∧ (M 86 i).toInt / 1048576 = 14))) := by
  intro m
  induction m with
  | zero => intro a2 M hG _ _ _ h; exfalso; omega
  | succ m ih =>
    intro a2 M hG k1 k2 k3 hm
    have h15 := r_77_15 hG
    show qT (b_X12_hasOpenSum_2 n (f_X12_hasOpenSum_2 n m) a2 M) _
    unfold b_X12_hasOpenSum_2
    refine T_le rfl rfl (fun c => ?_) (fun c => ?_)
    · exact T_ret ⟨rfl, ⟨by decide, by decide⟩, Or.inl ⟨l_0, fun i i1 i2 => k3 i i1 (by omega)⟩⟩
    · have h86 := r_86 hG a2.toNatClampNeg
      refine T_qg rfl (by omega) (by omega) ?_
      refine T_eq (i_div rfl l_1048576 h86.1 (by decide)) l_14 (fun d => ?_) (fun d => ?_)
      · exact T_ret ⟨rfl, ⟨by decide, by decide⟩, Or.inr ⟨by rw [l_1]; decide, a2.toNatClampNeg, by rw [tnc]; omega, by rw [tnc]; omega, d⟩⟩
      · refine T_ql (i_add rfl l_1 (by omega) (by omega)) ?_
        intro x hx
        refine ih x M hG (by omega) (by omega) (fun i i1 i2 => ?_) (by omega)
        by_cases q : i = a2.toNatClampNeg
        · rw [q]; exact d
        · rw [tnc] at q
          exact k3 i i1 (by omega)
