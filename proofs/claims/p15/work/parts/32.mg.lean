abbrev Qd (f : Nat) (C0 : Nat → Int32) (M0 : qM) (pl0 : Int) (v : Int32) (M' : qM) : Prop := (0 ≤ v.toInt ∧ v.toInt ≤ 1) ∧ (v.toInt = 0 ∨ (WFs (M' 85) f (M' 77 14).toInt.toNat ∧ (∀ k, k < f → M' 85 k = C0 k) ∧ (M' 77 14).toInt ≤ (M' 77 9).toInt ∧ (M' 77 9).toInt ≤ (M' 77 10).toInt ∧ (f : Int) ≤ (M' 77 14).toInt ∧ pl0 ≤ (M' 77 9).toInt)) ∧ G M' ∧ Sm lQ M0 M'
theorem m_cond92 {n : Nat} (hn : 200000 ≤ n) {f : Nat} {C0 : Nat → Int32} {M0 : qM} {pl0 : Int} {K : qM → qR} {B : Nat} (hK : ∀ M : qM, G M → Sm lQ M0 M → BI f 0 0 C0 M → 1 ≤ (M 77 15).toInt → pl0 ≤ (M 77 9).toInt → 241 - (M 77 9).toInt < (B : Int) → qT (K M) (Qd f C0 M0 pl0)) : ∀ (m : Nat) (M : qM), G M → Sm lQ M0 M → BI f 1 0 C0 M → 1 ≤ (M 77 15).toInt → pl0 ≤ (M 77 9).toInt → 241 - (M 77 9).toInt < (B : Int) + 1 → 241 - (M 77 9).toInt < (m : Int) → qT (f_X12_readsCondition_92 n K m M) (Qd f C0 M0 pl0) := by
  intro m
  induction m with
  | zero => intro M hG _ _ _ _ _ h; have := r_77_9 hG; exfalso; omega
  | succ m ih =>
    intro M hG hS hI h1 hp hB hm
    have h15 := r_77_15 hG
    have h10 := r_77_10 hG
    have h9 := r_77_9 hG
    have jmp : ∀ s1 : Int32, (M 77 9).toInt < (M 77 10).toInt → qT (f_X12_readsCondition_195 n K s1 M) (Qd f C0 M0 pl0) := by
      intro s1 hlt
      unfold f_X12_readsCondition_195
      unfold f_X12_lands
      refine T_qc (m_lands (M1 := M) s1 n M hG hS hI h1 rfl (by omega)) ?_
      rintro _ m1 ⟨k1, k2, k3, _, g1, s1'⟩
      have e10 : (m1 77 10).toInt = (M 77 10).toInt := by
        have w1 := s1' 77 10 (by decide)
        have w2 := hS 77 10 (by decide)
        rw [w1, w2]
      have jmp2 : ∀ a : Int32, (a.toInt = 11 ∨ a.toInt = 12) → qT (f_X12_readsCondition_215 n K a m1) (Qd f C0 M0 pl0) := by
        intro a ha
        unfold f_X12_readsCondition_215
        refine T_qc (m_jumps a m1 g1 s1' k1 k2 (by rw [k3, e10]; exact hlt) ha) ?_
        rintro _ m2 ⟨x1, x2, x3, g2, s2⟩
        rw [k3] at x3
        exact hK m2 g2 s2 x1 x2 (by omega) (by omega)
      refine T_qc (t_X12_here hn m1 g1) ?_
      rintro r3 m4 ⟨hr3, he3, hg3, hs3⟩
      have e3 := hs3.nil
      subst e3
      refine T_eq rfl l_38 (fun c => ?_) (fun c => ?_)
      · exact jmp2 11 (Or.inl l_11)
      · exact jmp2 12 (Or.inr l_12)
    have go180 : (M 77 9).toInt < (M 77 10).toInt → qT (f_X12_readsCondition_180 n K M) (Qd f C0 M0 pl0) := by
      intro hlt
      unfold f_X12_readsCondition_180
      refine T_qc (t_X12_here hn M hG) ?_
      rintro r3 m4 ⟨hr3, he3, hg3, hs3⟩
      have e3 := hs3.nil
      subst e3
      refine T_eq rfl l_124 (fun c => ?_) (fun c => ?_)
      · exact jmp 1 hlt
      · exact jmp 0 hlt
    show qT (b_X12_readsCondition_92 n K (f_X12_readsCondition_92 n K m) M) _
    unfold b_X12_readsCondition_92
    refine T_qc (t_X12_here hn M hG) ?_
    rintro r1 m2 ⟨hr1, he1, hg1, hs1⟩
    have e1 := hs1.nil
    subst e1
    refine T_eq rfl l_41 (fun c => ?_) (fun c => ?_)
    · unfold f_X12_lands
      refine T_qc (m_lands (M1 := M) (1 : Int32) n M hG hS hI h1 rfl (by omega)) ?_
      rintro _ m9 ⟨k1, k2, k3, k4, g9, s9⟩
      have kt := k4 (by rw [l_1]; decide)
      have h159 := r_77_15 g9
      have e10 : (m9 77 10).toInt = (M 77 10).toInt := by
        have w1 := s9 77 10 (by decide)
        have w2 := hS 77 10 (by decide)
        rw [w1, w2]
      have ew : (m9 77 15 - 1).toInt = (m9 77 15).toInt - 1 := i_sub rfl l_1 (by omega) (by omega)
      refine T_w (Or.inr (by decide)) g9 s9 (i_rng (lo := 0) (hi := 260) ew (by omega) (by omega)) ?_
      intro m10 x1 x2 x3 g10 s10
      refine T_w (Or.inr (by decide)) g10 s10 trivial ?_
      intro m11 y1 y2 y3 g11 s11
      have d9 : m11 77 9 = M 77 9 := by rw [y2 9 (by decide), x2 9 (by decide), k3]
      rw [d9]
      have ep : (M 77 9 + 1).toInt = (M 77 9).toInt + 1 := i_add rfl l_1 (by omega) (by omega)
      refine T_w (Or.inl rfl) g11 s11 (i_rng (lo := 0) (hi := 240) ep (by omega) (by omega)) ?_
      intro m12 z1 z2 z3 g12 s12
      have p12 : (m12 77 9).toInt = (M 77 9).toInt + 1 := by rw [z1]; exact ep
      have w12 : (m12 77 15).toInt = (m9 77 15).toInt - 1 := by rw [z2 15 (by decide), y2 15 (by decide), x1]; exact ew
      have q1 := (BJ_pop k1 w12 (by omega) (by rw [w12]; exact kt)).1
      have q2 := BJ_pl (pl' := (m12 77 9).toInt) q1 (by rw [k3]; omega) (by rw [e10]; omega)
      have q3 := BJ_s (s' := 0) q2 (by rw [k3]; omega)
      have q4 : BI f 1 0 C0 m12 := BI_mk q3 rfl (by rw [z2 10 (by decide), y2 10 (by decide), x2 10 (by decide)]) rfl (by rw [z2 14 (by decide), y2 14 (by decide), x2 14 (by decide)]) (by rw [z3 86 (by decide), y3 86 (by decide), x3 86 (by decide)]) (by rw [z3 85 (by decide), y3 85 (by decide), x3 85 (by decide)])
      have h1012 := r_77_10 g12
      refine T_eq rfl l_0 (fun c0 => ?_) (fun c0 => ?_)
      · have hk := q4
        obtain ⟨j1, j2, j3, j4, j5⟩ := hk
        have hnn := wn_nn (W := m12 86) (m12 77 15).toInt.toNat
        have hfc := (CI_pos j5).2
        refine T_ret ⟨⟨by decide, by decide⟩, Or.inr ⟨CI_WFs j5 (fun k _ p => ?_) (by omega) (fun k => (r_85 g12 k).1), j4, by omega, by omega, by omega, by omega⟩, g12, s12⟩
        obtain ⟨i, i1, _⟩ := p
        omega
      · have h1512 := r_77_15 g12
        unfold f_X12_endsPiece
        refine T_qc (m_ends (M1 := m12) n m12 g12 s12 q4 (by omega) rfl (by omega)) ?_
        rintro _ m13 ⟨u1, u2, u3, g13, s13⟩
        exact ih m13 g13 s13 u1 u2 (by rw [u3]; omega) (by rw [u3]; omega) (by rw [u3]; omega)
    · refine T_qc (t_X12_here hn M hG) ?_
      rintro r3 m4 ⟨hr3, he3, hg3, hs3⟩
      have e3 := hs3.nil
      subst e3
      refine T_eq rfl l_38 (fun c3 => ?_) (fun c3 => ?_)
      · exact go180 (by omega)
      · refine T_qc (t_X12_here hn M hG) ?_
        rintro r5 m6 ⟨hr5, he5, hg5, hs5⟩
        have e5 := hs5.nil
        subst e5
        refine T_eq rfl l_124 (fun c5 => ?_) (fun c5 => ?_)
        · exact go180 (by omega)
        · refine T_qc (t_X12_wrongAt hn (1 : Int32) (M 77 9) M hG (by decide)) ?_
          rintro r m9 ⟨hr9, hg, hs9⟩
          exact T_qb rfl (by omega) (by omega) (T_ret ⟨by omega, Or.inl (by omega), hg, hS.tr (hs9.mono rfl)⟩)
theorem m_cond40 {n : Nat} (hn : 200000 ≤ n) {f : Nat} {C0 : Nat → Int32} {M0 : qM} {pl0 : Int} : ∀ (m : Nat) (M : qM), G M → Sm lQ M0 M → BI f 0 0 C0 M → 1 ≤ (M 77 15).toInt → pl0 ≤ (M 77 9).toInt → 241 - (M 77 9).toInt < (m : Int) → qT (f_X12_readsCondition_40 n m M) (Qd f C0 M0 pl0) := by
  intro m
  induction m with
  | zero => intro M hG _ _ _ _ h; have := r_77_9 hG; exfalso; omega
  | succ m ih =>
    intro M hG hS hI h1 hp hm
    have h15 := r_77_15 hG
    have h10 := r_77_10 hG
    have h9 := r_77_9 hG
    have hI2 := hI
    obtain ⟨j1, j2, j3, j4, j5⟩ := hI2
    have op75 : ∀ s1 : Int32, (s1.toInt = 10 ∨ s1.toInt = 13) → (M 77 9).toInt < (M 77 10).toInt → qT (f_X12_readsCondition_75 n (f_X12_readsCondition_40 n m) s1 M) (Qd f C0 M0 pl0) := by
      intro s1 hs1 hlt
      unfold f_X12_readsCondition_75
      refine T_qc (m_opens hn s1 M hG hS (by omega) hlt (by omega)) ?_
      rintro r m3 ⟨hr, ho, g3, s3⟩
      refine T_eq rfl l_0 (fun c2 => ?_) (fun c2 => ?_)
      · exact T_ret ⟨⟨by decide, by decide⟩, Or.inl l_0, g3, s3⟩
      · obtain ⟨o1, o2, o3, o4, o5, o6, o7⟩ := ho.resolve_left c2
        have q2 := BJ_push hI h1 o1 o2 (by omega) o6 (by omega)
        exact ih m3 g3 s3 (BI_mk q2 rfl (by rw [o3]) rfl (by rw [o4]) rfl o7) (by omega) (by omega) (by omega)
    have op58 : (M 77 9).toInt < (M 77 10).toInt → qT (f_X12_readsCondition_58 n (f_X12_readsCondition_40 n m) M) (Qd f C0 M0 pl0) := by
      intro hlt
      unfold f_X12_readsCondition_58
      refine T_qc (t_X12_here hn M hG) ?_
      rintro r3 m4 ⟨hr3, he3, hg3, hs3⟩
      have e3 := hs3.nil
      subst e3
      refine T_eq rfl l_33 (fun c => ?_) (fun c => ?_)
      · exact op75 10 (Or.inl l_10) hlt
      · exact op75 13 (Or.inr l_13) hlt
    show qT (b_X12_readsCondition_40 n (f_X12_readsCondition_40 n m) M) _
    unfold b_X12_readsCondition_40
    refine T_qc (t_X12_here hn M hG) ?_
    rintro r1 m2 ⟨hr1, he1, hg1, hs1⟩
    have e1 := hs1.nil
    subst e1
    refine T_eq rfl l_33 (fun c => ?_) (fun c => ?_)
    · exact op58 (by omega)
    · refine T_qc (t_X12_here hn M hG) ?_
      rintro r3 m4 ⟨hr3, he3, hg3, hs3⟩
      have e3 := hs3.nil
      subst e3
      refine T_eq rfl l_40 (fun c3 => ?_) (fun c3 => ?_)
      · exact op58 (by omega)
      · refine T_qc (m_compared hn M hG hS hI h1) ?_
        rintro r5 m6 ⟨t1, t2, g6, s6⟩
        refine T_eq rfl l_0 (fun c5 => ?_) (fun c5 => ?_)
        · exact T_ret ⟨⟨by decide, by decide⟩, Or.inl l_0, g6, s6⟩
        · obtain ⟨u1, u2, u3⟩ := t2.resolve_left c5
          have h96 := r_77_9 g6
          exact m_cond92 hn ih n m6 g6 s6 u1 u2 (by omega) (by omega) (by omega)
theorem m_cond {n : Nat} (hn : 200000 ≤ n) {M0 : qM} (M : qM) (hG : G M) (hS : Sm lQ M0 M) (h1 : (M 77 14).toInt ≤ (M 77 9).toInt) (h2 : (M 77 9).toInt ≤ (M 77 10).toInt) : qT (f_X12_readsCondition n M) (Qd (M 77 14).toInt.toNat (M 85) M0 (M 77 9).toInt) := by
  have h10 := r_77_10 hG
  have h9 := r_77_9 hG
  have h14 := r_77_14 hG
  unfold f_X12_readsCondition
  refine T_qc (t_X12_here hn M hG) ?_
  rintro r1 m2 ⟨hr1, he1, hg1, hs1⟩
  have e1 := hs1.nil
  subst e1
  refine T_eq rfl l_40 (fun c => ?_) (fun c => ?_)
  · refine T_w (Or.inr (by decide)) hG hS trivial ?_
    intro m3 x1 x2 x3 g3 s3
    refine T_w (Or.inr (by decide)) g3 s3 (i_rng (lo := 0) (hi := 260) l_0 (by omega) (by omega)) ?_
    intro m4 y1 y2 y3 g4 s4
    have w4 : (m4 77 15).toInt = 0 := by rw [y1]; rfl
    have e9 : m4 77 9 = M 77 9 := by rw [y2 9 (by decide), x2 9 (by decide)]
    have e10 : m4 77 10 = M 77 10 := by rw [y2 10 (by decide), x2 10 (by decide)]
    have e14 : m4 77 14 = M 77 14 := by rw [y2 14 (by decide), x2 14 (by decide)]
    have e85 : m4 85 = M 85 := by rw [y3 85 (by decide), x3 85 (by decide)]
    refine T_qc (m_opens hn (13 : Int32) m4 g4 s4 (by rw [l_13]; omega) (by rw [e9, e10]; omega) (by rw [w4, e9]; omega)) ?_
    rintro r5 m6 ⟨hr5, ho, g6, s6⟩
    refine T_eq rfl l_0 (fun c5 => ?_) (fun c5 => ?_)
    · exact T_ret ⟨⟨by decide, by decide⟩, Or.inl l_0, g6, s6⟩
    · obtain ⟨o1, o2, o3, o4, o5, o6, o7⟩ := ho.resolve_left c5
      rw [w4, l_13] at o5
      rw [w4] at o1
      have o8 : (m6 86 0).toInt = 1048576 * 13 := o5
      have hw1 : wn (m6 86) 1 = 0 := by
        rw [wn_n (n := 0) (by omega)]; rfl
      have q : BJ (M 77 14).toInt.toNat 0 0 (M 85) (m6 77 9).toInt (m6 77 10).toInt (m6 77 15).toInt (M 77 14).toInt (m6 86) (M 85) := by
        refine ⟨?_, by omega, fun i hi => ?_, fun _ _ => rfl, CI_init⟩
        · rw [o1, show ((0 : Int) + 1).toNat = 1 from rfl, hw1, o2, o3, e9, e10]
          omega
        · rw [show i = 0 by omega]
          exact ⟨by omega, fun hk => by omega⟩
      have h96 := r_77_9 g6
      exact m_cond40 hn n m6 g6 s6 (BI_mk q rfl rfl rfl (by rw [o4, e14]) rfl (by rw [o7, e85])) (by omega) (by rw [o2, e9]; omega) (by omega)
  · refine T_qc (t_X12_wrongAt hn (1 : Int32) (M 77 9) M hG (by decide)) ?_
    rintro r m9 ⟨hr9, hg, hs9⟩
    exact T_qb rfl (by omega) (by omega) (T_ret ⟨by omega, Or.inl (by omega), hg, hS.tr (hs9.mono rfl)⟩)
