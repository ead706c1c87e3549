/-! plan: both answers -/
theorem v_plan {n : Nat} (hn : 200000 ≤ n) (a1 a2 : Int32) (M : qM) (hG : G M) (h2 : 1 ≤ a2.toInt ∧ a2.toInt ≤ 80 ∧ a2.toInt ≤ (M 77 8).toInt) (hp : 0 ≤ a1.toInt ∧ a1.toInt ≤ 7) (hb : ((M 78 312) >>> (a1 &&& 31)) &&& (1 : Int32) = 1) : qT (f_X12_plan n a1 a2 M) (fun v _ => Qz (tm (M 84) a2.toInt) a2.toInt v) := by
  have h8 := r_77_8 hG
  unfold f_X12_plan
  have hper : f_X12_isPerson n a1 M = some (1, M) := by
    unfold f_X12_isPerson f_X12_has0
    rw [if_neg (by rw [Int32.lt_iff_toInt_lt]; have z : (0 : Int32).toInt = 0 := rfl; omega), if_neg (by rw [Int32.le_iff_toInt_le]; have z : (8 : Int32).toInt = 8 := rfl; omega), if_pos hb, qc_v, if_neg (by decide)]
  have hin : f_X12_in n a2 (1 : Int32) (80 : Int32) M = some (1, M) := by
    rw [in_eq, if_neg]
    rw [Int32.lt_iff_toInt_lt, Int32.lt_iff_toInt_lt]
    have z1 : (1 : Int32).toInt = 1 := rfl
    have z2 : (80 : Int32).toInt = 80 := rfl
    omega
  rw [hper, qc_v, if_neg (by decide), hin, qc_v, if_neg (by decide)]
  refine T_le rfl rfl (fun c => ?_) (fun c => by exfalso; omega)
  refine T_mu (M0 := M) (l := [(77, 78, 9, 10)]) hG Sm.rf (i_rng (lo := 0) (hi := 240) l_0 (by omega) (by omega)) nw_77_9 (i := 0) rfl ⟨by decide, by decide, Or.inr ⟨by decide, by decide⟩⟩ ?_
  intro m5 e5 g5 _
  refine T_mu (M0 := m5) (l := [(77, 78, 10, 11)]) g5 Sm.rf (i_rng (lo := 0) (hi := 240) rfl (by omega) (by omega)) nw_77_10 (i := 0) rfl ⟨by decide, by decide, Or.inr ⟨by decide, by decide⟩⟩ ?_
  intro m6 e6 g6 _
  refine T_mu (M0 := m6) (l := [(77, 78, 35, 36)]) g6 Sm.rf (i_rng (lo := 0) (hi := 40) l_0 (by omega) (by omega)) nw_77_35 (i := 0) rfl ⟨by decide, by decide, Or.inr ⟨by decide, by decide⟩⟩ ?_
  intro m7 e7 g7 _
  refine T_mu (M0 := m7) (l := [(77, 78, 36, 37)]) g7 Sm.rf (i_rng (lo := 0) (hi := 3) l_0 (by omega) (by omega)) nw_77_36 (i := 0) rfl ⟨by decide, by decide, Or.inr ⟨by decide, by decide⟩⟩ ?_
  intro m8 e8 g8 _
  have p36 : (m8 77 36).toInt = 0 := by rw [e8, mu_at]; rfl
  have p35 : (m8 77 35).toInt = 0 := by rw [e8, mu_ne (Or.inr (by decide)), e7, mu_at]; rfl
  have p10 : (m8 77 10).toInt = a2.toInt := by rw [e8, mu_ne (Or.inr (by decide)), e7, mu_ne (Or.inr (by decide)), e6, mu_at]
  have p9 : (m8 77 9).toInt = 0 := by rw [e8, mu_ne (Or.inr (by decide)), e7, mu_ne (Or.inr (by decide)), e6, mu_ne (Or.inr (by decide)), e5, mu_at]; rfl
  have p84 : m8 84 = M 84 := by rw [e8, mu_nc (by decide), e7, mu_nc (by decide), e6, mu_nc (by decide), e5, mu_nc (by decide)]
  have hMx : Mx (M 84) a2.toInt m8 := ⟨p84, p10, by omega, fun i hi => absurd hi (by omega), fun i hi => absurd hi (by omega)⟩
  have hA : To (tm (M 84) a2.toInt) a2.toInt (0, 0, 0, []) (cM 0 m8) := by
    show To _ _ _ (0, (m8 77 9).toInt, (m8 77 35).toInt, stk (m8 100) (m8 101) (m8 77 36).toInt.toNat)
    rw [p9, p35, p36]
    exact To_rf
  refine T_qc (v_step hn (M0 := m8) m8 g8 Sm.rf hMx hA) ?_
  rintro r9 m10 ⟨ho, g10, s10⟩
  have h9 := r_77_9 g10
  refine v_53 hn (M0 := m8) a1 hp n r9 m10 g10 s10 ?_ (by omega)
  rcases ho with q | ⟨q1, q2, q3, q4, q5⟩
  · exact Or.inl q
  · exact Or.inr ⟨q1, q2, q3, q5, by omega⟩
theorem u_plan {n : Nat} (hn : 200000 ≤ n) (a1 a2 : Int32) (M : qM) (hG : G M) (h2 : 1 ≤ a2.toInt ∧ a2.toInt ≤ 80 ∧ a2.toInt ≤ (M 1 1).toInt) (hp : 0 ≤ a1.toInt ∧ a1.toInt ≤ 7) (hb : ((M 7 8) >>> (a1 &&& 31)) &&& (1 : Int32) = 1) {v : Int32} {m : qM} (e : f_X11_plan n a1 a2 M = some (v, m)) : Qz (tq (M 2) a2.toInt) a2.toInt v := by
  have hk : f_X10_knows n 7 a1 M = some (1, M) := by
    unfold f_X10_knows
    rw [if_neg (by rw [Int32.lt_iff_toInt_lt]; have z : (0 : Int32).toInt = 0 := rfl; omega), if_neg (by rw [Int32.le_iff_toInt_le]; have z : (8 : Int32).toInt = 8 := rfl; omega), if_pos hb]
  obtain ⟨v3, m4, e3, hq⟩ := u_read hn a2 M hG ⟨h2.1, h2.2.1⟩ h2.2.2
  unfold f_X11_plan at e
  rw [hk, qc_v, if_neg (by decide), if_neg (by rw [Int32.lt_iff_toInt_lt]; have z : (1 : Int32).toInt = 1 := rfl; omega), if_neg (by rw [Int32.lt_iff_toInt_lt]; have z : (80 : Int32).toInt = 80 := rfl; omega), if_pos (by rw [Int32.le_iff_toInt_le]; omega), e3, qc_v] at e
  have hv : v = v3 := by
    cases hc : f_X9_clear n m4 with
    | none => rw [hc] at e; exact absurd e (by simp [qc])
    | some q =>
      obtain ⟨w, m5⟩ := q
      rw [hc, qc_v] at e
      by_cases c : v3 ≤ (0 : Int32)
      · rw [if_pos c] at e; injection e with e; injection e with e1 e2; exact e1.symm
      · rw [if_neg c] at e
        cases hc2 : f_X10_takePlan n 7 a1 m5 with
        | none => rw [hc2] at e; exact absurd e (by simp [qc])
        | some q2 =>
          obtain ⟨w2, m6⟩ := q2
          rw [hc2, qc_v] at e
          injection e with e; injection e with e1 e2; exact e1.symm
  rw [hv]
  exact hq
/-- where the people, the tapes and their sizes agree, so do the answers of plan -/
theorem plan_ag {n : Nat} (hn : 200000 ≤ n) {a1 a2 v1 v2 : Int32} {M m1 m2 : qM} (hG : G M) (hG1 : G m1) (hT : TR M) (hs : (M 1 1).toInt = (m1 77 8).toInt) (hpe : M 7 8 = m1 78 312) (h84 : m1 84 = M 84) (e1 : f_X11_plan n a1 a2 M = some (v1, m1)) (e2 : f_X12_plan n a1 a2 m1 = some (v2, m2)) : v1 = v2 := by
  have z0 : (0 : Int32).toInt = 0 := rfl
  have z1 : (1 : Int32).toInt = 1 := rfl
  have z8 : (8 : Int32).toInt = 8 := rfl
  have z80 : (80 : Int32).toInt = 80 := rfl
  have no : ∀ {v : Int32} {M : qM} {w : Int32} {m : qM}, (some (v, M) : qR) = some (w, m) → v = w := by
    intro v M w m h
    injection h with h; injection h
  by_cases hp : (0 ≤ a1.toInt ∧ a1.toInt ≤ 7) ∧ ((M 7 8) >>> (a1 &&& 31)) &&& (1 : Int32) = 1
  · obtain ⟨hp, hb⟩ := hp
    have hb2 : ((m1 78 312) >>> (a1 &&& 31)) &&& (1 : Int32) = 1 := by rw [← hpe]; exact hb
    by_cases h2 : 1 ≤ a2.toInt ∧ a2.toInt ≤ 80 ∧ a2.toInt ≤ (M 1 1).toInt
    · have q1 := u_plan hn a1 a2 M hG h2 hp hb e1
      obtain ⟨w, mw, ew, q2⟩ := v_plan hn a1 a2 m1 hG1 ⟨h2.1, h2.2.1, by omega⟩ hp hb2
      rw [e2] at ew
      have hw : v2 = w := no ew
      rw [← hw, h84, ← TR_t hT h2.2.2] at q2
      exact Qz_eq q1 q2
    · have hk : f_X10_knows n 7 a1 M = some (1, M) := by
        unfold f_X10_knows
        rw [if_neg (by rw [Int32.lt_iff_toInt_lt]; omega), if_neg (by rw [Int32.le_iff_toInt_le]; omega), if_pos hb]
      have hper : f_X12_isPerson n a1 m1 = some (1, m1) := by
        unfold f_X12_isPerson f_X12_has0
        rw [if_neg (by rw [Int32.lt_iff_toInt_lt]; omega), if_neg (by rw [Int32.le_iff_toInt_le]; omega), if_pos hb2, qc_v, if_neg (by decide)]
      have r1 : v1 = -1 := by
        unfold f_X11_plan at e1
        rw [hk, qc_v, if_neg (by decide)] at e1
        by_cases c1 : a2 < (1 : Int32)
        · rw [if_pos c1] at e1; exact (no e1).symm
        · rw [if_neg c1] at e1
          by_cases c2 : (80 : Int32) < a2
          · rw [if_pos c2] at e1; exact (no e1).symm
          · rw [if_neg c2] at e1
            rw [Int32.lt_iff_toInt_lt] at c1 c2
            rw [if_neg (by rw [Int32.le_iff_toInt_le]; omega)] at e1
            exact (no e1).symm
      have r2 : v2 = -1 := by
        unfold f_X12_plan at e2
        rw [hper, qc_v, if_neg (by decide), in_eq, qc_v] at e2
        by_cases c1 : a2 < (1 : Int32) ∨ (80 : Int32) < a2
        · rw [if_pos c1, if_pos rfl] at e2; exact (no e2).symm
        · rw [if_neg c1, if_neg (by decide)] at e2
          rw [Int32.lt_iff_toInt_lt, Int32.lt_iff_toInt_lt] at c1
          rw [if_neg (by rw [Int32.le_iff_toInt_le]; omega)] at e2
          exact (no e2).symm
      rw [r1, r2]
  · have hk : f_X10_knows n 7 a1 M = some (0, M) := by
      unfold f_X10_knows
      by_cases c1 : a1 < (0 : Int32)
      · rw [if_pos c1]
      · rw [if_neg c1]
        by_cases c2 : (8 : Int32) ≤ a1
        · rw [if_pos c2]
        · rw [if_neg c2]
          rw [Int32.lt_iff_toInt_lt] at c1
          rw [Int32.le_iff_toInt_le] at c2
          rw [if_neg (fun q => hp ⟨by omega, q⟩)]
    have hper : f_X12_isPerson n a1 m1 = some (0, m1) := by
      unfold f_X12_isPerson f_X12_has0
      by_cases c1 : a1 < (0 : Int32)
      · rw [if_pos c1]
      · rw [if_neg c1]
        by_cases c2 : (8 : Int32) ≤ a1
        · rw [if_pos c2]
        · rw [if_neg c2]
          rw [Int32.lt_iff_toInt_lt] at c1
          rw [Int32.le_iff_toInt_le] at c2
          rw [if_neg (fun q => hp ⟨by omega, by rw [hpe]; exact q⟩), qc_v, if_pos rfl]
    have r1 : v1 = -1 := by
      unfold f_X11_plan at e1
      rw [hk, qc_v, if_pos rfl] at e1
      exact (no e1).symm
    have r2 : v2 = -1 := by
      unfold f_X12_plan at e2
      rw [hper, qc_v, if_pos rfl] at e2
      exact (no e2).symm
    rw [r1, r2]
