/-! a try told -/
def byA (T : Nat → Int32) (k : Nat) : Nat → Int32
  | 0 => 0
  | p + 1 => byA T k p + T (12 * p + k)
theorem byA_cg {T U : Nat → Int32} {k : Nat} (hk : k < 12) : ∀ {p : Nat}, p ≤ 8 → (∀ i, i < 96 → U i = T i) → byA U k p = byA T k p := by
  intro p
  induction p with
  | zero => intro _ _; rfl
  | succ p ih =>
    intro hp h
    show byA U k p + U (12 * p + k) = byA T k p + T (12 * p + k)
    rw [ih (by omega) h, h _ (by omega)]
theorem ixc {p k : Nat} (hp : p < 9) (hk : k < 13) : (nI p * (12 : Int32) + nI k).toInt = ((12 * p + k : Nat) : Int) ∧ ((12 : Int32) * nI p + nI k).toInt = ((12 * p + k : Nat) : Int) := by
  have h1 := nI_toInt (n := p) (by omega)
  have h2 := nI_toInt (n := k) (by omega)
  constructor
  · rw [i_add (i_mul h1 l_12 (by omega) (by omega)) h2 (by omega) (by omega)]; omega
  · rw [i_add (i_mul l_12 h1 (by omega) (by omega)) h2 (by omega) (by omega)]; omega
theorem ixn {p k : Nat} (hp : p < 9) (hk : k < 13) : (nI p * (12 : Int32) + nI k).toNatClampNeg = 12 * p + k ∧ ((12 : Int32) * nI p + nI k).toNatClampNeg = 12 * p + k := by
  have h := ixc hp hk
  exact ⟨by rw [tnc, h.1]; rfl, by rw [tnc, h.2]; rfl⟩
theorem ixm {p k : Nat} (hp : p < 9) (hk : k < 13) : ((0 : Int32) + ((12 : Int32) * nI p + nI k)).toNatClampNeg = 12 * p + k ∧ ((96 : Int32) + ((12 : Int32) * nI p + nI k)).toNatClampNeg = 96 + (12 * p + k) ∧ ((192 : Int32) + ((12 : Int32) * nI p + nI k)).toNatClampNeg = 192 + (12 * p + k) := by
  have h := (ixc hp hk).2
  refine ⟨?_, ?_, ?_⟩
  · rw [tnc, i_add l_0 h (by omega) (by omega)]; omega
  · rw [tnc, i_add l_96 h (by omega) (by omega)]; omega
  · rw [tnc, i_add l_192 h (by omega) (by omega)]; omega
theorem c_byA4 {n t k : Nat} (hk : k < 12) : ∀ (m p : Nat) (M : qM), p ≤ 8 → qP (f_X10_triesByAll_4 n t m (nI k) (byA (M (t + 2)) k p) (nI p) M) (fun v m' => v = byA (M (t + 2)) k 8 ∧ m' = M) := by
  intro m
  induction m with
  | zero => intro p M _; exact P_none
  | succ m ih =>
    intro p M hp
    show qP (b_X10_triesByAll_4 n t (f_X10_triesByAll_4 n t m) (nI k) (byA (M (t + 2)) k p) (nI p) M) _
    unfold b_X10_triesByAll_4
    have tp : (nI p).toInt = (p : Int) := nI_toInt (by omega)
    refine P_le l_8 tp (fun c => P_ret ⟨by rw [show p = 8 by omega], rfl⟩) (fun c => P_qg (fun _ _ => ?_))
    rw [(ixn (p := p) (k := k) (by omega) (by omega)).1]
    refine P_ql rfl (fun x1 hx1 => P_ql (i_add tp l_1 (by omega) (by omega)) (fun x2 hx2 => ?_))
    have e1 : x1 = byA (M (t + 2)) k (p + 1) := Int32.toInt_inj.mp hx1
    rw [e1, nI_i (a := x2) (k := p + 1) (by rw [hx2]; omega)]
    exact ih (p + 1) M (by omega)
theorem c_byA {n t k : Nat} (hk : k < 12) (M : qM) : qP (f_X10_triesByAll n t (nI k) M) (fun v m' => v = byA (M (t + 2)) k 8 ∧ m' = M) := by
  unfold f_X10_triesByAll
  exact c_byA4 hk n 0 M (by omega)
theorem d_byA4 {n k : Nat} (hk : k < 12) : ∀ (m p : Nat) (M : qM), p ≤ 8 → qP (f_X12_allTries_4 n m (nI k) (byA (M 78) k p) (nI p) M) (fun v m' => v = byA (M 78) k 8 ∧ m' = M) := by
  intro m
  induction m with
  | zero => intro p M _; exact P_none
  | succ m ih =>
    intro p M hp
    show qP (b_X12_allTries_4 n (f_X12_allTries_4 n m) (nI k) (byA (M 78) k p) (nI p) M) _
    unfold b_X12_allTries_4
    have tp : (nI p).toInt = (p : Int) := nI_toInt (by omega)
    refine P_le l_8 tp (fun c => P_ret ⟨by rw [show p = 8 by omega], rfl⟩) (fun c => ?_)
    unfold f_X12_at
    rw [qc_v]
    refine P_qg (fun _ _ => ?_)
    rw [(ixm (p := p) (k := k) (by omega) (by omega)).1]
    refine P_ql rfl (fun x1 hx1 => P_ql (i_add tp l_1 (by omega) (by omega)) (fun x2 hx2 => ?_))
    have e1 : x1 = byA (M 78) k (p + 1) := Int32.toInt_inj.mp hx1
    rw [e1, nI_i (a := x2) (k := p + 1) (by rw [hx2]; omega)]
    exact ih (p + 1) M (by omega)
theorem d_byA {n k : Nat} (hk : k < 12) (M : qM) : qP (f_X12_allTries n (nI k) M) (fun v m' => v = byA (M 78) k 8 ∧ m' = M) := by
  unfold f_X12_allTries
  exact d_byA4 hk n 0 M (by omega)
theorem c_tell {n t p k : Nat} (ht : t + 2 ≠ 35 ∧ t + 4 ≠ 35 ∧ t ≠ 35) (hp : p < 8) (hk : k < 12) (w : Int32) (M : qM) : qP (f_X0_tellAll n t (nI p) (nI k) w M) (fun _ m => FE (m 35) (fx (nI k) (M 4 k) (M 5 k) 0 0 0 (M t 9) (nI p) w (M (t + 2) (12 * p + k)) (byA (M (t + 2)) k 8) (M (t + 4) (12 * p + k))) ∧ ∀ c, c ≠ 35 → m c = M c) := by
  have ek : (nI k).toNatClampNeg = k := by rw [tnc, nI_toInt (by omega)]; rfl
  unfold f_X0_tellAll
  refine P_ql rfl (fun x1 hx1 => ?_)
  have ex : x1.toNatClampNeg = 12 * p + k := by rw [Int32.toInt_inj.mp hx1]; exact (ixn (by omega) (by omega)).1
  refine P_qg (fun _ _ => P_qg (fun _ _ => ?_))
  rw [ek]
  refine P_qc (c_deed (nI k) (M 4 k) (M 5 k) (M t 9) M) ?_
  rintro _ m2 ⟨hF, e2⟩
  refine P_qg (fun _ _ => P_qc (c_byA (t := t) hk m2) ?_)
  rintro r3 m4 ⟨hr3, rfl⟩
  refine P_qg (fun _ _ => ?_)
  rw [ex, e2 _ ht.1, e2 _ ht.2.1]
  rw [e2 _ ht.1] at hr3
  unfold f_X1_tellTry
  refine P_qc (Q := fun _ m => FE (m 35) (fx (nI k) (M 4 k) (M 5 k) 0 0 0 (M t 9) (nI p) w (M (t + 2) (12 * p + k)) (byA (M (t + 2)) k 8) (M (t + 4) (12 * p + k))) ∧ ∀ c, c ≠ 35 → m c = M c) (P_m (fun m5 a1 a2 a3 => P_m (fun m6 b1 b2 b3 => P_m (fun m7 c1 c2 c3 => P_m (fun m8 d1 d2 d3 => P_m (fun m9 f1 f2 f3 => P_ret ⟨?_, fun c hc => ?_⟩)))))) (fun _ m h => P_ret h)
  · have o : ∀ i, i ≠ 7 → i ≠ 8 → i ≠ 9 → i ≠ 10 → i ≠ 11 → m9 35 i = m4 35 i := fun i q7 q8 q9 q10 q11 => by rw [f2 i q11, d2 i q10, c2 i q9, b2 i q8, a2 i q7]
    refine FE_mk ?_ ?_ ?_ ?_ ?_ ?_ ?_ ?_ ?_ ?_ ?_ f1
    · rw [o 0 (by decide) (by decide) (by decide) (by decide) (by decide)]; exact hF 0 (by decide)
    · rw [o 1 (by decide) (by decide) (by decide) (by decide) (by decide)]; exact hF 1 (by decide)
    · rw [o 2 (by decide) (by decide) (by decide) (by decide) (by decide)]; exact hF 2 (by decide)
    · rw [o 3 (by decide) (by decide) (by decide) (by decide) (by decide)]; exact hF 3 (by decide)
    · rw [o 4 (by decide) (by decide) (by decide) (by decide) (by decide)]; exact hF 4 (by decide)
    · rw [o 5 (by decide) (by decide) (by decide) (by decide) (by decide)]; exact hF 5 (by decide)
    · rw [o 6 (by decide) (by decide) (by decide) (by decide) (by decide)]; exact hF 6 (by decide)
    · rw [f2 7 (by decide), d2 7 (by decide), c2 7 (by decide), b2 7 (by decide), a1]
    · rw [f2 8 (by decide), d2 8 (by decide), c2 8 (by decide), b1]
    · rw [f2 9 (by decide), d2 9 (by decide), c1]
    · rw [f2 10 (by decide), d1, hr3]
  · rw [f3 c hc, d3 c hc, c3 c hc, b3 c hc, a3 c hc, e2 c hc]
theorem d_tell {n p k : Nat} (hp : p < 8) (hk : k < 12) (w : Int32) (M : qM) : qP (f_X12_feels n (nI p) (nI k) w M) (fun _ m => FE (m 97) (fx (nI k) (M 81 k) (M 82 k) 0 0 0 (M 78 313) (nI p) w (M 78 (12 * p + k)) (byA (M 78) k 8) (M 78 (192 + (12 * p + k)))) ∧ ∀ c, c ≠ 97 → m c = M c) := by
  have ek : (nI k).toNatClampNeg = k := by rw [tnc, nI_toInt (by omega)]; rfl
  have hix := ixm (p := p) (k := k) (by omega) (by omega)
  unfold f_X12_feels
  refine P_qc (d_deed (nI k) M) ?_
  rintro _ m2 ⟨hF, e2⟩
  rw [ek] at hF
  refine P_m (fun m5 a1 a2 a3 => P_m (fun m6 b1 b2 b3 => ?_))
  unfold f_X12_at
  rw [qc_v]
  refine P_qg (fun _ _ => ?_)
  rw [hix.1]
  refine P_m (fun m7 c1 c2 c3 => P_qc (d_byA hk m7) ?_)
  rintro r3 m8 ⟨hr3, rfl⟩
  refine P_m (fun m9 d1 d2 d3 => ?_)
  rw [qc_v]
  refine P_qg (fun _ _ => ?_)
  rw [hix.2.2]
  refine P_m (fun m10 f1 f2 f3 => P_ret ⟨?_, fun c hc => ?_⟩)
  · have o : ∀ i, i ≠ 7 → i ≠ 8 → i ≠ 9 → i ≠ 10 → i ≠ 11 → m10 97 i = m2 97 i := fun i q7 q8 q9 q10 q11 => by rw [f2 i q11, d2 i q10, c2 i q9, b2 i q8, a2 i q7]
    have q6 : m6 78 = M 78 := by rw [b3 78 (by decide), a3 78 (by decide), e2 78 (by decide)]
    have q8 : m8 78 = M 78 := by rw [c3 78 (by decide), q6]
    refine FE_mk ?_ ?_ ?_ ?_ ?_ ?_ ?_ ?_ ?_ ?_ ?_ ?_
    · rw [o 0 (by decide) (by decide) (by decide) (by decide) (by decide)]; exact hF 0 (by decide)
    · rw [o 1 (by decide) (by decide) (by decide) (by decide) (by decide)]; exact hF 1 (by decide)
    · rw [o 2 (by decide) (by decide) (by decide) (by decide) (by decide)]; exact hF 2 (by decide)
    · rw [o 3 (by decide) (by decide) (by decide) (by decide) (by decide)]; exact hF 3 (by decide)
    · rw [o 4 (by decide) (by decide) (by decide) (by decide) (by decide)]; exact hF 4 (by decide)
    · rw [o 5 (by decide) (by decide) (by decide) (by decide) (by decide)]; exact hF 5 (by decide)
    · rw [o 6 (by decide) (by decide) (by decide) (by decide) (by decide)]; exact hF 6 (by decide)
    · rw [f2 7 (by decide), d2 7 (by decide), c2 7 (by decide), b2 7 (by decide), a1]
    · rw [f2 8 (by decide), d2 8 (by decide), c2 8 (by decide), b1]
    · rw [f2 9 (by decide), d2 9 (by decide), c1, q6]
    · rw [f2 10 (by decide), d1, hr3, q8]
    · rw [f1, d3 78 (by decide), q8]
  · rw [f3 c hc, d3 c hc, c3 c hc, b3 c hc, a3 c hc, e2 c hc]
