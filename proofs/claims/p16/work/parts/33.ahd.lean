/-! a fault's number is below 0 -/
def nz (c : Lc) : Prop := (c.1 = 4 ∧ c.2.1 < 0) ∨ (c.1 ≠ 4 ∧ 0 ≤ c.2.1)
theorem nz_F {k w : Int} (hk : 1 ≤ k) (hw : 0 ≤ w) : nz (zF k w) := Or.inl ⟨rfl, by show -1000 * k - w < 0; omega⟩
theorem nz_mk {t : Nat} {pl ph : Int} {C : List Int} {W : List (Int × Int)} (ht : t ≠ 4) (h : 0 ≤ pl) : nz (t, pl, ph, C, W) := Or.inr ⟨ht, h⟩
theorem nz_O {pl ph k : Int} {C : List Int} {W : List (Int × Int)} {t : Nat} (ht : t ≠ 4) (h : 0 ≤ pl) : nz (zO pl ph k C W t) := by
  unfold zO
  by_cases c : opn W = 6
  · rw [if_pos c]; exact nz_F (by decide) h
  · rw [if_neg c]; exact nz_mk ht (by omega)
theorem nz_st {T : Int → Int} {c : Lc} (h : nz c) : nz (zS T c) := by
  obtain ⟨t, pl, ph, C, W⟩ := c
  by_cases c4 : 4 ≤ t
  · rw [zS_big c4]; exact h
  · have h0 : 0 ≤ pl := by
      rcases h with h | h
      · have h1 : t = 4 := h.1
        omega
      · exact h.2
    have hE : ∀ W : List (Int × Int), nz (zE T pl ph C W) := by
      intro W
      unfold zE
      repeat' split
      all_goals first | exact nz_F (by decide) (by omega) | exact nz_mk (by decide) (by omega)
    have hGl : ∀ (W : List (Int × Int)) (top : Int) (W' : List (Int × Int)), nz (zG T pl ph C W top W') := by
      intro W top W'
      unfold zG
      repeat' split
      all_goals first | exact hE _ | exact nz_F (by decide) (by omega) | exact nz_mk (by decide) (by omega)
    rcases (show t = 0 ∨ t = 1 ∨ t = 2 ∨ t = 3 by omega) with rfl | rfl | rfl | rfl
    · rw [ls_A]
      unfold zA
      repeat' split
      all_goals first | exact nz_O (by decide) h0 | exact nz_F (by decide) (by omega) | exact nz_mk (by decide) (by omega)
    · rw [ls_B]
      cases W with
      | nil => exact hGl [] (-1) []
      | cons q r =>
        rw [zB_c]
        repeat' split
        all_goals first | exact hGl _ _ _ | exact nz_mk (by decide) (by omega)
    · rw [ls_C]
      unfold zC
      repeat' split
      all_goals first | exact nz_O (by decide) h0 | exact nz_mk (by decide) (by omega)
    · rw [ls_D]
      cases W with
      | nil => exact nz_F (by decide) h0
      | cons q r =>
        rw [zD_c]
        unfold zH
        repeat' split
        all_goals first | exact nz_F (by decide) (by omega) | exact nz_mk (by decide) (by omega)
theorem nz_y {T : Int → Int} {len : Int} {d : Ld} (h : nz d.1) : nz (yS T len d).1 := by
  obtain ⟨⟨t, pl, ph, C, W⟩, X, K⟩ := d
  have h0 : t ≠ 4 → 0 ≤ pl := by
    intro ht
    rcases h with h | h
    · exact absurd h.1 ht
    · exact h.2
  by_cases c5 : t = 5
  · subst c5
    rw [ys_5]
    have := h0 (by decide)
    unfold y5 yF
    repeat' split
    all_goals first | exact nz_F (by decide) (by omega) | exact nz_mk (by decide) (by omega)
  · by_cases c6 : t = 6
    · subst c6
      rw [ys_6]
      have := h0 (by decide)
      unfold y6 yF
      repeat' split
      all_goals first | exact nz_F (by decide) (by omega) | exact nz_mk (by decide) (by omega)
    · by_cases c7 : t = 7
      · subst c7
        rw [ys_7]
        have := h0 (by decide)
        unfold y7 yF
        repeat' split
        all_goals first | exact nz_F (by decide) (by omega) | exact nz_mk (by decide) (by omega)
      · by_cases c4 : t = 4
        · subst c4; exact h
        · have e : (yS T len ((t, pl, ph, C, W), X, K)).1 = zS T (t, pl, ph, C, W) := by
            unfold yS
            rw [if_neg c5, if_neg c6, if_neg c7, if_neg c4]
          rw [e]; exact nz_st h
theorem nz_I {T : Int → Int} {len : Int} : ∀ (n : Nat) {d : Ld}, nz d.1 → nz (yI T len n d).1 := by
  intro n
  induction n with
  | zero => intro d h; exact h
  | succ n ih => intro d h; exact ih (nz_y h)
theorem Yo_neg {T : Int → Int} {len f : Int} (h : Yo T len d00 ((4, f, 0, [], []), (0, 0, 0), [])) : f < 0 := by
  obtain ⟨n, hn⟩ := h
  have h1 := nz_I (T := T) (len := len) n (d := d00) (nz_mk (by decide) (Int.le_refl _))
  rw [hn] at h1
  rcases h1 with h1 | h1
  · exact h1.2
  · exact absurd rfl h1.1
theorem law_none {n : Nat} {a1 v2 : Int32} {m1 m2 : qM} (h2 : ¬ (1 ≤ a1.toInt ∧ a1.toInt ≤ 240 ∧ a1.toInt ≤ (m1 77 8).toInt)) (e2 : f_X12_law n a1 m1 = some (v2, m2)) : m2 = m1 := by
  unfold f_X12_law at e2
  by_cases c1 : a1 < (1 : Int32) ∨ (240 : Int32) < a1
  · have cin : (if a1 < (1 : Int32) ∨ (240 : Int32) < a1 then (0 : Int32) else 1) = 0 := if_pos c1
    rw [in_eq, cin, qc_v, if_pos rfl] at e2
    injection e2 with e2; injection e2 with _ e2; exact e2.symm
  · have cin : (if a1 < (1 : Int32) ∨ (240 : Int32) < a1 then (0 : Int32) else 1) = 1 := if_neg c1
    rw [in_eq, cin, qc_v, if_neg (show ¬ (1 : Int32) = 0 by decide)] at e2
    rw [Int32.lt_iff_toInt_lt, Int32.lt_iff_toInt_lt, l_1, l_240] at c1
    rw [if_neg (show ¬ a1 ≤ m1 77 8 by rw [Int32.le_iff_toInt_le]; omega)] at e2
    injection e2 with e2; injection e2 with _ e2; exact e2.symm
/-! the law on both sides -/
def LR (j : Nat) (A B : qM) : Prop := ∃ C K, LJ j A C K ∧ LM B C K ∧ Kg (cdl C) C.length K ∧ C.length ≤ 240
theorem LR_cg {j : Nat} {A A' B B' : qM} (h : LR j A B) (e1 : ∀ k, k ≤ 6 → A' (j + k) = A (j + k)) (e2 : ∀ c, 91 ≤ c → c ≤ 95 → B' c = B c) (e3 : B' 77 17 = B 77 17) : LR j A' B' := by
  obtain ⟨C, K, h1, h2, h3, h4⟩ := h
  exact ⟨C, K, LJ_cg h1 e1, LM_cg h2 e2 e3, h3, h4⟩
theorem clear_1 {n : Nat} (m : qM) : qP (f_X9_clear n m) (fun _ m3 => ∀ c, c ≠ 1 → m3 c = m c) := by
  unfold f_X9_clear
  exact P_m (fun m1 _ _ c1 => P_ret c1)
/-- what the class's law leaves as it was -/
theorem law_fr {n j r : Nat} (a1 : Int32) (M : qM) : qP (f_X11_law n j r a1 M) (Qfr r M) ∧ qP (f_X11_lawS n j r a1 M) (Qfr r M) := by
  have h0 : Fr4 r M M := fun _ _ _ => rfl
  unfold f_X11_law f_X11_lawS
  constructor
  · refine P_if (fun _ => P_ret h0) (fun _ => P_if (fun _ => P_ret h0) (fun _ => P_if (fun _ => ?_) (fun _ => P_ret h0)))
    refine P_qc (fr_X4_read _ _ h0) (fun r1 m2 h2 => P_qc (clear_1 m2) (fun _ m3 h3 => ?_))
    have h4 : Fr4 r M m3 := fun c q1 q2 => by rw [h3 c q1]; exact h2 c q1 q2
    exact P_if (fun _ => P_ret h4) (fun _ => P_none)
  · refine P_if (fun _ => P_none) (fun _ => P_if (fun _ => P_none) (fun _ => P_if (fun _ => ?_) (fun _ => P_none)))
    refine P_qc (fr_X4_read _ _ h0) (fun r1 m2 h2 => P_qc (clear_1 m2) (fun _ m3 h3 => ?_))
    have h4 : Fr4 r M m3 := fun c q1 q2 => by rw [h3 c q1]; exact h2 c q1 q2
    exact P_if (fun _ => P_none) (fun _ => P_ret h4)
/-- law: the answers agree; the law of both sides is the same behind it, and it stands at j, or, if it was taken, at r -/
theorem law_st {n : Nat} (hn : 200000 ≤ n) {j r : Nat} (hj : q_isLaw j) (hr : q_isLaw r) (hjr : j ≠ r) {a1 v1 v2 : Int32} {M m1 m2 : qM} (hG : G M) (hG1 : G m1) (hT : TR M) (hs : (M 1 1).toInt = (m1 77 8).toInt) (h84 : m1 84 = M 84) (e91 : ∀ c, 91 ≤ c → c ≤ 95 → m1 c = M c) (e17 : m1 77 17 = M 77 17) (hR : LR j M M) (e2 : f_X12_law n a1 m1 = some (v2, m2)) : (f_X11_law n j r a1 M = some (v1, m1) → v1 = v2 ∧ LR j m1 m2) ∧ (f_X11_lawS n j r a1 M = some (v1, m1) → v1 = v2 ∧ LR r m1 m2) := by
  have hjk : ∀ k, k ≤ 6 → j + k ≠ 1 ∧ (j + k < r ∨ r + 6 < j + k) := fun k hk => by rcases hj with rfl | rfl <;> rcases hr with rfl | rfl <;> omega
  have hlaw := law_fr (n := n) (j := j) (r := r) a1 M
  by_cases h2 : 1 ≤ a1.toInt ∧ a1.toInt ≤ 240 ∧ a1.toInt ≤ (M 1 1).toInt
  · have q2 := x_law hn a1 m1 hG1 ⟨h2.1, h2.2.1, by omega⟩ v2 m2 e2
    rw [h84, ← TR_t hT h2.2.2] at q2
    constructor
    · intro e1
      obtain ⟨q1, hv⟩ := (w_law hn (j := j) hr a1 M hG h2).1 v1 m1 e1
      have hf := hlaw.1 v1 m1 e1
      obtain ⟨ev, hq⟩ := Qjm q1 q2
      refine ⟨ev, ?_⟩
      rcases hq with ⟨_, hA⟩ | ⟨C, K, p, hY, hvK, hC, hKr, hLM⟩
      · exact LR_cg hR (fun k hk => hf _ (hjk k hk).1 (hjk k hk).2) (fun c c1 c2 => by rw [hA.1 c c1 c2, e91 c c1 c2]) (by rw [hA.2, e17])
      · have := (Vz_8 hY (by have := CR_len hr hG1 hC; omega)).1
        omega
    · intro e1
      obtain ⟨q1, hv⟩ := (w_law hn (j := j) hr a1 M hG h2).2 v1 m1 e1
      obtain ⟨ev, hq⟩ := Qjm q1 q2
      refine ⟨ev, ?_⟩
      rcases hq with ⟨hY, _⟩ | ⟨C, K, p, hY, hvK, hC, hKr, hLM⟩
      · exfalso
        rcases q1 with q1 | ⟨C, K, p, hY2, hvK, hC, hKr⟩
        · have := Yo_neg hY; omega
        · have := Yo_det hY hY2 rfl rfl
          injection this with q
          injection q with q
          exact absurd q (by decide)
      · have h240 := CR_len hr hG1 hC
        exact ⟨C, K, ⟨hC, hKr⟩, hLM, (Vz_8 hY (by omega)).2, h240⟩
  · have ha := law_ag hn (j := j) hr hG hG1 hT hs h84 (e2 := e2) (v1 := v1)
    constructor
    · intro e1
      have hv := ha (Or.inl e1)
      have hf := hlaw.1 v1 m1 e1
      refine ⟨hv, LR_cg hR (fun k hk => hf _ (hjk k hk).1 (hjk k hk).2) ?_ ?_⟩
      · intro c c1 c2
        rw [← e91 c c1 c2]
        rw [law_none (by rw [← hs]; exact h2) e2]
      · rw [← e17, law_none (by rw [← hs]; exact h2) e2]
    · intro e1
      exfalso
      unfold f_X11_lawS at e1
      by_cases c1 : a1 < (1 : Int32)
      · rw [if_pos c1] at e1; cases e1
      · rw [if_neg c1] at e1
        by_cases c2 : (240 : Int32) < a1
        · rw [if_pos c2] at e1; cases e1
        · rw [if_neg c2] at e1
          rw [Int32.lt_iff_toInt_lt, l_1] at c1
          rw [Int32.lt_iff_toInt_lt, l_240] at c2
          rw [if_neg (show ¬ a1 ≤ M 1 1 by rw [Int32.le_iff_toInt_le]; omega)] at e1
          cases e1
