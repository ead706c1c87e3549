/-! one call on fresh objects, and the end -/
def Won (E : qR) : Prop := ∃ M' : qM, E = some (1, M')
theorem qsw_nil {P : qR → Prop} {x : Int32} {D : qR} (h : P D) : P (qsw x [] D) := h
theorem qsw_cons {P : qR → Prop} {x k : Int32} {E D : qR} {l : List (Int32 × qR)} (h : P E) (ht : P (qsw x l D)) : P (qsw x ((k, E) :: l) D) := by
  show P (if x = k then E else qsw x l D)
  by_cases c : x = k
  · rw [if_pos c]; exact h
  · rw [if_neg c]; exact ht
theorem prc {C D : qM → qR} {M : qM} {K : Int32 → qM → qR} {a : Int32} (h : Pr C D M) (hK : ∀ M', Won (K (a + 7) M')) : Won (qc (C M) (fun r m => qc (D m) (fun r2 m2 => if r = r2 then ql (a + (7 : Int32)) (fun x => K x m2) else none))) := by
  obtain ⟨v, M1, M2, h1, h2⟩ := h
  rw [h1, qc_v, h2, qc_v, if_pos rfl, ql_v]
  exact hK M2
theorem one_call {g : qG} {n j r : Nat} {K KS : Int32 → qM → qR} {a3 : Int32} {M : qM} (hn : 955 ≤ n) (hj : j < 78) (hF : Fr M) (h0 : ¬ ((Int32.ofNat g.2.2.2.2.2.1) - (7 : Int32)) < a3) (g0 : ∀ E : qR, qg a3 g.2.2.2.2.2.1 E = E) (g1 : ∀ E : qR, qg (a3 + 1) g.2.2.2.2.2.1 E = E) (g2 : ∀ E : qR, qg (a3 + 2) g.2.2.2.2.2.1 E = E) (g3 : ∀ E : qR, qg (a3 + 3) g.2.2.2.2.2.1 E = E) (g4 : ∀ E : qR, qg (a3 + 4) g.2.2.2.2.2.1 E = E) (g5 : ∀ E : qR, qg (a3 + 5) g.2.2.2.2.2.1 E = E) (g6 : ∀ E : qR, qg (a3 + 6) g.2.2.2.2.2.1 E = E) (hK : ∀ M', Won (K (a3 + 7) M')) : Won (b_L_law g n j r K KS a3 M) := by
  unfold b_L_law
  rw [if_neg h0, g0]
  refine qsw_cons ?_ (qsw_cons ?_ (qsw_cons ?_ (qsw_cons ?_ (qsw_cons ?_ (qsw_cons ?_ (qsw_cons ?_ (qsw_cons ?_ (qsw_cons ?_ (qsw_cons ?_ (qsw_cons ?_ (qsw_cons ?_ (qsw_cons ?_ (qsw_cons ?_ (qsw_cons ?_ (qsw_cons ?_ (qsw_cons ?_ (qsw_cons ?_ (qsw_cons ?_ (qsw_cons ?_ (qsw_cons ?_ (qsw_cons ?_ (qsw_cons ?_ (qsw_cons ?_ (qsw_nil ?_))))))))))))))))))))))))
  · simp only [g1, g2, g3, g4]; exact prc (p1_kind hF _ _ _ _) hK
  · simp only [g1, g2]; exact prc (p1_person (j := j) (r := r) hF _ _) hK
  · simp only [g1, g2, g3, g4, g5]; exact prc (p1_feed (by omega) hF _ _ _ _ _) hK
  · simp only [g1]
    obtain ⟨l1, l2⟩ := p1_law (n := n) (j := j) (r := r) hF (g.2.2.2.2.2.2 (a3 + (1 : Int32)).toNatClampNeg)
    rw [l1]
    show Won (qc (f_X12_law n (g.2.2.2.2.2.2 (a3 + (1 : Int32)).toNatClampNeg) M) (fun r19 m20 => if (-1 : Int32) = r19 then ql (a3 + (7 : Int32)) (fun x21 => K x21 m20) else none))
    rw [l2, qc_v, if_pos rfl, ql_v]
    exact hK M
  · simp only [g1, g2]; exact prc (p1_plan (j := j) (r := r) hF _ _) hK
  · simp only [g1, g2, g3]; exact prc (p1_tries (r := r) hF _ _ _) hK
  · simp only [g1, g2, g3]; exact prc (p1_buys (r := r) hF _ _ _) hK
  · simp only [g1]; exact prc (p1_days hn hF _) hK
  · simp only [g1, g2]; exact prc (p1_tried hn hF _ _) hK
  · simp only [g1, g2, g3]; exact prc (p1_has (r := r) hF _ _ _) hK
  · simp only [g1, g2]; exact prc (p1_alike (r := r) hF _ _) hK
  · simp only [g1, g2, g3]; exact prc (p1_cost (r := r) hF _ _ _) hK
  · simp only [g1, g2, g3, g4, g5]; exact prc (p1_soonest (r := r) hF _ _ _ _ _) hK
  · simp only [g1, g2, g3, g4, g5]; exact prc (p1_cheapest (r := r) hF _ _ _ _ _) hK
  · simp only [g1, g2, g3]; exact prc (p1_loophole hn hF _ _ _) hK
  · simp only [g1, g2, g3]; exact prc (p1_jobs (r := r) hF _ _ _) hK
  · simp only [g1, g2, g3]; exact prc (p1_rivals (by omega) _ _ _) hK
  · simp only [g1, g2, g3, g4]; exact prc (p1_histories hF _ _ _ _) hK
  · by_cases c4 : g.2.2.2.2.2.2 (a3 + (4 : Int32)).toNatClampNeg = 0
    · by_cases c5 : g.2.2.2.2.2.2 (a3 + (5 : Int32)).toNatClampNeg = 0
      · simp only [g1, g2, g3, g4, g5, g6, if_pos c4, if_pos c5]; exact prc (p1_game hn _ _ _ _ (m := 0) (o := 0) (by decide) (by decide)) hK
      · simp only [g1, g2, g3, g4, g5, g6, if_pos c4, if_neg c5]; exact prc (p1_game hn _ _ _ _ (m := 0) (o := 1) (by decide) (by decide)) hK
    · by_cases c5 : g.2.2.2.2.2.2 (a3 + (5 : Int32)).toNatClampNeg = 0
      · simp only [g1, g2, g3, g4, g5, g6, if_neg c4, if_pos c5]; exact prc (p1_game hn _ _ _ _ (m := 1) (o := 0) (by decide) (by decide)) hK
      · simp only [g1, g2, g3, g4, g5, g6, if_neg c4, if_neg c5]; exact prc (p1_game hn _ _ _ _ (m := 1) (o := 1) (by decide) (by decide)) hK
  · simp only [g1, g2, g3, g4, g5, g6]; exact prc (p1_court hn _ _ _ _ _ _) hK
  · exact prc (p1_keep hn hF) hK
  · exact prc (p1_undo hF) hK
  · simp only [g1, g2]; exact prc (p1_check (j := j) (r := r) hF _ _) hK
  · simp only [g1]; exact prc (p1_count hj hF _) hK
  · exact hK M
theorem pure7 : qPure := by
  intro g hg
  obtain ⟨n, hn⟩ : ∃ n : Nat, 955 ≤ n := ⟨955, Nat.le_refl _⟩
  obtain ⟨M0, hM, hF⟩ := fresh (n := n) (by omega)
  rcases Nat.lt_or_ge g.2.2.2.2.2.1 7 with h | h
  · refine ⟨n, 1, M0, M0, hM, ?_⟩
    show b_L_law g n _ _ _ _ 0 M0 = _
    unfold b_L_law
    have c : ((Int32.ofNat g.2.2.2.2.2.1) - (7 : Int32)) < 0 := by
      generalize g.2.2.2.2.2.1 = L at h
      exact (by decide : ∀ L, L < 7 → ((Int32.ofNat L) - (7 : Int32)) < 0) L h
    rw [if_pos c]
  · have e : g.2.2.2.2.2.1 = 7 := by omega
    have G : ∀ c : Int32, (¬ (c < 0 ∨ 7 ≤ c.toNatClampNeg)) → ∀ E : qR, qg c g.2.2.2.2.2.1 E = E := fun c hc E => by
      rw [e]; exact qg_in hc
    have hw : Won (f_L_law g n 2 37 46 0 M0) := by
      show Won (b_L_law g n 37 46 (f_L_law g n 1 37 46) (f_L_law g n 1 46 37) 0 M0)
      refine one_call hn (by decide) hF ?_ (G _ (by decide)) (G _ (by decide)) (G _ (by decide)) (G _ (by decide)) (G _ (by decide)) (G _ (by decide)) (G _ (by decide)) ?_
      · rw [e]; decide
      · intro M'
        refine ⟨M', ?_⟩
        show b_L_law g n 37 46 _ _ (0 + 7) M' = _
        unfold b_L_law
        have c : ((Int32.ofNat g.2.2.2.2.2.1) - (7 : Int32)) < 0 + 7 := by rw [e]; decide
        rw [if_pos c]
    obtain ⟨M', h'⟩ := hw
    exact ⟨n, 2, M0, M', hM, h'⟩
