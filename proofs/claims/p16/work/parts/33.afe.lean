/-! LAWS: what clauses keep to -/
/-- a stretch of codes that is all read; b: 0 a sum, 1 a condition -/
def gd (b f t : Nat) (cd : Nat → Int) : Prop := f < t ∧ dp cd f t = 1 ∧ (∀ k, f ≤ k → k < t → Ik cd f t False k) ∧ (b = 1 → 7 ≤ cd (t - 1) / 1048576 ∧ cd (t - 1) / 1048576 ≤ 10)
theorem gd_cg {b f t : Nat} {cd ce : Nat → Int} (h : gd b f t cd) (e : ∀ k, k < t → ce k = cd k) : gd b f t ce := by
  obtain ⟨h1, h2, h3, h4⟩ := h
  refine ⟨h1, ?_, fun k k1 k2 => Ik_cg k1 k2 (Nat.le_refl _) (h3 k k1 k2) (fun i _ i2 => by rw [e i i2]) (e k k2) (fun z => z), fun hb => ?_⟩
  · rw [dp_cg (fun i _ i2 => by rw [e i i2])]; exact h2
  · rw [e _ (by omega)]; exact h4 hb
theorem gd_of0 {f : Nat} {Pf : Nat → Int} {ph : Int} {C : List Int} {W : List (Int × Int)} {b : Nat} (h : Iq b f Pf C W) (hs : Is b f 5 ph C W) : gd 0 f C.length (cdl C) := by
  obtain ⟨q1, q2, q3, q4⟩ : 5 = 5 ∧ b = 0 ∧ W = [] ∧ dp (cdl C) f C.length = 1 := by
    rcases hs with q | q | q | q | q | q
    · exact absurd q.1 (by decide)
    · exact absurd q.1 (by decide)
    · exact absurd q.1 (by decide)
    · exact absurd q.1 (by decide)
    · exact q
    · exact absurd q.1 (by decide)
  obtain ⟨h1, h2, h3, h4, h5⟩ := h
  refine ⟨?_, q4, fun k k1 k2 => ?_, fun hb => absurd hb (by decide)⟩
  · apply Classical.byContradiction
    intro c
    rw [dp_le (by omega)] at q4
    omega
  · refine Ik_cg k1 k2 (Nat.le_refl _) (h5 k k1 k2) (fun _ _ _ => rfl) rfl (fun z => ?_)
    rw [q3] at z
    rcases z with z | z <;> cases z
theorem gd_of1 {f : Nat} {Pf : Nat → Int} {ph : Int} {C : List Int} {W : List (Int × Int)} {b : Nat} (h : Iq b f Pf C W) (hs : Is b f 6 ph C W) : gd 1 f C.length (cdl C) := by
  obtain ⟨q1, q2, q3, q4, q5, q6⟩ : 6 = 6 ∧ b = 1 ∧ W = [] ∧ dp (cdl C) f C.length = 1 ∧ f < C.length ∧ 7 ≤ cdl C (C.length - 1) / 1048576 ∧ cdl C (C.length - 1) / 1048576 ≤ 10 := by
    rcases hs with q | q | q | q | q | q
    · exact absurd q.1 (by decide)
    · exact absurd q.1 (by decide)
    · exact absurd q.1 (by decide)
    · exact absurd q.1 (by decide)
    · exact absurd q.1 (by decide)
    · exact q
  obtain ⟨h1, h2, h3, h4, h5⟩ := h
  refine ⟨q5, q4, fun k k1 k2 => ?_, fun _ => q6⟩
  refine Ik_cg k1 k2 (Nat.le_refl _) (h5 k k1 k2) (fun _ _ _ => rfl) rfl (fun z => ?_)
  rw [q3] at z
  rcases z with z | z <;> cases z
def gk (cd : Nat → Int) (len : Nat) (q : Kl) : Prop := ∃ s h e : Nat, q.2.1 = (s : Int) ∧ q.2.2.1 = (h : Int) ∧ q.2.2.2 = (e : Int) ∧ s ≤ h ∧ h < e ∧ e ≤ len ∧ isCl q.1 ∧ (q.1 = 97 ∨ gd 0 s h cd) ∧ gd 1 h e cd
theorem gk_cg {cd ce : Nat → Int} {l l' : Nat} {q : Kl} (h : gk cd l q) (hl : l ≤ l') (e : ∀ k, k < l → ce k = cd k) : gk ce l' q := by
  obtain ⟨s, a, t, h1, h2, h3, h4, h5, h6, h7, h8, h9⟩ := h
  refine ⟨s, a, t, h1, h2, h3, h4, h5, by omega, h7, ?_, gd_cg h9 (fun k hk => e k (by omega))⟩
  rcases h8 with h8 | h8
  · exact Or.inl h8
  · exact Or.inr (gd_cg h8 (fun k hk => e k (by omega)))
abbrev Kg (cd : Nat → Int) (len : Nat) (K : List Kl) : Prop := ∀ q ∈ K, gk cd len q
/-- the letter and its sum so far -/
abbrev Xg (cd : Nat → Int) (len : Nat) (X : Int × Int × Int) : Prop := isCl X.1 ∧ ∃ s : Nat, X.2.1 = (s : Int) ∧ s ≤ len ∧ (X.1 = 97 ∨ gd 0 s len cd)
def Vc (t : Nat) (ph : Int) (C : List Int) (W : List (Int × Int)) (X : Int × Int × Int) (K : List Kl) : Prop :=
  ((t = 7 ∨ (t = 8 ∧ 0 < K.length)) ∧ Kg (cdl C) C.length K) ∨
  (t = 5 ∧ Kg (cdl C) C.length K ∧ Xg (cdl C) C.length X) ∨
  (t = 6 ∧ Kg (cdl C) C.length (K ++ [(X.1, X.2.1, X.2.2, (C.length : Int))])) ∨
  (t ≤ 3 ∧ ∃ (b f : Nat) (Pf : Nat → Int), Iq b f Pf C W ∧ Is b f t ph C W ∧ Kg Pf f K ∧ ((b = 0 ∧ isCl X.1 ∧ X.2.1 = (f : Int)) ∨ (b = 1 ∧ Xg Pf f X ∧ X.2.2 = (f : Int))))
def Vz (d : Ld) : Prop := d.1.1 = 4 ∨ (d.1.2.2.2.1.length ≤ 1000 → Vc d.1.1 d.1.2.2.1 d.1.2.2.2.1 d.1.2.2.2.2 d.2.1 d.2.2)
theorem Vz_F {k w : Int} : Vz (yF k w) := Or.inl rfl
theorem Vz_c {t : Nat} {pl ph : Int} {C : List Int} {W : List (Int × Int)} {X : Int × Int × Int} {K : List Kl} (h : Vz ((t, pl, ph, C, W), X, K)) (ht : t ≠ 4) (hl : C.length ≤ 1000) : Vc t ph C W X K := by
  rcases h with h | h
  · exact absurd h ht
  · exact h hl
theorem Is_t {b f t : Nat} {ph : Int} {C : List Int} {W : List (Int × Int)} (h : Is b f t ph C W) : (t = 5 ∧ b = 0) ∨ (t = 6 ∧ b = 1) ∨ t ≤ 3 := by
  rcases h with q | q | q | q | q | q
  · exact Or.inr (Or.inr (by omega))
  · exact Or.inr (Or.inr (by omega))
  · exact Or.inr (Or.inr (by omega))
  · exact Or.inr (Or.inr (by omega))
  · exact Or.inl ⟨q.1, q.2.1⟩
  · exact Or.inr (Or.inl ⟨q.1, q.2.1⟩)
/-- lengths never fall -/
theorem zO_len {pl ph k : Int} {C : List Int} {W : List (Int × Int)} {t : Nat} : (zO pl ph k C W t).1 = 4 ∨ C.length ≤ (zO pl ph k C W t).2.2.2.1.length := by
  unfold zO
  by_cases c : opn W = 6
  · rw [if_pos c]; exact Or.inl rfl
  · rw [if_neg c]; exact Or.inr (Nat.le_refl _)
theorem zS_len {T : Int → Int} {c : Lc} : (zS T c).1 = 4 ∨ c.2.2.2.1.length ≤ (zS T c).2.2.2.1.length := by
  obtain ⟨t, pl, ph, C, W⟩ := c
  have ha : ∀ x : Int, C.length ≤ (C ++ [x]).length := fun x => by rw [al]; omega
  have hE : ∀ W : List (Int × Int), (zE T pl ph C W).1 = 4 ∨ C.length ≤ (zE T pl ph C W).2.2.2.1.length := by
    intro W
    unfold zE zF
    repeat' split
    all_goals first | exact Or.inl rfl | exact Or.inr (Nat.le_refl _) | exact Or.inr (ha _)
  have hGl : ∀ (W : List (Int × Int)) (top : Int) (W' : List (Int × Int)), (zG T pl ph C W top W').1 = 4 ∨ C.length ≤ (zG T pl ph C W top W').2.2.2.1.length := by
    intro W top W'
    unfold zG zF
    repeat' split
    all_goals first | exact hE _ | exact Or.inl rfl | exact Or.inr (Nat.le_refl _)
  by_cases c4 : 4 ≤ t
  · rw [zS_big c4]; exact Or.inr (Nat.le_refl _)
  · rcases (show t = 0 ∨ t = 1 ∨ t = 2 ∨ t = 3 by omega) with rfl | rfl | rfl | rfl
    · rw [ls_A]
      unfold zA zF
      repeat' split
      all_goals first | exact zO_len | exact Or.inl rfl | exact Or.inr (ha _)
    · rw [ls_B]
      cases W with
      | nil => exact hGl [] (-1) []
      | cons q r =>
        rw [zB_c]
        repeat' split
        all_goals first | exact hGl _ _ _ | exact Or.inr (ha _)
    · rw [ls_C]
      unfold zC
      repeat' split
      all_goals first | exact zO_len | exact Or.inr (Nat.le_refl _)
    · rw [ls_D]
      cases W with
      | nil => exact Or.inl rfl
      | cons q r =>
        rw [zD_c]
        unfold zH zF
        repeat' split
        all_goals first | exact Or.inl rfl | exact Or.inr (Nat.le_refl _) | exact Or.inr (ha _) | exact Or.inr (by rw [List.length_set]; exact Nat.le_refl _)
theorem Vz_st {T : Int → Int} {len : Int} {d : Ld} (h : Vz d) : Vz (yS T len d) := by
  obtain ⟨⟨t, pl, ph, C, W⟩, X, K⟩ := d
  by_cases c5 : t = 5
  · subst c5
    rw [ys_5]
    unfold y5
    by_cases c : T pl = 40
    · rw [if_pos c]
      refine Or.inr (fun hl => ?_)
      have hl2 : C.length ≤ 1000 := hl
      rcases Vz_c h (by decide) hl2 with q | q | q | q
      · exact absurd q.1 (by omega)
      · obtain ⟨_, k1, x1, s, x2, x3, x4⟩ := q
        show Vc 2 0 C [(13, 0)] (X.1, X.2.1, (C.length : Int)) K
        refine Or.inr (Or.inr (Or.inr ⟨by decide, 1, C.length, cdl C, ⟨Nat.le_refl _, fun _ _ => rfl, (by decide : (1 : Int) ≤ 6), ⟨trivial, (by decide : (0 : Int) ≤ 2 * 0 + 0), Or.inr (by decide), fun _ => ⟨rfl, rfl⟩, fun z => ?_⟩, fun k k1 k2 => by omega⟩, Or.inr (Or.inr (Or.inl ⟨rfl, rfl, rfl, dp_le (Nat.le_refl _)⟩)), k1, Or.inr ⟨rfl, ⟨x1, s, x2, x3, x4⟩, rfl⟩⟩))
        rcases z with z | z <;> exact absurd z (by decide)
      · exact absurd q.1 (by omega)
      · exact absurd q.1 (by omega)
    · rw [if_neg c]; exact Vz_F
  · by_cases c6 : t = 6
    · subst c6
      rw [ys_6]
      unfold y6
      have hk : C.length ≤ 1000 → Kg (cdl C) C.length (K ++ [(X.1, X.2.1, X.2.2, (C.length : Int))]) := by
        intro hl
        rcases Vz_c h (by decide) hl with q | q | q | q
        · exact absurd q.1 (by omega)
        · exact absurd q.1 (by omega)
        · exact q.2
        · exact absurd q.1 (by omega)
      by_cases c : T pl = 59
      · rw [if_pos c]; exact Or.inr (fun hl => Or.inl ⟨Or.inl rfl, hk hl⟩)
      · rw [if_neg c]
        by_cases c2 : len ≤ pl
        · rw [if_pos c2]; exact Or.inr (fun hl => Or.inl ⟨Or.inr ⟨rfl, by rw [List.length_append, List.length_singleton]; omega⟩, hk hl⟩)
        · rw [if_neg c2]; exact Vz_F
    · by_cases c7 : t = 7
      · subst c7
        rw [ys_7]
        unfold y7
        have hk : C.length ≤ 1000 → Kg (cdl C) C.length K := by
          intro hl
          rcases Vz_c h (by decide) hl with q | q | q | q
          · exact q.2
          · exact absurd q.1 (by omega)
          · exact absurd q.1 (by omega)
          · exact absurd q.1 (by omega)
        by_cases c : ¬ isCl (T pl)
        · rw [if_pos c]; exact Vz_F
        · rw [if_neg c]
          have hcl : isCl (T pl) := Classical.byContradiction c
          by_cases c1 : K.length = 16
          · rw [if_pos c1]; exact Vz_F
          · rw [if_neg c1]
            by_cases c2 : T pl = 97
            · rw [if_pos c2]
              exact Or.inr (fun hl => Or.inr (Or.inl ⟨rfl, hk hl, Or.inl rfl, C.length, rfl, Nat.le_refl _, Or.inl rfl⟩))
            · rw [if_neg c2]
              refine Or.inr (fun hl => ?_)
              show Vc 0 0 C [] (T pl, (C.length : Int), 0) K
              refine (Or.inr (Or.inr (Or.inr ⟨Nat.zero_le _, 0, C.length, cdl C, ⟨Nat.le_refl _, fun _ _ => rfl, (by decide : (0 : Int) ≤ 6), trivial, fun k k1 k2 => by omega⟩, Or.inl ⟨rfl, Or.inl ⟨rfl, rfl⟩, ?_⟩, hk hl, Or.inl ⟨rfl, hcl, rfl⟩⟩)))
              rw [dp_le (Nat.le_refl _)]
              rfl
      · by_cases c4 : t = 4
        · subst c4; exact Or.inl rfl
        · by_cases c8 : 8 ≤ t
          · have e : yS T len ((t, pl, ph, C, W), X, K) = ((t, pl, ph, C, W), X, K) := by
              unfold yS
              rw [if_neg c5, if_neg c6, if_neg c7, if_neg c4, zS_big (by show 4 ≤ t; omega)]
            rw [e]; exact h
          · have ht : t ≤ 3 := by omega
            rw [yS_in ht]
            have hz := zS_len (T := T) (c := (t, pl, ph, C, W))
            by_cases c9 : (zS T (t, pl, ph, C, W)).1 = 4
            · exact Or.inl c9
            · refine Or.inr (fun hl => ?_)
              have hl2 : C.length ≤ 1000 := Nat.le_trans (hz.resolve_left c9) hl
              rcases Vz_c h c4 hl2 with q | q | q | q
              · have := q.1; omega
              · have := q.1; omega
              · have := q.1; omega
              · obtain ⟨_, b, f, Pf, i1, i2, i3, i4⟩ := q
                have hst := (Iz_st (T := T) (c := (t, pl, ph, C, W)) (Or.inr (fun _ => ⟨i1, i2⟩))).resolve_left c9 hl
                obtain ⟨j1, j2⟩ := hst
                generalize zS T (t, pl, ph, C, W) = c' at j1 j2 hl c9 ⊢
                obtain ⟨t', pl', ph', C', W'⟩ := c'
                have e1 : ∀ k, k < f → cdl C' k = Pf k := j1.2.1
                have e2 : f ≤ C'.length := j1.1
                have j2' : Is b f t' ph' C' W' := j2
                show Vc t' ph' C' W' X K
                rcases Is_t j2' with ⟨t5, b0⟩ | ⟨t6, b1⟩ | t3
                · subst t5
                  have hx := i4.resolve_right (fun z => by have := z.1; omega)
                  exact Or.inr (Or.inl ⟨rfl, fun q hq => gk_cg (i3 q hq) e2 e1, hx.2.1, f, hx.2.2, e2, Or.inr (gd_of0 j1 j2')⟩)
                · subst t6
                  obtain ⟨_, ⟨x1, s, x2, x3, x4⟩, x5⟩ := i4.resolve_left (fun z => by have := z.1; omega)
                  refine Or.inr (Or.inr (Or.inl ⟨rfl, fun q hq => ?_⟩))
                  rcases List.mem_append.mp hq with hq | hq
                  · exact gk_cg (i3 q hq) e2 e1
                  · rw [List.mem_singleton] at hq
                    subst hq
                    have g1 := gd_of1 j1 j2'
                    refine ⟨s, f, C'.length, x2, x5, rfl, x3, g1.1, Nat.le_refl _, x1, ?_, g1⟩
                    rcases x4 with x4 | x4
                    · exact Or.inl x4
                    · exact Or.inr (gd_cg x4 e1)
                · exact Or.inr (Or.inr (Or.inr ⟨t3, b, f, Pf, j1, j2', i3, i4⟩))
theorem Vz_I {T : Int → Int} {len : Int} : ∀ (n : Nat) {d : Ld}, Vz d → Vz (yI T len n d) := by
  intro n
  induction n with
  | zero => intro d h; exact h
  | succ n ih => intro d h; exact ih (Vz_st h)
/-- a law that is read: its clauses are good -/
theorem Vz_8 {T : Int → Int} {len p : Int} {C : List Int} {K : List Kl} (h : Yo T len d00 ((8, p, 0, C, []), (0, 0, 0), K)) (hl : C.length ≤ 1000) : 0 < K.length ∧ Kg (cdl C) C.length K := by
  obtain ⟨n, hn⟩ := h
  have h0 : Vz d00 := Or.inr (fun _ => Or.inl ⟨Or.inl rfl, fun q hq => by cases hq⟩)
  have h1 := Vz_I (T := T) (len := len) n h0
  rw [hn] at h1
  rcases Vz_c h1 (by decide) hl with q | q | q | q
  · exact ⟨by have := q.1; omega, q.2⟩
  · exact absurd q.1 (by omega)
  · exact absurd q.1 (by omega)
  · exact absurd q.1 (by omega)
