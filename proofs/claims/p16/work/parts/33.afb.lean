/-! a step of the small machine keeps to it -/
abbrev jW (W : List (Int × Int)) (k : Nat) : Prop := ((11 : Int), (k : Int)) ∈ W ∨ ((12 : Int), (k : Int)) ∈ W
theorem dp_app {C : List Int} {x : Int} {f : Nat} (hf : f ≤ C.length) : dp (cdl (C ++ [x])) f (C ++ [x]).length = dp (cdl C) f C.length + dl (x / 1048576) := by
  rw [List.length_append, List.length_singleton, dp_s hf, cdl_n, dp_cg (fun i _ h2 => by rw [cdl_a h2])]
theorem Iq_app {b f : Nat} {Pf : Nat → Int} {C : List Int} {W W' : List (Int × Int)} {x : Int} (h : Iq b f Pf C W) (hx : 0 ≤ x) (hd : 0 ≤ dp (cdl C) f C.length ∧ dp (cdl C) f C.length ≤ 40)
    (hc : (x / 1048576 = 0) ∨ (x / 1048576 = 1 ∧ x % 1048576 ≤ 11) ∨ (x / 1048576 = 10 ∧ 1 ≤ dp (cdl C) f C.length ∧ f < C.length ∧ 7 ≤ cdl C (C.length - 1) / 1048576 ∧ cdl C (C.length - 1) / 1048576 ≤ 10) ∨ ((x / 1048576 = 11 ∨ x / 1048576 = 12) ∧ dp (cdl C) f C.length = 1 ∧ jW W' C.length) ∨ (2 ≤ x / 1048576 ∧ x / 1048576 ≤ 9 ∧ 2 ≤ dp (cdl C) f C.length))
    (ho : opn W' ≤ 6) (hW : Wk (cdl (C ++ [x])) f (C.length + 1) b W') (hs : ∀ k, k < C.length → jW W k → jW W' k) : Iq b f Pf (C ++ [x]) W' := by
  obtain ⟨h1, h2, h3, h4, h5⟩ := h
  have e : ∀ i, f ≤ i → i < C.length → cdl (C ++ [x]) i / 1048576 = cdl C i / 1048576 := fun i _ q => by rw [cdl_a q]
  have el : (C ++ [x]).length = C.length + 1 := by rw [List.length_append, List.length_singleton]
  refine ⟨by omega, fun k hk => by rw [cdl_a (by omega)]; exact h2 k hk, ho, by rw [el]; exact hW, fun k k1 k2 => ?_⟩
  rw [el] at k2 ⊢
  by_cases q : k < C.length
  · exact Ik_cg k1 q (by omega) (h5 k k1 q) e (cdl_a q) (hs k q)
  · have : k = C.length := by omega
    subst this
    have ed : dp (cdl (C ++ [x])) f C.length = dp (cdl C) f C.length := dp_cg e
    refine ⟨by rw [cdl_n]; exact hx, by rw [ed]; exact hd.1, by rw [ed]; exact hd.2, ?_⟩
    rw [cdl_n, ed]
    rcases hc with a | a | ⟨a1, a2, a3, a4⟩ | ⟨a1, a2, a3⟩ | a
    · exact Or.inl a
    · exact Or.inr (Or.inl a)
    · refine Or.inr (Or.inr (Or.inl ⟨a1, a2, a3, ?_⟩))
      rw [cdl_a (by omega)]
      exact a4
    · exact Or.inr (Or.inr (Or.inr (Or.inl ⟨a1, a2, Or.inl a3⟩)))
    · exact Or.inr (Or.inr (Or.inr (Or.inr a)))
/-- what waits changes alone -/
theorem Iq_W {b f : Nat} {Pf : Nat → Int} {C : List Int} {W W' : List (Int × Int)} (h : Iq b f Pf C W) (ho : opn W' ≤ 6) (hW : Wk (cdl C) f C.length b W') (hs : ∀ k, k < C.length → jW W k → jW W' k) : Iq b f Pf C W' :=
  ⟨h.1, h.2.1, ho, hW, fun k k1 k2 => Ik_cg k1 k2 (Nat.le_refl _) (h.2.2.2.2 k k1 k2) (fun _ _ _ => rfl) rfl (hs k k2)⟩
theorem Iq_tl {b f : Nat} {Pf : Nat → Int} {C : List Int} {q : Int × Int} {r : List (Int × Int)} (h : Iq b f Pf C (q :: r)) : opn r ≤ 6 ∧ Wk (cdl C) f C.length b r := by
  obtain ⟨h1, h2, h3, h4, h5⟩ := h
  refine ⟨?_, h4.1⟩
  have : opn (q :: r) = opn r + (if q.1 = 10 ∨ q.1 = 13 ∨ q.1 = 14 then 1 else 0) := rfl
  by_cases c : q.1 = 10 ∨ q.1 = 13 ∨ q.1 = 14
  · rw [if_pos c] at this; omega
  · rw [if_neg c] at this; omega
theorem jW_tl {q : Int × Int} {r : List (Int × Int)} {k : Nat} (h1 : q.1 ≠ 11) (h2 : q.1 ≠ 12) (h : jW (q :: r) k) : jW r k := by
  rcases h with h | h
  · rcases List.mem_cons.mp h with e | e
    · exact absurd (by rw [← e]) h1
    · exact Or.inl e
  · rcases List.mem_cons.mp h with e | e
    · exact absurd (by rw [← e]) h2
    · exact Or.inr e
theorem jW_cons {q : Int × Int} {r : List (Int × Int)} {k : Nat} (h : jW r k) : jW (q :: r) k := by
  rcases h with h | h
  · exact Or.inl (List.mem_cons_of_mem _ h)
  · exact Or.inr (List.mem_cons_of_mem _ h)
theorem c14_p : ∀ W : List (Int × Int), 0 ≤ c14 W := by
  intro W
  induction W with
  | nil => exact Int.le_refl _
  | cons q r ih =>
    show 0 ≤ c14 r + (if _ then 1 else 0)
    by_cases c : q.1 = 14
    · rw [if_pos c]; omega
    · rw [if_neg c]; omega
theorem bk_r (x : Int) : 0 ≤ bk x ∧ bk x ≤ 2 ∧ (¬ (4 ≤ x ∧ x ≤ 6) → bk x ≤ 1) ∧ (¬ (2 ≤ x ∧ x ≤ 6) → bk x = 0) := by
  unfold bk
  by_cases c : 4 ≤ x ∧ x ≤ 6
  · rw [if_pos c]; omega
  · rw [if_neg c]
    by_cases d : 2 ≤ x ∧ x ≤ 3
    · rw [if_pos d]; omega
    · rw [if_neg d]; omega
abbrev tpW : List (Int × Int) → Int
  | [] => -1
  | q :: _ => q.1
theorem Wk_t {cd : Nat → Int} {f len b : Nat} {W : List (Int × Int)} (h : Wk cd f len b W) : pend W ≤ 2 * c14 W + bk (tpW W) := by
  cases W with
  | nil => exact (by decide : (0 : Int) ≤ 2 * 0 + bk (-1))
  | cons q r => exact h.2.1
theorem pend_c (q : Int × Int) (r : List (Int × Int)) : pend (q :: r) = pend r + (if 2 ≤ q.1 ∧ q.1 ≤ 6 then 1 else 0) := rfl
theorem c14_c (q : Int × Int) (r : List (Int × Int)) : c14 (q :: r) = c14 r + (if q.1 = 14 then 1 else 0) := rfl
theorem opn_c (q : Int × Int) (r : List (Int × Int)) : opn (q :: r) = opn r + (if q.1 = 10 ∨ q.1 = 13 ∨ q.1 = 14 then 1 else 0) := rfl
/-- one of ( [ ! opens -/
theorem Iq_open {b f : Nat} {Pf : Nat → Int} {C : List Int} {W : List (Int × Int)} {k : Int} (h : Iq b f Pf C W) (ho : opn W ≠ 6) (hk : k = 14 ∨ ((k = 10 ∨ k = 13) ∧ b = 1 ∧ pend W = 0)) : Iq b f Pf C ((k, 0) :: W) ∧ pend ((k, 0) :: W) = pend W := by
  have h3 := h.2.2.1
  have h4 := h.2.2.2.1
  have ht := Wk_t h4
  have hb := bk_r (tpW W)
  have hp := pend_p W
  have hc := c14_p W
  have hbk := bk_r k
  have e1 : pend ((k, 0) :: W) = pend W := by rw [pend_c, if_neg (by show ¬ (2 ≤ k ∧ k ≤ 6); omega)]; omega
  refine ⟨Iq_W h ?_ ⟨h4, ?_, ?_, ?_, ?_⟩ (fun _ _ q => jW_cons q), e1⟩
  · rw [opn_c]
    by_cases c : k = 10 ∨ k = 13 ∨ k = 14
    · rw [if_pos c]; omega
    · rw [if_neg c]; omega
  · rw [e1, c14_c]
    show pend W ≤ 2 * (c14 W + (if k = 14 then 1 else 0)) + bk k
    rcases hk with e | ⟨_, _, e⟩
    · rw [if_pos e]; omega
    · by_cases c : k = 14
      · rw [if_pos c]; omega
      · rw [if_neg c]; omega
  · show (2 ≤ k ∧ k ≤ 6) ∨ (10 ≤ k ∧ k ≤ 14); omega
  · intro c
    have c2 : 10 ≤ k ∧ k ≤ 13 := c
    rcases hk with e | ⟨_, e1, e2⟩
    · omega
    · exact ⟨e1, e2⟩
  · intro c
    have c2 : k = 11 ∨ k = 12 := c
    omega
theorem dl_n {o : Int} (h : 2 ≤ o ∧ o ≠ 10) : dl o = -1 := by unfold dl; rw [if_neg (by omega), if_neg (by omega)]
theorem fa_r2 (x : Int) : fa x = -1 ∨ (0 ≤ fa x ∧ fa x ≤ 11) := by
  unfold fa
  repeat' split
  all_goals omega
theorem sg_r2 (x : Int) : sg x = -1 ∨ (2 ≤ sg x ∧ sg x ≤ 6) := by
  unfold sg
  repeat' split
  all_goals omega
theorem cp_r2 (x : Int) : cp x = -1 ∨ (7 ≤ cp x ∧ cp x ≤ 9) := by
  unfold cp
  repeat' split
  all_goals omega
theorem nv_b {T : Int → Int} {pl : Int} (h : nl T pl ≠ 6) : 0 ≤ nv T pl (nl T pl) ∧ nv T pl (nl T pl) ≤ 99999 := by
  have h0 : T (pl + ((0 : Nat) : Int)) = T pl := by rw [show pl + ((0 : Nat) : Int) = pl by omega]
  have r0 := dq_r (T pl)
  have r1 := dq_r (T (pl + 1))
  have r2 := dq_r (T (pl + 2))
  have r3 := dq_r (T (pl + 3))
  have r4 := dq_r (T (pl + 4))
  have v1 : nv T pl 1 = 10 * 0 + dq (T pl) := by
    show 10 * 0 + dq (T (pl + ((0 : Nat) : Int))) = _
    rw [h0]
  have v2 : nv T pl 2 = 10 * nv T pl 1 + dq (T (pl + 1)) := rfl
  have v3 : nv T pl 3 = 10 * nv T pl 2 + dq (T (pl + 2)) := rfl
  have v4 : nv T pl 4 = 10 * nv T pl 3 + dq (T (pl + 3)) := rfl
  have v5 : nv T pl 5 = 10 * nv T pl 4 + dq (T (pl + 4)) := rfl
  unfold nl at h ⊢
  by_cases c0 : dq (T pl) < 0
  · rw [if_pos c0]; exact (by decide : (0 : Int) ≤ 0 ∧ (0 : Int) ≤ 99999)
  rw [if_neg c0] at h ⊢
  by_cases c1 : dq (T (pl + 1)) < 0
  · rw [if_pos c1]; omega
  rw [if_neg c1] at h ⊢
  by_cases c2 : dq (T (pl + 2)) < 0
  · rw [if_pos c2]; omega
  rw [if_neg c2] at h ⊢
  by_cases c3 : dq (T (pl + 3)) < 0
  · rw [if_pos c3]; omega
  rw [if_neg c3] at h ⊢
  by_cases c4 : dq (T (pl + 4)) < 0
  · rw [if_pos c4]; omega
  rw [if_neg c4] at h ⊢
  by_cases c5 : dq (T (pl + 5)) < 0
  · rw [if_pos c5]; omega
  rw [if_neg c5] at h
  exact absurd rfl h
