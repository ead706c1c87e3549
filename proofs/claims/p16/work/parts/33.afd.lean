theorem Is3 {b f : Nat} {ph : Int} {C : List Int} {W : List (Int × Int)} (h : Is b f 3 ph C W) : b = 1 ∧ pend W = 0 ∧ dp (cdl C) f C.length = 1 ∧ f < C.length ∧ 7 ≤ cdl C (C.length - 1) / 1048576 ∧ cdl C (C.length - 1) / 1048576 ≤ 10 := by
  rcases h with q | q | q | q | q | q
  · exact absurd q.1 (by decide)
  · exact absurd q.1 (by decide)
  · exact absurd q.1 (by decide)
  · exact q.2
  · exact absurd q.1 (by decide)
  · exact absurd q.1 (by decide)
theorem mk3 {b f : Nat} {ph : Int} {C : List Int} {W : List (Int × Int)} (h : b = 1 ∧ pend W = 0 ∧ dp (cdl C) f C.length = 1 ∧ f < C.length ∧ 7 ≤ cdl C (C.length - 1) / 1048576 ∧ cdl C (C.length - 1) / 1048576 ≤ 10) : Is b f 3 ph C W := Or.inr (Or.inr (Or.inr (Or.inl ⟨rfl, h⟩)))
/-- a jump that waited is told where to -/
theorem Iz_J {b f : Nat} {Pf : Nat → Int} {pl ph : Int} {C : List Int} {q : Int × Int} {r : List (Int × Int)} (h : IzC b f Pf 3 ph C (q :: r)) (hq1 : q.1 = 11 ∨ q.1 = 12) : Iz b f Pf (3, pl, 0, C.set q.2.toNat (1048576 * (C.getD q.2.toNat 0 / 1048576) + C.length), r) := by
  refine Iz_mk (fun hl => ?_)
  rw [List.length_set] at hl
  obtain ⟨hq, hs⟩ := h hl
  obtain ⟨s1, s2, s3, s4, s5⟩ := Is3 hs
  obtain ⟨a1, a2⟩ := Iq_tl hq
  have hq' := hq
  obtain ⟨h1, h2, h3, ⟨k1, k2, k3, k4, k5⟩, h5⟩ := hq'
  obtain ⟨i, i1, i2, i3, i4⟩ := k5 hq1
  clear k5
  have ei : q.2.toNat = i := by rw [i1]; rfl
  rw [ei]
  have hgd : C.getD i 0 / 1048576 = q.1 := i4
  rw [hgd]
  have hlen : (C.set i (1048576 * q.1 + (C.length : Int))).length = C.length := List.length_set
  have ei2 : cdl (C.set i (1048576 * q.1 + (C.length : Int))) i = 1048576 * q.1 + (C.length : Int) := cdl_s i3
  have e : ∀ k, f ≤ k → k < C.length → cdl (C.set i (1048576 * q.1 + (C.length : Int))) k / 1048576 = cdl C k / 1048576 := by
    intro k _ _
    by_cases c : k = i
    · rw [c, ei2, i4]; omega
    · rw [cdl_o c]
  have ed : ∀ k, k ≤ C.length → dp (cdl (C.set i (1048576 * q.1 + (C.length : Int)))) f k = dp (cdl C) f k := fun k hk => dp_cg (fun j j1 j2 => e j j1 (by omega))
  have hp : pend r = 0 := by have := pend_c q r; rw [if_neg (by omega)] at this; omega
  refine ⟨⟨by rw [hlen]; exact h1, fun k hk => by rw [cdl_o (by omega)]; exact h2 k hk, a1, ?_, fun k kf kl => ?_⟩, mk3 ⟨s1, hp, ?_, by rw [hlen]; exact s4, ?_⟩⟩
  · rw [hlen]; exact Wk_cg (Nat.le_refl _) e a2
  · rw [hlen] at kl ⊢
    by_cases c : k = i
    · subst c
      obtain ⟨b0, b1, b2, b3⟩ := h5 k kf kl
      have em : (1048576 * q.1 + (C.length : Int)) % 1048576 = (C.length : Int) := by omega
      have eo : (1048576 * q.1 + (C.length : Int)) / 1048576 = q.1 := by omega
      have hd1 : dp (cdl C) f k = 1 := by
        rcases b3 with z | z | z | z | z
        · omega
        · omega
        · omega
        · exact z.2.1
        · omega
      refine ⟨by rw [ei2]; omega, by rw [ed k (by omega)]; exact b1, by rw [ed k (by omega)]; exact b2, Or.inr (Or.inr (Or.inr (Or.inl ⟨?_, ?_, Or.inr ⟨?_, ?_, ?_⟩⟩)))⟩
      · rw [ei2, eo]; exact hq1
      · rw [ed k (by omega)]; exact hd1
      · rw [ei2, em]; omega
      · rw [ei2, em]; exact Int.le_refl _
      · rw [ei2, em, ed _ (by omega)]; exact s3
    · refine Ik_cg kf kl (Nat.le_refl _) (h5 k kf kl) e (cdl_o c) (fun z => ?_)
      rcases z with z | z
      · rcases List.mem_cons.mp z with y | y
        · exact absurd (by rw [← y] at i1; have : (k : Int) = (i : Int) := i1; omega) c
        · exact Or.inl y
      · rcases List.mem_cons.mp z with y | y
        · exact absurd (by rw [← y] at i1; have : (k : Int) = (i : Int) := i1; omega) c
        · exact Or.inr y
  · rw [hlen, ed _ (Nat.le_refl _)]; exact s3
  · rw [hlen, e _ (by omega) (by omega)]; exact s5
/-- & and | -/
theorem Iz_K {b f : Nat} {Pf : Nat → Int} {pl ph k : Int} {C : List Int} {W : List (Int × Int)} (h : IzC b f Pf 3 ph C W) (hk : k = 11 ∨ k = 12) : Iz b f Pf (2, pl, 0, C ++ [1048576 * k], (k, (C.length : Int)) :: W) := by
  refine Iz_mk (fun hl => ?_)
  rw [al] at hl
  obtain ⟨hq, hs⟩ := h (by omega)
  obtain ⟨s1, s2, s3, s4, s5⟩ := Is3 hs
  have e1 : 1048576 * k / 1048576 = k := by omega
  have ep : pend ((k, (C.length : Int)) :: W) = 0 := by rw [pend_c, if_neg (by show ¬ (2 ≤ k ∧ k ≤ 6); omega), s2]; rfl
  have hc := c14_p W
  refine ⟨Iq_app hq (by omega) (by omega) (Or.inr (Or.inr (Or.inr (Or.inl ⟨by rw [e1]; exact hk, s3, ?_⟩)))) ?_ ⟨Wk_a _ hq, ?_, ?_, ?_, ?_⟩ (fun _ _ q => jW_cons q), Or.inr (Or.inr (Or.inl ⟨rfl, s1, ep, ?_⟩))⟩
  · rcases hk with rfl | rfl
    · exact Or.inl (List.mem_cons_self)
    · exact Or.inr (List.mem_cons_self)
  · rw [opn_c, if_neg (by show ¬ (k = 10 ∨ k = 13 ∨ k = 14); omega)]
    have := hq.2.2.1
    omega
  · rw [ep, c14_c]
    have hb := bk_r k
    show 0 ≤ 2 * (c14 W + (if k = 14 then 1 else 0)) + bk k
    rw [if_neg (by omega)]
    omega
  · exact Or.inr (by show 10 ≤ k ∧ k ≤ 14; omega)
  · intro _; exact ⟨s1, s2⟩
  · intro _
    exact ⟨C.length, rfl, hq.1, by omega, by rw [cdl_n, e1]⟩
  · rw [dp_app hq.1, s3, e1, dl_n (by omega)]; rfl
theorem Iz_H {b f : Nat} {Pf : Nat → Int} {T : Int → Int} {pl ph : Int} {C : List Int} {q : Int × Int} {r : List (Int × Int)} (h : IzC b f Pf 3 ph C (q :: r)) : Iz b f Pf (zH T pl C (q :: r) q.1 r) := by
  unfold zH
  by_cases c1 : T pl = 41 ∧ q.1 = 13
  · rw [if_pos c1]
    have hr : C.length ≤ 1000 → Iq b f Pf C r ∧ pend r = 0 := by
      intro hl
      obtain ⟨hq, hs⟩ := h hl
      obtain ⟨s1, s2, s3⟩ := Is3 hs
      obtain ⟨a1, a2⟩ := Iq_tl hq
      have := pend_c q r
      rw [if_neg (by omega)] at this
      exact ⟨Iq_W hq a1 a2 (fun _ _ z => jW_tl (by omega) (by omega) z), by omega⟩
    by_cases c2 : r = []
    · rw [if_pos c2]
      refine Iz_mk (fun hl => ?_)
      obtain ⟨s1, s2, s3⟩ := Is3 (h hl).2
      rw [← c2]
      exact ⟨(hr hl).1, Or.inr (Or.inr (Or.inr (Or.inr (Or.inr ⟨rfl, s1, c2, s3⟩))))⟩
    · rw [if_neg c2]
      refine Iz_mk (fun hl => ?_)
      obtain ⟨s1, s2, s3⟩ := Is3 (h hl).2
      exact ⟨(hr hl).1, mk3 ⟨s1, (hr hl).2, s3⟩⟩
  · rw [if_neg c1]
    by_cases c2 : T pl = 38
    · rw [if_pos c2]; exact Iz_K h (Or.inl rfl)
    · rw [if_neg c2]
      by_cases c3 : T pl = 124
      · rw [if_pos c3]; exact Iz_K h (Or.inr rfl)
      · rw [if_neg c3]; exact Iz_F
theorem Iz_D {b f : Nat} {Pf : Nat → Int} {T : Int → Int} {pl ph : Int} {C : List Int} : ∀ {W : List (Int × Int)}, IzC b f Pf 3 ph C W → Iz b f Pf (zD T pl C W) := by
  intro W h
  cases W with
  | nil => exact Iz_F
  | cons q r =>
    show Iz b f Pf (if q.1 = 10 then _ else _)
    by_cases c1 : q.1 = 10
    · rw [if_pos c1]
      refine Iz_mk (fun hl => ?_)
      rw [al] at hl
      obtain ⟨hq, hs⟩ := h (by omega)
      obtain ⟨s1, s2, s3, s4, s5⟩ := Is3 hs
      obtain ⟨a1, a2⟩ := Iq_tl hq
      have hp := pend_c q r
      rw [if_neg (by omega)] at hp
      have e1 : (1048576 * 10 : Int) / 1048576 = 10 := by decide
      refine ⟨Iq_app hq (by decide) (by omega) (Or.inr (Or.inr (Or.inl ⟨e1, by omega, s4, s5⟩))) a1 (Wk_cg (by omega) (fun i _ z => by rw [cdl_a z]) a2) (fun _ _ z => jW_tl (by omega) (by omega) z), mk3 ⟨s1, by omega, ?_, ?_, ?_⟩⟩
      · rw [dp_app hq.1, s3, e1]; rfl
      · rw [al]; omega
      · rw [al, Nat.add_sub_cancel, cdl_n, e1]; omega
    · rw [if_neg c1]
      by_cases c2 : q.1 = 11
      · rw [if_pos c2]; exact Iz_J h (Or.inl c2)
      · rw [if_neg c2]
        by_cases c3 : q.1 = 12 ∧ T pl ≠ 38
        · rw [if_pos c3]; exact Iz_J h (Or.inr c3.1)
        · rw [if_neg c3]; exact Iz_H h
theorem Iz_st {b f : Nat} {Pf : Nat → Int} {T : Int → Int} {c : Lc} (h : Iz b f Pf c) : Iz b f Pf (zS T c) := by
  obtain ⟨t, pl, ph, C, W⟩ := c
  by_cases c4 : 4 ≤ t
  · rw [zS_big c4]; exact h
  · have hc : IzC b f Pf t ph C W := by
      rcases h with h | h
      · have h2 : t = 4 := h
        omega
      · exact h
    rcases (show t = 0 ∨ t = 1 ∨ t = 2 ∨ t = 3 by omega) with rfl | rfl | rfl | rfl
    · rw [ls_A]; exact Iz_A hc
    · rw [ls_B]; exact Iz_B hc
    · rw [ls_C]; exact Iz_C hc
    · rw [ls_D]; exact Iz_D hc
