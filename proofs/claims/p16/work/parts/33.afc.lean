/-! each step of the small machine keeps to it -/
theorem Iz_F {b f : Nat} {Pf : Nat → Int} {k w : Int} : Iz b f Pf (zF k w) := Or.inl rfl
theorem Iz_mk {b f : Nat} {Pf : Nat → Int} {t : Nat} {pl ph : Int} {C : List Int} {W : List (Int × Int)} (h : IzC b f Pf t ph C W) : Iz b f Pf (t, pl, ph, C, W) := Or.inr h
theorem Iz_O {b f : Nat} {Pf : Nat → Int} {pl ph k : Int} {C : List Int} {W : List (Int × Int)} {t : Nat} (h : C.length ≤ 1000 → Iq b f Pf C W) (hk : C.length ≤ 1000 → k = 14 ∨ ((k = 10 ∨ k = 13) ∧ b = 1 ∧ pend W = 0)) (hs : C.length ≤ 1000 → pend ((k, 0) :: W) = pend W → Is b f t ph C ((k, 0) :: W)) : Iz b f Pf (zO pl ph k C W t) := by
  unfold zO
  by_cases c : opn W = 6
  · rw [if_pos c]; exact Iz_F
  · rw [if_neg c]
    refine Iz_mk (fun hl => ?_)
    obtain ⟨a1, a2⟩ := Iq_open (h hl) c (hk hl)
    exact ⟨a1, hs hl a2⟩
theorem al (C : List Int) (x : Int) : (C ++ [x]).length = C.length + 1 := by rw [List.length_append, List.length_singleton]
theorem Wk_a {b f : Nat} {Pf : Nat → Int} {C : List Int} {W : List (Int × Int)} (x : Int) (h : Iq b f Pf C W) : Wk (cdl (C ++ [x])) f (C.length + 1) b W := Wk_cg (by omega) (fun i _ q => by rw [cdl_a q]) h.2.2.2.1
theorem Iq_p {b f : Nat} {Pf : Nat → Int} {C : List Int} {W : List (Int × Int)} (h : Iq b f Pf C W) : 0 ≤ pend W ∧ pend W ≤ 14 := pend_b h.2.2.2.1 h.2.2.1
theorem Iz_A {b f : Nat} {Pf : Nat → Int} {T : Int → Int} {pl ph : Int} {C : List Int} {W : List (Int × Int)} (h : IzC b f Pf 0 ph C W) : Iz b f Pf (zA T pl ph C W) := by
  have hs0 : C.length ≤ 1000 → ((b = 0 ∧ ph = 0) ∨ (b = 1 ∧ (ph = 1 ∨ (7 ≤ ph ∧ ph ≤ 9)))) ∧ dp (cdl C) f C.length = pend W + (if 7 ≤ ph then 1 else 0) := by
    intro hl
    rcases (h hl).2 with q | q | q | q | q | q
    · exact q.2
    all_goals exact absurd q.1 (by decide)
  have num : ∀ {x pl2 : Int}, 0 ≤ x → (x / 1048576 = 0 ∨ (x / 1048576 = 1 ∧ x % 1048576 ≤ 11)) → Iz b f Pf (1, pl2, ph, C ++ [x], W) := by
    intro x pl2 hx hx2
    refine Iz_mk (fun hl => ?_)
    rw [al] at hl
    obtain ⟨s1, s2⟩ := hs0 (by omega)
    have hq := (h (by omega)).1
    have hp := Iq_p hq
    have hd : 0 ≤ dp (cdl C) f C.length ∧ dp (cdl C) f C.length ≤ 40 := by
      rw [s2]
      by_cases c : 7 ≤ ph
      · rw [if_pos c]; omega
      · rw [if_neg c]; omega
    refine ⟨Iq_app hq hx hd (by rcases hx2 with q | q; exact Or.inl q; exact Or.inr (Or.inl q)) hq.2.2.1 (Wk_a x hq) (fun _ _ q => q), Or.inr (Or.inl ⟨rfl, s1, ?_⟩)⟩
    rw [dp_app hq.1, s2]
    have : dl (x / 1048576) = 1 := by unfold dl; rw [if_pos (by omega)]
    rw [this]
    by_cases c : 7 ≤ ph
    · rw [if_pos c, if_pos c]; omega
    · rw [if_neg c, if_neg c]; omega
  unfold zA
  by_cases c1 : T pl = 91
  · rw [if_pos c1]
    refine Iz_O (fun hl => (h hl).1) (fun _ => Or.inl rfl) (fun hl hp => ?_)
    obtain ⟨s1, s2⟩ := hs0 hl
    exact Or.inl ⟨rfl, s1, by rw [hp]; exact s2⟩
  · rw [if_neg c1]
    by_cases c2 : 0 ≤ dq (T pl)
    · rw [if_pos c2]
      by_cases c3 : nl T pl = 6
      · rw [if_pos c3]; exact Iz_F
      · rw [if_neg c3]
        have hv := nv_b c3
        exact num hv.1 (Or.inl (by omega))
    · rw [if_neg c2]
      have hf := fa_r2 (T pl)
      by_cases c3 : fa (T pl) = -1
      · rw [if_pos c3]; exact Iz_F
      · rw [if_neg c3]
        exact num (by omega) (Or.inr (by omega))
/-- a sum's end -/
theorem Iz_E {b f : Nat} {Pf : Nat → Int} {T : Int → Int} {pl ph : Int} {C : List Int} {W : List (Int × Int)} (h : IzC b f Pf 1 ph C W) (hW : ∀ q r, W = q :: r → ¬ (2 ≤ q.1 ∧ q.1 ≤ 6) ∧ q.1 ≠ 14) : Iz b f Pf (zE T pl ph C W) := by
  have hs1 : C.length ≤ 1000 → ((b = 0 ∧ ph = 0) ∨ (b = 1 ∧ (ph = 1 ∨ (7 ≤ ph ∧ ph ≤ 9)))) ∧ dp (cdl C) f C.length = pend W + (if 7 ≤ ph then 2 else 1) := by
    intro hl
    rcases (h hl).2 with q | q | q | q | q | q
    · exact absurd q.1 (by decide)
    · exact q.2
    all_goals exact absurd q.1 (by decide)
  have hp0 : C.length ≤ 1000 → pend W = 0 := by
    intro hl
    have hk := (h hl).1.2.2.2.1
    cases W with
    | nil => rfl
    | cons q r =>
      obtain ⟨a1, a2⟩ := hW q r rfl
      obtain ⟨k1, k2, k3, k4, k5⟩ := hk
      clear k5 k1
      have := (k4 (by omega)).2
      rw [pend_c, if_neg a1, this]
      rfl
  unfold zE
  by_cases c1 : ph = 0
  · rw [if_pos c1]
    refine Iz_mk (fun hl => ?_)
    obtain ⟨s1, s2⟩ := hs1 hl
    have hq := (h hl).1
    have hb : b = 0 := by omega
    have hn : W = [] := by
      cases W with
      | nil => rfl
      | cons q r =>
        obtain ⟨a1, a2⟩ := hW q r rfl
        obtain ⟨k1, k2, k3, k4, k5⟩ := hq.2.2.2.1
        clear k5 k1
        have := (k4 (by omega)).1
        omega
    refine ⟨hq, Or.inr (Or.inr (Or.inr (Or.inr (Or.inl ⟨rfl, hb, hn, ?_⟩))))⟩
    rw [s2, hp0 hl, if_neg (by omega)]
    rfl
  · rw [if_neg c1]
    by_cases c2 : ph = 1
    · rw [if_pos c2]
      by_cases c3 : cp (T pl) = -1
      · rw [if_pos c3]; exact Iz_F
      · rw [if_neg c3]
        have hc := cp_r2 (T pl)
        refine Iz_mk (fun hl => ?_)
        obtain ⟨s1, s2⟩ := hs1 hl
        refine ⟨(h hl).1, Or.inl ⟨rfl, Or.inr ⟨by omega, Or.inr (by omega)⟩, ?_⟩⟩
        rw [s2, if_neg (by omega), if_pos (by omega)]
    · rw [if_neg c2]
      refine Iz_mk (fun hl => ?_)
      rw [al] at hl
      obtain ⟨s1, s2⟩ := hs1 (by omega)
      have hq := (h (by omega)).1
      have hp := hp0 (by omega)
      have h7 : 7 ≤ ph ∧ ph ≤ 9 := by omega
      rw [if_pos h7.1, hp] at s2
      have e1 : 1048576 * ph / 1048576 = ph := by omega
      refine ⟨Iq_app hq (by omega) (by omega) (Or.inr (Or.inr (Or.inr (Or.inr (by rw [e1]; omega))))) hq.2.2.1 (Wk_a _ hq) (fun _ _ q => q), Or.inr (Or.inr (Or.inr (Or.inl ⟨rfl, by omega, hp, ?_, ?_, ?_⟩)))⟩
      · rw [dp_app hq.1, s2, e1, dl_n (by omega)]; rfl
      · have := hq.1; rw [al]; omega
      · rw [al, Nat.add_sub_cancel, cdl_n, e1]; omega
theorem Iz_G {b f : Nat} {Pf : Nat → Int} {T : Int → Int} {pl ph top : Int} {C : List Int} {W W' : List (Int × Int)} (h : IzC b f Pf 1 ph C W) (h1 : (W = [] ∧ top = -1) ∨ ∃ q, W = q :: W' ∧ top = q.1) (h2 : ¬ (4 ≤ top ∧ top ≤ 6)) (h3 : (2 ≤ top ∧ top ≤ 3) → 4 ≤ sg (T pl)) : Iz b f Pf (zG T pl ph C W top W') := by
  have hs1 : C.length ≤ 1000 → ((b = 0 ∧ ph = 0) ∨ (b = 1 ∧ (ph = 1 ∨ (7 ≤ ph ∧ ph ≤ 9)))) ∧ dp (cdl C) f C.length = pend W + (if 7 ≤ ph then 2 else 1) := by
    intro hl
    rcases (h hl).2 with q | q | q | q | q | q
    · exact absurd q.1 (by decide)
    · exact q.2
    all_goals exact absurd q.1 (by decide)
  have hsg := sg_r2 (T pl)
  unfold zG
  by_cases c1 : 0 ≤ sg (T pl)
  · rw [if_pos c1]
    refine Iz_mk (fun hl => ?_)
    obtain ⟨s1, s2⟩ := hs1 hl
    have hq := (h hl).1
    have hk := hq.2.2.2.1
    have ht := Wk_t hk
    have htop : tpW W = top := by
      rcases h1 with ⟨e1, e2⟩ | ⟨q, e1, e2⟩
      · rw [e1, e2]
      · rw [e1, e2]
    rw [htop] at ht
    have hb1 := bk_r top
    have hb2 : (4 ≤ sg (T pl) → bk (sg (T pl)) = 2) ∧ 1 ≤ bk (sg (T pl)) := by
      unfold bk
      by_cases c : 4 ≤ sg (T pl) ∧ sg (T pl) ≤ 6
      · rw [if_pos c]; omega
      · rw [if_neg c, if_pos (by omega)]; omega
    have ep : pend ((sg (T pl), 0) :: W) = pend W + 1 := by rw [pend_c, if_pos (by show 2 ≤ sg (T pl) ∧ sg (T pl) ≤ 6; omega)]
    have ec : c14 ((sg (T pl), 0) :: W) = c14 W := by rw [c14_c, if_neg (by show ¬ sg (T pl) = 14; omega)]; omega
    have eo : opn ((sg (T pl), 0) :: W) = opn W := by rw [opn_c, if_neg (by show ¬ (sg (T pl) = 10 ∨ sg (T pl) = 13 ∨ sg (T pl) = 14); omega)]; omega
    refine ⟨Iq_W hq (by rw [eo]; exact hq.2.2.1) ⟨hk, ?_, Or.inl (by show 2 ≤ sg (T pl) ∧ sg (T pl) ≤ 6; omega), fun c => ?_, fun c => ?_⟩ (fun _ _ q => jW_cons q), Or.inl ⟨rfl, s1, ?_⟩⟩
    · rw [ep, ec]
      show pend W + 1 ≤ 2 * c14 W + bk (sg (T pl))
      by_cases c : 2 ≤ top ∧ top ≤ 3
      · have := h3 c
        have := hb2.1 this
        have := hb1.2.2.1 h2
        omega
      · have := hb1.2.2.2 (by omega)
        omega
    · have c2 : 10 ≤ sg (T pl) ∧ sg (T pl) ≤ 13 := c
      omega
    · have c2 : sg (T pl) = 11 ∨ sg (T pl) = 12 := c
      omega
    · rw [s2, ep]
      by_cases c : 7 ≤ ph
      · rw [if_pos c, if_pos c]; omega
      · rw [if_neg c, if_neg c]; omega
  · rw [if_neg c1]
    by_cases c2 : top = 14
    · rw [if_pos c2]
      by_cases c3 : T pl = 93
      · rw [if_pos c3]
        refine Iz_mk (fun hl => ?_)
        obtain ⟨s1, s2⟩ := hs1 hl
        have hq := (h hl).1
        rcases h1 with ⟨_, e2⟩ | ⟨q, e1, e2⟩
        · omega
        · subst e1
          have hp : pend (q :: W') = pend W' := by rw [pend_c, if_neg (by omega)]; omega
          obtain ⟨a1, a2⟩ := Iq_tl hq
          refine ⟨Iq_W hq a1 a2 (fun _ _ r => jW_tl (by omega) (by omega) r), Or.inr (Or.inl ⟨rfl, s1, ?_⟩)⟩
          rw [s2, hp]
      · rw [if_neg c3]; exact Iz_F
    · rw [if_neg c2]
      refine Iz_E h (fun q r e => ?_)
      rcases h1 with ⟨e1, e2⟩ | ⟨q2, e1, e2⟩
      · rw [e1] at e; cases e
      · rw [e1] at e
        injection e with e3 e4
        subst e3
        refine ⟨fun c => ?_, by omega⟩
        have := h3
        omega
theorem Iz_B {b f : Nat} {Pf : Nat → Int} {T : Int → Int} {pl ph : Int} {C : List Int} : ∀ {W : List (Int × Int)}, IzC b f Pf 1 ph C W → Iz b f Pf (zB T pl ph C W) := by
  intro W h
  cases W with
  | nil => exact Iz_G h (Or.inl ⟨rfl, rfl⟩) (by omega) (fun c => by omega)
  | cons q r =>
    have pop : (2 ≤ q.1 ∧ q.1 ≤ 6) → Iz b f Pf (1, pl, ph, C ++ [1048576 * q.1], r) := by
      intro hq1
      refine Iz_mk (fun hl => ?_)
      rw [al] at hl
      obtain ⟨hq, hs⟩ := h (by omega)
      obtain ⟨s1, s2⟩ : ((b = 0 ∧ ph = 0) ∨ (b = 1 ∧ (ph = 1 ∨ (7 ≤ ph ∧ ph ≤ 9)))) ∧ dp (cdl C) f C.length = pend (q :: r) + (if 7 ≤ ph then 2 else 1) := by
        rcases hs with q | q | q | q | q | q
        · exact absurd q.1 (by decide)
        · exact q.2
        all_goals exact absurd q.1 (by decide)
      have hp := Iq_p hq
      have ep : pend (q :: r) = pend r + 1 := by rw [pend_c, if_pos hq1]
      have hpr := pend_p r
      have e1 : 1048576 * q.1 / 1048576 = q.1 := by omega
      have hd : 2 ≤ dp (cdl C) f C.length ∧ dp (cdl C) f C.length ≤ 40 := by
        rw [s2]
        by_cases c : 7 ≤ ph
        · rw [if_pos c]; omega
        · rw [if_neg c]; omega
      obtain ⟨a1, a2⟩ := Iq_tl hq
      refine ⟨Iq_app hq (by omega) (by omega) (Or.inr (Or.inr (Or.inr (Or.inr (by rw [e1]; omega))))) a1 (Wk_cg (by omega) (fun i _ q => by rw [cdl_a q]) a2) (fun _ _ q2 => jW_tl (by omega) (by omega) q2), Or.inr (Or.inl ⟨rfl, s1, ?_⟩)⟩
      rw [dp_app hq.1, s2, e1, dl_n (by omega), ep]
      by_cases c : 7 ≤ ph
      · rw [if_pos c]; omega
      · rw [if_neg c]; omega
    show Iz b f Pf (if 4 ≤ q.1 ∧ q.1 ≤ 6 then _ else _)
    by_cases c1 : 4 ≤ q.1 ∧ q.1 ≤ 6
    · rw [if_pos c1]; exact pop (by omega)
    · rw [if_neg c1]
      by_cases c2 : (2 ≤ q.1 ∧ q.1 ≤ 3) ∧ ¬ (4 ≤ sg (T pl))
      · rw [if_pos c2]; exact pop (by omega)
      · rw [if_neg c2]
        exact Iz_G h (Or.inr ⟨q, rfl, rfl⟩) c1 (fun c => by omega)
theorem Iz_C {b f : Nat} {Pf : Nat → Int} {T : Int → Int} {pl ph : Int} {C : List Int} {W : List (Int × Int)} (h : IzC b f Pf 2 ph C W) : Iz b f Pf (zC T pl C W) := by
  have hs2 : C.length ≤ 1000 → b = 1 ∧ pend W = 0 ∧ dp (cdl C) f C.length = 0 := by
    intro hl
    rcases (h hl).2 with q | q | q | q | q | q
    · exact absurd q.1 (by decide)
    · exact absurd q.1 (by decide)
    · exact q.2
    all_goals exact absurd q.1 (by decide)
  unfold zC
  by_cases c1 : T pl = 33
  · rw [if_pos c1]
    exact Iz_O (fun hl => (h hl).1) (fun hl => Or.inr ⟨Or.inl rfl, (hs2 hl).1, (hs2 hl).2.1⟩) (fun hl hp => Or.inr (Or.inr (Or.inl ⟨rfl, (hs2 hl).1, by rw [hp]; exact (hs2 hl).2.1, (hs2 hl).2.2⟩)))
  · rw [if_neg c1]
    by_cases c2 : T pl = 40
    · rw [if_pos c2]
      exact Iz_O (fun hl => (h hl).1) (fun hl => Or.inr ⟨Or.inr rfl, (hs2 hl).1, (hs2 hl).2.1⟩) (fun hl hp => Or.inr (Or.inr (Or.inl ⟨rfl, (hs2 hl).1, by rw [hp]; exact (hs2 hl).2.1, (hs2 hl).2.2⟩)))
    · rw [if_neg c2]
      refine Iz_mk (fun hl => ?_)
      obtain ⟨s1, s2, s3⟩ := hs2 hl
      refine ⟨(h hl).1, Or.inl ⟨rfl, Or.inr ⟨s1, Or.inl rfl⟩, ?_⟩⟩
      rw [s2, s3, if_neg (by omega)]
      rfl
