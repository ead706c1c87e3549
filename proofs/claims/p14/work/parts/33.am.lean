/-! TOWNS: copied, kept -/
def ckL (E : qR) : Bool := match E with
  | some (_, M) => (List.range 96).all fun i => decide (M 78 (96 + i) = (-2 : Int32))
  | none => false
theorem ckL_ok : ckL (f_model 200000 q0) = true := by decide +kernel
theorem fresh2 {M0 : qM} (e : f_model 200000 q0 = some (0, M0)) : ∀ i, i < 96 → M0 78 (96 + i) = (-2 : Int32) := by
  intro i hi
  have h := ckL_ok
  rw [e] at h
  have h2 : ((List.range 96).all fun i => decide (M0 78 (96 + i) = (-2 : Int32))) = true := h
  rw [List.all_eq_true] at h2
  exact of_decide_eq_true (h2 i (List.mem_range.mpr hi))
abbrev RCc (t c : Nat) (A B : qM) : Prop := (∀ i, i < 96 → A (t + 2) i = B c i ∧ 0 ≤ (A (t + 2) i).toInt ∧ (A (t + 2) i).toInt ≤ 999 ∧ ((A (t + 2) i = 0 ∧ B c (96 + i) = -2) ∨ (A (t + 2) i ≠ 0 ∧ A (t + 3) i = B c (96 + i)))) ∧ (∀ i, i < 96 → A (t + 4) i = B c (192 + i) ∧ 0 ≤ (A (t + 4) i).toInt ∧ (A (t + 4) i).toInt ≤ 999)
def TN (t c : Nat) (A B : qM) : Prop := RCc t c A B ∧ RO t c A B ∧ RP t c A B
abbrev EqC (t u : Nat) (m M : qM) : Prop := (m t 8 = M u 8 ∧ m t 9 = M u 9) ∧ (∀ s, s < 8 → m (t + 1) s = M (u + 1) s ∧ m (t + 7) s = M (u + 7) s ∧ m (t + 8) s = M (u + 8) s) ∧ (∀ s, s < 96 → m (t + 2) s = M (u + 2) s ∧ m (t + 3) s = M (u + 3) s ∧ m (t + 4) s = M (u + 4) s) ∧ ∀ s, s < 320 → m (t + 5) s = M (u + 5) s ∧ m (t + 6) s = M (u + 6) s
theorem EqC_of {t : Nat} {m M : qM} (h : ∀ c, t ≤ c → c ≤ t + 8 → m c = M c) : EqC t t m M := by
  refine ⟨⟨by rw [h t (by omega) (by omega)], by rw [h t (by omega) (by omega)]⟩, fun s _ => ⟨by rw [h _ (by omega) (by omega)], by rw [h _ (by omega) (by omega)], by rw [h _ (by omega) (by omega)]⟩, fun s _ => ⟨by rw [h _ (by omega) (by omega)], by rw [h _ (by omega) (by omega)], by rw [h _ (by omega) (by omega)]⟩, fun s _ => ⟨by rw [h _ (by omega) (by omega)], by rw [h _ (by omega) (by omega)]⟩⟩
theorem TN_cp {t u c d : Nat} {A A' B B' : qM} (h : TN u d A B) (e : EqC t u A' A) (f : ∀ i, i < 954 → B' c i = B d i) : TN t c A' B' := by
  obtain ⟨⟨h1, h2⟩, ⟨o1, o2, o3⟩, hP⟩ := h
  obtain ⟨⟨e8, e9⟩, ep, ec, es⟩ := e
  refine ⟨⟨fun i hi => ?_, fun i hi => ?_⟩, ⟨by rw [e8, f 312 (by decide)]; exact o1, by rw [e9, f 313 (by decide)]; exact o2, fun p hp => ?_⟩, fun p hp => ?_⟩
  · rw [(ec i hi).1, (ec i hi).2.1, f i (by omega), f (96 + i) (by omega)]; exact h1 i hi
  · rw [(ec i hi).2.2, f _ (by omega)]; exact h2 i hi
  · rw [(ep p hp).1, f _ (by omega)]; exact o3 p hp
  · obtain ⟨q1, q2, q3⟩ := hP p hp
    refine ⟨by rw [(ep p hp).2.1, f _ (by omega)]; exact q1, by rw [(ep p hp).2.2, f _ (by omega)]; exact q2, fun q hq hq2 => ?_⟩
    rw [(ep p hp).2.1] at hq2
    rw [(es _ (by omega)).1, (es _ (by omega)).2, f _ (by omega), f _ (by omega)]
    exact q3 q hq hq2
theorem TN_fr {t c : Nat} {A A' B B' : qM} (h : TN t c A B) (e : ∀ x, t ≤ x → x ≤ t + 8 → A' x = A x) (f : ∀ i, i < 954 → B' c i = B c i) : TN t c A' B' := TN_cp h (EqC_of e) f
theorem TN_0 {t : Nat} {M : qM} (ht : t + 8 < 78) (hF : Fr M) (h2 : ∀ i, i < 96 → M 78 (96 + i) = -2) : TN t 78 M M := by
  have z : (0 : Int32).toInt = 0 := rfl
  refine ⟨⟨fun i hi => ⟨?_, ?_, ?_, Or.inl ⟨?_, h2 i hi⟩⟩, fun i hi => ?_⟩, ⟨?_, ?_, fun p hp => ?_⟩, fun p hp => ⟨?_, ?_, fun q _ hq2 => ?_⟩⟩
  · rw [hF.1 _ _ (by omega), hF.2.1 i (by omega)]
  · rw [hF.1 _ _ (by omega), z]; omega
  · rw [hF.1 _ _ (by omega), z]; omega
  · exact hF.1 _ _ (by omega)
  · rw [hF.1 _ _ (by omega), hF.2.1 _ (by omega), z]; exact ⟨rfl, by omega, by omega⟩
  · rw [hF.1 _ _ (by omega), hF.2.1 _ (by omega)]
  · rw [hF.1 _ _ (by omega), hF.2.1 _ (by omega)]
  · rw [hF.1 _ _ (by omega), hF.2.1 _ (by omega)]
  · rw [hF.1 _ _ (by omega), hF.2.1 _ (by omega)]
  · rw [hF.1 _ _ (by omega), hF.2.1 _ (by omega)]
  · rw [hF.1 _ _ (by omega), z] at hq2; omega
theorem P_mr {M : qM} {c : Nat} {f : Nat → Int32} {g : qM → qR} {Q : Int32 → qM → Prop} (h : ∀ m : qM, m c = f → (∀ c2, c2 ≠ c → m c2 = M c2) → qP (g m) Q) : qP (qlm (mr M c f) g) Q := h _ mr_at (fun c2 hc2 => mr_ne hc2)
theorem c_copy {n t u : Nat} (htu : t + 8 < u ∨ u + 8 < t) (M : qM) : qP (f_X10_copy n t u M) (fun _ m => EqC t u m M ∧ ∀ c, c < t ∨ t + 8 < c → m c = M c) := by
  unfold f_X10_copy
  refine P_qcp (P_mr (fun m1 a1 a2 => P_qcp (P_mr (fun m2 b1 b2 => P_qcp (P_mr (fun m3 c1 c2 => P_qcp (P_mr (fun m4 d1 d2 => P_qcp (P_mr (fun m5 e1 e2 => P_qcp (P_mr (fun m6 f1 f2 => P_qcp (P_mr (fun m7 g1 g2 => P_qcp (P_mr (fun m8 h1 h2 => P_m (fun m9 i1 i2 i3 => P_m (fun m10 j1 j2 j3 => P_ret ?_))))))))))))))))))
  have z : (0 : Int32).toNatClampNeg = 0 := rfl
  have z8 : (8 : Int32).toNatClampNeg = 8 := rfl
  have z96 : (96 : Int32).toNatClampNeg = 96 := rfl
  have z320 : (320 : Int32).toNatClampNeg = 320 := rfl
  have s1 : m1 (u + 2) = M (u + 2) := a2 _ (by omega)
  have s2 : m2 (u + 3) = M (u + 3) := by rw [b2 _ (by omega), a2 _ (by omega)]
  have s3 : m3 (u + 4) = M (u + 4) := by rw [c2 _ (by omega), b2 _ (by omega), a2 _ (by omega)]
  have s4 : m4 (u + 5) = M (u + 5) := by rw [d2 _ (by omega), c2 _ (by omega), b2 _ (by omega), a2 _ (by omega)]
  have s5 : m5 (u + 6) = M (u + 6) := by rw [e2 _ (by omega), d2 _ (by omega), c2 _ (by omega), b2 _ (by omega), a2 _ (by omega)]
  have s6 : m6 (u + 7) = M (u + 7) := by rw [f2 _ (by omega), e2 _ (by omega), d2 _ (by omega), c2 _ (by omega), b2 _ (by omega), a2 _ (by omega)]
  have s7 : m7 (u + 8) = M (u + 8) := by rw [g2 _ (by omega), f2 _ (by omega), e2 _ (by omega), d2 _ (by omega), c2 _ (by omega), b2 _ (by omega), a2 _ (by omega)]
  have s8 : m8 u = M u := by rw [h2 _ (by omega), g2 _ (by omega), f2 _ (by omega), e2 _ (by omega), d2 _ (by omega), c2 _ (by omega), b2 _ (by omega), a2 _ (by omega)]
  have o10 : ∀ c, c ≠ t → m10 c = m8 c := fun c hc => by rw [j3 c hc, i3 c hc]
  rw [z, z8] at a1 g1 h1
  rw [z, z96] at b1 c1 d1
  rw [z, z320] at e1 f1
  rw [s1] at b1
  rw [s2] at c1
  rw [s3] at d1
  rw [s4] at e1
  rw [s5] at f1
  rw [s6] at g1
  rw [s7] at h1
  refine ⟨⟨⟨?_, ?_⟩, fun s hs => ⟨?_, ?_, ?_⟩, fun s hs => ⟨?_, ?_, ?_⟩, fun s hs => ⟨?_, ?_⟩⟩, fun c hc => ?_⟩
  · rw [j2 8 (by decide), i1, s8]
  · rw [j1, i3 u (by omega), s8]
  · rw [o10 _ (by omega), h2 _ (by omega), g2 _ (by omega), f2 _ (by omega), e2 _ (by omega), d2 _ (by omega), c2 _ (by omega), b2 _ (by omega), a1, sb_cpy0 hs]
  · rw [o10 _ (by omega), h2 _ (by omega), g1, sb_cpy0 hs]
  · rw [o10 _ (by omega), h1, sb_cpy0 hs]
  · rw [o10 _ (by omega), h2 _ (by omega), g2 _ (by omega), f2 _ (by omega), e2 _ (by omega), d2 _ (by omega), c2 _ (by omega), b1, sb_cpy0 hs]
  · rw [o10 _ (by omega), h2 _ (by omega), g2 _ (by omega), f2 _ (by omega), e2 _ (by omega), d2 _ (by omega), c1, sb_cpy0 hs]
  · rw [o10 _ (by omega), h2 _ (by omega), g2 _ (by omega), f2 _ (by omega), e2 _ (by omega), d1, sb_cpy0 hs]
  · rw [o10 _ (by omega), h2 _ (by omega), g2 _ (by omega), f2 _ (by omega), e1, sb_cpy0 hs]
  · rw [o10 _ (by omega), h2 _ (by omega), g2 _ (by omega), f1, sb_cpy0 hs]
  · rw [o10 _ (by omega), h2 _ (by omega), g2 _ (by omega), f2 _ (by omega), e2 _ (by omega), d2 _ (by omega), c2 _ (by omega), b2 _ (by omega), a2 _ (by omega)]
theorem d_copies2 {n c1 c2 : Nat} (hne : c1 ≠ c2) {M0 : qM} : ∀ (m i : Nat) (M : qM), i ≤ 954 → (∀ c, c ≠ c2 → M c = M0 c) → (∀ q, q < i → M c2 q = M0 c1 q) → qP (f_X12_copies_2 n c1 c2 m (nI i) M) (fun _ m' => (∀ q, q < 954 → m' c2 q = M0 c1 q) ∧ ∀ c, c ≠ c2 → m' c = M0 c) := by
  intro m
  induction m with
  | zero => intro i M _ _ _; exact P_none
  | succ m ih =>
    intro i M hi hf hlo
    show qP (b_X12_copies_2 n c1 c2 (f_X12_copies_2 n c1 c2 m) (nI i) M) _
    unfold b_X12_copies_2
    have ti : (nI i).toInt = (i : Int) := nI_toInt (by omega)
    have ei : (nI i).toNatClampNeg = i := by rw [tnc, ti]; rfl
    refine P_le l_954 ti (fun c => P_ret ⟨fun q hq => hlo q (by omega), hf⟩) (fun c => P_qg (fun _ _ => P_qg (fun _ _ => ?_)))
    rw [ei]
    refine P_m (fun m1 x1 x2 x3 => P_ql (i_add ti l_1 (by omega) (by omega)) (fun x hx => ?_))
    rw [nI_i (a := x) (k := i + 1) (by rw [hx]; omega)]
    refine ih (i + 1) m1 (by omega) (fun c hc => by rw [x3 c hc, hf c hc]) (fun q hq => ?_)
    by_cases e : q = i
    · rw [e, x1, hf c1 hne]
    · rw [x2 q e]; exact hlo q (by omega)
theorem d_copies {n c1 c2 : Nat} (hne : c1 ≠ c2) (M : qM) : qP (f_X12_copies n c1 c2 M) (fun _ m' => (∀ q, q < 954 → m' c2 q = M c1 q) ∧ ∀ c, c ≠ c2 → m' c = M c) := by
  unfold f_X12_copies
  exact d_copies2 hne n 0 M (by decide) (fun _ _ => rfl) (fun q hq => absurd hq (by omega))
theorem keep_st {n : Nat} {M m1 m2 : qM} {v1 v2 : Int32} (hT : TN 7 78 M M) (e77 : ∀ c, 77 ≤ c → m1 c = M c) (e1 : f_X11_keep n M = some (v1, m1)) (e2 : f_X12_keep n m1 = some (v2, m2)) : v1 = v2 ∧ TN 7 78 m2 m2 ∧ TN 16 80 m2 m2 := by
  unfold f_X11_keep at e1
  unfold f_X12_keep at e2
  have h1 : qP (qc (f_X10_copy n 16 7 M) (fun _ m1 => qlm (mu m1 0 12 (1 : Int32)) (fun m2 => some ((m2 7 9), m2)))) (fun v m => v = M 7 9 ∧ EqC 16 7 m M ∧ ∀ c, 7 ≤ c → c ≤ 15 → m c = M c) := by
    refine P_qc (c_copy (by decide) M) ?_
    rintro _ m ⟨a1, a2⟩
    refine P_m (fun m' x1 x2 x3 => P_ret ⟨by rw [x3 7 (by decide), a2 7 (by decide)], ?_, fun c h1 h2 => by rw [x3 c (by omega), a2 c (by omega)]⟩)
    obtain ⟨⟨p1, p2⟩, p3, p4, p5⟩ := a1
    exact ⟨⟨by rw [x3 16 (by decide)]; exact p1, by rw [x3 16 (by decide)]; exact p2⟩, fun s hs => by rw [x3 (16 + 1) (by decide), x3 (16 + 7) (by decide), x3 (16 + 8) (by decide)]; exact p3 s hs, fun s hs => by rw [x3 (16 + 2) (by decide), x3 (16 + 3) (by decide), x3 (16 + 4) (by decide)]; exact p4 s hs, fun s hs => by rw [x3 (16 + 5) (by decide), x3 (16 + 6) (by decide)]; exact p5 s hs⟩
  have h2 : qP (qlm (mu m1 77 67 (1 : Int32)) (fun m1 => qc (f_X12_copies n 78 80 m1) (fun _ m2 => some ((m2 78 313), m2)))) (fun v m => v = m1 78 313 ∧ (∀ i, i < 954 → m 80 i = m1 78 i) ∧ m 78 = m1 78 ∧ ∀ c, c < 77 → m c = m1 c) := by
    refine P_m (fun m' x1 x2 x3 => P_qc (d_copies (by decide) m') ?_)
    rintro _ m ⟨a1, a2⟩
    exact P_ret ⟨by rw [a2 78 (by decide), x3 78 (by decide)], fun i hi => by rw [a1 i hi, x3 78 (by decide)], by rw [a2 78 (by decide), x3 78 (by decide)], fun c hc => by rw [a2 c (by omega), x3 c (by omega)]⟩
  obtain ⟨p1, p2, p3⟩ := h1 v1 m1 e1
  obtain ⟨q1, q2, q3, q4⟩ := h2 v2 m2 e2
  refine ⟨?_, TN_fr hT (fun x h1 h2 => by rw [q4 x (by omega), p3 x h1 h2]) (fun i _ => by rw [q3, e77 78 (by decide)]), TN_cp (d := 78) (u := 7) hT ?_ (fun i hi => by rw [q2 i hi, e77 78 (by decide)])⟩
  · rw [p1, q1, e77 78 (by decide)]; exact hT.2.1.2.1
  · obtain ⟨⟨p1, p2⟩, p3, p4, p5⟩ := p2
    exact ⟨⟨by rw [q4 16 (by decide)]; exact p1, by rw [q4 16 (by decide)]; exact p2⟩, fun s hs => by rw [q4 (16 + 1) (by decide), q4 (16 + 7) (by decide), q4 (16 + 8) (by decide)]; exact p3 s hs, fun s hs => by rw [q4 (16 + 2) (by decide), q4 (16 + 3) (by decide), q4 (16 + 4) (by decide)]; exact p4 s hs, fun s hs => by rw [q4 (16 + 5) (by decide), q4 (16 + 6) (by decide)]; exact p5 s hs⟩
theorem undo_st {n : Nat} {M m1 m2 : qM} {v1 v2 : Int32} (hT : TN 7 78 M M) (hk : M 0 12 = M 77 67) (hK : M 0 12 ≠ 0 → TN 16 80 M M) (e77 : ∀ c, 77 ≤ c → m1 c = M c) (e1 : f_X11_undo n M = some (v1, m1)) (e2 : f_X12_undo n m1 = some (v2, m2)) : v1 = v2 ∧ TN 7 78 m2 m2 := by
  unfold f_X11_undo at e1
  unfold f_X12_undo at e2
  rw [e77 77 (by decide), ← hk] at e2
  by_cases c : M 0 12 = 0
  · rw [if_pos c] at e1 e2
    cases e1
    cases e2
    exact ⟨rfl, hT⟩
  · rw [if_neg c] at e1 e2
    have h1 : qP (qc (f_X10_copy n 7 16 M) (fun _ m1 => some ((1 : Int32), m1))) (fun v m => v = 1 ∧ EqC 7 16 m M) := by
      refine P_qc (c_copy (by decide) M) ?_
      rintro _ m ⟨a1, a2⟩
      exact P_ret ⟨rfl, a1⟩
    have h2 : qP (qc (f_X12_copies n 80 78 m1) (fun _ m1 => some ((1 : Int32), m1))) (fun v m => v = 1 ∧ (∀ i, i < 954 → m 78 i = m1 80 i) ∧ ∀ c, c < 77 → m c = m1 c) := by
      refine P_qc (d_copies (by decide) m1) ?_
      rintro _ m ⟨a1, a2⟩
      exact P_ret ⟨rfl, a1, fun c hc => a2 c (by omega)⟩
    obtain ⟨p1, p2⟩ := h1 v1 m1 e1
    obtain ⟨q1, q2, q3⟩ := h2 v2 m2 e2
    refine ⟨by rw [p1, q1], TN_cp (d := 80) (u := 16) (hK c) ?_ (fun i hi => by rw [q2 i hi, e77 80 (by decide)])⟩
    obtain ⟨⟨p1, p2⟩, p3, p4, p5⟩ := p2
    exact ⟨⟨by rw [q3 7 (by decide)]; exact p1, by rw [q3 7 (by decide)]; exact p2⟩, fun s hs => by rw [q3 (7 + 1) (by decide), q3 (7 + 7) (by decide), q3 (7 + 8) (by decide)]; exact p3 s hs, fun s hs => by rw [q3 (7 + 2) (by decide), q3 (7 + 3) (by decide), q3 (7 + 4) (by decide)]; exact p4 s hs, fun s hs => by rw [q3 (7 + 5) (by decide), q3 (7 + 6) (by decide)]; exact p5 s hs⟩
/-! tries, costs and first goes bought, on both sides -/
theorem RE_of {j : Nat} {M m1 : qM} (hG : G M) (hG1 : G m1) (hD : KD M M) (hL : LR j M M) (hT : TN 7 78 M M) (e77 : ∀ c, 77 ≤ c → m1 c = M c) : ∃ C K, (Kg (cdl C) C.length K ∧ C.length ≤ 240) ∧ RE 7 j C K M m1 ∧ RP 7 78 M m1 := by
  obtain ⟨C, K, hJ, hM, hK, h240⟩ := hL
  have hT2 : TN 7 78 M m1 := TN_fr hT (fun _ _ _ => rfl) (fun i _ => by rw [e77 78 (by decide)])
  exact ⟨C, K, ⟨hK, h240⟩, ⟨⟨hG, hG1⟩, ⟨hJ, LM_cg hM (fun c h1 _ => e77 c (by omega)) (by rw [e77 77 (by decide)])⟩, KD_2 hD (fun _ _ _ => rfl) (by rw [e77 77 (by decide)]) (fun c h1 _ => e77 c (by omega)), hT2.1, hT2.2.1⟩, hT2.2.2⟩
theorem tries_2 {n : Nat} (hn : 200000 ≤ n) {j : Nat} (hj : q_isLaw j) {C : List Int} {K : List Kl} (hK : Kg (cdl C) C.length K) (h240 : C.length ≤ 240) (a1 a2 a3 : Int32) (A B : qM) (hE : RE 7 j C K A B) (hP : RP 7 78 A B) : q2 (f_X11_tries n j a1 a2 a3 A) (f_X12_tries n a1 a2 a3 B) (fun v1 m1 v2 m2 => v1 = v2 ∧ TN 7 78 m1 m2) := by
  have hTN : TN 7 78 A B := ⟨hE.2.2.2.1, hE.2.2.2.2, hP⟩
  have bad : q2 (some ((-1 : Int32), A)) (some ((-1 : Int32), B)) (fun v1 m1 v2 m2 => v1 = v2 ∧ TN 7 78 m1 m2) := q2_ret ⟨rfl, hTN⟩
  have go : ∀ (p k : Nat) (w : Int32), p < 8 → k < 12 → bitI (A 3 3) k → 0 ≤ w.toInt ∧ w.toInt ≤ 8 → q2 (qc (f_X0_attempt n 7 j (nI p) (nI k) w A) (fun r m => some (r, m))) (f_X12_tries_50 n (nI p) (nI k) w B) (fun v1 m1 v2 m2 => v1 = v2 ∧ TN 7 78 m1 m2) := by
    intro p k w hp hk hb hw
    unfold f_X12_tries_50
    refine q2_qc (R := fun v1 m1 v2 m2 => v1 = v2 ∧ ((-2) ≤ v1.toInt ∧ v1.toInt ≤ 1) ∧ RE 7 j C K m1 m2 ∧ Fa 7 A m1 ∧ Fb B m2) (fun v1 m1 v2 m2 e1 e2 => try_RE hn (Or.inl rfl) hj hp hk hK h240 w hw hE hb e1 e2) ?_
    rintro v1 m5 v2 m4 ⟨ev, _, hE5, ⟨fa, _⟩, _, fb78⟩
    exact q2_ret ⟨ev, hE5.2.2.2.1, hE5.2.2.2.2, RP_cg hP (fa 12 (by decide) (by decide) (by decide) (by decide) (by decide) (by decide) (by decide)) (fa 13 (by decide) (by decide) (by decide) (by decide) (by decide) (by decide) (by decide)) (fa 14 (by decide) (by decide) (by decide) (by decide) (by decide) (by decide) (by decide)) (fa 15 (by decide) (by decide) (by decide) (by decide) (by decide) (by decide) (by decide)) (fun i h1 _ => fb78 i (by omega))⟩
  unfold f_X11_tries f_X12_tries f_X12_tries_36
  obtain ⟨r1, p1, p2, hr1⟩ := pn_2 (n := n) hE.2.2.2.2.1 a1
  rw [p1, p2, qc_v, qc_v]
  rcases hr1 with rfl | ⟨rfl, p, hp, rfl⟩
  · exact q2_i1 (fun _ => q2_i2 (fun _ => bad) (fun z => absurd rfl z)) (fun z => absurd rfl z)
  refine q2_i1 (fun z => absurd z (by decide)) (fun _ => q2_i2 (fun z => absurd z (by decide)) (fun _ => ?_))
  obtain ⟨r2, k1, k2, hr2⟩ := kn_2 (n := n) hE.2.2.1 a2
  rw [k1, k2, qc_v, qc_v]
  rcases hr2 with ⟨rfl, _⟩ | ⟨rfl, k, hk, rfl, hb⟩
  · exact q2_i1 (fun _ => q2_i2 (fun _ => bad) (fun z => absurd rfl z)) (fun z => absurd rfl z)
  refine q2_i1 (fun z => absurd z (by decide)) (fun _ => q2_i2 (fun z => absurd z (by decide)) (fun _ => ?_))
  by_cases c3 : a3 = (-1 : Int32)
  · rw [if_pos c3, if_pos c3, if_pos c3]
    exact go p k 8 hp hk hb (by decide)
  · rw [if_neg c3, if_neg c3]
    obtain ⟨r3, s1, s2, hr3⟩ := pn_2 (n := n) hE.2.2.2.2.1 a3
    rw [s1, s2, qc_v, qc_v]
    by_cases c4 : a3 = nI p
    · rw [if_pos c4, if_pos c4]
      exact q2_i2 (fun _ => bad) (fun _ => bad)
    · rw [if_neg c4, if_neg c4]
      rcases hr3 with rfl | ⟨rfl, s, hs, rfl⟩
      · exact q2_i1 (fun _ => q2_i2 (fun _ => bad) (fun z => absurd rfl z)) (fun z => absurd rfl z)
      · exact q2_i1 (fun z => absurd z (by decide)) (fun _ => q2_i2 (fun z => absurd z (by decide)) (fun _ => q2_i2 (fun z => absurd z c3) (fun _ => go p k (nI s) hp hk hb (by rw [nI_toInt (by omega)]; omega))))
theorem q2_deal {n : Nat} {A B : qM} (hD : KD A B) (h8 : A 7 8 = B 78 312) (a1 a2 a3 : Int32) {E1 E2 : qM → qR} {Q : Int32 → qM → Int32 → qM → Prop} (h0 : Q (-1) A (-1) B) (h : ∀ p k s : Nat, p < 8 → k < 12 → s < 8 → p ≠ s → a1 = nI p → a2 = nI k → a3 = nI s → bitI (A 3 3) k → q2 (E1 A) (E2 B) Q) : q2 (qc (f_X11_canDeal n a1 a2 a3 A) (fun r1 m2 => if r1 = (0 : Int32) then some ((-1 : Int32), m2) else E1 m2)) (qc (f_X12_isPerson n a1 B) (fun r1 m2 => (if r1 = (0 : Int32) then some ((-1 : Int32), m2) else qc (f_X12_isKind n a2 m2) (fun r3 m4 => (if r3 = (0 : Int32) then some ((-1 : Int32), m4) else qc (f_X12_isPerson n a3 m4) (fun r5 m6 => (if r5 = (0 : Int32) then some ((-1 : Int32), m6) else (if a1 = a3 then some ((-1 : Int32), m6) else E2 m6)))))))) Q := by
  have bad : ∀ X : qM → qR, q2 (if (0 : Int32) = (0 : Int32) then some ((-1 : Int32), A) else X A) (some ((-1 : Int32), B)) Q := fun X => q2_i1 (fun _ => q2_ret h0) (fun z => absurd rfl z)
  unfold f_X11_canDeal
  obtain ⟨r1, p1, p2, hr1⟩ := pn_2 (n := n) h8 a1
  obtain ⟨r2, k1, k2, hr2⟩ := kn_2 (n := n) hD a2
  obtain ⟨r3, s1, s2, hr3⟩ := pn_2 (n := n) h8 a3
  rw [p1, p2, qc_v, qc_v]
  rcases hr1 with rfl | ⟨rfl, p, hp, rfl⟩
  · rw [if_pos rfl, if_pos rfl, qc_v]; exact bad E1
  rw [if_neg (show ¬ (1 : Int32) = 0 by decide), if_neg (show ¬ (1 : Int32) = 0 by decide), k1, k2, qc_v, qc_v]
  rcases hr2 with ⟨rfl, _⟩ | ⟨rfl, k, hk, rfl, hb⟩
  · rw [if_pos rfl, if_pos rfl, qc_v]; exact bad E1
  rw [if_neg (show ¬ (1 : Int32) = 0 by decide), if_neg (show ¬ (1 : Int32) = 0 by decide), s1, s2, qc_v, qc_v]
  rcases hr3 with rfl | ⟨rfl, s, hs, rfl⟩
  · rw [if_pos rfl, if_pos rfl, qc_v]; exact bad E1
  rw [if_neg (show ¬ (1 : Int32) = 0 by decide), if_neg (show ¬ (1 : Int32) = 0 by decide)]
  by_cases c : nI p = nI s
  · rw [if_pos c, if_pos c, qc_v]; exact bad E1
  · rw [if_neg c, if_neg c, qc_v, if_neg (show ¬ (1 : Int32) = 0 by decide)]
    exact h p k s hp hk hs (fun z => c (by rw [z])) rfl rfl rfl hb
def csV (C : List Int) (K : List Kl) (n : Nat) (H X : Nat → Int32) (d : Int32) (p k : Nat) (w : Int32) (T N : Nat → Int32) : Int32 := amtL C n (fx (nI k) (H k) (X k) 0 0 0 d (nI p) w (T (12 * p + k)) (byA T k 8) (N (12 * p + k))) 99 999 K 0
theorem csV_cg {C : List Int} {K : List Kl} {n : Nat} {H X H' X' : Nat → Int32} {d w : Int32} {p k : Nat} {T N T' N' : Nat → Int32} (hp : p < 8) (hk : k < 12) (h1 : H k = H' k) (h2 : X k = X' k) (h3 : ∀ i, i < 96 → T i = T' i) (h4 : ∀ i, i < 96 → N i = N' i) : csV C K n H X d p k w T N = csV C K n H' X' d p k w T' N' := by
  unfold csV
  rw [h1, h2, h3 (12 * p + k) (by omega), h4 (12 * p + k) (by omega), byA_cg hk (Nat.le_refl _) h3]
theorem c_price {n : Nat} (hn : 200000 ≤ n) {j p k : Nat} (hj : q_isLaw j) (hp : p < 8) (hk : k < 12) {C : List Int} {K : List Kl} (hK : Kg (cdl C) C.length K) (w : Int32) (hw : 0 ≤ w.toInt ∧ w.toInt ≤ 8) (M : qM) (hG : G M) (hL : LJ j M C K) : qP (f_X0_price n 7 j (nI p) (nI k) w M) (fun v m => v = csV C K n (M 4) (M 5) (M 7 9) p k w (M 9) (M 11) ∧ G m ∧ ∀ c, c ≠ 34 → c ≠ 35 → c ≠ 36 → m c = M c) := by
  unfold f_X0_price
  refine P_qc (P_and (c_tell (t := 7) (by decide) hp hk w M) (G_tell hn (Or.inl rfl) hp hk w hw M hG)) ?_
  rintro _ m1 ⟨⟨hF, e1⟩, g1⟩
  have l1 : LJ j m1 C K := LJ_cg hL (fun q hq => e1 _ (by rcases hj with rfl | rfl <;> omega))
  refine P_qc (P_and (c_amt hn hj hK 99 999 0 m1 g1 l1 (by rw [l_99]; decide)) (P_T (t_X1_amount hn hj 99 999 0 m1 g1 (by decide) (by decide) (by decide)))) ?_
  rintro r2 m3 ⟨hr2, _, g3, s3⟩
  refine P_ret ⟨?_, g3, fun c q1 q2 q3 => ?_⟩
  · rw [hr2, l_99, amtL_F hF (by decide) hK]
    rfl
  · rw [← e1 c q2]
    exact funext (fun s => s3 c s (al2 (by omega) (al2 (by omega) al0)))
theorem d_costOf {n : Nat} (hn : 200000 ≤ n) {p k : Nat} (hp : p < 8) (hk : k < 12) {C : List Int} {K : List Kl} (hK : Kg (cdl C) C.length K) (h240 : C.length ≤ 240) (w : Int32) (hw : 0 ≤ w.toInt ∧ w.toInt ≤ 8) (M : qM) (hG : G M) (hL : LM M C K) : qP (f_X12_costOf n (nI p) (nI k) w M) (fun v m => v = csV C K n (M 81) (M 82) (M 78 313) p k w (M 78) (fun i => M 78 (192 + i)) ∧ G m ∧ ∀ c, c ≠ 96 → c ≠ 97 → m c = M c) := by
  have tp : (nI p).toInt = (p : Int) := nI_toInt (by omega)
  have tk : (nI k).toInt = (k : Int) := nI_toInt (by omega)
  unfold f_X12_costOf
  refine P_qc (P_and (d_tell hp hk w M) (P_T (t_X12_feels hn (nI p) (nI k) w M hG (by omega) (by omega) hw))) ?_
  rintro _ m1 ⟨⟨hF, e1⟩, _, g1, _⟩
  have l1 : LM m1 C K := LM_cg hL (fun c q1 q2 => e1 c (by omega)) (by rw [e1 77 (by decide)])
  refine P_qc (P_and (d_amt hn hK h240 99 999 0 m1 g1 l1 (by rw [l_99]; decide) (by decide)) (P_T (t_X12_byLaw hn 99 999 0 m1 g1 (by decide) (by decide) (by decide)))) ?_
  rintro r2 m3 ⟨hr2, _, g3, s3⟩
  refine P_ret ⟨?_, g3, fun c q1 q2 => ?_⟩
  · rw [hr2, l_99, amtL_F hF (by decide) hK]
    rfl
  · rw [← e1 c q2]; exact funext (fun s_ => s3 c s_ (out96 q1))
theorem cost_eq {n : Nat} {j p k : Nat} (hp : p < 8) (hk : k < 12) {C : List Int} {K : List Kl} {w : Int32} {A B : qM} (hE : RE 7 j C K A B) : csV C K n (A 4) (A 5) (A 7 9) p k w (A 9) (A 11) = csV C K n (B 81) (B 82) (B 78 313) p k w (B 78) (fun i => B 78 (192 + i)) := by
  obtain ⟨_, _, hD, hR, hO⟩ := hE
  rw [hO.2.1]
  exact csV_cg hp hk (hD.2.2 k hk).1 (hD.2.2 k hk).2.1 (fun i hi => (hR.1 i hi).1) (fun i hi => (hR.2 i hi).1)
theorem cost_2 {n : Nat} (hn : 200000 ≤ n) {j : Nat} (hj : q_isLaw j) {C : List Int} {K : List Kl} (hK : Kg (cdl C) C.length K) (h240 : C.length ≤ 240) (a1 a2 a3 : Int32) (A B : qM) (hE : RE 7 j C K A B) : q2 (f_X11_cost n j a1 a2 a3 A) (f_X12_cost n a1 a2 a3 B) (fun v1 _ v2 _ => v1 = v2) := by
  unfold f_X11_cost f_X12_cost
  refine q2_deal hE.2.2.1 hE.2.2.2.2.1 a1 a2 a3 (E1 := fun m2 => qc (f_X0_price n 7 j a1 a2 a3 m2) (fun r3 m4 => some (r3, m4))) (E2 := fun m6 => qc (f_X12_costOf n a1 a2 a3 m6) (fun r7 m8 => some (r7, m8))) rfl ?_
  rintro p k s hp hk hs _ rfl rfl rfl _
  have hw : 0 ≤ (nI s).toInt ∧ (nI s).toInt ≤ 8 := by rw [nI_toInt (by omega)]; omega
  refine q2_c1 (c_price hn hj hp hk hK (nI s) hw A hE.1.1 hE.2.1.1) ?_
  rintro v1 m1 ⟨h1, _, _⟩
  refine q2_c2 (d_costOf hn hp hk hK h240 (nI s) hw B hE.1.2 hE.2.1.2) ?_
  rintro v2 m2 ⟨h2, _, _⟩
  exact q2_ret (by rw [h1, h2]; exact cost_eq hp hk hE)
/-- what the class does where a first go is bought -/
abbrev BC (p k s : Nat) (pr : Int32) (M : qM) (v : Int32) (m : qM) : Prop := (M 9 (12 * s + k) = 0 ∧ v = -3 ∧ ∀ c, 7 ≤ c → c ≤ 15 → m c = M c) ∨ (M 9 (12 * s + k) ≠ 0 ∧ ¬ pr ≤ M 8 p ∧ v = -2 ∧ ∀ c, 7 ≤ c → c ≤ 15 → m c = M c) ∨ (M 9 (12 * s + k) ≠ 0 ∧ pr ≤ M 8 p ∧ v = pr ∧ (∀ c, 7 ≤ c → c ≤ 15 → c ≠ 8 → c ≠ 9 → c ≠ 10 → m c = M c) ∧ (m 8 p = M 8 p - pr ∧ m 8 s = qmin 99999 (M 8 s + pr) ∧ ∀ i, i ≠ p → i ≠ s → m 8 i = M 8 i) ∧ (m 9 (12 * s + k) = M 9 (12 * s + k) - 1 ∧ m 9 (12 * p + k) = qmin 999 (M 9 (12 * p + k) + 1) ∧ ∀ i, i ≠ 12 * s + k → i ≠ 12 * p + k → m 9 i = M 9 i) ∧ m 10 (12 * p + k) = M 7 9 ∧ ∀ i, i ≠ 12 * p + k → m 10 i = M 10 i)
theorem c_buyGo {n : Nat} (hn : 200000 ≤ n) {j p k s : Nat} (hj : q_isLaw j) (hp : p < 8) (hk : k < 12) (hs : s < 8) (hps : p ≠ s) {C : List Int} {K : List Kl} (hK : Kg (cdl C) C.length K) (M : qM) (hG : G M) (hL : LJ j M C K) : qP (f_X0_buyGo n 7 j (nI p) (nI k) (nI s) M) (BC p k s (csV C K n (M 4) (M 5) (M 7 9) p k (nI s) (M 9) (M 11)) M) := by
  have ep : (nI p).toNatClampNeg = p := by rw [tnc, nI_toInt (by omega)]; rfl
  have es : (nI s).toNatClampNeg = s := by rw [tnc, nI_toInt (by omega)]; rfl
  have hw : 0 ≤ (nI s).toInt ∧ (nI s).toInt ≤ 8 := by rw [nI_toInt (by omega)]; omega
  have hix := (ixn (p := s) (k := k) (by omega) (by omega)).1
  unfold f_X0_buyGo
  refine P_qg (fun _ _ => ?_)
  rw [hix]
  refine P_if (fun c => P_ret (Or.inl ⟨c, rfl, fun _ _ _ => rfl⟩)) (fun c => P_qc (c_price hn hj hp hk hK (nI s) hw M hG hL) ?_)
  rintro r1 m2 ⟨hr, _, o2⟩
  rw [← hr]
  refine P_qg (fun _ _ => ?_)
  rw [ep, o2 (7 + 1) (by decide) (by decide) (by decide)]
  refine P_if (fun c2 => ?_) (fun c2 => P_ret (Or.inr (Or.inl ⟨c, c2, rfl, fun c' h1 h2 => o2 c' (by omega) (by omega) (by omega)⟩)))
  refine P_qg (fun _ _ => P_qg (fun _ _ => P_m (fun m3 a1 a2 a3 => P_qg (fun _ _ => P_qg (fun _ _ => ?_)))))
  rw [es]
  refine P_m (fun m4 b1 b2 b3 => ?_)
  show qP (qg (nI s * (12 : Int32) + nI k) 96 (qg (nI s * (12 : Int32) + nI k) 96 (qlm (mu m4 (7 + 2) (nI s * (12 : Int32) + nI k).toNatClampNeg (m4 (7 + 2) (nI s * (12 : Int32) + nI k).toNatClampNeg - (1 : Int32))) (fun m6 => qc (f_X10_addTry n 7 (nI p) (nI k) m6) (fun _ m7 => some (r1, m7)))))) _
  refine P_qg (fun _ _ => P_qg (fun _ _ => ?_))
  rw [hix]
  refine P_m (fun m6 d1 d2 d3 => P_qc (c_addTry (t := 7) hp hk m6) ?_)
  rintro _ m7 ⟨f1, f2, f3, f4, f5⟩
  have hne : 12 * s + k ≠ 12 * p + k := by omega
  have o6 : ∀ c, c ≠ 8 → c ≠ 9 → c ≠ 34 → c ≠ 35 → c ≠ 36 → m6 c = M c := fun c h8 h9 h4 h5 h6 => by rw [d3 c h9, b3 c h8, a3 c h8, o2 c h4 h5 h6]
  have m29 : m4 9 = M 9 := by rw [b3 9 (by decide), a3 9 (by decide), o2 9 (by decide) (by decide) (by decide)]
  have m28 : m2 8 = M 8 := o2 8 (by decide) (by decide) (by decide)
  have m78 : m7 8 = m4 8 := by rw [f5 8 (by decide) (by decide), d3 8 (by decide)]
  refine P_ret (Or.inr (Or.inr ⟨c, c2, rfl, fun c' h1 h2 h8 h9 h10 => ?_, ⟨?_, ?_, fun i h1 h2 => ?_⟩, ⟨?_, ?_, fun i h1 h2 => ?_⟩, ?_, fun i h1 => ?_⟩))
  · rw [f5 c' h9 h10, o6 c' h8 h9 (by omega) (by omega) (by omega)]
  · rw [m78, b2 p hps]
    exact a1
  · rw [m78]
    refine b1.trans ?_
    rw [show m3 (7 + 1) s = M 8 s by rw [a2 s (fun z => hps z.symm), m28]]
  · rw [m78, b2 i h2, a2 i h1, m28]
  · refine (f2 _ hne).trans ?_
    refine d1.trans ?_
    rw [show m4 (7 + 2) = M 9 from m29]
  · refine f1.trans ?_
    rw [show m6 (7 + 2) (12 * p + k) = M 9 (12 * p + k) from (d2 _ hne.symm).trans (by rw [show m4 (7 + 2) = M 9 from m29])]
  · exact (f2 i h2).trans ((d2 i h1).trans (by rw [show m4 (7 + 2) = M 9 from m29]))
  · refine f3.trans ?_
    rw [o6 7 (by decide) (by decide) (by decide) (by decide) (by decide)]
  · refine (f4 i h1).trans ?_
    rw [show m6 (7 + 3) = M 10 from o6 10 (by decide) (by decide) (by decide) (by decide) (by decide)]
/-- what the model does where a first go is bought -/
abbrev BM (p k s : Nat) (pr : Int32) (M : qM) (v : Int32) (m : qM) : Prop := (M 78 (12 * s + k) = 0 ∧ v = -3 ∧ m 78 = M 78) ∨ (M 78 (12 * s + k) ≠ 0 ∧ ¬ pr ≤ M 78 (288 + p) ∧ v = -2 ∧ m 78 = M 78) ∨ (M 78 (12 * s + k) ≠ 0 ∧ pr ≤ M 78 (288 + p) ∧ v = pr ∧ (m 78 (288 + p) = M 78 (288 + p) - pr ∧ m 78 (288 + s) = qmin 99999 (M 78 (288 + s) + pr)) ∧ (m 78 (12 * s + k) = M 78 (12 * s + k) - 1 ∧ m 78 (96 + (12 * s + k)) = (if M 78 (12 * s + k) - 1 = 0 then -2 else M 78 (96 + (12 * s + k)))) ∧ (m 78 (12 * p + k) = qmin 999 (M 78 (12 * p + k) + 1) ∧ m 78 (96 + (12 * p + k)) = M 78 313) ∧ ∀ i, i ≠ 288 + p → i ≠ 288 + s → i ≠ 12 * s + k → i ≠ 96 + (12 * s + k) → i ≠ 12 * p + k → i ≠ 96 + (12 * p + k) → m 78 i = M 78 i)
theorem d_b182 {n p k : Nat} (hp : p < 8) (hk : k < 12) (a6 : Int32) (M : qM) : qP (f_X12_buys_182 n ((12 : Int32) * nI p + nI k) a6 M) (fun v m => v = a6 ∧ m 78 (12 * p + k) = qmin 999 (M 78 (12 * p + k) + 1) ∧ m 78 (96 + (12 * p + k)) = M 78 313 ∧ ∀ i, i ≠ 12 * p + k → i ≠ 96 + (12 * p + k) → m 78 i = M 78 i) := by
  have hix := ixm (p := p) (k := k) (by omega) (by omega)
  unfold f_X12_buys_182
  refine P_qg (fun _ _ => ?_)
  rw [hix.1, d_min, qc_v]
  refine P_qg (fun _ _ => P_m (fun m3 a1 a2 a3 => P_qg (fun _ _ => ?_)))
  rw [hix.2.1]
  refine P_m (fun m4 b1 b2 b3 => P_ret ⟨rfl, ?_, ?_, fun i h1 h2 => ?_⟩)
  · rw [b2 _ (by omega), a1]
  · rw [b1, a2 313 (by omega)]
  · rw [b2 i h2, a2 i h1]
theorem d_buyb {n : Nat} (hn : 200000 ≤ n) {p k s : Nat} (hp : p < 8) (hk : k < 12) (hs : s < 8) (hps : p ≠ s) {C : List Int} {K : List Kl} (hK : Kg (cdl C) C.length K) (h240 : C.length ≤ 240) (M : qM) (hG : G M) (hL : LM M C K) {r9 : Int32} (h9 : r9 = (12 : Int32) * nI p + nI k) {r7 : Int32} (h7 : r7 = (12 : Int32) * nI s + nI k) : qP (qg ((0 : Int32) + r7) 954 ((if (M 78 ((0 : Int32) + r7).toNatClampNeg) = (0 : Int32) then some ((-3 : Int32), M) else qc (f_X12_costOf n (nI p) (nI k) (nI s) M) (fun r11 m12 => qg ((288 : Int32) + nI p) 954 ((if r11 ≤ (m12 78 ((288 : Int32) + nI p).toNatClampNeg) then qg ((288 : Int32) + nI p) 954 (qg ((288 : Int32) + nI p) 954 (qlm (mu m12 78 ((288 : Int32) + nI p).toNatClampNeg ((m12 78 ((288 : Int32) + nI p).toNatClampNeg) - r11)) (fun m13 => qg ((288 : Int32) + nI s) 954 (qc (f_X12_min n (99999 : Int32) ((m13 78 ((288 : Int32) + nI s).toNatClampNeg) + r11) m13) (fun r14 m15 => qg ((288 : Int32) + nI s) 954 (qlm (mu m15 78 ((288 : Int32) + nI s).toNatClampNeg r14) (fun m16 => qg ((0 : Int32) + r7) 954 (qg ((0 : Int32) + r7) 954 (qlm (mu m16 78 ((0 : Int32) + r7).toNatClampNeg ((m16 78 ((0 : Int32) + r7).toNatClampNeg) - (1 : Int32))) (fun m17 => qg ((0 : Int32) + r7) 954 ((if (m17 78 ((0 : Int32) + r7).toNatClampNeg) = (0 : Int32) then qg ((96 : Int32) + r7) 954 (qlm (mu m17 78 ((96 : Int32) + r7).toNatClampNeg (-2 : Int32)) (fun m18 => f_X12_buys_182 n r9 r11 m18)) else f_X12_buys_182 n r9 r11 m17)))))))))))) else some ((-2 : Int32), m12))))))) (BM p k s (csV C K n (M 81) (M 82) (M 78 313) p k (nI s) (M 78) (fun i => M 78 (192 + i))) M) := by
  subst h9
  subst h7
  have hw : 0 ≤ (nI s).toInt ∧ (nI s).toInt ≤ 8 := by rw [nI_toInt (by omega)]; omega
  have hix := ixm (p := s) (k := k) (by omega) (by omega)
  have i288p := (ix78 hp).2.2
  have i288s := (ix78 hs).2.2
  refine P_qg (fun _ _ => ?_)
  rw [hix.1]
  refine P_if (fun c => P_ret (Or.inl ⟨c, rfl, rfl⟩)) (fun c => P_qc (d_costOf hn hp hk hK h240 (nI s) hw M hG hL) ?_)
  rintro r11 m12 ⟨hr, _, o2⟩
  rw [← hr]
  have m28 : m12 78 = M 78 := o2 78 (by decide) (by decide)
  refine P_qg (fun _ _ => ?_)
  rw [i288p, m28]
  refine P_if (fun c2 => ?_) (fun c2 => P_ret (Or.inr (Or.inl ⟨c, c2, rfl, m28⟩)))
  refine P_qg (fun _ _ => P_qg (fun _ _ => P_m (fun m13 a1 a2 _ => P_qg (fun _ _ => ?_))))
  rw [i288s, d_min, qc_v]
  refine P_qg (fun _ _ => P_m (fun m16 b1 b2 _ => P_qg (fun _ _ => P_qg (fun _ _ => ?_))))
  refine P_m (fun m17 d1 d2 _ => P_qg (fun _ _ => ?_))
  have hne : 12 * s + k ≠ 12 * p + k := by omega
  have e16 : m16 78 (12 * s + k) = M 78 (12 * s + k) := by rw [b2 _ (by omega), a2 _ (by omega), m28]
  have e17 : m17 78 (12 * s + k) = M 78 (12 * s + k) - 1 := by rw [d1, e16]
  have o17 : ∀ i, i ≠ 288 + p → i ≠ 288 + s → i ≠ 12 * s + k → m17 78 i = M 78 i := fun i h1 h2 h3 => by rw [d2 i h3, b2 i h2, a2 i h1, m28]
  have ps : m17 78 (288 + p) = M 78 (288 + p) - r11 := by rw [d2 _ (by omega), b2 _ (by omega), a1]
  have ss : m17 78 (288 + s) = qmin 99999 (M 78 (288 + s) + r11) := by rw [d2 _ (by omega), b1, a2 _ (by omega), m28]
  rw [e17]
  refine P_if (fun z => P_qg (fun _ _ => ?_)) (fun z => ?_)
  · rw [hix.2.1]
    refine P_m (fun m18 f1 f2 _ => P_mono (d_b182 hp hk r11 m18) (fun v m h => ?_))
    obtain ⟨h1, h2, h3, h4⟩ := h
    refine Or.inr (Or.inr ⟨c, c2, h1, ⟨?_, ?_⟩, ⟨?_, ?_⟩, ⟨?_, ?_⟩, fun i q1 q2 q3 q4 q5 q6 => ?_⟩)
    · rw [h4 _ (by omega) (by omega), f2 _ (by omega), ps]
    · rw [h4 _ (by omega) (by omega), f2 _ (by omega), ss]
    · rw [h4 _ (by omega) (by omega), f2 _ (by omega), e17]
    · rw [h4 _ (by omega) (by omega), f1, if_pos z]
    · rw [h2, f2 _ (by omega), o17 _ (by omega) (by omega) (by omega)]
    · rw [h3, f2 _ (by omega), o17 _ (by omega) (by omega) (by omega)]
    · rw [h4 i q5 q6, f2 i q4, o17 i q1 q2 q3]
  · refine P_mono (d_b182 hp hk r11 m17) (fun v m h => ?_)
    obtain ⟨h1, h2, h3, h4⟩ := h
    refine Or.inr (Or.inr ⟨c, c2, h1, ⟨?_, ?_⟩, ⟨?_, ?_⟩, ⟨?_, ?_⟩, fun i q1 q2 q3 q4 q5 q6 => ?_⟩)
    · rw [h4 _ (by omega) (by omega), ps]
    · rw [h4 _ (by omega) (by omega), ss]
    · rw [h4 _ (by omega) (by omega), e17]
    · rw [h4 _ (by omega) (by omega), o17 _ (by omega) (by omega) (by omega), if_neg z]
    · rw [h2, o17 _ (by omega) (by omega) (by omega)]
    · rw [h3, o17 _ (by omega) (by omega) (by omega)]
    · rw [h4 i q5 q6, o17 i q1 q2 q3]
theorem buy_TN {p k s : Nat} (hp : p < 8) (hk : k < 12) (hs : s < 8) (hps : p ≠ s) {pr v1 v2 : Int32} {A B m1 m2 : qM} (hT : TN 7 78 A B) (h : BC p k s pr A v1 m1) (g : BM p k s pr B v2 m2) : v1 = v2 ∧ TN 7 78 m1 m2 := by
  have hcs : A 9 (12 * s + k) = B 78 (12 * s + k) ∧ 0 ≤ (A 9 (12 * s + k)).toInt ∧ (A 9 (12 * s + k)).toInt ≤ 999 ∧ ((A 9 (12 * s + k) = 0 ∧ B 78 (96 + (12 * s + k)) = -2) ∨ (A 9 (12 * s + k) ≠ 0 ∧ A 10 (12 * s + k) = B 78 (96 + (12 * s + k)))) := hT.1.1 (12 * s + k) (by omega)
  have hcp : A 9 (12 * p + k) = B 78 (12 * p + k) ∧ 0 ≤ (A 9 (12 * p + k)).toInt ∧ (A 9 (12 * p + k)).toInt ≤ 999 ∧ ((A 9 (12 * p + k) = 0 ∧ B 78 (96 + (12 * p + k)) = -2) ∨ (A 9 (12 * p + k) ≠ 0 ∧ A 10 (12 * p + k) = B 78 (96 + (12 * p + k)))) := hT.1.1 (12 * p + k) (by omega)
  have hco : ∀ q, q < 8 → A 8 q = B 78 (288 + q) := hT.2.1.2.2
  rcases h with ⟨x1, x2, x3⟩ | ⟨x1, x2, x3, x4⟩ | ⟨x1, x2, x3, x4, ⟨x5, x6, x7⟩, ⟨x8, x9, x10⟩, x11, x12⟩ <;> rcases g with ⟨y1, y2, y3⟩ | ⟨y1, y2, y3, y4⟩ | ⟨y1, y2, y3, ⟨y4, y5⟩, ⟨y6, y7⟩, ⟨y8, y9⟩, y10⟩
  · exact ⟨by rw [x2, y2], TN_fr hT x3 (fun i _ => by rw [y3])⟩
  · exact absurd (by rw [← hcs.1]; exact x1) y1
  · exact absurd (by rw [← hcs.1]; exact x1) y1
  · exact absurd (by rw [← hcs.1] at y1; exact y1) x1
  · exact ⟨by rw [x3, y3], TN_fr hT x4 (fun i _ => by rw [y4])⟩
  · exact absurd (by rw [← hco p hp] at y2; exact y2) x2
  · exact absurd (by rw [← hcs.1] at y1; exact y1) x1
  · exact absurd (by rw [← hco p hp]; exact x2) y2
  · refine ⟨by rw [x3, y3], ⟨fun i hi => ?_, fun i hi => ?_⟩, ⟨?_, ?_, fun q hq => ?_⟩, fun q hq => ⟨?_, ?_, fun w hw hw2 => ?_⟩⟩
    · have hne : 12 * s + k ≠ 12 * p + k := by omega
      by_cases c1 : i = 12 * s + k
      · subst c1
        have t1 : 1 ≤ (A 9 (12 * s + k)).toInt := by
          have := hcs.2.1
          have z : (A 9 (12 * s + k)).toInt ≠ 0 := fun e => x1 (Int32.toInt_inj.mp (by rw [e]; rfl))
          omega
        have t2 := hcs.2.2.1
        have e1 : (A 9 (12 * s + k) - 1).toInt = (A 9 (12 * s + k)).toInt - 1 := i_sub rfl l_1 (by omega) (by omega)
        have l1 : m1 10 (12 * s + k) = A 10 (12 * s + k) := x12 _ hne
        have old : A 10 (12 * s + k) = B 78 (96 + (12 * s + k)) := (hcs.2.2.2.resolve_left (fun z => x1 z.1)).2
        show m1 9 (12 * s + k) = m2 78 (12 * s + k) ∧ 0 ≤ (m1 9 (12 * s + k)).toInt ∧ (m1 9 (12 * s + k)).toInt ≤ 999 ∧ ((m1 9 (12 * s + k) = 0 ∧ m2 78 (96 + (12 * s + k)) = -2) ∨ (m1 9 (12 * s + k) ≠ 0 ∧ m1 10 (12 * s + k) = m2 78 (96 + (12 * s + k))))
        rw [x8, y6, y7, l1, e1, ← hcs.1]
        refine ⟨rfl, by omega, by omega, ?_⟩
        by_cases z : A 9 (12 * s + k) - 1 = 0
        · exact Or.inl ⟨z, by rw [if_pos z]⟩
        · exact Or.inr ⟨z, by rw [if_neg z]; exact old⟩
      · by_cases c2 : i = 12 * p + k
        · subst c2
          have h9 := q999 (x := A 9 (12 * p + k)) ⟨hcp.2.1, hcp.2.2.1⟩
          show m1 9 (12 * p + k) = m2 78 (12 * p + k) ∧ 0 ≤ (m1 9 (12 * p + k)).toInt ∧ (m1 9 (12 * p + k)).toInt ≤ 999 ∧ ((m1 9 (12 * p + k) = 0 ∧ m2 78 (96 + (12 * p + k)) = -2) ∨ (m1 9 (12 * p + k) ≠ 0 ∧ m1 10 (12 * p + k) = m2 78 (96 + (12 * p + k))))
          rw [x9, y8, y9, x11, ← hcp.1]
          refine ⟨rfl, by omega, by omega, Or.inr ⟨fun z => ?_, hT.2.1.2.1⟩⟩
          rw [z, l_0] at h9; omega
        · show m1 9 i = m2 78 i ∧ 0 ≤ (m1 9 i).toInt ∧ (m1 9 i).toInt ≤ 999 ∧ ((m1 9 i = 0 ∧ m2 78 (96 + i) = -2) ∨ (m1 9 i ≠ 0 ∧ m1 10 i = m2 78 (96 + i)))
          rw [x10 i c1 c2, x12 i c2, y10 i (by omega) (by omega) c1 (by omega) c2 (by omega), y10 (96 + i) (by omega) (by omega) (by omega) (by omega) (by omega) (by omega)]
          exact hT.1.1 i hi
    · show m1 11 i = m2 78 (192 + i) ∧ 0 ≤ (m1 11 i).toInt ∧ (m1 11 i).toInt ≤ 999
      rw [x4 11 (by decide) (by decide) (by decide) (by decide) (by decide), y10 _ (by omega) (by omega) (by omega) (by omega) (by omega) (by omega)]
      exact hT.1.2 i hi
    · rw [x4 7 (by decide) (by decide) (by decide) (by decide) (by decide), y10 312 (by omega) (by omega) (by omega) (by omega) (by omega) (by omega)]
      exact hT.2.1.1
    · rw [x4 7 (by decide) (by decide) (by decide) (by decide) (by decide), y10 313 (by omega) (by omega) (by omega) (by omega) (by omega) (by omega)]
      exact hT.2.1.2.1
    · show m1 8 q = m2 78 (288 + q)
      by_cases c1 : q = p
      · rw [c1, x5, y4, ← hco p hp]
      · by_cases c2 : q = s
        · rw [c2, x6, y5, ← hco s hs]
        · rw [x7 q c1 c2, y10 _ (by omega) (by omega) (by omega) (by omega) (by omega) (by omega)]
          exact hco q hq
    · show m1 14 q = m2 78 (296 + q)
      rw [x4 14 (by decide) (by decide) (by decide) (by decide) (by decide), y10 _ (by omega) (by omega) (by omega) (by omega) (by omega) (by omega)]
      exact (hT.2.2 q hq).1
    · show m1 15 q = m2 78 (304 + q)
      rw [x4 15 (by decide) (by decide) (by decide) (by decide) (by decide), y10 _ (by omega) (by omega) (by omega) (by omega) (by omega) (by omega)]
      exact (hT.2.2 q hq).2.1
    · have hw3 : (w : Int) < (A 14 q).toInt := by rw [← x4 14 (by decide) (by decide) (by decide) (by decide) (by decide)]; exact hw2
      show m1 12 (40 * q + w) = m2 78 (314 + (40 * q + w)) ∧ m1 13 (40 * q + w) = m2 78 (634 + (40 * q + w))
      rw [x4 12 (by decide) (by decide) (by decide) (by decide) (by decide), x4 13 (by decide) (by decide) (by decide) (by decide) (by decide), y10 _ (by omega) (by omega) (by omega) (by omega) (by omega) (by omega), y10 _ (by omega) (by omega) (by omega) (by omega) (by omega) (by omega)]
      exact (hT.2.2 q hq).2.2 w hw hw3
theorem buys_2 {n : Nat} (hn : 200000 ≤ n) {j : Nat} (hj : q_isLaw j) {C : List Int} {K : List Kl} (hK : Kg (cdl C) C.length K) (h240 : C.length ≤ 240) (a1 a2 a3 : Int32) (A B : qM) (hE : RE 7 j C K A B) (hP : RP 7 78 A B) : q2 (f_X11_buys n j a1 a2 a3 A) (f_X12_buys n a1 a2 a3 B) (fun v1 m1 v2 m2 => v1 = v2 ∧ TN 7 78 m1 m2) := by
  have hTN : TN 7 78 A B := ⟨hE.2.2.2.1, hE.2.2.2.2, hP⟩
  unfold f_X11_buys f_X12_buys
  refine q2_deal hE.2.2.1 hE.2.2.2.2.1 a1 a2 a3 (E1 := fun m2 => qc (f_X0_buyGo n 7 j a1 a2 a3 m2) (fun r3 m4 => some (r3, m4))) ⟨rfl, hTN⟩ ?_
  rintro p k s hp hk hs hps rfl rfl rfl _
  refine q2_c1 (c_buyGo hn hj hp hk hs hps hK A hE.1.1 hE.2.1.1) ?_
  intro v1 m1 h1
  unfold f_X12_at
  rw [qc_v, qc_v]
  intro w1 n1 w2 n2 e1 e2
  cases e1
  have h2 := d_buyb hn hp hk hs hps hK h240 B hE.1.2 hE.2.1.2 rfl rfl w2 n2 e2
  rw [← cost_eq hp hk hE] at h2
  exact buy_TN hp hk hs hps hTN h1 h2
/-! days, tried: both sides -/
theorem days_2 {n : Nat} (hn : 200000 ≤ n) {j : Nat} (hj : q_isLaw j) {C : List Int} {K : List Kl} (hK : Kg (cdl C) C.length K) (h240 : C.length ≤ 240) (a1 : Int32) (A B : qM) (hE : RE 7 j C K A B) (hP : RP 7 78 A B) : q2 (f_X11_days n j a1 A) (f_X12_days n a1 B) (fun v1 m1 v2 m2 => v1 = v2 ∧ TN 7 78 m1 m2) := by
  have hTN : TN 7 78 A B := ⟨hE.2.2.2.1, hE.2.2.2.2, hP⟩
  unfold f_X11_days f_X12_days
  rw [in_eq, qc_v]
  by_cases c1 : a1 < (1 : Int32)
  · rw [if_pos c1, if_pos (Or.inl c1), if_pos (show (0 : Int32) = 0 by rfl)]
    exact q2_ret ⟨rfl, hTN⟩
  · rw [if_neg c1]
    by_cases c2 : a1 ≤ (60 : Int32)
    · have c3 : ¬ (a1 < (1 : Int32) ∨ (60 : Int32) < a1) := by
        rintro (z | z)
        · exact c1 z
        · rw [Int32.lt_iff_toInt_lt] at z
          rw [Int32.le_iff_toInt_le] at c2
          omega
      rw [if_pos c2, if_neg c3, if_neg (show ¬ (1 : Int32) = 0 by decide)]
      refine q2_qc (go_ag hn (Or.inl rfl) hj hK h240 a1 A B hE hP) ?_
      rintro _ m1 _ m2 ⟨hE5, hP5, hN5⟩
      exact q2_ret ⟨hN5.2.1, hE5.2.2.2.1, hE5.2.2.2.2, hP5⟩
    · have c3 : a1 < (1 : Int32) ∨ (60 : Int32) < a1 := by
        rw [Int32.le_iff_toInt_le] at c2
        exact Or.inr (by rw [Int32.lt_iff_toInt_lt]; omega)
      rw [if_neg c2, if_pos c3, if_pos (show (0 : Int32) = 0 by rfl)]
      exact q2_ret ⟨rfl, hTN⟩
theorem sw_y {k : Int32} {E D : qR} {l : List (Int32 × qR)} : qsw k ((k, E) :: l) D = E := if_pos rfl
theorem sw_n {x k : Int32} {E D : qR} {l : List (Int32 × qR)} (h : ¬ x = k) : qsw x ((k, E) :: l) D = qsw x l D := if_neg h
theorem sw_0 {x : Int32} {D : qR} : qsw x [] D = D := rfl
theorem nI_10 {p : Nat} (hp : p < 8) {a : Int32} (h : a - (10 : Int32) = nI p) : a = nI (10 + p) := by
  have e : a = nI p + (10 : Int32) := by rw [← h, Int32.sub_add_cancel]
  rw [e]
  refine nI_i ?_
  rw [i_add (nI_toInt (by omega)) l_10 (by omega) (by omega)]
  omega
theorem trial_2 {n : Nat} (hn : 200000 ≤ n) {j : Nat} {C : List Int} {K : List Kl} (A B : qM) (hE : RE 7 j C K A B) (hP : RP 7 78 A B) (hj : q_isLaw j) {E1 E2 : qM → qR} {Q : Int32 → qM → Int32 → qM → Prop} (h : ∀ A' B' : qM, RE 25 j C K A' B' → RP 25 78 A' B' → A' 3 = A 3 → (∀ i, i < 954 → B' 79 i = B 78 i) → q2 (E1 A') (E2 B') Q) : q2 (qc (f_X10_copy n 25 7 A) (fun _ m1 => E1 m1)) (qc (f_X12_copies n 78 79 B) (fun _ m1 => E2 m1)) Q := by
  refine q2_c1 (P_and (c_copy (t := 25) (u := 7) (by decide) A) (P_T (t_X10_copy_c25_7 hn A hE.1.1))) ?_
  rintro _ m1 ⟨⟨a1, a2⟩, _, _, g1, _⟩
  refine q2_c2 (P_and (d_copies (c1 := 78) (c2 := 79) (by decide) B) (P_T (t_X12_copies_c78_79 hn B hE.1.2))) ?_
  rintro _ m2 ⟨⟨b1, b2⟩, _, _, g2, _⟩
  have hTN : TN 7 78 A B := ⟨hE.2.2.2.1, hE.2.2.2.2, hP⟩
  have hT5 : TN 25 78 m1 m2 := TN_cp hTN a1 (fun i _ => by rw [b2 78 (by decide)])
  exact h m1 m2 ⟨⟨g1, g2⟩, ⟨LJ_cg hE.2.1.1 (fun q hq => a2 _ (by rcases hj with rfl | rfl <;> omega)), LM_cg hE.2.1.2 (fun c h1 h2 => b2 c (by omega)) (by rw [b2 77 (by decide)])⟩, KD_2 hE.2.2.1 (fun c h1 h2 => a2 c (by omega)) (by rw [b2 77 (by decide)]) (fun c h1 h2 => b2 c (by omega)), hT5.1, hT5.2.1⟩ hT5.2.2 (a2 3 (by decide)) b1
theorem tried_52 {n : Nat} (hn : 200000 ≤ n) {j : Nat} (hj : q_isLaw j) {C : List Int} {K : List Kl} (hK : Kg (cdl C) C.length K) (h240 : C.length ≤ 240) (a1 a2 s0 : Int32) (h1 : 1 ≤ a1.toInt ∧ a1.toInt ≤ 60) (h2 : (s0 = 0 ∧ 0 ≤ a2.toInt ∧ a2.toInt ≤ 5) ∨ (s0 = 1 ∧ ∃ p : Nat, p < 8 ∧ a2 - (10 : Int32) = nI p)) (A B : qM) (hE : RE 7 j C K A B) (hP : RP 7 78 A B) : q2 (f_X11_tried_52 n j a1 a2 s0 A) (f_X12_tried_43 n a1 a2 B) (fun v1 _ v2 m2 => v1 = v2 ∧ ∀ i, i < 954 → m2 78 i = B 78 i) := by
  unfold f_X11_tried_52 f_X12_tried_43
  refine trial_2 hn A B hE hP hj (E1 := fun m1 => qc (f_X0_goDays n 25 j a1 m1) (fun _ m2 => (if s0 = (0 : Int32) then qc (f_X0_cameOfDays n a2 m2) (fun r3 m4 => some (r3, m4)) else qc (f_X10_stepsLeft n 25 (a2 - (10 : Int32)) m2) (fun r5 m6 => some (r5, m6))))) (fun A' B' hE' hP' hB7 hB9 => ?_)
  refine q2_qc (R := fun _ m1 _ m2 => RA 25 j C K m1 m2 ∧ m2 79 = B' 79) (fun v1 m1 v2 m2 e1 e2 => ⟨go_ag hn (Or.inr rfl) hj hK h240 a1 A' B' hE' hP' v1 m1 v2 m2 e1 e2, ?_⟩) ?_
  · have S := (P_T (t_X12_daysGo hn a1 B' hE'.1.2 h1) v2 m2 e2).2.2.2
    exact funext (fun s => S 79 s (al2 (by omega) (al2 (by omega) (al2 (by omega) (al2 (by omega) (al2 (by omega) al0))))))
  rintro _ m1 _ m2 ⟨⟨hE5, hP5, hN5⟩, h79⟩
  have back : ∀ x y : Int32, x = y → q2 (some (x, m1)) (f_X12_tried_176 n y m2) (fun v1 _ v2 m2 => v1 = v2 ∧ ∀ i, i < 954 → m2 78 i = B 78 i) := by
    intro x y e
    unfold f_X12_tried_176
    refine q2_c2 (d_copies (c1 := 79) (c2 := 78) (by decide) m2) ?_
    rintro _ m ⟨q1, _⟩
    exact q2_ret ⟨e, fun i hi => by rw [q1 i hi, h79]; exact hB9 i hi⟩
  obtain ⟨n4, n5, n6, n7, n8, n9⟩ := hN5
  rcases h2 with ⟨rfl, h2, h3⟩ | ⟨rfl, p, hp, h2⟩
  · refine q2_i1 (fun _ => ?_) (fun z => absurd rfl z)
    unfold f_X0_cameOfDays
    have h6 : a2 = 0 ∨ a2 = 1 ∨ a2 = 2 ∨ a2 = 3 ∨ a2 = 4 ∨ a2 = 5 := by
      rcases (show a2.toInt = 0 ∨ a2.toInt = 1 ∨ a2.toInt = 2 ∨ a2.toInt = 3 ∨ a2.toInt = 4 ∨ a2.toInt = 5 by omega) with e | e | e | e | e | e
      · exact Or.inl (Int32.toInt_inj.mp (by rw [e]; rfl))
      · exact Or.inr (Or.inl (Int32.toInt_inj.mp (by rw [e]; rfl)))
      · exact Or.inr (Or.inr (Or.inl (Int32.toInt_inj.mp (by rw [e]; rfl))))
      · exact Or.inr (Or.inr (Or.inr (Or.inl (Int32.toInt_inj.mp (by rw [e]; rfl)))))
      · exact Or.inr (Or.inr (Or.inr (Or.inr (Or.inl (Int32.toInt_inj.mp (by rw [e]; rfl))))))
      · exact Or.inr (Or.inr (Or.inr (Or.inr (Or.inr (Int32.toInt_inj.mp (by rw [e]; rfl))))))
    rcases h6 with rfl | rfl | rfl | rfl | rfl | rfl
    · rw [sw_y, sw_y, qc_v]
      exact q2_v2 (back _ _ n4)
    · rw [sw_n (show ¬ (1 : Int32) = 0 by decide), sw_n (show ¬ (1 : Int32) = 0 by decide), sw_y, sw_y, qc_v]
      exact q2_v2 (back _ _ n5)
    · rw [sw_n (show ¬ (2 : Int32) = 0 by decide), sw_n (show ¬ (2 : Int32) = 0 by decide), sw_n (show ¬ (2 : Int32) = 1 by decide), sw_n (show ¬ (2 : Int32) = 1 by decide), sw_y, sw_y, qc_v]
      exact q2_v2 (back _ _ n7)
    · rw [sw_n (show ¬ (3 : Int32) = 0 by decide), sw_n (show ¬ (3 : Int32) = 0 by decide), sw_n (show ¬ (3 : Int32) = 1 by decide), sw_n (show ¬ (3 : Int32) = 1 by decide), sw_n (show ¬ (3 : Int32) = 2 by decide), sw_n (show ¬ (3 : Int32) = 2 by decide), sw_y, sw_y, qc_v]
      exact q2_v2 (back _ _ n8)
    · rw [sw_n (show ¬ (4 : Int32) = 0 by decide), sw_n (show ¬ (4 : Int32) = 0 by decide), sw_n (show ¬ (4 : Int32) = 1 by decide), sw_n (show ¬ (4 : Int32) = 1 by decide), sw_n (show ¬ (4 : Int32) = 2 by decide), sw_n (show ¬ (4 : Int32) = 2 by decide), sw_n (show ¬ (4 : Int32) = 3 by decide), sw_n (show ¬ (4 : Int32) = 3 by decide), sw_y, sw_y, qc_v]
      exact q2_v2 (back _ _ n9)
    · rw [sw_n (show ¬ (5 : Int32) = 0 by decide), sw_n (show ¬ (5 : Int32) = 0 by decide), sw_n (show ¬ (5 : Int32) = 1 by decide), sw_n (show ¬ (5 : Int32) = 1 by decide), sw_n (show ¬ (5 : Int32) = 2 by decide), sw_n (show ¬ (5 : Int32) = 2 by decide), sw_n (show ¬ (5 : Int32) = 3 by decide), sw_n (show ¬ (5 : Int32) = 3 by decide), sw_n (show ¬ (5 : Int32) = 4 by decide), sw_n (show ¬ (5 : Int32) = 4 by decide), sw_0, sw_y, qc_v]
      exact q2_v2 (back _ _ n6)
  · refine q2_i1 (fun z => absurd z (by decide)) (fun _ => ?_)
    have ea := nI_10 hp h2
    have ta : a2.toInt = ((10 + p : Nat) : Int) := by rw [ea, nI_toInt (by omega)]
    have nk : ∀ k : Int32, k.toInt ≤ 9 → ¬ a2 = k := fun k hk e => by rw [e] at ta; omega
    have ep : (nI p).toNatClampNeg = p := by rw [tnc, nI_toInt (by omega)]; rfl
    have x296 : (((296 : Int32) + a2) - (10 : Int32)).toNatClampNeg = 296 + p := by
      rw [tnc, i_sub (i_add l_296 ta (by omega) (by omega)) l_10 (by omega) (by omega)]; omega
    have x304 : (((304 : Int32) + a2) - (10 : Int32)).toNatClampNeg = 304 + p := by
      rw [tnc, i_sub (i_add l_304 ta (by omega) (by omega)) l_10 (by omega) (by omega)]; omega
    unfold f_X10_stepsLeft
    rw [sw_n (nk 0 (by decide)), sw_n (nk 1 (by decide)), sw_n (nk 2 (by decide)), sw_n (nk 3 (by decide)), sw_n (nk 4 (by decide)), sw_n (nk 5 (by decide)), sw_0, h2]
    refine q2_g2 (fun _ _ => q2_g2 (fun _ _ => q2_v2 ?_))
    rw [x296, x304]
    refine q2_c1 (R := fun v m => v = m1 (25 + 7) p - m1 (25 + 8) p ∧ m = m1) (P_qg (fun _ _ => P_qg (fun _ _ => P_ret ⟨by rw [ep], rfl⟩))) ?_
    rintro v m ⟨rfl, rfl⟩
    refine back _ _ ?_
    rw [(hP5 p hp).1, (hP5 p hp).2.1]
theorem tried_2 {n : Nat} (hn : 200000 ≤ n) {j : Nat} (hj : q_isLaw j) {C : List Int} {K : List Kl} (hK : Kg (cdl C) C.length K) (h240 : C.length ≤ 240) (a1 a2 : Int32) (A B : qM) (hE : RE 7 j C K A B) (hP : RP 7 78 A B) : q2 (f_X11_tried n j a1 a2 A) (f_X12_tried n a1 a2 B) (fun v1 _ v2 m2 => v1 = v2 ∧ ∀ i, i < 954 → m2 78 i = B 78 i) := by
  have bad : q2 (some ((-1 : Int32), A)) (some ((-1 : Int32), B)) (fun v1 _ v2 m2 => v1 = v2 ∧ ∀ i, i < 954 → m2 78 i = B 78 i) := q2_ret ⟨rfl, fun _ _ => rfl⟩
  have z0 : (0 : Int32) = 0 := rfl
  have z1 : ¬ (1 : Int32) = 0 := by decide
  have go24 : a2.toInt < 10 ∨ (∃ r, f_X12_isPerson n (a2 - (10 : Int32)) B = some (r, B) ∧ r = 0) → q2 (f_X11_tried_24 n j a1 a2 A) (f_X12_tried n a1 a2 B) (fun v1 _ v2 m2 => v1 = v2 ∧ ∀ i, i < 954 → m2 78 i = B 78 i) := by
    intro hno
    unfold f_X11_tried_24 f_X11_tried_25 f_X12_tried
    rw [in_eq, qc_v]
    by_cases c1 : a1 < (1 : Int32)
    · rw [if_pos c1, if_pos (Or.inl c1), if_pos z0]; exact bad
    rw [if_neg c1]
    by_cases c2 : (60 : Int32) < a1
    · rw [if_pos c2, if_pos (Or.inr c2), if_pos z0]; exact bad
    rw [if_neg c2, if_neg (show ¬ (a1 < (1 : Int32) ∨ (60 : Int32) < a1) from fun z => z.elim c1 c2), if_neg z1, in_eq, qc_v, if_pos z0]
    have h1 : 1 ≤ a1.toInt ∧ a1.toInt ≤ 60 := by
      rw [Int32.lt_iff_toInt_lt, l_1] at c1
      rw [Int32.lt_iff_toInt_lt, l_60] at c2
      omega
    have last : q2 (some ((-1 : Int32), A)) (qc (f_X12_in n a2 (10 : Int32) (17 : Int32) B) (fun r5 m6 => (if r5 = (0 : Int32) then some ((-1 : Int32), m6) else qc (f_X12_isPerson n (a2 - (10 : Int32)) m6) (fun r7 m8 => (if r7 = (0 : Int32) then some ((-1 : Int32), m8) else f_X12_tried_43 n a1 a2 m8))))) (fun v1 _ v2 m2 => v1 = v2 ∧ ∀ i, i < 954 → m2 78 i = B 78 i) := by
      rw [in_eq, qc_v]
      refine q2_i2 (fun _ => bad) (fun c => ?_)
      have c5 : ¬ (a2 < (10 : Int32) ∨ (17 : Int32) < a2) := fun z => c (if_pos z)
      rcases hno with z | ⟨r, e, rfl⟩
      · exact absurd (Or.inl (by rw [Int32.lt_iff_toInt_lt, l_10]; exact z)) c5
      · rw [e, qc_v, if_pos z0]; exact bad
    by_cases c3 : a2 < (0 : Int32)
    · rw [if_pos c3, if_pos (show a2 < (0 : Int32) ∨ (5 : Int32) < a2 from Or.inl c3), if_pos z0]; exact last
    rw [if_neg c3]
    by_cases c4 : a2 ≤ (5 : Int32)
    · have c5 : ¬ (a2 < (0 : Int32) ∨ (5 : Int32) < a2) := by
        rintro (z | z)
        · exact c3 z
        · rw [Int32.lt_iff_toInt_lt] at z
          rw [Int32.le_iff_toInt_le] at c4
          omega
      rw [if_pos c4, if_neg c5, if_neg z1]
      refine tried_52 hn hj hK h240 a1 a2 0 h1 (Or.inl ⟨rfl, ?_, ?_⟩) A B hE hP
      · rw [Int32.lt_iff_toInt_lt, l_0] at c3; omega
      · rw [Int32.le_iff_toInt_le, l_5] at c4; exact c4
    · have c5 : a2 < (0 : Int32) ∨ (5 : Int32) < a2 := by
        rw [Int32.le_iff_toInt_le] at c4
        exact Or.inr (by rw [Int32.lt_iff_toInt_lt]; omega)
      rw [if_neg c4, if_pos c5, if_pos z0]; exact last
  unfold f_X11_tried
  by_cases c : a2 < (10 : Int32)
  · rw [if_pos c]
    exact go24 (Or.inl (by rw [Int32.lt_iff_toInt_lt, l_10] at c; exact c))
  rw [if_neg c]
  rw [Int32.lt_iff_toInt_lt, l_10] at c
  obtain ⟨r, p1, p2, hr⟩ := pn_2 (n := n) hE.2.2.2.2.1 (a2 - (10 : Int32))
  rw [p1, qc_v]
  rcases hr with rfl | ⟨rfl, p, hp, ep⟩
  · rw [if_pos z0]
    exact go24 (Or.inr ⟨0, p2, rfl⟩)
  rw [if_neg z1]
  have ea := nI_10 hp ep
  have ta : a2.toInt = ((10 + p : Nat) : Int) := by rw [ea, nI_toInt (by omega)]
  unfold f_X11_tried_25 f_X12_tried
  rw [in_eq, qc_v]
  by_cases c1 : a1 < (1 : Int32)
  · rw [if_pos c1, if_pos (Or.inl c1), if_pos z0]; exact bad
  rw [if_neg c1]
  by_cases c2 : (60 : Int32) < a1
  · rw [if_pos c2, if_pos (Or.inr c2), if_pos z0]; exact bad
  rw [if_neg c2, if_neg (show ¬ (a1 < (1 : Int32) ∨ (60 : Int32) < a1) from fun z => z.elim c1 c2), if_neg z1, in_eq, qc_v, if_neg z1]
  have h1 : 1 ≤ a1.toInt ∧ a1.toInt ≤ 60 := by
    rw [Int32.lt_iff_toInt_lt, l_1] at c1
    rw [Int32.lt_iff_toInt_lt, l_60] at c2
    omega
  rw [if_pos (show a2 < (0 : Int32) ∨ (5 : Int32) < a2 from Or.inr (by rw [Int32.lt_iff_toInt_lt, ta, l_5]; omega)), if_pos z0, in_eq, qc_v, if_neg (show ¬ (a2 < (10 : Int32) ∨ (17 : Int32) < a2) by rw [Int32.lt_iff_toInt_lt, Int32.lt_iff_toInt_lt, ta, l_10, l_17]; omega), if_neg z1, p2, qc_v, if_neg z1]
  exact tried_52 hn hj hK h240 a1 a2 1 h1 (Or.inr ⟨rfl, p, hp, ep⟩) A B hE hP
/-! has: both sides -/
theorem d_pre {n : Nat} (hn : 200000 ≤ n) {p k : Nat} (hp : p < 8) (hk : k < 12) {C : List Int} {K : List Kl} (hK : Kg (cdl C) C.length K) (h240 : C.length ≤ 240) (w : Int32) (hw : 0 ≤ w.toInt ∧ w.toInt ≤ 8) (M : qM) (hG : G M) (hL : LM M C K) {b : Int32} (hb : ∀ q, q < 12 → (bitI b q ↔ mA (M 77 6) C K n (M 81) (M 82) (M 78 313) k q)) (hT : ∀ i, i < 96 → 0 ≤ (M 78 i).toInt) {E : Int32 → Int32 → qM → qR} {Q : Int32 → qM → Prop} (h : ∀ (T1 : Nat → Int32) (r2 r4 : Int32) (m : qM), Fgt (mP M C K n p k) p (M 78) T1 → r2 = smB T1 p b 12 → r4 = vdV C K n (M 81) (M 82) (M 78 313) p k w T1 (fun i => M 78 (192 + i)) → (∀ i, i < 96 → m 78 (192 + i) = M 78 (192 + i)) → (∀ c, c ≠ 78 → c ≠ 96 → c ≠ 97 → m c = M c) → qP (E r2 r4 m) Q) : qP (qc (f_X12_forgets n (nI p) (nI k) M) (fun _ m1 => qc (f_X12_oldOnes n (nI p) (nI k) m1) (fun r2 m3 => qc (f_X12_voidFor n (nI p) (nI k) w m3) (fun r4 m5 => E r2 r4 m5)))) Q := by
  refine P_qc (d_forget hn hp hk hK h240 M hG hL) ?_
  rintro _ m1 ⟨f1, f2, f3, g1, l1⟩
  have eD : m1 78 313 = M 78 313 := f2 313 (fun q hq => by omega)
  have eN : ∀ i, i < 96 → m1 78 (192 + i) = M 78 (192 + i) := fun i hi => f2 _ (fun q hq => by omega)
  have m77 : m1 77 = M 77 := f3 77 (by decide) (by decide) (by decide)
  have m81 : m1 81 = M 81 := f3 81 (by decide) (by decide) (by decide)
  have m82 : m1 82 = M 82 := f3 82 (by decide) (by decide) (by decide)
  have hFg : Fgt (mP M C K n p k) p (M 78) (m1 78) := ⟨fun q hq => ⟨fun z => ((f1 q hq).1 z).1, fun z => ((f1 q hq).2 z).1⟩, fun i hi h => f2 i (fun q hq => ⟨h q hq, by omega⟩)⟩
  have hT1 : ∀ i, i < 96 → 0 ≤ (m1 78 i).toInt := by
    intro i hi
    by_cases c : ∃ q, q < 12 ∧ i = 12 * p + q
    · obtain ⟨q, hq, rfl⟩ := c
      by_cases z : mP M C K n p k q
      · rw [((f1 q hq).1 z).1]; decide
      · rw [((f1 q hq).2 z).1]; exact hT _ hi
    · rw [f2 i (fun q hq => ⟨fun e => c ⟨q, hq, e⟩, by omega⟩)]; exact hT i hi
  refine P_qc (d_old hn hp hk hK h240 m1 (b := b) (by rw [m77, m81, m82, eD]; exact hb) hT1 g1 l1) ?_
  rintro r2 m3 ⟨hr2, o3, g3⟩
  have l3 : LM m3 C K := LM_cg l1 (fun c q1 q2 => o3 c (by omega) (by omega)) (by rw [o3 77 (by decide) (by decide)])
  refine P_qc (d_void hn hp hk hK h240 w hw m3 g3 l3) ?_
  rintro r4 m5 ⟨hr4, o5, g5⟩
  rw [o3 81 (by decide) (by decide), o3 82 (by decide) (by decide), o3 78 (by decide) (by decide), m81, m82, eD] at hr4
  have hvN : vdV C K n (M 81) (M 82) (M 78 313) p k w (m1 78) (fun i => m1 78 (192 + i)) = vdV C K n (M 81) (M 82) (M 78 313) p k w (m1 78) (fun i => M 78 (192 + i)) := by
    unfold vdV
    simp only [eN (12 * p + k) (show 12 * p + k < 96 by omega)]
  rw [hvN] at hr4
  have m578 : m5 78 = m1 78 := by rw [o5 78 (by decide) (by decide), o3 78 (by decide) (by decide)]
  exact h (m1 78) r2 r4 m5 hFg hr2 hr4 (fun i hi => by rw [m578]; exact eN i hi) (fun c q0 q1 q2 => by rw [o5 c q1 q2, o3 c q1 q2, f3 c q0 q1 q2])
theorem has_ag {n : Nat} (hn : 200000 ≤ n) {j p k : Nat} (hj : q_isLaw j) (hp : p < 8) (hk : k < 12) {C : List Int} {K : List Kl} (hK : Kg (cdl C) C.length K) (h240 : C.length ≤ 240) {A B : qM} (hE : RE 25 j C K A B) (htold : bitI (A 3 3) k) (a3 : Int32) {D : Nat → Int32} (h79 : ∀ i, i < 954 → B 79 i = D i) : q2 (qc (f_X0_attempt n 25 j (nI p) (nI k) (8 : Int32) A) (fun r7 m8 => (if a3 = (3 : Int32) then some ((m8 44 2), m8) else (if a3 = (4 : Int32) then some ((m8 44 3), m8) else (if r7 = (1 : Int32) then some ((1 : Int32), m8) else some ((0 : Int32), m8)))))) (qc (f_X12_forgets n (nI p) (nI k) B) (fun _ m10 => qc (f_X12_oldOnes n (nI p) (nI k) m10) (fun r11 m12 => qc (f_X12_voidFor n (nI p) (nI k) (8 : Int32) m12) (fun r13 m14 => (if r11 < r13 then f_X12_has_136 n a3 r11 r13 m14 else qc (f_X12_hasNeeds n (nI p) (nI k) m14) (fun r15 m16 => (if r15 = (0 : Int32) then f_X12_has_136 n a3 r11 r13 m16 else f_X12_has_137 n a3 r11 r13 (1 : Int32) m16))))))) (fun v1 _ v2 m2 => v1 = v2 ∧ ∀ i, i < 954 → m2 78 i = D i) := by
  obtain ⟨⟨gA, gB⟩, ⟨hL, hM⟩, hD, hR, hO⟩ := hE
  have hd := hO.2.1
  have hw : 0 ≤ (8 : Int32).toInt ∧ (8 : Int32).toInt ≤ 8 := by decide
  have hTA : ∀ i, i < 96 → 0 ≤ (A (25 + 2) i).toInt ∧ (A (25 + 2) i).toInt ≤ 999 := fun i hi => ⟨(hR.1 i hi).2.1, (hR.1 i hi).2.2.1⟩
  refine q2_c1 (c_att hn (Or.inr rfl) hj hp hk hK 8 hw A gA hL hD.2.1 (fun i hi => (hTA i hi).1)) ?_
  rintro v1 m1 ⟨T1, b, hb, hF1, q2', q3', _, _, ha1⟩
  have hb2 : ∀ q, q < 12 → (bitI b q ↔ mA (B 77 6) C K n (B 81) (B 82) (B 78 313) k q) := fun q hq => by rw [hb q hq, cA_iff hD hk hq htold, hd]
  have hPQ := fun q hq => fgP_iff hD hR hd (C := C) (K := K) (n := n) (p := p) (k := k) (q := q) hp hk hq htold
  have eh : hcv (fun i => B 78 (192 + i)) p (B 83 k) 12 = hcv (A (25 + 4)) p (A 6 k) 12 := by
    rw [← (hD.2.2 k hk).2.2]
    exact hcv_cg hp (fun i hi => (hR.2 i hi).1.symm) (Nat.le_refl _)
  have fin : ∀ (s0 r11 r13 : Int32) (m : qM), (∀ i, i < 954 → m 79 i = D i) → r11 = m1 44 2 → r13 = m1 44 3 → ((s0 = 0 ∧ v1 ≠ 1) ∨ (s0 = 1 ∧ v1 = 1)) → qP (f_X12_has_137 n a3 r11 r13 s0 m) (fun v2 m2 => (if a3 = (3 : Int32) then m1 44 2 else if a3 = (4 : Int32) then m1 44 3 else if v1 = (1 : Int32) then 1 else 0) = v2 ∧ ∀ i, i < 954 → m2 78 i = D i) := by
    intro s0 r11 r13 m hm e1 e2 hs
    unfold f_X12_has_137
    refine P_qc (d_copies (c1 := 79) (c2 := 78) (by decide) m) ?_
    rintro _ m' ⟨w1, _⟩
    have hm' : ∀ i, i < 954 → m' 78 i = D i := fun i hi => by rw [w1 i hi]; exact hm i hi
    refine P_if (fun c => P_ret ⟨by rw [if_pos c, e1], hm'⟩) (fun c => P_if (fun c2 => P_ret ⟨by rw [if_neg c, if_pos c2, e2], hm'⟩) (fun c2 => ?_))
    rcases hs with ⟨rfl, hv⟩ | ⟨rfl, hv⟩
    · exact P_if (fun _ => P_ret ⟨by rw [if_neg c, if_neg c2, if_neg hv], hm'⟩) (fun z => absurd rfl z)
    · exact P_if (fun z => absurd z (by decide)) (fun _ => P_ret ⟨by rw [if_neg c, if_neg c2, if_pos hv], hm'⟩)
  have mod := d_pre hn hp hk hK h240 8 hw B gB hM hb2 (fun i hi => by rw [← (hR.1 i hi).1]; exact (hTA i hi).1) (E := fun r11 r13 m14 => (if r11 < r13 then f_X12_has_136 n a3 r11 r13 m14 else qc (f_X12_hasNeeds n (nI p) (nI k) m14) (fun r15 m16 => (if r15 = (0 : Int32) then f_X12_has_136 n a3 r11 r13 m16 else f_X12_has_137 n a3 r11 r13 (1 : Int32) m16)))) (Q := fun v2 m2 => (if a3 = (3 : Int32) then m1 44 2 else if a3 = (4 : Int32) then m1 44 3 else if v1 = (1 : Int32) then 1 else 0) = v2 ∧ ∀ i, i < 954 → m2 78 i = D i) (fun U1 r2 r4 m hF2 hr2 hr4 hN ho => by
    have hTU := Fgt_eq hp hF1 hF2 hPQ (fun i hi => (hR.1 i hi).1)
    have es : smB U1 p b 12 = smB T1 p b 12 := smB_cg hp (fun _ _ => Iff.rfl) (fun i hi => (hTU i hi).symm) (Nat.le_refl _)
    have ev : vdV C K n (B 81) (B 82) (B 78 313) p k 8 U1 (fun i => B 78 (192 + i)) = vdV C K n (A 4) (A 5) (A 25 9) p k 8 T1 (A (25 + 4)) := by
      rw [← hd]
      exact vdV_cg hp hk (hD.2.2 k hk).1.symm (hD.2.2 k hk).2.1.symm (fun i hi => (hTU i hi).symm) (fun i hi => (hR.2 i hi).1.symm)
    have x2 : r2 = m1 44 2 := by rw [hr2, es, q2']
    have x4 : r4 = m1 44 3 := by rw [hr4, ev, q3']
    have m79 : ∀ i, i < 954 → m 79 i = D i := fun i hi => by rw [ho 79 (by decide) (by decide) (by decide)]; exact h79 i hi
    have eN : hcv (fun i => m 78 (192 + i)) p (m 83 k) 12 = hcv (A (25 + 4)) p (A 6 k) 12 := by
      rw [ho 83 (by decide) (by decide) (by decide), ← eh]
      exact hcv_cg hp (fun i hi => hN i hi) (Nat.le_refl _)
    show qP (if r2 < r4 then f_X12_has_136 n a3 r2 r4 m else qc (f_X12_hasNeeds n (nI p) (nI k) m) (fun r15 m16 => (if r15 = (0 : Int32) then f_X12_has_136 n a3 r2 r4 m16 else f_X12_has_137 n a3 r2 r4 (1 : Int32) m16))) _
    rw [← q2', ← q3', ← x2, ← x4] at ha1
    refine P_lt rfl rfl (fun c => ?_) (fun c => P_qc (d_needs hp hk m) ?_)
    · refine fin 0 r2 r4 m m79 x2 x4 (Or.inl ⟨rfl, fun e => ?_⟩)
      rcases ha1 with ⟨_, z, _⟩ | ⟨z, _⟩ | ⟨z, _⟩
      · rw [z] at e; exact absurd e (by decide)
      · omega
      · omega
    · rintro r15 m16 ⟨hr15, rfl⟩
      rw [eN] at hr15
      rw [← hr15] at ha1
      refine P_if (fun c5 => ?_) (fun c5 => ?_)
      · refine fin 0 r2 r4 m16 m79 x2 x4 (Or.inl ⟨rfl, fun e => ?_⟩)
        rcases ha1 with ⟨_, z, _⟩ | ⟨_, _, z, _⟩ | ⟨_, z, _⟩
        · rw [z] at e; exact absurd e (by decide)
        · rw [z] at e; exact absurd e (by decide)
        · exact z c5
      · refine fin 1 r2 r4 m16 m79 x2 x4 (Or.inr ⟨rfl, ?_⟩)
        rcases ha1 with ⟨z, _⟩ | ⟨_, z, _⟩ | ⟨_, _, z, _⟩
        · omega
        · exact absurd z c5
        · exact z)
  intro w1 n1 w2 n2 e1 e2
  obtain ⟨y1, y2⟩ := mod w2 n2 e2
  refine ⟨?_, y2⟩
  rw [← y1]
  by_cases c3 : a3 = (3 : Int32)
  · rw [if_pos c3] at e1 ⊢
    cases e1; rfl
  · by_cases c4 : a3 = (4 : Int32)
    · rw [if_neg c3, if_pos c4] at e1 ⊢
      cases e1; rfl
    · rw [if_neg c3, if_neg c4] at e1 ⊢
      by_cases c5 : v1 = (1 : Int32)
      · rw [if_pos c5] at e1 ⊢
        cases e1; rfl
      · rw [if_neg c5] at e1 ⊢
        cases e1; rfl
theorem has_2 {n : Nat} (hn : 200000 ≤ n) {j : Nat} (hj : q_isLaw j) {C : List Int} {K : List Kl} (hK : Kg (cdl C) C.length K) (h240 : C.length ≤ 240) (a1 a2 a3 : Int32) (A B : qM) (hE : RE 7 j C K A B) (hP : RP 7 78 A B) : q2 (f_X11_has n j a1 a2 a3 A) (f_X12_has n a1 a2 a3 B) (fun v1 _ v2 m2 => v1 = v2 ∧ ∀ i, i < 954 → m2 78 i = B 78 i) := by
  have bad : q2 (some ((-1 : Int32), A)) (some ((-1 : Int32), B)) (fun v1 _ v2 m2 => v1 = v2 ∧ ∀ i, i < 954 → m2 78 i = B 78 i) := q2_ret ⟨rfl, fun _ _ => rfl⟩
  have z0 : (0 : Int32) = 0 := rfl
  have z1 : ¬ (1 : Int32) = 0 := by decide
  unfold f_X11_has f_X12_has
  obtain ⟨r1, p1, p2, hr1⟩ := pn_2 (n := n) hE.2.2.2.2.1 a1
  rw [p1, p2, qc_v, qc_v]
  rcases hr1 with rfl | ⟨rfl, p, hp, rfl⟩
  · rw [if_pos z0, if_pos z0]; exact bad
  rw [if_neg z1, if_neg z1]
  obtain ⟨r2, k1, k2, hr2⟩ := kn_2 (n := n) hE.2.2.1 a2
  rw [k1, k2, qc_v, qc_v]
  rcases hr2 with ⟨rfl, _⟩ | ⟨rfl, k, hk, rfl, hb⟩
  · rw [if_pos z0, if_pos z0]; exact bad
  rw [if_neg z1, if_neg z1, in_eq, qc_v]
  by_cases c1 : a3 < (0 : Int32)
  · rw [if_pos c1, if_pos (show a3 < (0 : Int32) ∨ (5 : Int32) < a3 from Or.inl c1), if_pos z0]; exact bad
  rw [if_neg c1]
  by_cases c2 : a3 ≤ (5 : Int32)
  · have c5 : ¬ (a3 < (0 : Int32) ∨ (5 : Int32) < a3) := by
      rintro (z | z)
      · exact c1 z
      · rw [Int32.lt_iff_toInt_lt] at z
        rw [Int32.le_iff_toInt_le] at c2
        omega
    rw [if_pos c2, if_neg c5, if_neg z1]
    unfold f_X12_at
    rw [qc_v]
    refine q2_v1 ?_
    have hix := ixm (p := p) (k := k) (by omega) (by omega)
    have hcx := (ixn (p := p) (k := k) (by omega) (by omega)).1
    have hR : A 9 (12 * p + k) = B 78 (12 * p + k) ∧ 0 ≤ (A 9 (12 * p + k)).toInt ∧ (A 9 (12 * p + k)).toInt ≤ 999 ∧ ((A 9 (12 * p + k) = 0 ∧ B 78 (96 + (12 * p + k)) = -2) ∨ (A 9 (12 * p + k) ≠ 0 ∧ A 10 (12 * p + k) = B 78 (96 + (12 * p + k)))) := hE.2.2.2.1.1 (12 * p + k) (by omega)
    by_cases d0 : a3 = (0 : Int32)
    · rw [if_pos d0, if_pos d0]
      refine q2_g1 (fun _ _ => q2_g2 (fun _ _ => q2_ret ⟨?_, fun _ _ => rfl⟩))
      rw [hcx, hix.1]; exact hR.1
    rw [if_neg d0, if_neg d0]
    by_cases d1 : a3 = (1 : Int32)
    · rw [if_pos d1, if_pos d1]
      refine q2_g1 (fun _ _ => q2_g2 (fun _ _ => q2_ret ⟨?_, fun _ _ => rfl⟩))
      rw [hcx, hix.2.2]; exact (hE.2.2.2.1.2 _ (by omega)).1
    rw [if_neg d1, if_neg d1]
    by_cases d2 : a3 = (2 : Int32)
    · rw [if_pos d2, if_pos d2]
      refine q2_g1 (fun _ _ => q2_g2 (fun _ _ => ?_))
      rw [hcx, hix.2.1]
      refine q2_i1 (fun c => q2_ret ⟨?_, fun _ _ => rfl⟩) (fun c => q2_g1 (fun _ _ => q2_ret ⟨?_, fun _ _ => rfl⟩))
      · rw [Int32.le_iff_toInt_le, l_0] at c
        rcases hR.2.2.2 with ⟨_, z⟩ | ⟨z, _⟩
        · exact z.symm
        · exact absurd (Int32.toInt_inj.mp (by rw [l_0]; omega)) z
      · rw [Int32.le_iff_toInt_le, l_0] at c
        rcases hR.2.2.2 with ⟨z, _⟩ | ⟨_, z⟩
        · rw [z, l_0] at c; omega
        · exact z
    rw [if_neg d2, if_neg d2]
    refine trial_2 hn A B hE hP hj (E1 := fun m6 => qc (f_X0_attempt n 25 j (nI p) (nI k) (8 : Int32) m6) (fun r7 m8 => (if a3 = (3 : Int32) then some ((m8 44 2), m8) else (if a3 = (4 : Int32) then some ((m8 44 3), m8) else (if r7 = (1 : Int32) then some ((1 : Int32), m8) else some ((0 : Int32), m8)))))) (fun A' B' hE' hP' hB7 hB9 => ?_)
    have hb' : bitI (A' 3 3) k := by
      rw [hB7]; exact hb
    exact has_ag hn hj hp hk hK h240 hE' hb' a3 hB9
  · have c5 : a3 < (0 : Int32) ∨ (5 : Int32) < a3 := by
      rw [Int32.le_iff_toInt_le] at c2
      exact Or.inr (by rw [Int32.lt_iff_toInt_lt]; omega)
    rw [if_neg c2, if_pos c5, if_pos z0]; exact bad
/-! person, plan: what they leave in the towns -/
theorem c_knp {n t p : Nat} (hp : p < 8) (M : qM) : f_X10_knows n t (nI p) M = some ((if bitI (M t 8) p then 1 else 0), M) := by
  unfold f_X10_knows
  rw [if_neg (nI_n0 (by omega)), if_neg (show ¬ (8 : Int32) ≤ nI p from nI_ge (a := p) (b := 8) (by omega) (by decide))]
  by_cases c : bitI (M t 8) p
  · rw [if_pos c, if_pos c]
  · rw [if_neg c, if_neg c]
theorem d_knp {n p : Nat} (hp : p < 8) (M : qM) : f_X12_isPerson n (nI p) M = some ((if bitI (M 78 312) p then 1 else 0), M) := by
  unfold f_X12_isPerson f_X12_has0
  rw [if_neg (nI_n0 (by omega)), if_neg (show ¬ (8 : Int32) ≤ nI p from nI_ge (a := p) (b := 8) (by omega) (by decide))]
  by_cases c : bitI (M 78 312) p
  · rw [if_pos c, if_pos c, qc_v, if_neg (show ¬ (1 : Int32) = 0 by decide)]
  · rw [if_neg c, if_neg c, qc_v, if_pos (show (0 : Int32) = 0 by rfl)]
theorem in8 {a : Int32} (h : 0 ≤ a.toInt ∧ a.toInt < 8) : ∃ p : Nat, p < 8 ∧ a = nI p := ⟨a.toInt.toNat, by omega, nI_i (by omega)⟩
theorem kp_out {n t : Nat} {a : Int32} (M : qM) (h : ¬ (0 ≤ a.toInt ∧ a.toInt < 8)) : f_X10_knows n t a M = some (0, M) ∧ f_X12_isPerson n a M = some (0, M) := by
  unfold f_X10_knows f_X12_isPerson
  by_cases c1 : a < (0 : Int32)
  · exact ⟨by rw [if_pos c1], by rw [if_pos c1]⟩
  · by_cases c2 : (8 : Int32) ≤ a
    · exact ⟨by rw [if_neg c1, if_pos c2], by rw [if_neg c1, if_pos c2]⟩
    · rw [Int32.lt_iff_toInt_lt, l_0] at c1
      rw [Int32.le_iff_toInt_le, l_8] at c2
      exact absurd (And.intro (by omega) (by omega)) h
theorem person_2 {n : Nat} (a1 a2 : Int32) (A B : qM) (hT : TN 7 78 A B) : q2 (f_X11_person n a1 a2 A) (f_X12_person n a1 a2 B) (fun v1 m1 v2 m2 => v1 = v2 ∧ TN 7 78 m1 m2) := by
  have bad : q2 (some ((0 : Int32), A)) (some ((0 : Int32), B)) (fun v1 m1 v2 m2 => v1 = v2 ∧ TN 7 78 m1 m2) := q2_ret ⟨rfl, hT⟩
  have z0 : (0 : Int32) = 0 := rfl
  have z1 : ¬ (1 : Int32) = 0 := by decide
  unfold f_X11_person f_X12_person
  rw [in_eq, qc_v]
  by_cases c1 : 0 ≤ a1.toInt ∧ a1.toInt < 8
  · obtain ⟨p, hp, rfl⟩ := in8 c1
    have tp : (nI p).toInt = (p : Int) := nI_toInt (by omega)
    have ep : (nI p).toNatClampNeg = p := by rw [tnc, tp]; rfl
    rw [if_neg (nI_n0 (by omega)), if_neg (show ¬ (8 : Int32) ≤ nI p from nI_ge (a := p) (b := 8) (by omega) (by decide)), if_neg (show ¬ (nI p < (0 : Int32) ∨ (7 : Int32) < nI p) by rw [Int32.lt_iff_toInt_lt, Int32.lt_iff_toInt_lt, tp, l_0, l_7]; omega), if_neg z1, in_eq, qc_v]
    by_cases c2 : a2 < (0 : Int32)
    · rw [if_pos c2, if_pos (show a2 < (0 : Int32) ∨ (99999 : Int32) < a2 from Or.inl c2), if_pos z0]; exact bad
    rw [if_neg c2]
    by_cases c3 : a2 ≤ (99999 : Int32)
    · have c5 : ¬ (a2 < (0 : Int32) ∨ (99999 : Int32) < a2) := by
        rintro (z | z)
        · exact c2 z
        · rw [Int32.lt_iff_toInt_lt] at z
          rw [Int32.le_iff_toInt_le] at c3
          omega
      rw [if_pos c3, if_neg c5, if_neg z1]
      refine q2_m1 (fun m1 _ x1 x2 x3 => q2_g1 (fun _ _ => ?_))
      rw [ep]
      refine q2_m1 (fun m2 _ y1 y2 y3 => ?_)
      refine q2_m2 (fun n1 _ u1 u2 u3 => q2_g2 (fun _ _ => ?_))
      rw [(ix78 hp).2.2]
      refine q2_m2 (fun n2 _ w1 w2 w3 => q2_ret ⟨rfl, ?_⟩)
      obtain ⟨⟨h1, h2⟩, ⟨o1, o2, o3⟩, hP⟩ := hT
      have oA : ∀ c, c ≠ 7 → c ≠ 8 → m2 c = A c := fun c h7 h8 => by rw [y3 c h8, x3 c h7]
      have oB : ∀ i, i ≠ 312 → i ≠ 288 + p → n2 78 i = B 78 i := fun i q1 q2 => by rw [w2 i q2, u2 i q1]
      refine ⟨⟨fun i hi => ?_, fun i hi => ?_⟩, ⟨?_, ?_, fun q hq => ?_⟩, fun q hq => ⟨?_, ?_, fun w hw hw2 => ?_⟩⟩
      · rw [oA (7 + 2) (by decide) (by decide), oA (7 + 3) (by decide) (by decide), oB i (by omega) (by omega), oB (96 + i) (by omega) (by omega)]; exact h1 i hi
      · rw [oA (7 + 4) (by decide) (by decide), oB _ (by omega) (by omega)]; exact h2 i hi
      · rw [y3 7 (by decide), x1, w2 312 (by omega), u1, o1]
      · rw [y3 7 (by decide), x2 9 (by decide), oB 313 (by decide) (by omega)]; exact o2
      · show m2 8 q = n2 78 (288 + q)
        by_cases c : q = p
        · rw [c, y1, w1]
        · rw [y2 q c, x3 8 (by decide), oB _ (by omega) (by omega)]; exact o3 q hq
      · rw [oA (7 + 7) (by decide) (by decide), oB _ (by omega) (by omega)]; exact (hP q hq).1
      · rw [oA (7 + 8) (by decide) (by decide), oB _ (by omega) (by omega)]; exact (hP q hq).2.1
      · rw [oA (7 + 7) (by decide) (by decide)] at hw2
        rw [oA (7 + 5) (by decide) (by decide), oA (7 + 6) (by decide) (by decide), oB _ (by omega) (by omega), oB _ (by omega) (by omega)]
        exact (hP q hq).2.2 w hw hw2
    · have c5 : a2 < (0 : Int32) ∨ (99999 : Int32) < a2 := by
        rw [Int32.le_iff_toInt_le] at c3
        exact Or.inr (by rw [Int32.lt_iff_toInt_lt]; omega)
      rw [if_neg c3, if_pos c5, if_pos z0]; exact bad
  · have c5 : a1 < (0 : Int32) ∨ (7 : Int32) < a1 := by
      rw [Int32.lt_iff_toInt_lt, Int32.lt_iff_toInt_lt, l_0, l_7]; omega
    rw [if_pos c5, if_pos z0]
    by_cases c2 : a1 < (0 : Int32)
    · rw [if_pos c2]; exact bad
    · have c6 : (8 : Int32) ≤ a1 := by
        rw [Int32.lt_iff_toInt_lt, l_0] at c2
        rw [Int32.le_iff_toInt_le, l_8]; omega
      rw [if_neg c2, if_pos c6]; exact bad
theorem plan_st {n : Nat} (hn : 200000 ≤ n) {a1 a2 v1 v2 : Int32} {M m1 m2 : qM} (hG : G M) (hG1 : G m1) (hTR : TR M) (hs : (M 1 1).toInt = (m1 77 8).toInt) (h84 : m1 84 = M 84) (hT : TN 7 78 M m1) (e1 : f_X11_plan n a1 a2 M = some (v1, m1)) (e2 : f_X12_plan n a1 a2 m1 = some (v2, m2)) : TN 7 78 m1 m2 := by
  have hv := plan_ag hn hG hG1 hTR hs hT.2.1.1 h84 e1 e2
  have e1' := e1
  have e2' := e2
  unfold f_X11_plan at e1
  unfold f_X12_plan at e2
  have z0 : (0 : Int32) = 0 := rfl
  have z1 : ¬ (1 : Int32) = 0 := by decide
  obtain ⟨r, p1, p2, hr⟩ := pn_2 (n := n) hT.2.1.1 a1
  rw [p1, qc_v] at e1
  rw [p2, qc_v] at e2
  rcases hr with rfl | ⟨rfl, p, hp, rfl⟩
  · rw [if_pos z0] at e1 e2
    injection e1 with e1; injection e1 with _ e1
    injection e2 with e2; injection e2 with _ e2
    rw [← e2, ← e1]
    exact TN_fr hT (fun _ _ _ => rfl) (fun i _ => by rw [← e1])
  · rw [if_neg z1] at e1 e2
    by_cases h2 : 1 ≤ a2.toInt ∧ a2.toInt ≤ 80 ∧ a2.toInt ≤ (M 1 1).toInt
    · have hb : bitI (M 7 8) p := by
        rw [c_knp hp] at p1
        by_cases b : bitI (M 7 8) p
        · exact b
        · rw [if_neg b] at p1
          injection p1 with p1; injection p1 with p1 _
          exact absurd p1.symm z1
      have hc := z_plan hn hp a2 M hG h2 hb v1 m1 e1'
      have hd := q_plan hn hp a2 m1 hG1 ⟨h2.1, h2.2.1, by omega⟩ (by rw [← hT.2.1.1]; exact hb) v2 m2 e2'
      unfold QP at hd
      rw [h84, ← TR_t hTR h2.2.2] at hd
      rcases hc with ⟨x1, x2⟩ | ⟨pz, s, D, x1, x2, x3, x4, x5, x6, x7, x8⟩ <;> rcases hd with ⟨y1, y2⟩ | ⟨pz', s', D', y1, y2, y3, y4, y5, y6, y7, y8⟩
      · exact TN_fr hT x2 y1
      · have := Eo_ps y1
        rw [← hv] at y2
        omega
      · have := Eo_ps x1
        have := To_neg y2
        rw [← hv] at this
        omega
      · have hdet := Eo_det x1 y1 es_3 es_3
        injection hdet with _ hdet
        injection hdet with _ hdet
        injection hdet with hss hdet
        injection hdet with hDD _
        subst hss
        subst hDD
        obtain ⟨⟨h1, h2'⟩, ⟨o1, o2, o3⟩, hP⟩ := hT
        refine ⟨⟨fun i hi => ?_, fun i hi => ?_⟩, ⟨?_, ?_, fun q hq => ?_⟩, fun q hq => ⟨?_, ?_, fun w hw hw2 => ?_⟩⟩
        · rw [x8 (7 + 2) (by decide) (by decide), x8 (7 + 3) (by decide) (by decide), y7 i (by omega) (by omega) (by omega), y7 (96 + i) (by omega) (by omega) (by omega)]; exact h1 i hi
        · rw [x8 (7 + 4) (by decide) (by decide), y7 _ (by omega) (by omega) (by omega)]; exact h2' i hi
        · rw [x8 7 (by decide) (by decide), y7 312 (by omega) (by omega) (by omega)]; exact o1
        · rw [x8 7 (by decide) (by decide), y7 313 (by omega) (by omega) (by omega)]; exact o2
        · rw [x8 (7 + 1) (by decide) (by decide), y7 _ (by omega) (by omega) (by omega)]; exact o3 q hq
        · show m1 14 q = m2 78 (296 + q)
          by_cases c : q = p
          · rw [c]; exact Int32.toInt_inj.mp (by rw [x3, y4])
          · rw [(x7 q c).1, y7 _ (by omega) (by omega) (by omega)]; exact (hP q hq).1
        · show m1 15 q = m2 78 (304 + q)
          by_cases c : q = p
          · rw [c, x4, y5]
          · rw [(x7 q c).2, y7 _ (by omega) (by omega) (by omega)]; exact (hP q hq).2.1
        · have hw3 : (w : Int) < (m1 14 q).toInt := hw2
          show m1 12 (40 * q + w) = m2 78 (314 + (40 * q + w)) ∧ m1 13 (40 * q + w) = m2 78 (634 + (40 * q + w))
          by_cases c : q = p
          · subst c
            rw [x3] at hw3
            have q1 := x5 w (by omega)
            have q2 := y6 w (by omega)
            rw [← q2] at q1
            injection q1 with r1 r2
            exact ⟨Int32.toInt_inj.mp r1, Int32.toInt_inj.mp r2⟩
          · rw [(x7 q c).1] at hw3
            rw [(x6 _ (by omega)).1, (x6 _ (by omega)).2, (y8 _ (by omega) (by omega)).1, (y8 _ (by omega) (by omega)).2]
            exact (hP q hq).2.2 w hw hw3
    · have e1 : m1 = M := by
        by_cases c1 : a2 < (1 : Int32)
        · rw [if_pos c1] at e1
          injection e1 with e1; injection e1 with _ e1; exact e1.symm
        · rw [if_neg c1] at e1
          by_cases c2 : (80 : Int32) < a2
          · rw [if_pos c2] at e1
            injection e1 with e1; injection e1 with _ e1; exact e1.symm
          · rw [if_neg c2] at e1
            rw [Int32.lt_iff_toInt_lt, l_1] at c1
            rw [Int32.lt_iff_toInt_lt, l_80] at c2
            rw [if_neg (by rw [Int32.le_iff_toInt_le]; omega)] at e1
            injection e1 with e1; injection e1 with _ e1; exact e1.symm
      have e2 : m2 = m1 := by
        rw [in_eq, qc_v] at e2
        by_cases c1 : a2 < (1 : Int32) ∨ (80 : Int32) < a2
        · rw [if_pos c1, if_pos z0] at e2
          injection e2 with e2; injection e2 with _ e2; exact e2.symm
        · rw [if_neg c1, if_neg z1] at e2
          rw [Int32.lt_iff_toInt_lt, Int32.lt_iff_toInt_lt, l_1, l_80] at c1
          rw [if_neg (by rw [Int32.le_iff_toInt_le]; omega)] at e2
          injection e2 with e2; injection e2 with _ e2; exact e2.symm
      rw [e2]
      exact TN_fr hT (fun x _ _ => by rw [e1]) (fun _ _ => rfl)
/-! count: both sides -/
def rsm (T : Nat → Int32) (b : Nat) : Nat → Int32
  | 0 => 0
  | q + 1 => rsm T b q + T (b + q)
theorem rsm_cg {T U : Nat → Int32} {b c : Nat} : ∀ {q : Nat}, (∀ i, i < q → T (b + i) = U (c + i)) → rsm T b q = rsm U c q := by
  intro q
  induction q with
  | zero => intro _; rfl
  | succ q ih =>
    intro h
    show rsm T b q + T (b + q) = rsm U c q + U (c + q)
    rw [ih (fun i hi => h i (by omega)), h q (by omega)]
theorem c_sum5 {n t c1 p : Nat} (hp : p < 8) : ∀ (m q : Nat) (M : qM), q ≤ 12 → qP (f_X10_sumOf_5 n t c1 m (nI p) (rsm (M c1) (12 * p) q) (nI q) M) (fun v m' => v = rsm (M c1) (12 * p) 12 ∧ m' = M) := by
  intro m
  induction m with
  | zero => intro q M _; exact P_none
  | succ m ih =>
    intro q M hq
    show qP (b_X10_sumOf_5 n t c1 (f_X10_sumOf_5 n t c1 m) (nI p) (rsm (M c1) (12 * p) q) (nI q) M) _
    unfold b_X10_sumOf_5
    have tq' : (nI q).toInt = (q : Int) := nI_toInt (by omega)
    refine P_le l_12 tq' (fun c => P_ret ⟨by rw [show q = 12 by omega], rfl⟩) (fun c => P_qg (fun _ _ => ?_))
    rw [(ixn (p := p) (k := q) (by omega) (by omega)).1]
    refine P_ql rfl (fun x1 hx1 => P_ql (i_add tq' l_1 (by omega) (by omega)) (fun x2 hx2 => ?_))
    have e1 : x1 = rsm (M c1) (12 * p) (q + 1) := Int32.toInt_inj.mp hx1
    rw [e1, nI_i (a := x2) (k := q + 1) (by rw [hx2]; omega)]
    exact ih (q + 1) M (by omega)
theorem c_sum {n t c1 p : Nat} (hp : p < 8) (M : qM) : qP (f_X10_sumOf n t c1 (nI p) M) (fun v m' => v = rsm (M c1) (12 * p) 12 ∧ m' = M) := by
  unfold f_X10_sumOf
  exact c_sum5 hp n 0 M (by omega)
theorem d_sum5 {n b p : Nat} (hp : p < 8) (hb : b ≤ 192) : ∀ (m q : Nat) (M : qM), q ≤ 12 → qP (f_X12_sumOf_5 n m (nI b) (nI p) (rsm (M 78) (b + 12 * p) q) (nI q) M) (fun v m' => v = rsm (M 78) (b + 12 * p) 12 ∧ m' = M) := by
  intro m
  induction m with
  | zero => intro q M _; exact P_none
  | succ m ih =>
    intro q M hq
    show qP (b_X12_sumOf_5 n (f_X12_sumOf_5 n m) (nI b) (nI p) (rsm (M 78) (b + 12 * p) q) (nI q) M) _
    unfold b_X12_sumOf_5 f_X12_at
    have tq' : (nI q).toInt = (q : Int) := nI_toInt (by omega)
    refine P_le l_12 tq' (fun c => P_ret ⟨by rw [show q = 12 by omega], rfl⟩) (fun c => ?_)
    rw [qc_v]
    have hix : (nI b + ((12 : Int32) * nI p + nI q)).toNatClampNeg = b + 12 * p + q := by
      rw [tnc, i_add (nI_toInt (by omega)) (ixc (p := p) (k := q) (by omega) (by omega)).2 (by omega) (by omega)]
      omega
    refine P_qg (fun _ _ => ?_)
    rw [hix]
    refine P_ql rfl (fun x1 hx1 => P_ql (i_add tq' l_1 (by omega) (by omega)) (fun x2 hx2 => ?_))
    have e1 : x1 = rsm (M 78) (b + 12 * p) (q + 1) := Int32.toInt_inj.mp hx1
    rw [e1, nI_i (a := x2) (k := q + 1) (by rw [hx2]; omega)]
    exact ih (q + 1) M (by omega)
theorem d_sum {n b p : Nat} (hp : p < 8) (hb : b ≤ 192) (M : qM) : qP (f_X12_sumOf n (nI b) (nI p) M) (fun v m' => v = rsm (M 78) (b + 12 * p) 12 ∧ m' = M) := by
  unfold f_X12_sumOf
  exact d_sum5 hp hb n 0 M (by omega)
theorem sub_c {a b : Int32} {c t : Int} (hb : b.toInt = c) (ha : a.toInt = t) (h0 : 0 ≤ c ∧ c ≤ 1000) : ((a - b).toInt = t - c) ∨ (t < -2147482648 ∧ 2147482647 < (a - b).toInt) := by
  have h1 := i_full a
  by_cases h : -2147483648 ≤ t - c
  · exact Or.inl (i_sub ha hb h (by omega))
  · refine Or.inr ⟨by omega, ?_⟩
    rw [Int32.toInt_sub, ha, hb]
    have e : (t - c).bmod (2 ^ 32) = t - c + 4294967296 := by
      have : (t - c).bmod (2 ^ 32) = ((t - c + 4294967296)).bmod (2 ^ 32) := by
        have := Int.add_bmod_right (t - c) (2 ^ 32)
        exact this.symm
      rw [this]
      exact i_bm (by omega) (by omega)
    rw [e]
    omega
theorem kind_cnt {n : Nat} {A B : qM} {a1 : Int32} {t : Int} (ht : a1.toInt = t) (h70 : t < 70) (hno : ¬ (10 ≤ t ∧ t ≤ 21) ∧ ¬ (30 ≤ t ∧ t ≤ 41) ∧ ¬ (50 ≤ t ∧ t ≤ 61)) : f_X11_countOfKind n a1 A = some (-1, A) := by
  have z0 : (0 : Int32) = 0 := rfl
  unfold f_X11_countOfKind
  have k1 := sub_c l_10 ht (by omega)
  have k2 := sub_c l_30 ht (by omega)
  have k3 := sub_c l_50 ht (by omega)
  rw [(kn_out A (by omega)).1, qc_v, if_pos z0, (kn_out A (by omega)).1, qc_v, if_pos z0, (kn_out A (by omega)).1, qc_v, if_pos z0]
theorem pers_cnt {n : Nat} {A : qM} {a1 : Int32} {t : Int} (ht : a1.toInt = t) (h70 : 110 ≤ t) : f_X11_countOfPerson n a1 A = some (-1, A) := by
  have z0 : (0 : Int32) = 0 := rfl
  have h1 := i_full a1
  unfold f_X11_countOfPerson
  have k1 : (a1 - (70 : Int32)).toInt = t - 70 := i_sub ht l_70 (by omega) (by omega)
  have k2 : (a1 - (80 : Int32)).toInt = t - 80 := i_sub ht l_80 (by omega) (by omega)
  have k3 : (a1 - (90 : Int32)).toInt = t - 90 := i_sub ht l_90 (by omega) (by omega)
  have k4 : (a1 - (100 : Int32)).toInt = t - 100 := i_sub ht l_100 (by omega) (by omega)
  rw [(kp_out A (by omega)).1, qc_v, if_pos z0, (kp_out A (by omega)).1, qc_v, if_pos z0, (kp_out A (by omega)).1, qc_v, if_pos z0, (kp_out A (by omega)).1, qc_v, if_pos z0]
theorem in_y {n : Nat} {a lo hi : Int32} {x l h : Int} {M : qM} (ha : a.toInt = x) (hl : lo.toInt = l) (hh : hi.toInt = h) (c : l ≤ x ∧ x ≤ h) : f_X12_in n a lo hi M = some (1, M) := by
  rw [in_eq, if_neg]
  rw [Int32.lt_iff_toInt_lt, Int32.lt_iff_toInt_lt]
  omega
theorem in_n {n : Nat} {a lo hi : Int32} {x l h : Int} {M : qM} (ha : a.toInt = x) (hl : lo.toInt = l) (hh : hi.toInt = h) (c : ¬ (l ≤ x ∧ x ≤ h)) : f_X12_in n a lo hi M = some (0, M) := by
  rw [in_eq, if_pos]
  rw [Int32.lt_iff_toInt_lt, Int32.lt_iff_toInt_lt]
  omega
theorem count_2 {n : Nat} {j : Nat} {C : List Int} {K : List Kl} (a1 : Int32) (A B : qM) (hE : RE 7 j C K A B) (hP : RP 7 78 A B) (hs : A 1 1 = B 77 8) : q2 (f_X11_count n j a1 A) (f_X12_count n a1 B) (fun v1 _ v2 _ => v1 = v2) := by
  have z0 : (0 : Int32) = 0 := rfl
  have z1 : ¬ (1 : Int32) = 0 := by decide
  have hD := hE.2.2.1
  have hO := hE.2.2.2.2
  have bad : q2 (some ((-1 : Int32), A)) (some ((-1 : Int32), B)) (fun v1 _ v2 _ => v1 = v2) := q2_ret rfl
  unfold f_X11_count f_X12_count
  by_cases c0 : a1 = (0 : Int32)
  · subst c0; rw [sw_y, sw_y]; exact q2_ret hO.2.1
  rw [sw_n c0, sw_n c0]
  by_cases c1 : a1 = (1 : Int32)
  · subst c1; rw [sw_y, sw_y]; exact q2_ret hD.1
  rw [sw_n c1, sw_n c1]
  by_cases c2 : a1 = (2 : Int32)
  · subst c2; rw [sw_y, sw_y]; exact q2_ret hO.1
  rw [sw_n c2, sw_n c2]
  by_cases c3 : a1 = (3 : Int32)
  · subst c3; rw [sw_y, sw_y]
    exact q2_ret (Int32.toInt_inj.mp (hE.2.1.1.2.1.trans hE.2.1.2.2.1.symm))
  rw [sw_n c3, sw_n c3]
  by_cases c4 : a1 = (4 : Int32)
  · subst c4; rw [sw_y, sw_y]; exact q2_ret hs
  rw [sw_n c4, sw_n c4, sw_0, sw_0]
  have ht : a1.toInt = a1.toInt := rfl
  by_cases d1 : 10 ≤ a1.toInt ∧ a1.toInt ≤ 21
  · rw [in_y ht l_10 l_21 d1, qc_v, if_neg z1]
    obtain ⟨k, hk, ek⟩ := in12 (a := a1 - (10 : Int32)) (by rw [i_sub ht l_10 (by omega) (by omega)]; omega)
    have e2 : (a1 - (30 : Int32)).toInt = a1.toInt - 30 := i_sub ht l_30 (by omega) (by omega)
    have e3 : (a1 - (50 : Int32)).toInt = a1.toInt - 50 := i_sub ht l_50 (by omega) (by omega)
    have kk : (nI k).toNatClampNeg = k := by rw [tnc, nI_toInt (by omega)]; rfl
    rw [if_neg (show ¬ (70 : Int32) ≤ a1 by rw [Int32.le_iff_toInt_le, l_70]; omega)]
    unfold f_X11_countOfKind
    rw [ek, c_kn hk, d_kn hk, qc_v, qc_v, ← hD.1]
    by_cases b : bitI (A 3 3) k
    · rw [if_pos b, if_neg z1, if_neg z1]
      refine q2_c1 (R := fun v _ => v = A 4 k) (P_qg (fun _ _ => P_ret (by rw [kk]))) ?_
      rintro _ m rfl
      refine q2_g2 (fun _ _ => q2_ret ?_)
      rw [kk]; exact (hD.2.2 k hk).1
    · rw [if_neg b, if_pos z0, if_pos z0, (kn_out A (by omega)).1, qc_v, if_pos z0, (kn_out A (by omega)).1, qc_v, if_pos z0, qc_v]
      exact bad
  rw [in_n ht l_10 l_21 d1, qc_v, if_pos z0]
  by_cases d2 : 30 ≤ a1.toInt ∧ a1.toInt ≤ 41
  · rw [in_y ht l_30 l_41 d2, qc_v, if_neg z1]
    obtain ⟨k, hk, ek⟩ := in12 (a := a1 - (30 : Int32)) (by rw [i_sub ht l_30 (by omega) (by omega)]; omega)
    have e1 : (a1 - (10 : Int32)).toInt = a1.toInt - 10 := i_sub ht l_10 (by omega) (by omega)
    have e3 : (a1 - (50 : Int32)).toInt = a1.toInt - 50 := i_sub ht l_50 (by omega) (by omega)
    have kk : (nI k).toNatClampNeg = k := by rw [tnc, nI_toInt (by omega)]; rfl
    rw [if_neg (show ¬ (70 : Int32) ≤ a1 by rw [Int32.le_iff_toInt_le, l_70]; omega)]
    unfold f_X11_countOfKind
    rw [(kn_out A (a := a1 - (10 : Int32)) (by omega)).1, qc_v, if_pos z0, ek, c_kn hk, d_kn hk, qc_v, qc_v, ← hD.1]
    by_cases b : bitI (A 3 3) k
    · rw [if_pos b, if_neg z1, if_neg z1]
      refine q2_c1 (R := fun v _ => v = A 5 k) (P_qg (fun _ _ => P_ret (by rw [kk]))) ?_
      rintro _ m rfl
      refine q2_g2 (fun _ _ => q2_ret ?_)
      rw [kk]; exact (hD.2.2 k hk).2.1
    · rw [if_neg b, if_pos z0, if_pos z0, (kn_out A (by omega)).1, qc_v, if_pos z0, qc_v]
      exact bad
  rw [in_n ht l_30 l_41 d2, qc_v, if_pos z0]
  by_cases d3 : 50 ≤ a1.toInt ∧ a1.toInt ≤ 61
  · rw [in_y ht l_50 l_61 d3, qc_v, if_neg z1]
    obtain ⟨k, hk, ek⟩ := in12 (a := a1 - (50 : Int32)) (by rw [i_sub ht l_50 (by omega) (by omega)]; omega)
    have e1 : (a1 - (10 : Int32)).toInt = a1.toInt - 10 := i_sub ht l_10 (by omega) (by omega)
    have e2 : (a1 - (30 : Int32)).toInt = a1.toInt - 30 := i_sub ht l_30 (by omega) (by omega)
    have kk : (nI k).toNatClampNeg = k := by rw [tnc, nI_toInt (by omega)]; rfl
    rw [if_neg (show ¬ (70 : Int32) ≤ a1 by rw [Int32.le_iff_toInt_le, l_70]; omega)]
    unfold f_X11_countOfKind
    rw [(kn_out A (a := a1 - (10 : Int32)) (by omega)).1, qc_v, if_pos z0, (kn_out A (a := a1 - (30 : Int32)) (by omega)).1, qc_v, if_pos z0, ek, c_kn hk, d_kn hk, qc_v, qc_v, ← hD.1]
    by_cases b : bitI (A 3 3) k
    · rw [if_pos b, if_neg z1, if_neg z1]
      refine q2_c1 (R := fun v _ => v = A 6 k) (P_qg (fun _ _ => P_ret (by rw [kk]))) ?_
      rintro _ m rfl
      refine q2_g2 (fun _ _ => q2_ret ?_)
      rw [kk]; exact (hD.2.2 k hk).2.2
    · rw [if_neg b, if_pos z0, if_pos z0, qc_v]
      exact bad
  rw [in_n ht l_50 l_61 d3, qc_v, if_pos z0]
  by_cases d4 : 70 ≤ a1.toInt ∧ a1.toInt ≤ 109
  · rw [in_y ht l_70 l_109 d4, qc_v, if_neg z1, if_pos (show (70 : Int32) ≤ a1 by rw [Int32.le_iff_toInt_le, l_70]; omega)]
    have e1 : (a1 - (70 : Int32)).toInt = a1.toInt - 70 := i_sub ht l_70 (by omega) (by omega)
    have e2 : (a1 - (80 : Int32)).toInt = a1.toInt - 80 := i_sub ht l_80 (by omega) (by omega)
    have e3 : (a1 - (90 : Int32)).toInt = a1.toInt - 90 := i_sub ht l_90 (by omega) (by omega)
    have e4 : (a1 - (100 : Int32)).toInt = a1.toInt - 100 := i_sub ht l_100 (by omega) (by omega)
    have er : (a1 - a1 / (10 : Int32) * (10 : Int32)).toInt = a1.toInt % 10 := i_rem ht l_10 (by omega) (by decide)
    have eq : (a1 / (10 : Int32)).toInt = a1.toInt / 10 := i_div ht l_10 (by omega) (by decide)
    have x288 : (((288 : Int32) + a1) - (70 : Int32)).toInt = 288 + a1.toInt - 70 := i_sub (i_add l_288 ht (by omega) (by omega)) l_70 (by omega) (by omega)
    have x296 : (((296 : Int32) + a1) - (80 : Int32)).toInt = 296 + a1.toInt - 80 := i_sub (i_add l_296 ht (by omega) (by omega)) l_80 (by omega) (by omega)
    have x304 : (((304 : Int32) + a1) - (80 : Int32)).toInt = 304 + a1.toInt - 80 := i_sub (i_add l_304 ht (by omega) (by omega)) l_80 (by omega) (by omega)
    unfold f_X11_countOfPerson
    by_cases f : a1.toInt % 10 < 8
    · obtain ⟨u, hu, eu⟩ := in8 (a := a1 - a1 / (10 : Int32) * (10 : Int32)) (by omega)
      have tu : a1.toInt % 10 = (u : Int) := by rw [← er, eu, nI_toInt (by omega)]
      have uu : (nI u).toNatClampNeg = u := by rw [tnc, nI_toInt (by omega)]; rfl
      rw [eu, d_knp hu, qc_v, ← hO.1]
      have nq : ∀ k : Int32, ¬ k.toInt = a1.toInt / 10 → ¬ a1 / (10 : Int32) = k := fun k hk e => hk (by rw [← e, eq])
      by_cases g1 : a1.toInt / 10 = 7
      · rw [nI_i (a := a1 - (70 : Int32)) (k := u) (by omega), c_knp hu, qc_v]
        by_cases b : bitI (A 7 8) u
        · rw [if_pos b, if_neg z1, if_neg z1, show a1 / (10 : Int32) = 7 from Int32.toInt_inj.mp (by rw [eq, g1]; rfl), sw_y]
          refine q2_c1 (R := fun v _ => v = A 8 u) (P_qg (fun _ _ => P_ret (by rw [uu]))) ?_
          rintro _ m rfl
          refine q2_g2 (fun _ _ => q2_ret ?_)
          rw [tnc, x288, show (288 + a1.toInt - 70).toNat = 288 + u by omega]
          exact hO.2.2 u hu
        · rw [if_neg b, if_pos z0, if_pos z0, (kp_out A (by omega)).1, qc_v, if_pos z0, (kp_out A (by omega)).1, qc_v, if_pos z0, (kp_out A (by omega)).1, qc_v, if_pos z0, qc_v]
          exact bad
      rw [(kp_out A (a := a1 - (70 : Int32)) (by omega)).1, qc_v, if_pos z0]
      by_cases g2 : a1.toInt / 10 = 8
      · rw [nI_i (a := a1 - (80 : Int32)) (k := u) (by omega), c_knp hu, qc_v]
        by_cases b : bitI (A 7 8) u
        · rw [if_pos b, if_neg z1, if_neg z1, sw_n (nq 7 (by rw [l_7]; omega)), show a1 / (10 : Int32) = 8 from Int32.toInt_inj.mp (by rw [eq, g2]; rfl), sw_y]
          unfold f_X10_stepsLeft
          refine q2_c1 (R := fun v _ => v = A 14 u - A 15 u) (P_qc (Q := fun v _ => v = A 14 u - A 15 u) (P_qg (fun _ _ => P_qg (fun _ _ => P_ret (by rw [uu])))) (fun _ _ h => P_ret h)) ?_
          rintro _ m rfl
          refine q2_g2 (fun _ _ => q2_g2 (fun _ _ => q2_ret ?_))
          rw [tnc, tnc, x296, x304, show (296 + a1.toInt - 80).toNat = 296 + u by omega, show (304 + a1.toInt - 80).toNat = 304 + u by omega]
          have h1 : A 14 u = B 78 (296 + u) := (hP u hu).1
          have h2 : A 15 u = B 78 (304 + u) := (hP u hu).2.1
          rw [h1, h2]
        · rw [if_neg b, if_pos z0, if_pos z0, (kp_out A (by omega)).1, qc_v, if_pos z0, (kp_out A (by omega)).1, qc_v, if_pos z0, qc_v]
          exact bad
      rw [(kp_out A (a := a1 - (80 : Int32)) (by omega)).1, qc_v, if_pos z0]
      by_cases g3 : a1.toInt / 10 = 9
      · have ea : a1 - (90 : Int32) = nI u := nI_i (by omega)
        rw [ea, c_knp hu, qc_v]
        by_cases b : bitI (A 7 8) u
        · rw [if_pos b, if_neg z1, if_neg z1, sw_n (nq 7 (by rw [l_7]; omega)), sw_n (nq 8 (by rw [l_8]; omega)), show a1 / (10 : Int32) = 9 from Int32.toInt_inj.mp (by rw [eq, g3]; rfl), sw_y]
          refine q2_c1 (R := fun v _ => v = rsm (A 9) (12 * u) 12) (P_qc (c_sum hu A) (fun _ _ h => P_ret h.1)) ?_
          rintro _ m rfl
          refine q2_c2 (d_sum (b := 0) hu (by decide) B) ?_
          rintro _ m2 ⟨rfl, _⟩
          refine q2_ret (rsm_cg (fun i hi => ?_))
          rw [show 0 + 12 * u + i = 12 * u + i by omega]
          exact (hE.2.2.2.1.1 (12 * u + i) (by omega)).1
        · rw [if_neg b, if_pos z0, if_pos z0, (kp_out A (by omega)).1, qc_v, if_pos z0, qc_v]
          exact bad
      rw [(kp_out A (a := a1 - (90 : Int32)) (by omega)).1, qc_v, if_pos z0]
      have ea : a1 - (100 : Int32) = nI u := nI_i (by omega)
      rw [ea, c_knp hu, qc_v]
      by_cases b : bitI (A 7 8) u
      · rw [if_pos b, if_neg z1, if_neg z1, sw_n (nq 7 (by rw [l_7]; omega)), sw_n (nq 8 (by rw [l_8]; omega)), sw_n (nq 9 (by rw [l_9]; omega)), sw_0]
        refine q2_c1 (R := fun v _ => v = rsm (A 11) (12 * u) 12) (P_qc (c_sum hu A) (fun _ _ h => P_ret h.1)) ?_
        rintro _ m rfl
        refine q2_c2 (d_sum (b := 192) hu (by decide) B) ?_
        rintro _ m2 ⟨rfl, _⟩
        refine q2_ret (rsm_cg (fun i hi => ?_))
        rw [show 192 + 12 * u + i = 192 + (12 * u + i) by omega]
        exact (hE.2.2.2.1.2 (12 * u + i) (by omega)).1
      · rw [if_neg b, if_pos z0, if_pos z0, qc_v]
        exact bad
    · rw [(kp_out (t := 7) B (a := a1 - a1 / (10 : Int32) * (10 : Int32)) (by omega)).2, qc_v, if_pos z0, (kp_out A (by omega)).1, qc_v, if_pos z0, (kp_out A (by omega)).1, qc_v, if_pos z0, (kp_out A (by omega)).1, qc_v, if_pos z0, (kp_out A (by omega)).1, qc_v, if_pos z0, qc_v]
      exact bad
  rw [in_n ht l_70 l_109 d4, qc_v, if_pos z0]
  by_cases d5 : (70 : Int32) ≤ a1
  · rw [if_pos d5]
    rw [Int32.le_iff_toInt_le, l_70] at d5
    rw [pers_cnt ht (by omega), qc_v]
    exact bad
  · rw [if_neg d5]
    rw [Int32.le_iff_toInt_le, l_70] at d5
    rw [kind_cnt (B := B) ht (by omega) ⟨d1, d2, d3⟩, qc_v]
    exact bad
/-! check: both sides -/
theorem sh_b (a b : Int32) (k : Nat) (hk : k < 32) (hb : b = nI k) : (a <<< (b &&& 31)).toBitVec = a.toBitVec <<< k := by
  rw [hb, Int32.toBitVec_shiftLeft]
  have s := (by decide +kernel : ∀ n, n < 32 → ((nI n &&& 31).toBitVec.smod 32).toNat = n) k hk
  show a.toBitVec <<< ((nI k &&& 31).toBitVec.smod 32).toNat = _
  rw [s]
theorem word4 (a b c d : Int32) : ((((((((0 : Int32) <<< ((8 : Int32) &&& 31)) ||| a) <<< ((8 : Int32) &&& 31)) ||| b) <<< ((8 : Int32) &&& 31)) ||| c) <<< ((8 : Int32) &&& 31)) ||| d = (((a <<< ((24 : Int32) &&& 31)) ||| (b <<< ((16 : Int32) &&& 31))) ||| (c <<< ((8 : Int32) &&& 31))) ||| d := by
  apply Int32.toBitVec_inj.mp
  simp only [Int32.toBitVec_or]
  rw [sh_b _ 8 8 (by decide) rfl, sh_b a 24 24 (by decide) rfl, sh_b b 16 16 (by decide) rfl, sh_b c 8 8 (by decide) rfl]
  simp only [Int32.toBitVec_or]
  rw [sh_b _ 8 8 (by decide) rfl]
  simp only [Int32.toBitVec_or]
  rw [sh_b _ 8 8 (by decide) rfl]
  simp only [Int32.toBitVec_or]
  rw [sh_b _ 8 8 (by decide) rfl]
  have z : (0 : Int32).toBitVec = 0#32 := rfl
  rw [z]
  apply BitVec.eq_of_getLsbD_eq
  intro i hi
  simp only [BitVec.getLsbD_or, BitVec.getLsbD_shiftLeft, BitVec.getLsbD_zero]
  by_cases h1 : i < 8
  · simp [h1, hi, show i < 16 by omega, show i < 24 by omega]
  · by_cases h2 : i < 16
    · simp [h1, h2, hi, show i < 24 by omega, show i - 8 < 8 by omega]
    · by_cases h3 : i < 24
      · simp [h1, h2, h3, hi, show ¬ i - 8 < 8 by omega, show i - 8 - 8 < 8 by omega, show i - 8 < 32 by omega, show i - 8 - 8 = i - 16 by omega, show i - 16 < 8 by omega]
      · simp [h1, h2, h3, hi, show ¬ i - 8 < 8 by omega, show ¬ i - 8 - 8 < 8 by omega, show i - 8 < 32 by omega, show i - 8 - 8 < 32 by omega, show i - 8 - 8 = i - 16 by omega, show i - 8 - 8 - 8 = i - 24 by omega, show i - 16 - 8 = i - 24 by omega, show ¬ i - 16 < 8 by omega, show i - 16 < 32 by omega]
def wdv (R : Nat → Int32) (k : Nat) : Int32 := (((R (4 * k) <<< ((24 : Int32) &&& 31)) ||| (R (4 * k + 1) <<< ((16 : Int32) &&& 31))) ||| (R (4 * k + 2) <<< ((8 : Int32) &&& 31))) ||| R (4 * k + 3)
theorem c_at9 {n i : Nat} {a : Int32} (ha : a.toInt = (i : Int)) (M : qM) (hi : (i : Int) < (M 1 1).toInt) (h260 : i < 260) : f_X9_at n a M = some (M 2 i, M) := by
  unfold f_X9_at
  rw [if_neg (show ¬ a < (0 : Int32) by rw [Int32.lt_iff_toInt_lt, l_0]; omega), if_neg (show ¬ M 1 1 ≤ a by rw [Int32.le_iff_toInt_le]; omega), qg_ok (by omega) (by rw [ha]; omega)]
  rw [show a.toNatClampNeg = i by rw [tnc, ha]; rfl]
theorem c_word {n k : Nat} (hk : k < 12) (M : qM) (h : ((4 * k + 4 : Nat) : Int) ≤ (M 1 1).toInt) : f_X9_word n ((4 : Int32) * nI k) M = some (wdv (M 2) k, M) := by
  have tk : (nI k).toInt = (k : Int) := nI_toInt (by omega)
  have t4 : ((4 : Int32) * nI k).toInt = ((4 * k : Nat) : Int) := by rw [i_mul l_4 tk (by omega) (by omega)]; omega
  have t5 : ((4 : Int32) * nI k + (1 : Int32)).toInt = ((4 * k + 1 : Nat) : Int) := by rw [i_add t4 l_1 (by omega) (by omega)]; omega
  have t6 : ((4 : Int32) * nI k + (2 : Int32)).toInt = ((4 * k + 2 : Nat) : Int) := by rw [i_add t4 l_2 (by omega) (by omega)]; omega
  have t7 : ((4 : Int32) * nI k + (3 : Int32)).toInt = ((4 * k + 3 : Nat) : Int) := by rw [i_add t4 l_3 (by omega) (by omega)]; omega
  unfold f_X9_word
  rw [c_at9 t4 M (by omega) (by omega), qc_v, c_at9 t5 M (by omega) (by omega), qc_v, c_at9 t6 M (by omega) (by omega), qc_v, c_at9 t7 M (by omega) (by omega), qc_v]
  rfl
def tpn (R : Nat → Int32) : Nat → Nat → Int32 → Int32
  | 0, _, v => v
  | r + 1, i, v => tpn R r (i + 1) ((v <<< ((8 : Int32) &&& 31)) ||| (R i &&& (255 : Int32)))
theorem d_tpn {n k : Nat} (hk : k < 12) : ∀ (m r i : Nat) (v : Int32) (M : qM), i + r = 4 * k + 4 → qP (f_X12_tapeNumber_6 n m (nI k) v (nI i) M) (fun w m' => w = tpn (M 84) r i v ∧ m' = M) := by
  intro m
  induction m with
  | zero => intro r i v M _; exact P_none
  | succ m ih =>
    intro r i v M hi
    show qP (b_X12_tapeNumber_6 n (f_X12_tapeNumber_6 n m) (nI k) v (nI i) M) _
    unfold b_X12_tapeNumber_6
    have ti : (nI i).toInt = (i : Int) := nI_toInt (by omega)
    have tk : (nI k).toInt = (k : Int) := nI_toInt (by omega)
    have ei : (nI i).toNatClampNeg = i := by rw [tnc, ti]; rfl
    have te : ((4 : Int32) * nI k + (4 : Int32)).toInt = ((4 * k + 4 : Nat) : Int) := by rw [i_add (i_mul l_4 tk (by omega) (by omega)) l_4 (by omega) (by omega)]; omega
    refine P_le te ti (fun c => ?_) (fun c => P_qg (fun _ _ => ?_))
    · rw [show r = 0 by omega]
      exact P_ret ⟨rfl, rfl⟩
    · obtain ⟨r', rfl⟩ : ∃ r', r = r' + 1 := ⟨r - 1, by omega⟩
      rw [ei]
      refine P_ql rfl (fun x1 hx1 => P_ql (i_add ti l_1 (by omega) (by omega)) (fun x2 hx2 => ?_))
      rw [Int32.toInt_inj.mp hx1, nI_i (a := x2) (k := i + 1) (by rw [hx2]; omega)]
      exact ih r' (i + 1) _ M (by omega)
theorem d_tape {n k : Nat} (hk : k < 12) (M : qM) : qP (f_X12_tapeNumber n (nI k) M) (fun w m' => w = wdv (fun i => M 84 i &&& (255 : Int32)) k ∧ m' = M) := by
  have tk : (nI k).toInt = (k : Int) := nI_toInt (by omega)
  unfold f_X12_tapeNumber
  refine P_ql (x := ((4 * k : Nat) : Int)) (by rw [i_mul l_4 tk (by omega) (by omega)]; omega) (fun x hx => ?_)
  rw [nI_i hx]
  refine P_mono (d_tpn hk n 4 (4 * k) 0 M rfl) (fun w m' h => ⟨?_, h.2⟩)
  rw [h.1]
  exact word4 (M 84 (4 * k) &&& (255 : Int32)) (M 84 (4 * k + 1) &&& (255 : Int32)) (M 84 (4 * k + 2) &&& (255 : Int32)) (M 84 (4 * k + 3) &&& (255 : Int32))
theorem wdv_cg {R S : Nat → Int32} {k : Nat} (h : ∀ i, i < 4 * k + 4 → R i = S i) : wdv R k = wdv S k := by
  unfold wdv
  rw [h (4 * k) (by omega), h (4 * k + 1) (by omega), h (4 * k + 2) (by omega), h (4 * k + 3) (by omega)]
/-- the first place from q on where two rows differ -/
def fdf (a b : Nat → Int32) : Nat → Nat → Int32
  | 0, _ => -1
  | r + 1, q => if a q = b q then fdf a b r (q + 1) else nI q
theorem fdf_cg {a b a' b' : Nat → Int32} : ∀ (r q : Nat), (∀ i, q ≤ i → i < q + r → a i = a' i ∧ b i = b' i) → fdf a b r q = fdf a' b' r q := by
  intro r
  induction r with
  | zero => intro q _; rfl
  | succ r ih =>
    intro q h
    show (if a q = b q then fdf a b r (q + 1) else nI q) = (if a' q = b' q then fdf a' b' r (q + 1) else nI q)
    rw [(h q (by omega) (by omega)).1, (h q (by omega) (by omega)).2, ih (q + 1) (fun i h1 h2 => h i (by omega) (by omega))]
theorem c_chk44 {n p N : Nat} (hp : p < 8) (hN : N ≤ 12) {M : qM} (hs : ((4 * N : Nat) : Int) ≤ (M 1 1).toInt) : ∀ (m q : Nat) (a4 : Int32), q ≤ N → a4.toInt = (q : Int) - 1 → qP (f_X11_check_44 n m (nI p) (fdf (wdv (M 2)) (fun k => M 9 (12 * p + k)) (N - q) q) a4 M) (fun v _ => v = fdf (wdv (M 2)) (fun k => M 9 (12 * p + k)) N 0) := by
  intro m
  induction m with
  | zero => intro q a4 _ _; exact P_none
  | succ m ih =>
    intro q a4 hq h4
    show qP (b_X11_check_44 n (f_X11_check_44 n m) (nI p) (fdf (wdv (M 2)) (fun k => M 9 (12 * p + k)) (N - q) q) a4 M) _
    unfold b_X11_check_44
    refine P_lt h4 l_0 (fun c => ?_) (fun c => ?_)
    · rw [show q = 0 by omega]
      exact P_qc (P_mono (clear_1 M) (fun _ _ _ => trivial)) (fun _ m1 (_ : True) => P_ret rfl)
    · obtain ⟨k, rfl⟩ : ∃ k, q = k + 1 := ⟨q - 1, by omega⟩
      have e4 : a4 = nI k := nI_i (by omega)
      have tk : (nI k).toInt = (k : Int) := nI_toInt (by omega)
      rw [e4, c_word (by omega) M (by omega), qc_v]
      refine P_qg (fun _ _ => ?_)
      rw [(ixn (p := p) (k := k) (by omega) (by omega)).1]
      have hstep : fdf (wdv (M 2)) (fun k => M 9 (12 * p + k)) (N - k) k = (if wdv (M 2) k = M 9 (12 * p + k) then fdf (wdv (M 2)) (fun k => M 9 (12 * p + k)) (N - (k + 1)) (k + 1) else nI k) := by
        rw [show N - k = (N - (k + 1)) + 1 by omega]
        rfl
      refine P_if (fun z => P_ql (i_add tk l_m1 (by omega) (by omega)) (fun x hx => ?_)) (fun z => P_ql (i_add tk l_m1 (by omega) (by omega)) (fun x hx => ?_))
      · rw [if_pos z] at hstep
        rw [← hstep]
        exact ih k x (by omega) (by omega)
      · rw [if_neg z] at hstep
        rw [← hstep]
        exact ih k x (by omega) (by omega)
theorem d_chk38 {n p N : Nat} (hp : p < 8) (hN : N ≤ 12) {M : qM} : ∀ (m r q : Nat), q + r = N → qP (f_X12_check_38 n m (nI p) (nI N) (nI q) M) (fun v _ => v = fdf (wdv (fun i => M 84 i &&& (255 : Int32))) (fun k => M 78 (12 * p + k)) r q) := by
  intro m
  induction m with
  | zero => intro r q _; exact P_none
  | succ m ih =>
    intro r q hq
    show qP (b_X12_check_38 n (f_X12_check_38 n m) (nI p) (nI N) (nI q) M) _
    unfold b_X12_check_38
    have tN : (nI N).toInt = (N : Int) := nI_toInt (by omega)
    have tq' : (nI q).toInt = (q : Int) := nI_toInt (by omega)
    refine P_le tN tq' (fun c => ?_) (fun c => ?_)
    · rw [show r = 0 by omega]
      exact P_ret rfl
    · obtain ⟨r', rfl⟩ : ∃ r', r = r' + 1 := ⟨r - 1, by omega⟩
      refine P_qc (d_tape (k := q) (by omega) M) ?_
      rintro w m2 ⟨rfl, rfl⟩
      unfold f_X12_at
      rw [qc_v]
      refine P_qg (fun _ _ => ?_)
      rw [(ixm (p := p) (k := q) (by omega) (by omega)).1]
      show qP _ (fun v _ => v = (if wdv (fun i => m2 84 i &&& (255 : Int32)) q = m2 78 (12 * p + q) then fdf (wdv (fun i => m2 84 i &&& (255 : Int32))) (fun k => m2 78 (12 * p + k)) r' (q + 1) else nI q))
      refine P_if (fun z => P_ql (i_add tq' l_1 (by omega) (by omega)) (fun x hx => ?_)) (fun z => P_ret (by rw [if_neg z]))
      rw [nI_i (a := x) (k := q + 1) (by rw [hx]; omega), if_pos z]
      exact ih r' (q + 1) (by omega)
theorem check_2 {n : Nat} (a1 a2 : Int32) (A B : qM) (gA : G A) (hT : TN 7 78 A B) (hs : A 1 1 = B 77 8) (hTR : ∀ i : Nat, (i : Int) < (A 1 1).toInt → A 2 i = B 84 i &&& (255 : Int32)) : q2 (f_X11_check n a1 a2 A) (f_X12_check n a1 a2 B) (fun v1 _ v2 _ => v1 = v2) := by
  have z0 : (0 : Int32) = 0 := rfl
  have z1 : ¬ (1 : Int32) = 0 := by decide
  have bad : q2 (some ((-2 : Int32), A)) (some ((-2 : Int32), B)) (fun v1 _ v2 _ => v1 = v2) := q2_ret rfl
  have h11 := r_1_1 gA
  unfold f_X11_check f_X12_check
  obtain ⟨r, p1, p2, hr⟩ := pn_2 (n := n) hT.2.1.1 a1
  rw [p1, p2, qc_v, qc_v]
  rcases hr with rfl | ⟨rfl, p, hp, rfl⟩
  · rw [if_pos z0, if_pos z0]; exact bad
  rw [if_neg z1, if_neg z1]
  by_cases c1 : a2 < (0 : Int32)
  · rw [if_pos c1, in_eq, qc_v, if_pos (show a2 < (0 : Int32) ∨ (12 : Int32) < a2 from Or.inl c1), if_pos z0]; exact bad
  rw [if_neg c1]
  by_cases c2 : (12 : Int32) < a2
  · rw [if_pos c2, in_eq, qc_v, if_pos (show a2 < (0 : Int32) ∨ (12 : Int32) < a2 from Or.inr c2), if_pos z0]; exact bad
  rw [if_neg c2, in_eq, qc_v, if_neg (show ¬ (a2 < (0 : Int32) ∨ (12 : Int32) < a2) from fun z => z.elim c1 c2), if_neg z1]
  rw [Int32.lt_iff_toInt_lt, l_0] at c1
  rw [Int32.lt_iff_toInt_lt, l_12] at c2
  obtain ⟨N, hN, rfl⟩ : ∃ N : Nat, N ≤ 12 ∧ a2 = nI N := ⟨a2.toInt.toNat, by omega, nI_i (by omega)⟩
  have tN : (nI N).toInt = (N : Int) := nI_toInt (by omega)
  have t4 : ((4 : Int32) * nI N).toInt = 4 * (N : Int) := i_mul l_4 tN (by omega) (by omega)
  have td : (B 77 8 / (4 : Int32)).toInt = (A 1 1).toInt / 4 := i_div (by rw [hs]) l_4 (by omega) (by decide)
  by_cases c3 : 4 * (N : Int) ≤ (A 1 1).toInt
  · rw [if_pos (show (4 : Int32) * nI N ≤ A 1 1 by rw [Int32.le_iff_toInt_le, t4]; exact c3), if_pos (show nI N ≤ B 77 8 / (4 : Int32) by rw [Int32.le_iff_toInt_le, tN, td]; omega)]
    refine q2_v1 ?_
    have k1 := c_chk44 (n := n) hp hN (M := A) (by omega) n N (nI N - (1 : Int32)) (Nat.le_refl _) (i_sub tN l_1 (by omega) (by omega))
    rw [Nat.sub_self] at k1
    refine q2_m2 (fun B' _ x1 x2 x3 => ?_)
    have k2 := d_chk38 (n := n) hp hN (M := B') n N 0 (by omega)
    intro v1 m1 v2 m2 e1 e2
    rw [k1 v1 m1 e1, k2 v2 m2 e2]
    refine fdf_cg N 0 (fun i _ hi => ⟨wdv_cg (fun s hs2 => ?_), ?_⟩)
    · rw [x3 84 (by decide)]
      exact hTR s (by omega)
    · show A 9 (12 * p + i) = B' 78 (12 * p + i)
      rw [x3 78 (by decide)]
      exact (hT.1.1 (12 * p + i) (by omega)).1
  · rw [if_neg (show ¬ (4 : Int32) * nI N ≤ A 1 1 by rw [Int32.le_iff_toInt_le, t4]; exact c3), if_neg (show ¬ nI N ≤ B 77 8 / (4 : Int32) by rw [Int32.le_iff_toInt_le, tN, td]; omega)]
    exact bad
/-! what a call of both sides leaves, and that it answers alike -/
theorem outTN {l : List Bx} {a b x s : Nat} (h1 : a ≤ x) (h2 : x ≤ b) (h : l.all (fun q => decide (q.2.1 ≤ a) || decide (b < q.1)) = true) : ∀ q ∈ l, ¬ inB q x s := by
  intro q hq hi
  rw [List.all_eq_true] at h
  have h3 := h q hq
  obtain ⟨a1, a2, _⟩ := hi
  simp only [Bool.or_eq_true, decide_eq_true_eq] at h3
  omega
theorem TN_S {t c : Nat} {l : List Bx} {M m : qM} (h : TN t c M M) (hs : Sm l M m) (h1 : l.all (fun q => decide (q.2.1 ≤ t) || decide (t + 8 < q.1)) = true) (h2 : l.all (fun q => decide (q.2.1 ≤ c) || decide (c < q.1)) = true) : TN t c m m := TN_fr h (fun x a b => funext (fun s => hs x s (outTN a b h1))) (fun i _ => hs c i (outTN (Nat.le_refl _) (Nat.le_refl _) h2))
theorem KX_S {l : List Bx} {M m : qM} (h : M 0 12 ≠ 0 → TN 16 80 M M) (hs : Sm l M m) (e : m 0 12 = M 0 12) (h1 : l.all (fun q => decide (q.2.1 ≤ 16) || decide (16 + 8 < q.1)) = true) (h2 : l.all (fun q => decide (q.2.1 ≤ 80) || decide (80 < q.1)) = true) : m 0 12 ≠ 0 → TN 16 80 m m := fun q => TN_S (h (by rw [← e]; exact q)) hs h1 h2
theorem person_st {n : Nat} {a1 a2 v1 v2 : Int32} {M m1 m2 : qM} (hT : TN 7 78 M M) (e77 : ∀ c, 77 ≤ c → m1 c = M c) (e1 : f_X11_person n a1 a2 M = some (v1, m1)) (e2 : f_X12_person n a1 a2 m1 = some (v2, m2)) : v1 = v2 ∧ TN 7 78 m1 m2 := person_2 a1 a2 M m1 (TN_fr hT (fun _ _ _ => rfl) (fun i _ => by rw [e77 78 (by decide)])) v1 m1 v2 m2 e1 e2
theorem tries_st {n : Nat} (hn : 200000 ≤ n) {j : Nat} (hj : q_isLaw j) {a1 a2 a3 v1 v2 : Int32} {M m1 m2 : qM} (hG : G M) (hG1 : G m1) (hD : KD M M) (hL : LR j M M) (hT : TN 7 78 M M) (e77 : ∀ c, 77 ≤ c → m1 c = M c) (e1 : f_X11_tries n j a1 a2 a3 M = some (v1, m1)) (e2 : f_X12_tries n a1 a2 a3 m1 = some (v2, m2)) : v1 = v2 ∧ TN 7 78 m1 m2 := by
  obtain ⟨C, K, ⟨hK, h240⟩, hE, hP⟩ := RE_of hG hG1 hD hL hT e77
  exact tries_2 hn hj hK h240 a1 a2 a3 M m1 hE hP v1 m1 v2 m2 e1 e2
theorem buys_st {n : Nat} (hn : 200000 ≤ n) {j : Nat} (hj : q_isLaw j) {a1 a2 a3 v1 v2 : Int32} {M m1 m2 : qM} (hG : G M) (hG1 : G m1) (hD : KD M M) (hL : LR j M M) (hT : TN 7 78 M M) (e77 : ∀ c, 77 ≤ c → m1 c = M c) (e1 : f_X11_buys n j a1 a2 a3 M = some (v1, m1)) (e2 : f_X12_buys n a1 a2 a3 m1 = some (v2, m2)) : v1 = v2 ∧ TN 7 78 m1 m2 := by
  obtain ⟨C, K, ⟨hK, h240⟩, hE, hP⟩ := RE_of hG hG1 hD hL hT e77
  exact buys_2 hn hj hK h240 a1 a2 a3 M m1 hE hP v1 m1 v2 m2 e1 e2
theorem days_st {n : Nat} (hn : 200000 ≤ n) {j : Nat} (hj : q_isLaw j) {a1 v1 v2 : Int32} {M m1 m2 : qM} (hG : G M) (hG1 : G m1) (hD : KD M M) (hL : LR j M M) (hT : TN 7 78 M M) (e77 : ∀ c, 77 ≤ c → m1 c = M c) (e1 : f_X11_days n j a1 M = some (v1, m1)) (e2 : f_X12_days n a1 m1 = some (v2, m2)) : v1 = v2 ∧ TN 7 78 m1 m2 := by
  obtain ⟨C, K, ⟨hK, h240⟩, hE, hP⟩ := RE_of hG hG1 hD hL hT e77
  exact days_2 hn hj hK h240 a1 M m1 hE hP v1 m1 v2 m2 e1 e2
theorem tried_st {n : Nat} (hn : 200000 ≤ n) {j : Nat} (hj : q_isLaw j) {a1 a2 v1 v2 : Int32} {M m1 m2 : qM} (hG : G M) (hG1 : G m1) (hD : KD M M) (hL : LR j M M) (hT : TN 7 78 M M) (e77 : ∀ c, 77 ≤ c → m1 c = M c) (e1 : f_X11_tried n j a1 a2 M = some (v1, m1)) (e2 : f_X12_tried n a1 a2 m1 = some (v2, m2)) : v1 = v2 ∧ ∀ i, i < 954 → m2 78 i = m1 78 i := by
  obtain ⟨C, K, ⟨hK, h240⟩, hE, hP⟩ := RE_of hG hG1 hD hL hT e77
  exact tried_2 hn hj hK h240 a1 a2 M m1 hE hP v1 m1 v2 m2 e1 e2
theorem has_st {n : Nat} (hn : 200000 ≤ n) {j : Nat} (hj : q_isLaw j) {a1 a2 a3 v1 v2 : Int32} {M m1 m2 : qM} (hG : G M) (hG1 : G m1) (hD : KD M M) (hL : LR j M M) (hT : TN 7 78 M M) (e77 : ∀ c, 77 ≤ c → m1 c = M c) (e1 : f_X11_has n j a1 a2 a3 M = some (v1, m1)) (e2 : f_X12_has n a1 a2 a3 m1 = some (v2, m2)) : v1 = v2 ∧ ∀ i, i < 954 → m2 78 i = m1 78 i := by
  obtain ⟨C, K, ⟨hK, h240⟩, hE, hP⟩ := RE_of hG hG1 hD hL hT e77
  exact has_2 hn hj hK h240 a1 a2 a3 M m1 hE hP v1 m1 v2 m2 e1 e2
theorem cost_st {n : Nat} (hn : 200000 ≤ n) {j : Nat} (hj : q_isLaw j) {a1 a2 a3 v1 v2 : Int32} {M m1 m2 : qM} (hG : G M) (hG1 : G m1) (hD : KD M M) (hL : LR j M M) (hT : TN 7 78 M M) (e77 : ∀ c, 77 ≤ c → m1 c = M c) (e1 : f_X11_cost n j a1 a2 a3 M = some (v1, m1)) (e2 : f_X12_cost n a1 a2 a3 m1 = some (v2, m2)) : v1 = v2 := by
  obtain ⟨C, K, ⟨hK, h240⟩, hE, hP⟩ := RE_of hG hG1 hD hL hT e77
  exact cost_2 hn hj hK h240 a1 a2 a3 M m1 hE v1 m1 v2 m2 e1 e2
theorem count_st {n : Nat} {j : Nat} {a1 v1 v2 : Int32} {M m1 m2 : qM} (hG : G M) (hG1 : G m1) (hD : KD M M) (hL : LR j M M) (hT : TN 7 78 M M) (e77 : ∀ c, 77 ≤ c → m1 c = M c) (hs : M 1 1 = M 77 8) (e1 : f_X11_count n j a1 M = some (v1, m1)) (e2 : f_X12_count n a1 m1 = some (v2, m2)) : v1 = v2 := by
  obtain ⟨C, K, ⟨hK, h240⟩, hE, hP⟩ := RE_of hG hG1 hD hL hT e77
  exact count_2 a1 M m1 hE hP (by rw [e77 77 (by decide)]; exact hs) v1 m1 v2 m2 e1 e2
theorem check_st {n : Nat} {a1 a2 v1 v2 : Int32} {M m1 m2 : qM} (hG : G M) (hTR : TR M) (hT : TN 7 78 M M) (e77 : ∀ c, 77 ≤ c → m1 c = M c) (hs : M 1 1 = M 77 8) (e1 : f_X11_check n a1 a2 M = some (v1, m1)) (e2 : f_X12_check n a1 a2 m1 = some (v2, m2)) : v1 = v2 := by
  refine check_2 a1 a2 M m1 hG (TN_fr hT (fun _ _ _ => rfl) (fun i _ => by rw [e77 78 (by decide)])) (by rw [e77 77 (by decide)]; exact hs) (fun i hi => ?_) v1 m1 v2 m2 e1 e2
  rw [e77 84 (by decide)]
  exact Int32.toInt_inj.mp (hTR i hi)
