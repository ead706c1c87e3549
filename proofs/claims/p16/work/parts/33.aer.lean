/-! the model's law: its answer and what it keeps -/
theorem P_m {M : qM} {c s : Nat} {v : Int32} {f : qM → qR} {Q : Int32 → qM → Prop} (h : ∀ m : qM, m c s = v → (∀ s2, s2 ≠ s → m c s2 = M c s2) → (∀ c2, c2 ≠ c → m c2 = M c2) → qP (f m) Q) : qP (qlm (mu M c s v) f) Q := h _ mu_at (fun s2 h2 => mu_ne (Or.inr h2)) (fun c2 hc2 => mu_nc hc2)
theorem x_law138 {n : Nat} : ∀ (m : Nat) (a3 : Int32) (M : qM), 0 ≤ a3.toInt → qP (f_X12_law_138 n m a3 M) (fun v m' => v = M 77 16 ∧ (∀ c, c < 92 ∨ 95 < c → m' c = M c) ∧ ∀ i : Nat, ((i : Int) < a3.toInt → eK 92 93 94 95 m' i = eK 92 93 94 95 M i) ∧ (a3.toInt ≤ (i : Int) → (i : Int) < (M 77 16).toInt → eK 92 93 94 95 m' i = eK 87 88 89 90 M i)) := by
  intro m
  induction m with
  | zero => intro a3 M _; exact P_none
  | succ m ih =>
    intro a3 M h0
    show qP (b_X12_law_138 n (f_X12_law_138 n m) a3 M) _
    unfold b_X12_law_138
    refine P_le rfl rfl (fun h => P_ret ⟨rfl, fun _ _ => rfl, fun i => ⟨fun _ => rfl, fun h1 h2 => by omega⟩⟩) (fun hlt => ?_)
    refine P_qg (fun _ hg => P_qg (fun _ _ => P_m (fun m1 a1 a2 a3' => ?_)))
    refine P_qg (fun _ _ => P_qg (fun _ _ => P_m (fun m2 b1 b2 b3 => ?_)))
    refine P_qg (fun _ _ => P_qg (fun _ _ => P_m (fun m3 c1 c2 c3 => ?_)))
    refine P_qg (fun _ _ => P_qg (fun _ _ => P_m (fun m4 d1 d2 d3 => ?_)))
    refine P_ql (i_add rfl l_1 (by omega) (by omega)) (fun x5 hx5 => ?_)
    refine P_mono (ih x5 m4 (by omega)) (fun v m' h => ?_)
    obtain ⟨e0, e1, e2⟩ := h
    have q77 : m4 77 = M 77 := by rw [d3 77 (by decide), c3 77 (by decide), b3 77 (by decide), a3' 77 (by decide)]
    refine ⟨by rw [e0, q77], fun c hc => by rw [e1 c hc, d3 c (by omega), c3 c (by omega), b3 c (by omega), a3' c (by omega)], fun i => ⟨fun hi => ?_, fun h1 h2 => ?_⟩⟩
    · have hne : i ≠ a3.toNatClampNeg := by rw [tnc]; omega
      rw [(e2 i).1 (by omega)]
      show (_, _, _, _) = (_, _, _, _)
      rw [d3 92 (by decide), c3 92 (by decide), b3 92 (by decide), a2 i hne, d3 93 (by decide), c3 93 (by decide), b2 i hne, a3' 93 (by decide), d3 94 (by decide), c2 i hne, b3 94 (by decide), a3' 94 (by decide), d2 i hne, c3 95 (by decide), b3 95 (by decide), a3' 95 (by decide)]
    · by_cases q : i = a3.toNatClampNeg
      · rw [(e2 i).1 (by rw [q, tnc]; omega)]
        subst q
        show (_, _, _, _) = (_, _, _, _)
        rw [d3 92 (by decide), c3 92 (by decide), b3 92 (by decide), a1, d3 93 (by decide), c3 93 (by decide), b1, a3' 88 (by decide), d3 94 (by decide), c1, b3 89 (by decide), a3' 89 (by decide), d1, c3 90 (by decide), b3 90 (by decide), a3' 90 (by decide)]
      · rw [(e2 i).2 (by rw [tnc] at q; omega) (by rw [q77]; exact h2)]
        show (_, _, _, _) = (_, _, _, _)
        rw [d3 87 (by decide), c3 87 (by decide), b3 87 (by decide), a3' 87 (by decide), d3 88 (by decide), c3 88 (by decide), b3 88 (by decide), a3' 88 (by decide), d3 89 (by decide), c3 89 (by decide), b3 89 (by decide), a3' 89 (by decide), d3 90 (by decide), c3 90 (by decide), b3 90 (by decide), a3' 90 (by decide)]
theorem x_law110 {n : Nat} : ∀ (m : Nat) (a3 : Int32) (M : qM), 0 ≤ a3.toInt → qP (f_X12_law_110 n m a3 M) (fun v m' => v = M 77 16 ∧ (∀ c, c < 91 ∨ 95 < c → m' c = M c) ∧ (∀ i : Nat, ((i : Int) < a3.toInt → m' 91 i = M 91 i) ∧ (a3.toInt ≤ (i : Int) → (i : Int) < (M 77 14).toInt → m' 91 i = M 85 i)) ∧ ∀ i : Nat, (i : Int) < (M 77 16).toInt → eK 92 93 94 95 m' i = eK 87 88 89 90 M i) := by
  intro m
  induction m with
  | zero => intro a3 M _; exact P_none
  | succ m ih =>
    intro a3 M h0
    show qP (b_X12_law_110 n (f_X12_law_110 n m) a3 M) _
    unfold b_X12_law_110
    refine P_le rfl rfl (fun hle => P_mono (x_law138 n 0 M (by rw [l_0]; omega)) (fun v m' h => ?_)) (fun hlt => ?_)
    · obtain ⟨e0, e1, e2⟩ := h
      refine ⟨e0, fun c hc => e1 c (by omega), fun i => ⟨fun _ => by rw [e1 91 (by omega)], fun h1 h2 => by omega⟩, fun i hi => (e2 i).2 (by rw [l_0]; omega) hi⟩
    · refine P_qg (fun _ hg => P_qg (fun _ _ => P_m (fun m1 a1 a2 a3' => ?_)))
      refine P_ql (i_add rfl l_1 (by omega) (by omega)) (fun x2 hx2 => ?_)
      refine P_mono (ih x2 m1 (by omega)) (fun v m' h => ?_)
      obtain ⟨e0, e1, e2, e3⟩ := h
      have q77 : m1 77 = M 77 := a3' 77 (by decide)
      refine ⟨by rw [e0, q77], fun c hc => by rw [e1 c hc, a3' c (by omega)], fun i => ⟨fun hi => ?_, fun h1 h2 => ?_⟩, fun i hi => ?_⟩
      · rw [(e2 i).1 (by omega), a2 i (by rw [tnc]; omega)]
      · by_cases q : i = a3.toNatClampNeg
        · rw [(e2 i).1 (by rw [q, tnc]; omega)]
          subst q
          exact a1
        · rw [(e2 i).2 (by rw [tnc] at q; omega) (by rw [q77]; exact h2), a3' 85 (by decide)]
      · rw [e3 i (by rw [q77]; exact hi)]
        show (_, _, _, _) = (_, _, _, _)
        rw [a3' 87 (by decide), a3' 88 (by decide), a3' 89 (by decide), a3' 90 (by decide)]
abbrev d00 : Ld := ((7, 0, 0, [], []), (0, 0, 0), [])
/-- the model's rows hold a law -/
abbrev LM (m : qM) (C : List Int) (K : List Kl) : Prop := Fn (fun k => (m 91 k).toInt) C ∧ (m 77 17).toInt = (K.length : Int) ∧ Fk (eK 92 93 94 95 m) K
abbrev Af (A m : qM) : Prop := (∀ c, 91 ≤ c → c ≤ 95 → m c = A c) ∧ m 77 17 = A 77 17
/-- what the model's answer is, and what it keeps -/
abbrev Qm (A : qM) (T : Int → Int) (len : Int) (v : Int32) (m : qM) : Prop := (Yo T len d00 ((4, v.toInt, 0, [], []), (0, 0, 0), []) ∧ Af A m) ∨ ∃ C K p, Yo T len d00 ((8, p, 0, C, []), (0, 0, 0), K) ∧ v.toInt = (K.length : Int) ∧ LM m C K
/-- what the Java side's answer is, and what its reader keeps -/
abbrev Qj (r : Nat) (T : Int → Int) (len : Int) (v : Int32) (m : qM) : Prop := Yo T len d00 ((4, v.toInt, 0, [], []), (0, 0, 0), []) ∨ ∃ C K p, Yo T len d00 ((8, p, 0, C, []), (0, 0, 0), K) ∧ v.toInt = (K.length : Int) ∧ CR r m C ∧ KRw r m K
/-- both: the same answer; either nothing is kept, or the same law -/
theorem Qjm {A m1 m2 : qM} {r : Nat} {T : Int → Int} {len : Int} {v w : Int32} (h : Qj r T len v m1) (k : Qm A T len w m2) : v = w ∧ ((Yo T len d00 ((4, v.toInt, 0, [], []), (0, 0, 0), []) ∧ Af A m2) ∨ ∃ C K p, Yo T len d00 ((8, p, 0, C, []), (0, 0, 0), K) ∧ v.toInt = (K.length : Int) ∧ CR r m1 C ∧ KRw r m1 K ∧ LM m2 C K) := by
  rcases h with h | ⟨C, K, p, h, hv, h3, h4⟩ <;> rcases k with ⟨k, k2⟩ | ⟨C2, K2, p2, k, hw, k3⟩
  · have := Yo_det h k rfl rfl
    injection this with q
    injection q with _ q
    injection q with q
    exact ⟨Int32.toInt_inj.mp q, Or.inl ⟨h, k2⟩⟩
  · have := Yo_det h k rfl rfl
    injection this with q
    injection q with q
    exact absurd q (by decide)
  · have := Yo_det h k rfl rfl
    injection this with q
    injection q with q
    exact absurd q (by decide)
  · have := Yo_det h k rfl rfl
    injection this with q1 q
    injection q with _ q
    injection q1 with _ q1
    injection q1 with _ q1
    injection q1 with _ q1
    injection q1 with q1
    subst q
    subst q1
    exact ⟨Int32.toInt_inj.mp (by rw [hv, hw]), Or.inr ⟨C, K, p, h, hv, h3, h4, k3⟩⟩
abbrev Xl (R : Nat → Int32) (len : Int) (a2 : Int32) (M : qM) : Prop := (a2.toInt = 0 ∧ G M ∧ Yo (tm R len) len d00 ((4, (M 77 11).toInt, 0, [], []), (0, 0, 0), [])) ∨ (a2.toInt = 1 ∧ (∃ C X K, Yo (tm R len) len d00 ((6, (M 77 9).toInt, 0, C, []), X, K) ∧ Mq R len C (K ++ [(X.1, X.2.1, X.2.2, (C.length : Int))]) M) ∧ CSn (M 77 16).toInt M ∧ (M 77 14).toInt ≤ (M 77 9).toInt ∧ (M 77 9).toInt ≤ (M 77 10).toInt)
theorem x_law86 {n : Nat} {A : qM} {R : Nat → Int32} {len : Int} (a2 : Int32) (M : qM) (hA : Af A M) (h : Xl R len a2 M) (hend : a2.toInt = 0 ∨ (M 77 10).toInt ≤ (M 77 9).toInt) : qP (f_X12_law_86 n a2 M) (Qm A (tm R len) len) := by
  unfold f_X12_law_86
  refine P_m (fun m1 a1 b1 c1 => P_eq rfl l_0 (fun c => ?_) (fun c => ?_))
  · rcases h with ⟨_, _, h⟩ | ⟨h, _⟩
    · refine P_ret (Or.inl ⟨?_, fun c2 q1 q2 => by rw [c1 c2 (by omega)]; exact hA.1 c2 q1 q2, by rw [b1 17 (by decide)]; exact hA.2⟩)
      rw [b1 11 (by decide)]
      exact h
    · omega
  · obtain ⟨_, ⟨C, X, K, hY, hM⟩, _, _, _⟩ := h.resolve_left (fun q => c q.1)
    obtain ⟨hG, h84, hl, hp, hc, hf, hk, hF⟩ := hM
    have ht := tm_r R len (M 77 9).toInt
    refine P_m (fun m2 a2' b2 c2 => P_mono (x_law110 n 0 m2 (by rw [l_0]; omega)) (fun v m e => ?_))
    obtain ⟨e0, e1, e2, e3⟩ := e
    have q14 : m2 77 14 = M 77 14 := by rw [b2 14 (by decide), b1 14 (by decide)]
    have q16 : m2 77 16 = M 77 16 := by rw [b2 16 (by decide), b1 16 (by decide)]
    refine Or.inr ⟨C, K ++ [(X.1, X.2.1, X.2.2, (C.length : Int))], (M 77 9).toInt, Yo_tr hY (Yo_st ?_), by rw [e0, q16]; exact hk, ?_, ?_, ?_⟩
    · rw [ys_6]
      unfold y6
      rw [if_neg (by omega), if_pos (by omega)]
    · refine Fn_cg hf (fun k hk2 => ?_)
      show (m 91 k).toInt = (M 85 k).toInt
      rw [(e2 k).2 (by rw [l_0]; omega) (by rw [q14, hc]; omega), c2 85 (by decide), c1 85 (by decide)]
    · rw [e1 77 (by omega), a2', b1 16 (by decide)]; exact hk
    · refine Fk_cg hF (fun k hk2 => ?_)
      rw [e3 k (by rw [q16, hk]; omega)]
      show (_, _, _, _) = (_, _, _, _)
      rw [c2 87 (by decide), c1 87 (by decide), c2 88 (by decide), c1 88 (by decide), c2 89 (by decide), c1 89 (by decide), c2 90 (by decide), c1 90 (by decide)]
theorem lC_out {c s : Nat} (h : 91 ≤ c) : ∀ b ∈ lC, ¬ inB b c s := by
  intro b hb hi
  obtain ⟨h1, h2, _⟩ := hi
  rcases List.mem_cons.mp hb with rfl | hb
  · have q : c < (78 : Nat) := h2
    omega
  · rcases List.mem_cons.mp hb with rfl | hb
    · have q : c < (78 : Nat) := h2
      omega
    · rw [List.mem_singleton] at hb
      subst hb
      have q : c < (91 : Nat) := h2
      omega
theorem x_law46 {n : Nat} (hn : 200000 ≤ n) {A : qM} {R : Nat → Int32} {len : Int} : ∀ (m : Nat) (a2 : Int32) (M : qM), Af A M → Xl R len a2 M → qP (f_X12_law_46 n m a2 M) (Qm A (tm R len) len) := by
  intro m
  induction m with
  | zero => intro a2 M _ _; exact P_none
  | succ m ih =>
    intro a2 M hA h
    show qP (b_X12_law_46 n (f_X12_law_46 n m) a2 M) _
    unfold b_X12_law_46
    refine P_eq rfl l_0 (fun c => x_law86 a2 M hA h (Or.inl c)) (fun c => ?_)
    refine P_le rfl rfl (fun d => x_law86 a2 M hA h (Or.inr d)) (fun d => ?_)
    obtain ⟨_, ⟨C, X, K, hY, hM⟩, hC, hb, hle⟩ := h.resolve_left (fun q => c q.1)
    have hM2 := hM
    obtain ⟨hG, h84, hl, hp, hc, hf, hk, hF⟩ := hM2
    have h9 := r_77_9 hG
    refine P_qc (P_T (v_takes hn (M0 := M) (59 : Int32) M hG Sm.rf (by decide))) ?_
    rintro r1 m2 ⟨ho, z1, z2, g2, _⟩
    rw [h84, hl, l_59] at ho
    have hA2 : Af A m2 := ⟨fun c q1 q2 => by rw [z2 c (by omega)]; exact hA.1 c q1 q2, by rw [z1 17 (by decide) (by decide)]; exact hA.2⟩
    refine P_eq rfl l_0 (fun e => ?_) (fun e => ?_)
    · refine ih (0 : Int32) m2 hA2 (Or.inl ⟨l_0, g2, Yo_tr hY (Yo_st ?_)⟩)
      rw [ys_6]
      unfold y6
      rw [if_neg (by omega), if_neg (by omega)]
      unfold yF zF
      have : (m2 77 11).toInt = -1000 - (M 77 9).toInt := by omega
      rw [this]
      rfl
    · have e9 : (m2 77 9).toInt = (M 77 9).toInt + 1 := by omega
      have hst : Yo (tm R len) len d00 ((7, (m2 77 9).toInt, 0, C, []), (0, 0, 0), K ++ [(X.1, X.2.1, X.2.2, (C.length : Int))]) := by
        refine Yo_tr hY (Yo_st ?_)
        rw [ys_6]
        unfold y6
        rw [if_pos (by omega), e9]
      have hM2b : Mq R len C (K ++ [(X.1, X.2.1, X.2.2, (C.length : Int))]) m2 := ⟨g2, by rw [z2 84 (by decide)]; exact h84, by rw [z1 10 (by decide) (by decide)]; exact hl, by omega, by rw [z1 14 (by decide) (by decide)]; exact hc, by rw [z2 85 (by decide)]; exact hf, by rw [z1 16 (by decide) (by decide)]; exact hk, Fk_cg hF (fun k _ => by show (_, _, _, _) = (_, _, _, _); rw [z2 87 (by decide), z2 88 (by decide), z2 89 (by decide), z2 90 (by decide)])⟩
      have e14 : m2 77 14 = M 77 14 := z1 14 (by decide) (by decide)
      have e10 : m2 77 10 = M 77 10 := z1 10 (by decide) (by decide)
      have e16 : m2 77 16 = M 77 16 := z1 16 (by decide) (by decide)
      have hC2 : CSn (m2 77 16).toInt m2 := by
        rw [e16]
        exact CSn_cg hC (fun q _ => by rw [z2 88 (by decide)]) (fun q _ => by rw [z2 89 (by decide)]) (fun q _ => by rw [z2 90 (by decide)]) (fun k _ => by rw [z2 85 (by decide)]) (by rw [e14]; exact Int.le_refl _)
      refine P_qc (P_and (x_clause hn m2 C _ hM2b (by rw [e14]; omega) hst) (P_T (m_clause hn m2 g2 hC2 (by rw [e14]; omega) (by rw [e10]; omega)))) ?_
      rintro r3 m4 ⟨hx4, t1, t2, g4, s4⟩
      have hA4 : Af A m4 := ⟨fun c q1 q2 => by rw [show m4 c = m2 c from funext (fun s_ => s4 c s_ (lC_out q1))]; exact hA2.1 c q1 q2, by rw [s4 77 17 (by decide)]; exact hA2.2⟩
      refine P_eq rfl l_0 (fun f => ?_) (fun f => ?_)
      · rcases hx4 with ⟨q0, q1, q2⟩ | ⟨q0, _⟩
        · exact ih (0 : Int32) m4 hA4 (Or.inl ⟨l_0, q1, q2⟩)
        · omega
      · obtain ⟨q0, C4, X4, q2, q3⟩ := hx4.resolve_left (fun q => f q.1)
        obtain ⟨u1, u2, u3, u4⟩ := t2.resolve_left f
        exact ih (1 : Int32) m4 hA4 (Or.inr ⟨l_1, ⟨C4, X4, _, q2, q3⟩, u1, u2, u3⟩)
theorem x_law {n : Nat} (hn : 200000 ≤ n) (a1 : Int32) (M : qM) (hG : G M) (ha : 1 ≤ a1.toInt ∧ a1.toInt ≤ 240 ∧ a1.toInt ≤ (M 77 8).toInt) : qP (f_X12_law n a1 M) (Qm M (tm (M 84) a1.toInt) a1.toInt) := by
  unfold f_X12_law
  have cin : (if a1 < (1 : Int32) ∨ (240 : Int32) < a1 then (0 : Int32) else 1) = 1 := if_neg (by rw [Int32.lt_iff_toInt_lt, Int32.lt_iff_toInt_lt, l_1, l_240]; omega)
  rw [in_eq, cin, qc_v, if_neg (show ¬ (1 : Int32) = 0 by decide), if_pos (show a1 ≤ M 77 8 by rw [Int32.le_iff_toInt_le]; omega)]
  refine P_g hG (i_rng (lo := 0) (hi := 240) l_0 (by omega) (by omega)) (by unfold nW; omega) ?_
  intro m3 a3 b3 c3 g3
  refine P_g g3 (i_rng (lo := 0) (hi := 240) rfl (by omega) (by omega)) (by unfold nW; omega) ?_
  intro m4 a4 b4 c4 g4
  refine P_g g4 (i_rng (lo := 0) (hi := 260) l_0 (by omega) (by omega)) (by unfold nW; omega) ?_
  intro m5 a5 b5 c5 g5
  refine P_g g5 (i_rng (lo := 0) (hi := 16) l_0 (by omega) (by omega)) (by unfold nW; omega) ?_
  intro m6 a6 b6 c6 g6
  have e9 : (m6 77 9).toInt = 0 := by rw [b6 9 (by decide), b5 9 (by decide), b4 9 (by decide), a3]; rfl
  have e10 : (m6 77 10).toInt = a1.toInt := by rw [b6 10 (by decide), b5 10 (by decide), a4]
  have e14 : (m6 77 14).toInt = 0 := by rw [b6 14 (by decide), a5]; rfl
  have e16 : (m6 77 16).toInt = 0 := by rw [a6]; rfl
  have e84 : m6 84 = M 84 := by rw [c6 84 (by decide), c5 84 (by decide), c4 84 (by decide), c3 84 (by decide)]
  have hM6 : Mq (M 84) a1.toInt [] [] m6 := ⟨g6, e84, e10, by rw [e9]; omega, e14, Fn_nil, e16, fun k hk => absurd hk (by simp)⟩
  refine P_qc (P_and (x_clause hn (d0 := d00) m6 [] [] hM6 (by omega) (by rw [e9]; exact Yo_rf)) (P_T (m_clause hn m6 g6 (fun q hq => by exfalso; rw [e16] at hq; omega) (by omega) (by omega)))) ?_
  rintro r7 m8 ⟨hx8, t1, t2, g8, s8⟩
  have hA8 : Af M m8 := ⟨fun c q1 q2 => by rw [show m8 c = m6 c from funext (fun s_ => s8 c s_ (lC_out q1)), c6 c (by omega), c5 c (by omega), c4 c (by omega), c3 c (by omega)], by rw [s8 77 17 (by decide), b6 17 (by decide), b5 17 (by decide), b4 17 (by decide), b3 17 (by decide)]⟩
  refine x_law46 hn n r7 m8 hA8 ?_
  rcases hx8 with ⟨q0, q1, q2⟩ | ⟨q0, C, X, q2, q3⟩
  · exact Or.inl ⟨q0, q1, q2⟩
  · obtain ⟨u1, u2, u3, u4⟩ := t2.resolve_left (by omega)
    exact Or.inr ⟨q0, ⟨C, X, _, q2, q3⟩, u1, u2, u3⟩
/-- the Java side's answer -/
theorem w_law {n : Nat} (hn : 200000 ≤ n) {j r : Nat} (hr : q_isLaw r) (a1 : Int32) (M : qM) (hG : G M) (ha : 1 ≤ a1.toInt ∧ a1.toInt ≤ 240 ∧ a1.toInt ≤ (M 1 1).toInt) : qP (f_X11_law n j r a1 M) (fun v m => Qj r (tq (M 2) a1.toInt) a1.toInt v m ∧ v.toInt ≤ 0) ∧ qP (f_X11_lawS n j r a1 M) (fun v m => Qj r (tq (M 2) a1.toInt) a1.toInt v m ∧ 0 < v.toInt) := by
  have hq : ∀ (v : Int32) (m m3 : qM), Ll (M 2) a1.toInt r v m → (∀ c, c ≠ 1 → m3 c = m c) → Qj r (tq (M 2) a1.toInt) a1.toInt v m3 := by
    rintro v m m3 ⟨_, h | ⟨C, K, p, h, hv, h3, h4⟩⟩ e
    · exact Or.inl h
    · exact Or.inr ⟨C, K, p, h, hv, CR_1 hr h3 e, KR_1 hr h4 e⟩
  have hcl : ∀ m : qM, qP (f_X9_clear n m) (fun _ m3 => ∀ c, c ≠ 1 → m3 c = m c) := fun m => by
    unfold f_X9_clear
    exact P_m (fun m1 _ _ c1 => P_ret c1)
  have c1 : ¬ a1 < (1 : Int32) := by rw [Int32.lt_iff_toInt_lt, l_1]; omega
  have c2 : ¬ (240 : Int32) < a1 := by rw [Int32.lt_iff_toInt_lt, l_240]; omega
  have c3 : a1 ≤ M 1 1 := by rw [Int32.le_iff_toInt_le]; omega
  unfold f_X11_law f_X11_lawS
  rw [if_neg c1, if_neg c1, if_neg c2, if_neg c2, if_pos c3, if_pos c3]
  refine ⟨P_qc (P_T (w_read hn hr a1 M hG ⟨ha.1, ha.2.1⟩ ha.2.2)) ?_, P_qc (P_T (w_read hn hr a1 M hG ⟨ha.1, ha.2.1⟩ ha.2.2)) ?_⟩
  · intro v m hl
    refine P_qc (hcl m) ?_
    intro v2 m2 e2
    exact P_le rfl l_0 (fun q => P_ret ⟨hq v m m2 hl e2, q⟩) (fun _ => P_none)
  · intro v m hl
    refine P_qc (hcl m) ?_
    intro v2 m2 e2
    exact P_le rfl l_0 (fun _ => P_none) (fun q => P_ret ⟨hq v m m2 hl e2, q⟩)
/-- where the tapes and their sizes agree, so do the answers of law -/
theorem law_ag {n : Nat} (hn : 200000 ≤ n) {j r : Nat} (hr : q_isLaw r) {a1 v1 v2 : Int32} {M m1 m2 : qM} (hG : G M) (hG1 : G m1) (hT : TR M) (hs : (M 1 1).toInt = (m1 77 8).toInt) (h84 : m1 84 = M 84) (e1 : f_X11_law n j r a1 M = some (v1, m1) ∨ f_X11_lawS n j r a1 M = some (v1, m1)) (e2 : f_X12_law n a1 m1 = some (v2, m2)) : v1 = v2 := by
  have no : ∀ {v : Int32} {M : qM} {w : Int32} {m : qM}, (some (v, M) : qR) = some (w, m) → v = w := by
    intro v M w m h
    injection h with h; injection h
  by_cases h2 : 1 ≤ a1.toInt ∧ a1.toInt ≤ 240 ∧ a1.toInt ≤ (M 1 1).toInt
  · have q2 := x_law hn a1 m1 hG1 ⟨h2.1, h2.2.1, by omega⟩ v2 m2 e2
    rw [h84, ← TR_t hT h2.2.2] at q2
    rcases e1 with e1 | e1
    · exact (Qjm ((w_law hn (j := j) hr a1 M hG h2).1 v1 m1 e1).1 q2).1
    · exact (Qjm ((w_law hn (j := j) hr a1 M hG h2).2 v1 m1 e1).1 q2).1
  · have r2 : v2 = -1 := by
      unfold f_X12_law at e2
      by_cases c1 : a1 < (1 : Int32) ∨ (240 : Int32) < a1
      · have cin : (if a1 < (1 : Int32) ∨ (240 : Int32) < a1 then (0 : Int32) else 1) = 0 := if_pos c1
        rw [in_eq, cin, qc_v, if_pos rfl] at e2; exact (no e2).symm
      · have cin : (if a1 < (1 : Int32) ∨ (240 : Int32) < a1 then (0 : Int32) else 1) = 1 := if_neg c1
        rw [in_eq, cin, qc_v, if_neg (show ¬ (1 : Int32) = 0 by decide)] at e2
        rw [Int32.lt_iff_toInt_lt, Int32.lt_iff_toInt_lt, l_1, l_240] at c1
        rw [if_neg (show ¬ a1 ≤ m1 77 8 by rw [Int32.le_iff_toInt_le]; omega)] at e2
        exact (no e2).symm
    rw [r2]
    rcases e1 with e1 | e1
    · unfold f_X11_law at e1
      by_cases c1 : a1 < (1 : Int32)
      · rw [if_pos c1] at e1; exact (no e1).symm
      · rw [if_neg c1] at e1
        by_cases c2 : (240 : Int32) < a1
        · rw [if_pos c2] at e1; exact (no e1).symm
        · rw [if_neg c2] at e1
          rw [Int32.lt_iff_toInt_lt, l_1] at c1
          rw [Int32.lt_iff_toInt_lt, l_240] at c2
          rw [if_neg (by rw [Int32.le_iff_toInt_le]; omega)] at e1
          exact (no e1).symm
    · exfalso
      unfold f_X11_lawS at e1
      by_cases c1 : a1 < (1 : Int32)
      · rw [if_pos c1] at e1; cases e1
      · rw [if_neg c1] at e1
        by_cases c2 : (240 : Int32) < a1
        · rw [if_pos c2] at e1; cases e1
        · rw [if_neg c2] at e1
          rw [Int32.lt_iff_toInt_lt, l_1] at c1
          rw [Int32.lt_iff_toInt_lt, l_240] at c2
          rw [if_neg (by rw [Int32.le_iff_toInt_le]; omega)] at e1
          cases e1
