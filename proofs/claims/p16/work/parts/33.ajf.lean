/-! loophole: both answers -/
abbrev LoQ (told : Int32) (V : Nat → Nat → Int32 × Int32) (a1 a2 a3 v : Int32) : Prop := (¬ ((a1 &&& (told ^^^ (-1 : Int32)) = 0 ∧ a2 &&& (told ^^^ (-1 : Int32)) = 0) ∧ a1 &&& a2 = 0 ∧ (0 ≤ a3.toInt ∧ a3.toInt ≤ 1)) ∧ v = -1) ∨ (((a1 &&& (told ^^^ (-1 : Int32)) = 0 ∧ a2 &&& (told ^^^ (-1 : Int32)) = 0) ∧ a1 &&& a2 = 0 ∧ (0 ≤ a3.toInt ∧ a3.toInt ≤ 1)) ∧ ∃ a b : Nat, (a1 = nI a ∧ a2 = nI b) ∧ (a < 4096 ∧ b < 4096) ∧ v = if a3 = 0 then (V a b).1 else (V a b).2)
theorem c_loop {n : Nat} (hn : 200000 ≤ n) {j : Nat} (hj : q_isLaw j) {C : List Int} {K : List Kl} (hK : Kg (cdl C) C.length K) (a1 a2 a3 : Int32) (M : qM) (hG : G M) (hL : LJ j M C K) (hT : KT M) : qP (f_X11_loophole n j a1 a2 a3 M) (fun v _ => LoQ (M 3 3) (fun a b => lpv (fun w => hov (nI a) (nI b) (lk12 C K n (M 5) (nI w) (M 7 9))) 256 0 (-2) 0) a1 a2 a3 v) := by
  unfold f_X11_loophole f_X2_knowsAll
  by_cases c1 : a1 &&& ((M 3 3) ^^^ (-1 : Int32)) = 0
  · rw [if_pos c1, qc_v]
    refine P_eq l_1 l_0 (fun z => by omega) (fun _ => ?_)
    by_cases c2 : a2 &&& ((M 3 3) ^^^ (-1 : Int32)) = 0
    · rw [if_pos c2, qc_v]
      refine P_eq l_1 l_0 (fun z => by omega) (fun _ => ?_)
      refine P_if (fun c3 => ?_) (fun c3 => P_ret (Or.inl ⟨fun z => c3 z.2.1, rfl⟩))
      refine P_lt rfl l_0 (fun c4 => P_ret (Or.inl ⟨fun z => by have := z.2.2.1; omega, rfl⟩)) (fun c4 => ?_)
      refine P_le rfl l_1 (fun c5 => ?_) (fun c5 => P_ret (Or.inl ⟨fun z => by have := z.2.2.2; omega, rfl⟩))
      obtain ⟨t, ht, et⟩ := KT_ex hT
      have k1 := c1
      have k2 := c2
      rw [et] at k1 k2
      obtain ⟨a, ha, ea⟩ := know_n ht k1
      obtain ⟨b, hb, eb⟩ := know_n ht k2
      have key := c_lp hn hj hK ha hb (X := M 5) (d := M 7 9) (a3 := a3) (H := fun w => hov (nI a) (nI b) (lk12 C K n (M 5) (nI w) (M 7 9))) (fun w _ => rfl) n 256 0 (-2) 0 M hG hL rfl rfl rfl (Or.inl rfl)
      subst ea
      subst eb
      exact P_mono key (fun v _ e => Or.inr ⟨⟨⟨c1, c2⟩, c3, c4, c5⟩, a, b, ⟨rfl, rfl⟩, ⟨ha, hb⟩, e⟩)
    · rw [if_neg c2, qc_v]
      refine P_eq l_0 l_0 (fun _ => P_ret (Or.inl ⟨fun z => c2 z.1.2, rfl⟩)) (fun z => absurd rfl z)
  · rw [if_neg c1, qc_v]
    refine P_eq l_0 l_0 (fun _ => P_ret (Or.inl ⟨fun z => c1 z.1.1, rfl⟩)) (fun z => absurd rfl z)
theorem or_and {a b c : Int32} : (a ||| b) &&& c = 0 ↔ (a &&& c = 0 ∧ b &&& c = 0) := by
  have e : ∀ x y : BitVec 32, x ||| y = 0#32 ↔ (x = 0#32 ∧ y = 0#32) := fun x y => BitVec.or_eq_zero_iff
  have d : (a ||| b) &&& c = (a &&& c) ||| (b &&& c) := by
    apply Int32.toBitVec_inj.1
    show (a.toBitVec ||| b.toBitVec) &&& c.toBitVec = (a.toBitVec &&& c.toBitVec) ||| (b.toBitVec &&& c.toBitVec)
    apply BitVec.eq_of_getLsbD_eq
    intro i hi
    simp only [BitVec.getLsbD_and, BitVec.getLsbD_or]
    cases a.toBitVec.getLsbD i <;> cases b.toBitVec.getLsbD i <;> cases c.toBitVec.getLsbD i <;> rfl
  rw [d]
  constructor
  · intro h
    have h2 := (e _ _).mp (congrArg Int32.toBitVec h)
    exact ⟨Int32.toBitVec_inj.1 h2.1, Int32.toBitVec_inj.1 h2.2⟩
  · rintro ⟨h1, h2⟩
    rw [h1, h2]; rfl
theorem d_loop {n : Nat} (hn : 200000 ≤ n) {C : List Int} {K : List Kl} (hK : Kg (cdl C) C.length K) (h240 : C.length ≤ 240) (a1 a2 a3 : Int32) (M : qM) (hG : G M) (hL : LM M C K) {t : Nat} (ht : t < 4096) (et : M 77 6 = nI t) {X : Nat → Int32} (hX : ∀ i, i < 12 → M 82 i = X i) {d : Int32} (hd : M 78 313 = d) : qP (f_X12_loophole n a1 a2 a3 M) (fun v _ => LoQ (M 77 6) (fun a b => lpv (fun w => hov (nI a) (nI b) (lk12 C K n X (nI w) d)) 256 0 (-2) 0) a1 a2 a3 v) := by
  unfold f_X12_loophole
  refine P_lt rfl l_0 (fun c1 => P_ret (Or.inl ⟨fun z => ?_, rfl⟩)) (fun c1 => ?_)
  · have q := z.1.1
    rw [et] at q
    obtain ⟨a, ha, ea⟩ := know_n ht q
    rw [ea, nI_toInt (by omega)] at c1
    omega
  refine P_lt rfl l_0 (fun c2 => P_ret (Or.inl ⟨fun z => ?_, rfl⟩)) (fun c2 => ?_)
  · have q := z.1.2
    rw [et] at q
    obtain ⟨a, ha, ea⟩ := know_n ht q
    rw [ea, nI_toInt (by omega)] at c2
    omega
  refine P_if (fun c3 => ?_) (fun c3 => P_ret (Or.inl ⟨fun z => c3 (or_and.mpr z.1), rfl⟩))
  obtain ⟨k1, k2⟩ := or_and.mp c3
  refine P_if (fun c4 => ?_) (fun c4 => P_ret (Or.inl ⟨fun z => c4 z.2.1, rfl⟩))
  unfold f_X12_in
  refine P_qc (Q := fun v m => m = M ∧ ((v = 0 ∧ ¬ (0 ≤ a3.toInt ∧ a3.toInt ≤ 1)) ∨ (v = 1 ∧ (0 ≤ a3.toInt ∧ a3.toInt ≤ 1)))) (P_lt rfl l_0 (fun z => P_ret ⟨rfl, Or.inl ⟨rfl, by omega⟩⟩) (fun z => P_lt l_1 rfl (fun y => P_ret ⟨rfl, Or.inl ⟨rfl, by omega⟩⟩) (fun y => P_ret ⟨rfl, Or.inr ⟨rfl, by omega⟩⟩))) ?_
  rintro r1 m2 ⟨em, h⟩
  rw [em]
  rcases h with ⟨hr, h⟩ | ⟨hr, h⟩
  · rw [hr]
    exact P_eq l_0 l_0 (fun _ => P_ret (Or.inl ⟨fun z => h z.2.2, rfl⟩)) (fun z => absurd rfl z)
  · rw [hr]
    refine P_eq l_1 l_0 (fun z => by omega) (fun _ => ?_)
    refine P_g hG (rn_81 _ _) (nw_81 _) ?_
    intro m3 b1 b2 b3 g3
    have q1 := k1
    have q2 := k2
    rw [et] at q1 q2
    obtain ⟨a, ha, ea⟩ := know_n ht q1
    obtain ⟨b, hb, eb⟩ := know_n ht q2
    have l3 : LM m3 C K := LM_cg hL (fun c c1 c2 => b3 c (by omega)) (by rw [b3 77 (by decide)])
    have key := d_lp hn hK h240 (a := nI a) (b := nI b) (X := X) (d := d) (a3 := a3) (H := fun w => hov (nI a) (nI b) (lk12 C K n X (nI w) d)) (fun w _ => rfl) n 256 0 (-2) 0 m3 g3 l3 b1 (fun i hi => by rw [b3 82 (by decide)]; exact hX i hi) (by rw [b3 78 (by decide)]; exact hd) rfl
    subst ea
    subst eb
    exact P_mono key (fun v _ e => Or.inr ⟨⟨⟨k1, k2⟩, c4, h⟩, a, b, ⟨rfl, rfl⟩, ⟨ha, hb⟩, e⟩)
theorem LoQ_eq {told a1 a2 a3 v w : Int32} {V : Nat → Nat → Int32 × Int32} (h : LoQ told V a1 a2 a3 v) (k : LoQ told V a1 a2 a3 w) : v = w := by
  rcases h with ⟨h1, h2⟩ | ⟨h1, a, b, h2, h3, h4⟩ <;> rcases k with ⟨k1, k2⟩ | ⟨k1, a', b', k2, k3, k4⟩
  · rw [h2, k2]
  · exact absurd k1 h1
  · exact absurd h1 k1
  · have e1 : a = a' := nI_inj (by omega) (by omega) (by rw [← h2.1, ← k2.1])
    have e2 : b = b' := nI_inj (by omega) (by omega) (by rw [← h2.2, ← k2.2])
    subst e1 e2
    rw [h4, k4]
theorem loophole_ag {n : Nat} (hn : 200000 ≤ n) {j : Nat} (hj : q_isLaw j) {a1 a2 a3 v1 v2 : Int32} {M m1 m2 : qM} (hG : G M) (hG1 : G m1) (hD : KD M M) (hL : LR j M M) (hday : M 7 9 = M 78 313) (e77 : ∀ c, 77 ≤ c → m1 c = M c) (hT : KT M) (e1 : f_X11_loophole n j a1 a2 a3 M = some (v1, m1)) (e2 : f_X12_loophole n a1 a2 a3 m1 = some (v2, m2)) : v1 = v2 := by
  obtain ⟨C, K, h1, h2, h3, h4⟩ := hL
  have q1 := c_loop hn hj h3 a1 a2 a3 M hG h1 hT v1 m1 e1
  obtain ⟨t, ht, et⟩ := KT_ex hT
  have q2 := d_loop hn h3 h4 a1 a2 a3 m1 hG1 (LM_cg h2 (fun c c1 c2 => e77 c (by omega)) (by rw [e77 77 (by decide)])) ht (by rw [e77 77 (by decide), ← hD.1]; exact et) (X := M 5) (fun i hi => by rw [e77 82 (by decide)]; exact (hD.2.2 i hi).2.1.symm) (d := M 7 9) (by rw [e77 78 (by decide)]; exact hday.symm) v2 m2 e2
  rw [e77 77 (by decide), ← hD.1] at q2
  exact LoQ_eq q1 q2
