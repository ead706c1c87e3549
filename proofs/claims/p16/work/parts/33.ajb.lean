/-! alike: the answers agree -/
theorem kn_out {n : Nat} {a : Int32} (M : qM) (h : ¬ (0 ≤ a.toInt ∧ a.toInt < 12)) : f_X2_knows n a M = some (0, M) ∧ f_X12_isKind n a M = some (0, M) := by
  unfold f_X2_knows f_X12_isKind
  by_cases c1 : a < (0 : Int32)
  · rw [if_pos c1, if_pos c1]; exact ⟨rfl, rfl⟩
  · have c2 : (12 : Int32) ≤ a := by
      rw [Int32.lt_iff_toInt_lt, l_0] at c1
      rw [Int32.le_iff_toInt_le, l_12]
      omega
    rw [if_neg c1, if_neg c1, if_pos c2, if_pos c2]; exact ⟨rfl, rfl⟩
theorem in12 {a : Int32} (h : 0 ≤ a.toInt ∧ a.toInt < 12) : ∃ k : Nat, k < 12 ∧ a = nI k := ⟨a.toInt.toNat, by omega, nI_i (by omega)⟩
theorem nI_inj {a b : Nat} (ha : a < 2 ^ 31) (hb : b < 2 ^ 31) (h : nI a = nI b) : a = b := by
  have := congrArg Int32.toInt h
  rw [nI_toInt ha, nI_toInt hb] at this
  omega
theorem c_finds {n : Nat} (hn : 200000 ≤ n) {j : Nat} (hj : q_isLaw j) {C : List Int} {K : List Kl} (hK : Kg (cdl C) C.length K) {k i : Nat} (hk : k < 12) (hi : i < 12) (d : Int32) (M : qM) (hG : G M) (hL : LJ j M C K) (hX : MK (M 5)) : qP (f_X1_findsAlike n j (nI k) (nI i) d M) (fun v _ => v = lkv C K n (M 4) (M 5) d k i) := by
  have ek : (nI k).toNatClampNeg = k := by rw [tnc, nI_toInt (by omega)]; rfl
  have ei : (nI i).toNatClampNeg = i := by rw [tnc, nI_toInt (by omega)]; rfl
  have tk : (nI k).toInt = (k : Int) := nI_toInt (by omega)
  have ti : (nI i).toInt = (i : Int) := nI_toInt (by omega)
  unfold f_X1_findsAlike lkv
  refine P_eq tk ti (fun c => P_ret ?_) (fun c => ?_)
  · rw [if_pos (by omega)]
  · rw [if_neg (show ¬ k = i by omega)]
    refine P_qg (fun _ _ => P_qg (fun _ _ => ?_))
    rw [ek]
    refine P_qc (P_and (c_deed (nI k) (M 4 k) (M 5 k) d M) (P_T (t_X1_tellDeed hn (nI k) (M 4 k) (M 5 k) d M hG (by omega)))) ?_
    rintro _ m1 ⟨⟨hF, e1⟩, _, g1, _⟩
    have n35 : ∀ q, q ≤ 6 → j + q ≠ 35 := fun q hq => by rcases hj with rfl | rfl <;> omega
    refine P_qc (c_isAlike hn hj hK (nI i) m1 g1 (LJ_cg hL (fun q hq => e1 _ (n35 q hq))) (FD_of hF)) ?_
    intro r2 m3 hr2
    rw [ei, e1 5 (by decide), bc_mk (hX k hk)] at hr2
    exact P_qb (P_ret hr2)
abbrev AQ (told : Int32) (lk : Nat → Nat → Int32) (a1 a2 v : Int32) : Prop := (¬ (∃ k i : Nat, (k < 12 ∧ i < 12) ∧ (a1 = nI k ∧ a2 = nI i) ∧ bitI told k ∧ bitI told i) ∧ v = -1) ∨ (∃ k i : Nat, (k < 12 ∧ i < 12) ∧ (a1 = nI k ∧ a2 = nI i) ∧ (bitI told k ∧ bitI told i) ∧ v = if lk k i = 0 then 0 else 1)
theorem AQ_eq {told : Int32} {lk lk' : Nat → Nat → Int32} {a1 a2 v w : Int32} (h : AQ told lk a1 a2 v) (k : AQ told lk' a1 a2 w) (hl : ∀ k i, k < 12 → i < 12 → lk k i = lk' k i) : v = w := by
  rcases h with ⟨h1, h2⟩ | ⟨p, q, h1, h2, h3, h4⟩ <;> rcases k with ⟨k1, k2⟩ | ⟨p', q', k1, k2, k3, k4⟩
  · rw [h2, k2]
  · exact absurd ⟨p', q', k1, k2, k3⟩ h1
  · exact absurd ⟨p, q, h1, h2, h3⟩ k1
  · have e1 : p = p' := nI_inj (by omega) (by omega) (by rw [← h2.1, ← k2.1])
    have e2 : q = q' := nI_inj (by omega) (by omega) (by rw [← h2.2, ← k2.2])
    subst e1 e2
    rw [h4, k4, hl p q h1.1 h1.2]
theorem c_alike {n : Nat} (hn : 200000 ≤ n) {j : Nat} (hj : q_isLaw j) {C : List Int} {K : List Kl} (hK : Kg (cdl C) C.length K) (a1 a2 : Int32) (M : qM) (hG : G M) (hL : LJ j M C K) (hX : MK (M 5)) : qP (f_X11_alike n j a1 a2 M) (fun v _ => AQ (M 3 3) (lkv C K n (M 4) (M 5) (M 7 9)) a1 a2 v) := by
  unfold f_X11_alike
  by_cases h1 : 0 ≤ a1.toInt ∧ a1.toInt < 12
  · obtain ⟨k, hk, rfl⟩ := in12 h1
    rw [c_kn hk, qc_v]
    by_cases b1 : bitI (M 3 3) k
    · rw [if_pos b1]
      refine P_eq l_1 l_0 (fun z => by omega) (fun _ => ?_)
      by_cases h2 : 0 ≤ a2.toInt ∧ a2.toInt < 12
      · obtain ⟨i, hi, rfl⟩ := in12 h2
        rw [c_kn hi, qc_v]
        by_cases b2 : bitI (M 3 3) i
        · rw [if_pos b2]
          refine P_eq l_1 l_0 (fun z => by omega) (fun _ => ?_)
          refine P_qc (c_finds hn hj hK hk hi (M 7 9) M hG hL hX) ?_
          intro r5 m6 hr5
          refine P_if (fun c => P_ret (Or.inr ⟨k, i, ⟨hk, hi⟩, ⟨rfl, rfl⟩, ⟨b1, b2⟩, ?_⟩)) (fun c => P_ret (Or.inr ⟨k, i, ⟨hk, hi⟩, ⟨rfl, rfl⟩, ⟨b1, b2⟩, ?_⟩))
          · rw [← hr5, if_pos c]
          · rw [← hr5, if_neg c]
        · rw [if_neg b2]
          refine P_eq l_0 l_0 (fun _ => P_ret (Or.inl ⟨?_, rfl⟩)) (fun z => absurd rfl z)
          rintro ⟨k', i', ⟨q1, q2⟩, ⟨_, q3⟩, _, q4⟩
          have : i = i' := nI_inj (by omega) (by omega) q3
          subst this
          exact b2 q4
      · rw [(kn_out M h2).1, qc_v]
        refine P_eq l_0 l_0 (fun _ => P_ret (Or.inl ⟨?_, rfl⟩)) (fun z => absurd rfl z)
        rintro ⟨k', i', ⟨q1, q2⟩, ⟨_, q3⟩, _, q4⟩
        exact h2 (by rw [q3, nI_toInt (by omega)]; omega)
    · rw [if_neg b1]
      refine P_eq l_0 l_0 (fun _ => P_ret (Or.inl ⟨?_, rfl⟩)) (fun z => absurd rfl z)
      rintro ⟨k', i', ⟨q1, q2⟩, ⟨q3, _⟩, q4, _⟩
      have : k = k' := nI_inj (by omega) (by omega) q3
      subst this
      exact b1 q4
  · rw [(kn_out M h1).1, qc_v]
    refine P_eq l_0 l_0 (fun _ => P_ret (Or.inl ⟨?_, rfl⟩)) (fun z => absurd rfl z)
    rintro ⟨k', i', ⟨q1, q2⟩, ⟨q3, _⟩, q4, _⟩
    exact h1 (by rw [q3, nI_toInt (by omega)]; omega)
theorem d_alike {n : Nat} (hn : 200000 ≤ n) {C : List Int} {K : List Kl} (hK : Kg (cdl C) C.length K) (h240 : C.length ≤ 240) (a1 a2 : Int32) (M : qM) (hG : G M) (hL : LM M C K) : qP (f_X12_alike n a1 a2 M) (fun v _ => AQ (M 77 6) (lkv C K n (M 81) (M 82) (M 78 313)) a1 a2 v) := by
  unfold f_X12_alike
  by_cases h1 : 0 ≤ a1.toInt ∧ a1.toInt < 12
  · obtain ⟨k, hk, rfl⟩ := in12 h1
    rw [d_kn hk, qc_v]
    by_cases b1 : bitI (M 77 6) k
    · rw [if_pos b1]
      refine P_eq l_1 l_0 (fun z => by omega) (fun _ => ?_)
      by_cases h2 : 0 ≤ a2.toInt ∧ a2.toInt < 12
      · obtain ⟨i, hi, rfl⟩ := in12 h2
        rw [d_kn hi, qc_v]
        by_cases b2 : bitI (M 77 6) i
        · rw [if_pos b2]
          refine P_eq l_1 l_0 (fun z => by omega) (fun _ => ?_)
          refine P_qc (d_isLike hn hK h240 (k := k) (i := i) (by omega) hi M hG hL) ?_
          intro r5 m6 hr5
          refine P_if (fun c => P_ret (Or.inr ⟨k, i, ⟨hk, hi⟩, ⟨rfl, rfl⟩, ⟨b1, b2⟩, ?_⟩)) (fun c => P_ret (Or.inr ⟨k, i, ⟨hk, hi⟩, ⟨rfl, rfl⟩, ⟨b1, b2⟩, ?_⟩))
          · rw [← hr5, if_pos c]
          · rw [← hr5, if_neg c]
        · rw [if_neg b2]
          refine P_eq l_0 l_0 (fun _ => P_ret (Or.inl ⟨?_, rfl⟩)) (fun z => absurd rfl z)
          rintro ⟨k', i', ⟨q1, q2⟩, ⟨_, q3⟩, _, q4⟩
          have : i = i' := nI_inj (by omega) (by omega) q3
          subst this
          exact b2 q4
      · rw [(kn_out M h2).2, qc_v]
        refine P_eq l_0 l_0 (fun _ => P_ret (Or.inl ⟨?_, rfl⟩)) (fun z => absurd rfl z)
        rintro ⟨k', i', ⟨q1, q2⟩, ⟨_, q3⟩, _, q4⟩
        exact h2 (by rw [q3, nI_toInt (by omega)]; omega)
    · rw [if_neg b1]
      refine P_eq l_0 l_0 (fun _ => P_ret (Or.inl ⟨?_, rfl⟩)) (fun z => absurd rfl z)
      rintro ⟨k', i', ⟨q1, q2⟩, ⟨q3, _⟩, q4, _⟩
      have : k = k' := nI_inj (by omega) (by omega) q3
      subst this
      exact b1 q4
  · rw [(kn_out M h1).2, qc_v]
    refine P_eq l_0 l_0 (fun _ => P_ret (Or.inl ⟨?_, rfl⟩)) (fun z => absurd rfl z)
    rintro ⟨k', i', ⟨q1, q2⟩, ⟨q3, _⟩, q4, _⟩
    exact h1 (by rw [q3, nI_toInt (by omega)]; omega)
theorem alike_ag {n : Nat} (hn : 200000 ≤ n) {j : Nat} (hj : q_isLaw j) {a1 a2 v1 v2 : Int32} {M m1 m2 : qM} (hG : G M) (hG1 : G m1) (hD : KD M M) (hL : LR j M M) (hday : M 7 9 = M 78 313) (e77 : ∀ c, 77 ≤ c → m1 c = M c) (e1 : f_X11_alike n j a1 a2 M = some (v1, m1)) (e2 : f_X12_alike n a1 a2 m1 = some (v2, m2)) : v1 = v2 := by
  obtain ⟨C, K, h1, h2, h3, h4⟩ := hL
  have q1 := c_alike hn hj h3 a1 a2 M hG h1 hD.2.1 v1 m1 e1
  have q2 := d_alike hn h3 h4 a1 a2 m1 hG1 (LM_cg h2 (fun c c1 c2 => e77 c (by omega)) (by rw [e77 77 (by decide)])) v2 m2 e2
  rw [e77 77 (by decide), e77 78 (by decide), e77 81 (by decide), e77 82 (by decide), ← hD.1, ← hday] at q2
  exact AQ_eq q1 q2 (fun k i hk hi => lkv_cg (hD.2.2 k hk).1 (hD.2.2 k hk).2.1 (hD.2.2 i hi).2.1)
