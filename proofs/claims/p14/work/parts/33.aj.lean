/-! TOWNS: both sides alike; A is the memory with the class's cells, B the one with the model's -/
abbrev RC (t : Nat) (A B : qM) : Prop := (∀ i, i < 96 → A (t + 2) i = B 78 i ∧ 0 ≤ (A (t + 2) i).toInt ∧ (A (t + 2) i).toInt ≤ 999 ∧ ((A (t + 2) i = 0 ∧ B 78 (96 + i) = -2) ∨ (A (t + 2) i ≠ 0 ∧ A (t + 3) i = B 78 (96 + i)))) ∧ (∀ i, i < 96 → A (t + 4) i = B 78 (192 + i) ∧ 0 ≤ (A (t + 4) i).toInt ∧ (A (t + 4) i).toInt ≤ 999)
theorem cA_iff {A B : qM} (h : KD A B) {C : List Int} {K : List Kl} {n : Nat} {d : Int32} {k q : Nat} (hk : k < 12) (hq : q < 12) (ht : bitI (A 3 3) k) : cA k (A 3 3) C K n (A 4) (A 5) d q ↔ mA (B 77 6) C K n (B 81) (B 82) d k q := by
  have e : lkv C K n (A 4) (A 5) d k q = lkv C K n (B 81) (B 82) d k q := lkv_cg (h.2.2 k hk).1 (h.2.2 k hk).2.1 (h.2.2 q hq).2.1
  show (q = k ∨ (bitI (A 3 3) q ∧ lkv C K n (A 4) (A 5) d k q ≠ 0)) ↔ (bitI (B 77 6) q ∧ lkv C K n (B 81) (B 82) d k q ≠ 0)
  rw [e, ← h.1]
  constructor
  · rintro (rfl | z)
    · refine ⟨ht, ?_⟩
      unfold lkv
      rw [if_pos rfl]
      decide
    · exact z
  · intro z; exact Or.inr z
theorem fgV_cg {C : List Int} {K : List Kl} {n : Nat} {H X H' X' : Nat → Int32} {d : Int32} {p q : Nat} {T N T' N' : Nat → Int32} (hp : p < 8) (hq : q < 12) (h1 : H q = H' q) (h2 : X q = X' q) (h3 : ∀ i, i < 96 → T i = T' i) (h4 : ∀ i, i < 96 → N i = N' i) : fgV C K n H X d p T N q = fgV C K n H' X' d p T' N' q := by
  unfold fgV
  rw [h1, h2, h3 (12 * p + q) (by omega), h4 (12 * p + q) (by omega), byA_cg hq (Nat.le_refl _) h3]
theorem fgP_iff {A B : qM} {t : Nat} (h : KD A B) (hR : RC t A B) (hd : A t 9 = B 78 313) {C : List Int} {K : List Kl} {n p k q : Nat} (hp : p < 8) (hk : k < 12) (hq : q < 12) (ht : bitI (A 3 3) k) : fgP (cA k (A 3 3) C K n (A 4) (A 5) (A t 9)) C K n (A 4) (A 5) (A t 9) p (A (t + 2)) (A (t + 3)) (A (t + 4)) q ↔ mP B C K n p k q := by
  have e1 := cA_iff h (C := C) (K := K) (n := n) (d := A t 9) hk hq ht
  have e2 : fgV C K n (A 4) (A 5) (A t 9) p (A (t + 2)) (A (t + 4)) q = fgV C K n (B 81) (B 82) (B 78 313) p (B 78) (fun i => B 78 (192 + i)) q := by
    rw [hd]
    exact fgV_cg hp hq (h.2.2 q hq).1 (h.2.2 q hq).2.1 (fun i hi => (hR.1 i hi).1) (fun i hi => (hR.2 i hi).1)
  have e3 := hR.1 (12 * p + q) (by omega)
  show (_ ∧ _ ∧ _ ∧ _) ↔ (_ ∧ _ ∧ _ ∧ _)
  rw [e2, e1, hd, e3.1]
  constructor
  · rintro ⟨x1, x2, x3, x4⟩
    refine ⟨x1, x2, x3, ?_⟩
    rcases e3.2.2.2 with ⟨z, _⟩ | ⟨_, z⟩
    · exact absurd (by rw [← e3.1]; exact z) x2
    · show _ ≤ (B 78 313 - B 78 (96 + (12 * p + q))).toInt
      rw [← z]; exact x4
  · rintro ⟨x1, x2, x3, x4⟩
    refine ⟨x1, x2, x3, ?_⟩
    rcases e3.2.2.2 with ⟨z, _⟩ | ⟨_, z⟩
    · exact absurd (by rw [← e3.1]; exact z) x2
    · rw [z]; exact x4
theorem Fgt_eq {P Q : Nat → Prop} {p : Nat} (hp : p < 8) {T U T1 U1 : Nat → Int32} (h : Fgt P p T T1) (k : Fgt Q p U U1) (hPQ : ∀ q, q < 12 → (P q ↔ Q q)) (hT : ∀ i, i < 96 → T i = U i) : ∀ i, i < 96 → T1 i = U1 i := by
  intro i hi
  by_cases c : ∃ q, q < 12 ∧ i = 12 * p + q
  · obtain ⟨q, hq, rfl⟩ := c
    by_cases z : P q
    · rw [(h.1 q hq).1 z, (k.1 q hq).1 ((hPQ q hq).mp z)]
    · rw [(h.1 q hq).2 z, (k.1 q hq).2 (fun y => z ((hPQ q hq).mpr y)), hT _ hi]
  · rw [h.2 i hi (fun q hq e => c ⟨q, hq, e⟩), k.2 i hi (fun q hq e => c ⟨q, hq, e⟩), hT i hi]
theorem Fgt_r {P : Nat → Prop} {p : Nat} {T T1 : Nat → Int32} (h : Fgt P p T T1) (hT : ∀ i, i < 96 → 0 ≤ (T i).toInt ∧ (T i).toInt ≤ 999) : ∀ i, i < 96 → 0 ≤ (T1 i).toInt ∧ (T1 i).toInt ≤ 999 := by
  intro i hi
  by_cases c : ∃ q, q < 12 ∧ i = 12 * p + q
  · obtain ⟨q, hq, rfl⟩ := c
    by_cases z : P q
    · rw [(h.1 q hq).1 z]; decide
    · rw [(h.1 q hq).2 z]; exact hT _ hi
  · rw [h.2 i hi (fun q hq e => c ⟨q, hq, e⟩)]; exact hT i hi
theorem vdV_cg {C : List Int} {K : List Kl} {n : Nat} {H X H' X' : Nat → Int32} {d w : Int32} {p k : Nat} {T N T' N' : Nat → Int32} (hp : p < 8) (hk : k < 12) (h1 : H k = H' k) (h2 : X k = X' k) (h3 : ∀ i, i < 96 → T i = T' i) (h4 : ∀ i, i < 96 → N i = N' i) : vdV C K n H X d p k w T N = vdV C K n H' X' d p k w T' N' := by
  unfold vdV
  rw [h1, h2, h3 (12 * p + k) (by omega), h4 (12 * p + k) (by omega), byA_cg hk (Nat.le_refl _) h3]
theorem Att_eq {old vd hc v v' : Int32} {cell : Nat} {N N' N2 N2' : Nat → Int32} (h : Att old vd hc v cell N N2) (k : Att old vd hc v' cell N' N2') (hN : ∀ i, i < 96 → N i = N' i) : v = v' ∧ ∀ i, i < 96 → N2 i = N2' i := by
  rcases h with ⟨a1, a2, a3⟩ | ⟨a1, a2, a3, a4⟩ | ⟨a1, a2, a3, a4⟩ <;> rcases k with ⟨b1, b2, b3⟩ | ⟨b1, b2, b3, b4⟩ | ⟨b1, b2, b3, b4⟩
  · exact ⟨by rw [a2, b2], fun i hi => by rw [a3 i hi, b3 i hi, hN i hi]⟩
  · omega
  · omega
  · omega
  · exact ⟨by rw [a3, b3], fun i hi => by rw [a4 i hi, b4 i hi, hN i hi]⟩
  · exact absurd a2 b2
  · omega
  · exact absurd b2 a2
  · exact ⟨by rw [a3, b3], fun i hi => by rw [a4 i hi, b4 i hi, hN i hi]⟩
theorem q999 {x : Int32} (h : 0 ≤ x.toInt ∧ x.toInt ≤ 999) : 1 ≤ (qmin 999 (x + 1)).toInt ∧ (qmin 999 (x + 1)).toInt ≤ 999 := by
  have h1 := i_min (a := 999) (b := x + 1) l_999 (i_add rfl l_1 (by omega) (by omega))
  omega
theorem Att_r {old vd hc v : Int32} {cell : Nat} {N N2 : Nat → Int32} (h : Att old vd hc v cell N N2) (hN : ∀ i, i < 96 → 0 ≤ (N i).toInt ∧ (N i).toInt ≤ 999) : ∀ i, i < 96 → 0 ≤ (N2 i).toInt ∧ (N2 i).toInt ≤ 999 := by
  intro i hi
  rcases h with ⟨a1, a2, a3⟩ | ⟨a1, a2, a3, a4⟩ | ⟨a1, a2, a3, a4⟩
  · rw [a3 i hi]; exact hN i hi
  · rw [a4 i hi]; exact hN i hi
  · rw [a4 i hi]
    by_cases c : i = cell
    · rw [if_pos c]
      have := q999 (hN i hi)
      omega
    · rw [if_neg c]; exact hN i hi
/-- a try on both sides -/
theorem try_ag {n : Nat} (hn : 200000 ≤ n) {t j p k : Nat} (ht : t = 7 ∨ t = 25) (hj : q_isLaw j) (hp : p < 8) (hk : k < 12) {C : List Int} {K : List Kl} (hK : Kg (cdl C) C.length K) (h240 : C.length ≤ 240) (w : Int32) (hw : 0 ≤ w.toInt ∧ w.toInt ≤ 8) {A B m1 m2 : qM} {v1 v2 : Int32} (gA : G A) (gB : G B) (hL : LJ j A C K) (hM : LM B C K) (hD : KD A B) (hR : RC t A B) (hd : A t 9 = B 78 313) (htold : bitI (A 3 3) k) (e1 : f_X0_attempt n t j (nI p) (nI k) w A = some (v1, m1)) (e2 : f_X12_triesNow n (nI p) (nI k) w B = some (v2, m2)) : v1 = v2 ∧ RC t m1 m2 := by
  have hTA : ∀ i, i < 96 → 0 ≤ (A (t + 2) i).toInt ∧ (A (t + 2) i).toInt ≤ 999 := fun i hi => ⟨(hR.1 i hi).2.1, (hR.1 i hi).2.2.1⟩
  obtain ⟨T1, b, hb, hF1, q2, q3, r2, r3, ha1⟩ := c_att hn ht hj hp hk hK w hw A gA hL hD.2.1 (fun i hi => (hTA i hi).1) v1 m1 e1
  have hb2 : ∀ q, q < 12 → (bitI b q ↔ mA (B 77 6) C K n (B 81) (B 82) (B 78 313) k q) := fun q hq => by rw [hb q hq, cA_iff hD hk hq htold, hd]
  obtain ⟨U1, L1, hF2, hL2, s2, s3, ha2⟩ := d_att hn hp hk hK h240 w hw B gB hM hb2 (fun i hi => by rw [← (hR.1 i hi).1]; exact (hTA i hi).1) v2 m2 e2
  have hPQ := fun q hq => fgP_iff hD hR hd (C := C) (K := K) (n := n) (p := p) (k := k) (q := q) hp hk hq htold
  have hTU := Fgt_eq hp hF1 hF2 hPQ (fun i hi => (hR.1 i hi).1)
  have hr := Fgt_r hF1 hTA
  have es : smB U1 p b 12 = smB T1 p b 12 := smB_cg hp (fun _ _ => Iff.rfl) (fun i hi => (hTU i hi).symm) (Nat.le_refl _)
  have ev : vdV C K n (B 81) (B 82) (B 78 313) p k w U1 (fun i => B 78 (192 + i)) = vdV C K n (A 4) (A 5) (A t 9) p k w T1 (A (t + 4)) := by
    rw [← hd]
    exact vdV_cg hp hk (hD.2.2 k hk).1.symm (hD.2.2 k hk).2.1.symm (fun i hi => (hTU i hi).symm) (fun i hi => (hR.2 i hi).1.symm)
  have eh : hcv (fun i => B 78 (192 + i)) p (B 83 k) 12 = hcv (A (t + 4)) p (A 6 k) 12 := by
    rw [← (hD.2.2 k hk).2.2]
    exact hcv_cg hp (fun i hi => (hR.2 i hi).1.symm) (Nat.le_refl _)
  rw [es, ev, eh] at ha2
  obtain ⟨ev1, hN⟩ := Att_eq ha1 ha2 (fun i hi => (hR.2 i hi).1)
  refine ⟨ev1, fun i hi => ?_, fun i hi => ⟨hN i hi, Att_r ha1 (fun i hi => (hR.2 i hi).2) i hi⟩⟩
  have h9 := q999 (hr i hi)
  rw [r2 i hi, r3 i hi, s2 i hi, s3 i hi, ← hTU i hi]
  by_cases c : i = 12 * p + k
  · rw [if_pos c, if_pos c, if_pos c]
    refine ⟨rfl, by omega, by omega, Or.inr ⟨fun z => ?_, hd⟩⟩
    rw [z, l_0] at h9; omega
  · rw [if_neg c, if_neg c, if_neg c]
    refine ⟨rfl, (hr i hi).1, (hr i hi).2, ?_⟩
    by_cases c2 : ∃ q, q < 12 ∧ i = 12 * p + q
    · obtain ⟨q, hq, rfl⟩ := c2
      by_cases z : mP B C K n p k q
      · exact Or.inl ⟨by rw [hTU _ hi]; exact (hF2.1 q hq).1 z, (hL2.1 q hq).1 z⟩
      · have x1 : T1 (12 * p + q) = A (t + 2) (12 * p + q) := by rw [hTU _ hi, (hF2.1 q hq).2 z, (hR.1 _ hi).1]
        rw [x1, (hL2.1 q hq).2 z]
        exact (hR.1 _ hi).2.2.2
    · have x1 : T1 i = A (t + 2) i := hF1.2 i hi (fun q hq e => c2 ⟨q, hq, e⟩)
      rw [x1, hL2.2 i hi (fun q hq e => c2 ⟨q, hq, e⟩)]
      exact (hR.1 _ hi).2.2.2
/-! alike: the answers agree -/
theorem kn_out {n : Nat} {a : Int32} (M : qM) (h : ¬ (0 ≤ a.toInt ∧ a.toInt < 12)) : f_X2_knows n a M = some (0, M) ∧ f_X12_isKind n a M = some (0, M) := by
  unfold f_X2_knows f_X12_isKind
  by_cases c1 : a < (0 : Int32)
  · rw [if_pos c1, if_pos c1]; exact ⟨rfl, rfl⟩
  · have c2 : (12 : Int32) ≤ a := by
      rw [Int32.lt_iff_toInt_lt, l_0] at c1
      rw [Int32.le_iff_toInt_le, l_12]
      omega
    rw [if_neg c1, if_neg c1, if_pos c2, if_pos c2]; exact ⟨rfl, rfl⟩
theorem in12 {a : Int32} (h : 0 ≤ a.toInt ∧ a.toInt < 12) : ∃ k : Nat, k < 12 ∧ a = nI k := ⟨a.toInt.toNat, by omega, nI_i (by omega)⟩
theorem nI_inj {a b : Nat} (ha : a < 2 ^ 31) (hb : b < 2 ^ 31) (h : nI a = nI b) : a = b := by
  have := congrArg Int32.toInt h
  rw [nI_toInt ha, nI_toInt hb] at this
  omega
theorem c_finds {n : Nat} (hn : 200000 ≤ n) {j : Nat} (hj : q_isLaw j) {C : List Int} {K : List Kl} (hK : Kg (cdl C) C.length K) {k i : Nat} (hk : k < 12) (hi : i < 12) (d : Int32) (M : qM) (hG : G M) (hL : LJ j M C K) (hX : MK (M 5)) : qP (f_X1_findsAlike n j (nI k) (nI i) d M) (fun v _ => v = lkv C K n (M 4) (M 5) d k i) := by
  have ek : (nI k).toNatClampNeg = k := by rw [tnc, nI_toInt (by omega)]; rfl
  have ei : (nI i).toNatClampNeg = i := by rw [tnc, nI_toInt (by omega)]; rfl
  have tk : (nI k).toInt = (k : Int) := nI_toInt (by omega)
  have ti : (nI i).toInt = (i : Int) := nI_toInt (by omega)
  unfold f_X1_findsAlike lkv
  refine P_eq tk ti (fun c => P_ret ?_) (fun c => ?_)
  · rw [if_pos (by omega)]
  · rw [if_neg (show ¬ k = i by omega)]
    refine P_qg (fun _ _ => P_qg (fun _ _ => ?_))
    rw [ek]
    refine P_qc (P_and (c_deed (nI k) (M 4 k) (M 5 k) d M) (P_T (t_X1_tellDeed hn (nI k) (M 4 k) (M 5 k) d M hG (by omega)))) ?_
    rintro _ m1 ⟨⟨hF, e1⟩, _, g1, _⟩
    have n35 : ∀ q, q ≤ 6 → j + q ≠ 35 := fun q hq => by rcases hj with rfl | rfl <;> omega
    refine P_qc (c_isAlike hn hj hK (nI i) m1 g1 (LJ_cg hL (fun q hq => e1 _ (n35 q hq))) (FD_of hF)) ?_
    intro r2 m3 hr2
    rw [ei, e1 5 (by decide), bc_mk (hX k hk)] at hr2
    exact P_qb (P_ret hr2)
abbrev AQ (told : Int32) (lk : Nat → Nat → Int32) (a1 a2 v : Int32) : Prop := (¬ (∃ k i : Nat, (k < 12 ∧ i < 12) ∧ (a1 = nI k ∧ a2 = nI i) ∧ bitI told k ∧ bitI told i) ∧ v = -1) ∨ (∃ k i : Nat, (k < 12 ∧ i < 12) ∧ (a1 = nI k ∧ a2 = nI i) ∧ (bitI told k ∧ bitI told i) ∧ v = if lk k i = 0 then 0 else 1)
theorem AQ_eq {told : Int32} {lk lk' : Nat → Nat → Int32} {a1 a2 v w : Int32} (h : AQ told lk a1 a2 v) (k : AQ told lk' a1 a2 w) (hl : ∀ k i, k < 12 → i < 12 → lk k i = lk' k i) : v = w := by
  rcases h with ⟨h1, h2⟩ | ⟨p, q, h1, h2, h3, h4⟩ <;> rcases k with ⟨k1, k2⟩ | ⟨p', q', k1, k2, k3, k4⟩
  · rw [h2, k2]
  · exact absurd ⟨p', q', k1, k2, k3⟩ h1
  · exact absurd ⟨p, q, h1, h2, h3⟩ k1
  · have e1 : p = p' := nI_inj (by omega) (by omega) (by rw [← h2.1, ← k2.1])
    have e2 : q = q' := nI_inj (by omega) (by omega) (by rw [← h2.2, ← k2.2])
    subst e1 e2
    rw [h4, k4, hl p q h1.1 h1.2]
theorem c_alike {n : Nat} (hn : 200000 ≤ n) {j : Nat} (hj : q_isLaw j) {C : List Int} {K : List Kl} (hK : Kg (cdl C) C.length K) (a1 a2 : Int32) (M : qM) (hG : G M) (hL : LJ j M C K) (hX : MK (M 5)) : qP (f_X11_alike n j a1 a2 M) (fun v _ => AQ (M 3 3) (lkv C K n (M 4) (M 5) (M 7 9)) a1 a2 v) := by
  unfold f_X11_alike
  by_cases h1 : 0 ≤ a1.toInt ∧ a1.toInt < 12
  · obtain ⟨k, hk, rfl⟩ := in12 h1
    rw [c_kn hk, qc_v]
    by_cases b1 : bitI (M 3 3) k
    · rw [if_pos b1]
      refine P_eq l_1 l_0 (fun z => by omega) (fun _ => ?_)
      by_cases h2 : 0 ≤ a2.toInt ∧ a2.toInt < 12
      · obtain ⟨i, hi, rfl⟩ := in12 h2
        rw [c_kn hi, qc_v]
        by_cases b2 : bitI (M 3 3) i
        · rw [if_pos b2]
          refine P_eq l_1 l_0 (fun z => by omega) (fun _ => ?_)
          refine P_qc (c_finds hn hj hK hk hi (M 7 9) M hG hL hX) ?_
          intro r5 m6 hr5
          refine P_if (fun c => P_ret (Or.inr ⟨k, i, ⟨hk, hi⟩, ⟨rfl, rfl⟩, ⟨b1, b2⟩, ?_⟩)) (fun c => P_ret (Or.inr ⟨k, i, ⟨hk, hi⟩, ⟨rfl, rfl⟩, ⟨b1, b2⟩, ?_⟩))
          · rw [← hr5, if_pos c]
          · rw [← hr5, if_neg c]
        · rw [if_neg b2]
          refine P_eq l_0 l_0 (fun _ => P_ret (Or.inl ⟨?_, rfl⟩)) (fun z => absurd rfl z)
          rintro ⟨k', i', ⟨q1, q2⟩, ⟨_, q3⟩, _, q4⟩
          have : i = i' := nI_inj (by omega) (by omega) q3
          subst this
          exact b2 q4
      · rw [(kn_out M h2).1, qc_v]
        refine P_eq l_0 l_0 (fun _ => P_ret (Or.inl ⟨?_, rfl⟩)) (fun z => absurd rfl z)
        rintro ⟨k', i', ⟨q1, q2⟩, ⟨_, q3⟩, _, q4⟩
        exact h2 (by rw [q3, nI_toInt (by omega)]; omega)
    · rw [if_neg b1]
      refine P_eq l_0 l_0 (fun _ => P_ret (Or.inl ⟨?_, rfl⟩)) (fun z => absurd rfl z)
      rintro ⟨k', i', ⟨q1, q2⟩, ⟨q3, _⟩, q4, _⟩
      have : k = k' := nI_inj (by omega) (by omega) q3
      subst this
      exact b1 q4
  · rw [(kn_out M h1).1, qc_v]
    refine P_eq l_0 l_0 (fun _ => P_ret (Or.inl ⟨?_, rfl⟩)) (fun z => absurd rfl z)
    rintro ⟨k', i', ⟨q1, q2⟩, ⟨q3, _⟩, q4, _⟩
    exact h1 (by rw [q3, nI_toInt (by omega)]; omega)
theorem d_alike {n : Nat} (hn : 200000 ≤ n) {C : List Int} {K : List Kl} (hK : Kg (cdl C) C.length K) (h240 : C.length ≤ 240) (a1 a2 : Int32) (M : qM) (hG : G M) (hL : LM M C K) : qP (f_X12_alike n a1 a2 M) (fun v _ => AQ (M 77 6) (lkv C K n (M 81) (M 82) (M 78 313)) a1 a2 v) := by
  unfold f_X12_alike
  by_cases h1 : 0 ≤ a1.toInt ∧ a1.toInt < 12
  · obtain ⟨k, hk, rfl⟩ := in12 h1
    rw [d_kn hk, qc_v]
    by_cases b1 : bitI (M 77 6) k
    · rw [if_pos b1]
      refine P_eq l_1 l_0 (fun z => by omega) (fun _ => ?_)
      by_cases h2 : 0 ≤ a2.toInt ∧ a2.toInt < 12
      · obtain ⟨i, hi, rfl⟩ := in12 h2
        rw [d_kn hi, qc_v]
        by_cases b2 : bitI (M 77 6) i
        · rw [if_pos b2]
          refine P_eq l_1 l_0 (fun z => by omega) (fun _ => ?_)
          refine P_qc (d_isLike hn hK h240 (k := k) (i := i) (by omega) hi M hG hL) ?_
          intro r5 m6 hr5
          refine P_if (fun c => P_ret (Or.inr ⟨k, i, ⟨hk, hi⟩, ⟨rfl, rfl⟩, ⟨b1, b2⟩, ?_⟩)) (fun c => P_ret (Or.inr ⟨k, i, ⟨hk, hi⟩, ⟨rfl, rfl⟩, ⟨b1, b2⟩, ?_⟩))
          · rw [← hr5, if_pos c]
          · rw [← hr5, if_neg c]
        · rw [if_neg b2]
          refine P_eq l_0 l_0 (fun _ => P_ret (Or.inl ⟨?_, rfl⟩)) (fun z => absurd rfl z)
          rintro ⟨k', i', ⟨q1, q2⟩, ⟨_, q3⟩, _, q4⟩
          have : i = i' := nI_inj (by omega) (by omega) q3
          subst this
          exact b2 q4
      · rw [(kn_out M h2).2, qc_v]
        refine P_eq l_0 l_0 (fun _ => P_ret (Or.inl ⟨?_, rfl⟩)) (fun z => absurd rfl z)
        rintro ⟨k', i', ⟨q1, q2⟩, ⟨_, q3⟩, _, q4⟩
        exact h2 (by rw [q3, nI_toInt (by omega)]; omega)
    · rw [if_neg b1]
      refine P_eq l_0 l_0 (fun _ => P_ret (Or.inl ⟨?_, rfl⟩)) (fun z => absurd rfl z)
      rintro ⟨k', i', ⟨q1, q2⟩, ⟨q3, _⟩, q4, _⟩
      have : k = k' := nI_inj (by omega) (by omega) q3
      subst this
      exact b1 q4
  · rw [(kn_out M h1).2, qc_v]
    refine P_eq l_0 l_0 (fun _ => P_ret (Or.inl ⟨?_, rfl⟩)) (fun z => absurd rfl z)
    rintro ⟨k', i', ⟨q1, q2⟩, ⟨q3, _⟩, q4, _⟩
    exact h1 (by rw [q3, nI_toInt (by omega)]; omega)
theorem alike_ag {n : Nat} (hn : 200000 ≤ n) {j : Nat} (hj : q_isLaw j) {a1 a2 v1 v2 : Int32} {M m1 m2 : qM} (hG : G M) (hG1 : G m1) (hD : KD M M) (hL : LR j M M) (hday : M 7 9 = M 78 313) (e77 : ∀ c, 77 ≤ c → m1 c = M c) (e1 : f_X11_alike n j a1 a2 M = some (v1, m1)) (e2 : f_X12_alike n a1 a2 m1 = some (v2, m2)) : v1 = v2 := by
  obtain ⟨C, K, h1, h2, h3, h4⟩ := hL
  have q1 := c_alike hn hj h3 a1 a2 M hG h1 hD.2.1 v1 m1 e1
  have q2 := d_alike hn h3 h4 a1 a2 m1 hG1 (LM_cg h2 (fun c c1 c2 => e77 c (by omega)) (by rw [e77 77 (by decide)])) v2 m2 e2
  rw [e77 77 (by decide), e77 78 (by decide), e77 81 (by decide), e77 82 (by decide), ← hD.1, ← hday] at q2
  exact AQ_eq q1 q2 (fun k i hk hi => lkv_cg (hD.2.2 k hk).1 (hD.2.2 k hk).2.1 (hD.2.2 i hi).2.1)
/-! kind: what is told stays alike -/
theorem kind_st {n : Nat} {M m1 m2 : qM} {a1 a2 a3 a4 v1 v2 : Int32} (hD : KD M M) (e1 : f_X11_kind n a1 a2 a3 a4 M = some (v1, m1)) (e2 : f_X12_kind n a1 a2 a3 a4 m1 = some (v2, m2)) : v1 = v2 ∧ KD m2 m2 := by
  have h := hD.1
  have fin : ∀ {v : Int32}, f_X11_kind n a1 a2 a3 a4 M = some (v, M) → f_X12_kind n a1 a2 a3 a4 M = some (v, M) → v1 = v2 ∧ KD m2 m2 := by
    intro v q1 q2
    rw [e1] at q1
    cases q1
    rw [e2] at q2
    cases q2
    exact ⟨rfl, hD⟩
  by_cases c1 : a1 < 0
  · exact fin (v := 0) (by simp [f_X11_kind, f_X2_tell, c1, qc, qb]) (by simp [f_X12_kind, in_eq, qc, c1])
  by_cases c2 : (12 : Int32) ≤ a1
  · have d2 : (11 : Int32) < a1 := by
      simp only [Int32.lt_iff_toInt_lt, Int32.le_iff_toInt_le] at *
      simp at *
      omega
    exact fin (v := 0) (by simp [f_X11_kind, f_X2_tell, c1, c2, qc, qb]) (by simp [f_X12_kind, in_eq, qc, d2])
  have d2 : ¬ (11 : Int32) < a1 := by
    simp only [Int32.lt_iff_toInt_lt, Int32.le_iff_toInt_le] at *
    simp at *
    omega
  have k2 := kn_eq (n := n) (M := M) c1 c2
  have k3 := ik_eq (n := n) (M := M) c1 c2
  rw [← h] at k3
  by_cases ck : ((M 3 3) >>> (a1 &&& 31)) &&& (1 : Int32) = (1 : Int32)
  · rw [if_pos ck] at k2 k3
    exact fin (v := 0) (by simp [f_X11_kind, f_X2_tell, c1, c2, k2, qc, qb]) (by simp [f_X12_kind, in_eq, qc, c1, d2, k3])
  rw [if_neg ck] at k2 k3
  by_cases c3 : a2 < 1
  · exact fin (v := 0) (by simp [f_X11_kind, f_X2_tell, c1, c2, c3, k2, qc, qb]) (by simp [f_X12_kind, in_eq, qc, c1, d2, c3, k3])
  by_cases c4 : a2 ≤ (12 : Int32)
  rotate_left
  · have d4 : (12 : Int32) < a2 := Int32.not_le.mp c4
    exact fin (v := 0) (by simp [f_X11_kind, f_X2_tell, c1, c2, c3, c4, k2, qc, qb]) (by simp [f_X12_kind, in_eq, qc, c1, d2, c3, d4, k3])
  have d4 : ¬ (12 : Int32) < a2 := Int32.not_lt.mpr c4
  by_cases c5 : a3 < 0
  · exact fin (v := 0) (by simp [f_X11_kind, f_X2_tell, c1, c2, c3, c4, c5, k2, qc, qb]) (by simp [f_X12_kind, in_eq, qc, c1, d2, c3, d4, c5, k3])
  by_cases c6 : (255 : Int32) < a3
  · exact fin (v := 0) (by simp [f_X11_kind, f_X2_tell, c1, c2, c3, c4, c5, c6, k2, qc, qb]) (by simp [f_X12_kind, in_eq, qc, c1, d2, c3, d4, c5, c6, k3])
  have si := sh_iff (a4 := a4) c1 c2
  by_cases c7 : a4 >>> (a1 &&& 31) = 0
  rotate_left
  · have q0 : f_X11_kind n a1 a2 a3 a4 M = some (0, M) := by simp [f_X11_kind, f_X2_tell, c1, c2, c3, c4, c5, c6, c7, k2, qc, qb]
    by_cases c8 : a4 < 0
    · exact fin (v := 0) q0 (by simp [f_X12_kind, in_eq, qc, c1, d2, c3, d4, c5, c6, k3, c8])
    · have c9 : (1 : Int32) <<< (a1 &&& 31) ≤ a4 := by
        apply Classical.byContradiction
        intro q
        exact c7 (si.mpr ⟨c8, q⟩)
      exact fin (v := 0) q0 (by simp [f_X12_kind, in_eq, qc, c1, d2, c3, d4, c5, c6, k3, c8, c9])
  obtain ⟨c8, c9⟩ := si.mp c7
  by_cases cn : a4 &&& ((M 3 3) ^^^ (-1 : Int32)) = 0
  rotate_left
  · have cm : ¬ a4 &&& ((M 77 6) ^^^ (-1 : Int32)) = 0 := by rw [← h]; exact cn
    have cn2 := cn
    have cm2 := cm
    simp at cn2 cm2
    exact fin (v := 0) (by simp [f_X11_kind, f_X2_tell, f_X2_knowsAll, c1, c2, c3, c4, c5, c6, c7, cn2, k2, qc, qb]) (by simp [f_X12_kind, in_eq, qc, c1, d2, c3, d4, c5, c6, k3, c8, c9, cm2])
  have g1 : ∀ E : qR, qg a1 12 E = E := fun E => by rcases i12 c1 c2 with rfl | rfl | rfl | rfl | rfl | rfl | rfl | rfl | rfl | rfl | rfl | rfl <;> rfl
  have g2 : ∀ E : qR, qg a1 13 E = E := fun E => by rcases i12 c1 c2 with rfl | rfl | rfl | rfl | rfl | rfl | rfl | rfl | rfl | rfl | rfl | rfl <;> rfl
  have hA : f_X11_kind n a1 a2 a3 a4 M = some ((1 : Int32), mu (mu (mu (mu M 4 a1.toNatClampNeg a2) 5 a1.toNatClampNeg a3) 6 a1.toNatClampNeg a4) 3 3 (mu (mu (mu M 4 a1.toNatClampNeg a2) 5 a1.toNatClampNeg a3) 6 a1.toNatClampNeg a4 3 3 ||| 1 <<< (a1 &&& 31))) := by
    unfold f_X11_kind f_X2_tell f_X2_knowsAll
    simp only [c1, c2, c3, c4, c5, c6, c7, cn, k2, qc, if_true, if_false, g1, qlm, qb, show ¬ ((1 : Int32) = 0) from by decide, or_true, false_or]
  rw [e1] at hA
  cases hA
  have f1 : mu (mu (mu M 4 a1.toNatClampNeg a2) 5 a1.toNatClampNeg a3) 6 a1.toNatClampNeg a4 3 3 = M 3 3 := by rw [mu_ne (Or.inl (by decide)), mu_ne (Or.inl (by decide)), mu_ne (Or.inl (by decide))]
  rw [f1] at e2
  have f2 : mu (mu (mu (mu M 4 a1.toNatClampNeg a2) 5 a1.toNatClampNeg a3) 6 a1.toNatClampNeg a4) 3 3 (M 3 3 ||| 1 <<< (a1 &&& 31)) 77 6 = M 77 6 := by rw [mu_ne (Or.inl (by decide)), mu_ne (Or.inl (by decide)), mu_ne (Or.inl (by decide)), mu_ne (Or.inl (by decide))]
  have f3 : mu (mu (mu (mu M 4 a1.toNatClampNeg a2) 5 a1.toNatClampNeg a3) 6 a1.toNatClampNeg a4) 3 3 (M 3 3 ||| 1 <<< (a1 &&& 31)) 3 3 = M 3 3 ||| 1 <<< (a1 &&& 31) := mu_at
  have g4 : ∀ q, mu (mu (mu (mu M 4 a1.toNatClampNeg a2) 5 a1.toNatClampNeg a3) 6 a1.toNatClampNeg a4) 3 3 (M 3 3 ||| 1 <<< (a1 &&& 31)) 4 q = if q = a1.toNatClampNeg then a2 else M 4 q := by
    intro q
    rw [mu_ne (Or.inl (by decide)), mu_ne (Or.inl (by decide)), mu_ne (Or.inl (by decide))]
    by_cases e : q = a1.toNatClampNeg
    · rw [if_pos e, e, mu_at]
    · rw [if_neg e, mu_ne (Or.inr e)]
  have g5 : ∀ q, mu (mu (mu (mu M 4 a1.toNatClampNeg a2) 5 a1.toNatClampNeg a3) 6 a1.toNatClampNeg a4) 3 3 (M 3 3 ||| 1 <<< (a1 &&& 31)) 5 q = if q = a1.toNatClampNeg then a3 else M 5 q := by
    intro q
    rw [mu_ne (Or.inl (by decide)), mu_ne (Or.inl (by decide))]
    by_cases e : q = a1.toNatClampNeg
    · rw [if_pos e, e, mu_at]
    · rw [if_neg e, mu_ne (Or.inr e), mu_ne (Or.inl (by decide))]
  have g6 : ∀ q, mu (mu (mu (mu M 4 a1.toNatClampNeg a2) 5 a1.toNatClampNeg a3) 6 a1.toNatClampNeg a4) 3 3 (M 3 3 ||| 1 <<< (a1 &&& 31)) 6 q = if q = a1.toNatClampNeg then a4 else M 6 q := by
    intro q
    rw [mu_ne (Or.inl (by decide))]
    by_cases e : q = a1.toNatClampNeg
    · rw [if_pos e, e, mu_at]
    · rw [if_neg e, mu_ne (Or.inr e), mu_ne (Or.inl (by decide)), mu_ne (Or.inl (by decide))]
  have g81 : mu (mu (mu (mu M 4 a1.toNatClampNeg a2) 5 a1.toNatClampNeg a3) 6 a1.toNatClampNeg a4) 3 3 (M 3 3 ||| 1 <<< (a1 &&& 31)) 81 = M 81 := by rw [mu_nc (by decide), mu_nc (by decide), mu_nc (by decide), mu_nc (by decide)]
  have g82 : mu (mu (mu (mu M 4 a1.toNatClampNeg a2) 5 a1.toNatClampNeg a3) 6 a1.toNatClampNeg a4) 3 3 (M 3 3 ||| 1 <<< (a1 &&& 31)) 82 = M 82 := by rw [mu_nc (by decide), mu_nc (by decide), mu_nc (by decide), mu_nc (by decide)]
  have g83 : mu (mu (mu (mu M 4 a1.toNatClampNeg a2) 5 a1.toNatClampNeg a3) 6 a1.toNatClampNeg a4) 3 3 (M 3 3 ||| 1 <<< (a1 &&& 31)) 83 = M 83 := by rw [mu_nc (by decide), mu_nc (by decide), mu_nc (by decide), mu_nc (by decide)]
  generalize mu (mu (mu (mu M 4 a1.toNatClampNeg a2) 5 a1.toNatClampNeg a3) 6 a1.toNatClampNeg a4) 3 3 (M 3 3 ||| 1 <<< (a1 &&& 31)) = N at e2 f2 f3 g4 g5 g6 g81 g82 g83
  have k4 := ik_eq (n := n) (M := N) c1 c2
  rw [f2, ← h, if_neg ck] at k4
  have cm : a4 &&& ((N 77 6) ^^^ (-1 : Int32)) = 0 := by rw [f2, ← h]; exact cn
  have hB : f_X12_kind n a1 a2 a3 a4 N = some ((1 : Int32), mu (mu (mu (mu N 77 6 (N 77 6 ||| 1 <<< (a1 &&& 31))) 81 a1.toNatClampNeg a2) 82 a1.toNatClampNeg a3) 83 a1.toNatClampNeg a4) := by
    unfold f_X12_kind
    simp only [in_eq, c1, d2, c3, d4, c5, c6, c8, c9, cm, k4, qc, or_self, if_true, if_false, g2, qlm, show ¬ ((1 : Int32) = 0) from by decide]
  rw [e2] at hB
  cases hB
  rw [Int32.lt_iff_toInt_lt, l_0] at c5
  rw [Int32.lt_iff_toInt_lt, l_255] at c6
  have n4 : mu (mu (mu (mu N 77 6 (N 77 6 ||| 1 <<< (a1 &&& 31))) 81 a1.toNatClampNeg a2) 82 a1.toNatClampNeg a3) 83 a1.toNatClampNeg a4 4 = N 4 := by rw [mu_nc (by decide), mu_nc (by decide), mu_nc (by decide), mu_nc (by decide)]
  have n5 : mu (mu (mu (mu N 77 6 (N 77 6 ||| 1 <<< (a1 &&& 31))) 81 a1.toNatClampNeg a2) 82 a1.toNatClampNeg a3) 83 a1.toNatClampNeg a4 5 = N 5 := by rw [mu_nc (by decide), mu_nc (by decide), mu_nc (by decide), mu_nc (by decide)]
  have n6 : mu (mu (mu (mu N 77 6 (N 77 6 ||| 1 <<< (a1 &&& 31))) 81 a1.toNatClampNeg a2) 82 a1.toNatClampNeg a3) 83 a1.toNatClampNeg a4 6 = N 6 := by rw [mu_nc (by decide), mu_nc (by decide), mu_nc (by decide), mu_nc (by decide)]
  refine ⟨rfl, ?_, ?_, fun q hq => ⟨?_, ?_, ?_⟩⟩
  · rw [mu_ne (Or.inl (by decide)), mu_ne (Or.inl (by decide)), mu_ne (Or.inl (by decide)), mu_ne (Or.inl (by decide)), f3, mu_ne (Or.inl (by decide)), mu_ne (Or.inl (by decide)), mu_ne (Or.inl (by decide)), mu_at, f2, h]
  · intro q hq
    rw [n5, g5 q]
    by_cases e : q = a1.toNatClampNeg
    · rw [if_pos e]; omega
    · rw [if_neg e]; exact hD.2.1 q hq
  · rw [n4, g4 q, mu_ne (Or.inl (by decide)), mu_ne (Or.inl (by decide))]
    by_cases e : q = a1.toNatClampNeg
    · rw [if_pos e, e, mu_at]
    · rw [if_neg e, mu_ne (Or.inr e), mu_ne (Or.inl (by decide)), g81]; exact (hD.2.2 q hq).1
  · rw [n5, g5 q, mu_ne (Or.inl (by decide))]
    by_cases e : q = a1.toNatClampNeg
    · rw [if_pos e, e, mu_at]
    · rw [if_neg e, mu_ne (Or.inr e), mu_ne (Or.inl (by decide)), mu_ne (Or.inl (by decide)), g82]; exact (hD.2.2 q hq).2.1
  · rw [n6, g6 q]
    by_cases e : q = a1.toNatClampNeg
    · rw [if_pos e, e, mu_at]
    · rw [if_neg e, mu_ne (Or.inr e), mu_ne (Or.inl (by decide)), mu_ne (Or.inl (by decide)), mu_ne (Or.inl (by decide)), g83]; exact (hD.2.2 q hq).2.2
/-! what calls leave alike -/
theorem KD_cg {M m : qM} (h : KD M M) (e33 : m 3 3 = M 3 3) (e776 : m 77 6 = M 77 6) (e4 : ∀ q, q < 12 → m 4 q = M 4 q) (e5 : ∀ q, q < 12 → m 5 q = M 5 q) (e6 : ∀ q, q < 12 → m 6 q = M 6 q) (e81 : ∀ q, q < 12 → m 81 q = M 81 q) (e82 : ∀ q, q < 12 → m 82 q = M 82 q) (e83 : ∀ q, q < 12 → m 83 q = M 83 q) : KD m m := by
  obtain ⟨h1, h2, h3⟩ := h
  exact ⟨by rw [e33, e776]; exact h1, fun q hq => by rw [e5 q hq]; exact h2 q hq, fun q hq => ⟨by rw [e4 q hq, e81 q hq]; exact (h3 q hq).1, by rw [e5 q hq, e82 q hq]; exact (h3 q hq).2.1, by rw [e6 q hq, e83 q hq]; exact (h3 q hq).2.2⟩⟩
theorem out46 {l : List Bx} {c q : Nat} (hc : (4 ≤ c ∧ c ≤ 6) ∨ (81 ≤ c ∧ c ≤ 83)) (hq : q < 12) (h : l.all (fun b => (decide (b.2.1 ≤ 4) || decide (7 ≤ b.1)) && (decide (b.2.1 ≤ 81) || decide (84 ≤ b.1) || (decide (12 ≤ b.2.2.1) && decide (b.2.2.2 ≠ 0)))) = true) : ∀ b ∈ l, ¬ inB b c q := by
  intro b hb hi
  rw [List.all_eq_true] at h
  have h3 := h b hb
  obtain ⟨a1, a2, a3⟩ := hi
  simp only [Bool.and_eq_true, Bool.or_eq_true, decide_eq_true_eq] at h3
  omega
theorem KD_S {l : List Bx} {M m : qM} (h : KD M M) (hs : Sm l M m) (e33 : m 3 3 = M 3 3) (e776 : m 77 6 = M 77 6) (hl : l.all (fun b => (decide (b.2.1 ≤ 4) || decide (7 ≤ b.1)) && (decide (b.2.1 ≤ 81) || decide (84 ≤ b.1) || (decide (12 ≤ b.2.2.1) && decide (b.2.2.2 ≠ 0)))) = true) : KD m m :=
  KD_cg h e33 e776 (fun q hq => hs 4 q (out46 (by omega) hq hl)) (fun q hq => hs 5 q (out46 (by omega) hq hl)) (fun q hq => hs 6 q (out46 (by omega) hq hl)) (fun q hq => hs 81 q (out46 (by omega) hq hl)) (fun q hq => hs 82 q (out46 (by omega) hq hl)) (fun q hq => hs 83 q (out46 (by omega) hq hl))
theorem outl2 {j : Nat} (hj : q_isLaw j) {l : List Bx} {k s : Nat} (hk : k ≤ 6) (h : l.all (fun b => decide (b.2.1 ≤ 37) || decide (53 ≤ b.1) || (decide (44 ≤ b.1) && decide (b.2.1 ≤ 46))) = true) : ∀ b ∈ l, ¬ inB b (j + k) s := by
  intro b hb hi
  rw [List.all_eq_true] at h
  have h3 := h b hb
  obtain ⟨a1, a2, _⟩ := hi
  simp only [Bool.or_eq_true, Bool.and_eq_true, decide_eq_true_eq] at h3
  rcases hj with rfl | rfl <;> omega
theorem LR_S {j : Nat} (hj : q_isLaw j) {l : List Bx} {M m : qM} (h : LR j M M) (hs : Sm l M m) (h1 : l.all (fun b => decide (b.2.1 ≤ 37) || decide (53 ≤ b.1) || (decide (44 ≤ b.1) && decide (b.2.1 ≤ 46))) = true) (h2 : l.all (fun b => decide (b.2.1 ≤ 91) || decide (96 ≤ b.1)) = true) (h17 : m 77 17 = M 77 17) : LR j m m :=
  LR_cg h (fun k hk => funext (fun s => hs _ _ (outl2 hj hk h1))) (fun c c1 c2 => funext (fun s => hs c s (out91 c1 c2 h2))) h17
theorem out77 {l : List Bx} {c s : Nat} (hc : 77 ≤ c) (h : l.all (fun b => decide (b.2.1 ≤ 77)) = true) : ∀ b ∈ l, ¬ inB b c s := by
  intro b hb hi
  rw [List.all_eq_true] at h
  have h3 := h b hb
  obtain ⟨a1, a2, _⟩ := hi
  simp only [decide_eq_true_eq] at h3
  omega
theorem KD_0 {M : qM} (hF : Fr M) : KD M M := by
  have z : ((0 : Int32).toInt : Int) = 0 := rfl
  refine ⟨by rw [hF.1 3 3 (by decide), hF.1 77 6 (by decide)], fun q _ => by rw [hF.1 5 q (by decide)]; omega, fun q _ => ⟨?_, ?_, ?_⟩⟩
  · rw [hF.1 4 q (by decide), hF.2.2 81 q (by decide) (by decide) (by decide) (by decide)]
  · rw [hF.1 5 q (by decide), hF.2.2 82 q (by decide) (by decide) (by decide) (by decide)]
  · rw [hF.1 6 q (by decide), hF.2.2 83 q (by decide) (by decide) (by decide) (by decide)]
theorem LR_0 {M : qM} (hF : Fr M) : LR 37 M M := by
  have z : ((0 : Int32).toInt : Int) = 0 := rfl
  refine ⟨[], [], ⟨⟨by rw [hF.1 37 6 (by decide)]; exact z, Fn_nil⟩, by rw [hF.1 37 7 (by decide)]; exact z, fun k hk => absurd hk (by simp)⟩, ⟨Fn_nil, by rw [hF.1 77 17 (by decide)]; exact z, fun k hk => absurd hk (by simp)⟩, (fun q hq => by cases hq), by decide⟩
/-! loophole: the answers agree -/
def KT (M : qM) : Prop := ∃ t, t < 4096 ∧ M 3 3 = nI t
theorem KT_mk {M : qM} {t : Nat} (ht : t < 4096) (q : M 3 3 = nI t) : KT M := by
  unfold KT
  exact ⟨t, ht, q⟩
theorem KT_ex {M : qM} (h : KT M) : ∃ t, t < 4096 ∧ M 3 3 = nI t := h
theorem KT_cg {M m : qM} (h : KT M) (e : m 3 3 = M 3 3) : KT m := by
  obtain ⟨t, ht, q⟩ := KT_ex h
  exact KT_mk ht (by rw [e, q])
theorem KT_0 {M : qM} (hF : Fr M) : KT M := KT_mk (t := 0) (by decide) (hF.1 3 3 (by decide))
theorem kind_KT {n : Nat} {M m1 : qM} {a1 a2 a3 a4 v1 : Int32} (h : KT M) (e1 : f_X11_kind n a1 a2 a3 a4 M = some (v1, m1)) : KT m1 := by
  have key : qP (f_X11_kind n a1 a2 a3 a4 M) (fun _ m => KT m) := by
    unfold f_X11_kind f_X2_tell
    refine P_qc (Q := fun _ m => KT m) ?_ (fun v m hm => P_qb (P_ret hm))
    refine P_lt rfl l_0 (fun _ => P_ret h) (fun c1 => ?_)
    refine P_le l_12 rfl (fun _ => P_ret h) (fun c2 => ?_)
    obtain ⟨k, hk, rfl⟩ := in12 (a := a1) ⟨c1, c2⟩
    rw [c_kn hk, qc_v]
    refine P_if (fun _ => ?_) (fun _ => P_ret h)
    refine P_lt rfl l_1 (fun _ => P_ret h) (fun _ => ?_)
    refine P_le rfl l_12 (fun _ => ?_) (fun _ => P_ret h)
    refine P_lt rfl l_0 (fun _ => P_ret h) (fun _ => ?_)
    refine P_lt l_255 rfl (fun _ => P_ret h) (fun _ => ?_)
    refine P_if (fun _ => ?_) (fun _ => P_ret h)
    unfold f_X2_knowsAll
    refine P_qc (Q := fun _ m => m = M) (P_if (fun _ => P_ret rfl) (fun _ => P_ret rfl)) ?_
    intro r3 m4 e4
    rw [e4]
    refine P_if (fun _ => P_ret h) (fun _ => ?_)
    refine P_qg (fun _ _ => P_m (fun m5 _ _ a3 => P_qg (fun _ _ => P_m (fun m6 _ _ b3 => P_qg (fun _ _ => P_m (fun m7 _ _ d3 => P_m (fun m8 f1 _ _ => P_ret ?_)))))))
    obtain ⟨t, ht, q⟩ := KT_ex h
    obtain ⟨c, hc, e⟩ := (bit_or (b := t) (i := 0) (a := k) ht (by decide) hk).2
    exact KT_mk hc (by rw [f1, d3 3 (by decide), b3 3 (by decide), a3 3 (by decide), q, e])
  exact key v1 m1 e1
theorem and_bit {w i : Nat} (hw : w < 4096) (hi : i < 12) : (nI w &&& ((1 : Int32) <<< (nI i &&& 31)) = 0 ↔ ¬ bitI (nI w) i) := by
  have e1 : (1 : Int32) <<< (nI i &&& 31) = nI (2 ^ i) := (by decide +kernel : ∀ a, a < 12 → (1 : Int32) <<< (nI a &&& 31) = nI (2 ^ a)) i hi
  have h2 : 2 ^ i < 2 ^ 12 := Nat.pow_lt_pow_right (by decide) hi
  have h3 : 0 < 2 ^ i := Nat.two_pow_pos i
  have h4 : w &&& 2 ^ i ≤ w := Nat.and_le_left
  rw [e1, n_and, bit_n (by omega) (by omega)]
  constructor
  · intro q t
    have q2 := congrArg Int32.toInt q
    rw [nI_toInt (by omega), l_0] at q2
    have q3 : w &&& 2 ^ i = 0 := by omega
    have q4 := congrArg (fun x => Nat.testBit x i) q3
    simp [Nat.testBit_and, Nat.testBit_two_pow, t] at q4
  · intro t
    have q3 : w &&& 2 ^ i = 0 := by
      apply Nat.eq_of_testBit_eq
      intro k
      rw [Nat.testBit_and, Nat.testBit_two_pow, Nat.zero_testBit]
      by_cases c : i = k
      · subst c
        simp at t
        simp [t]
      · simp [c]
    rw [q3]
    rfl
theorem know_n {a : Int32} {t : Nat} (ht : t < 4096) (h : a &&& (nI t ^^^ (-1 : Int32)) = 0) : ∃ w, w < 4096 ∧ a = nI w := by
  have hb : a.toBitVec &&& (BitVec.ofNat 32 t ^^^ BitVec.allOnes 32) = 0#32 := congrArg Int32.toBitVec h
  rw [BitVec.xor_allOnes] at hb
  refine ⟨(a.toBitVec &&& BitVec.ofNat 32 t).toNat, ?_, ?_⟩
  · rw [BitVec.toNat_and, BitVec.toNat_ofNat, Nat.mod_eq_of_lt (by omega)]
    have := Nat.and_le_right (n := a.toBitVec.toNat) (m := t)
    omega
  · apply Int32.toBitVec_inj.1
    show a.toBitVec = BitVec.ofNat 32 (a.toBitVec &&& BitVec.ofNat 32 t).toNat
    rw [BitVec.ofNat_toNat, BitVec.setWidth_eq]
    apply BitVec.eq_of_getLsbD_eq
    intro i hi
    have q := congrArg (fun x => BitVec.getLsbD x i) hb
    simp only [BitVec.getLsbD_and, BitVec.getLsbD_not, BitVec.getLsbD_zero, hi, decide_true, Bool.true_and] at q ⊢
    revert q
    cases a.toBitVec.getLsbD i <;> cases (BitVec.ofNat 32 t).getLsbD i <;> simp
theorem know_i {t w : Nat} (ht : t < 4096) : nI w &&& (nI t ^^^ (-1 : Int32)) = 0 → ¬ nI w < (0 : Int32) := by
  intro h
  obtain ⟨q, hq, e⟩ := know_n ht h
  rw [e]
  exact nI_n0 (by omega)
abbrev HO (a b : Int32) (L : Nat → Int32) : Prop := ∀ i, i < 12 → (bitI a i → L i ≠ 0) ∧ (bitI b i → L i = 0)
abbrev HQ (a b : Int32) (L : Nat → Int32) (v : Int32) : Prop := (HO a b L ∧ v = 1) ∨ (¬ HO a b L ∧ v = 0)
def hov (a b : Int32) (L : Nat → Int32) : Int32 := if HO a b L then 1 else 0
theorem HQ_v {a b : Int32} {L : Nat → Int32} {v : Int32} (h : HQ a b L v) : v = hov a b L := by
  unfold hov
  rcases h with ⟨h1, h2⟩ | ⟨h1, h2⟩
  · rw [if_pos h1, h2]
  · rw [if_neg h1, h2]
theorem hov_cg {a b : Int32} {L L' : Nat → Int32} (h : ∀ i, i < 12 → L i = L' i) : hov a b L = hov a b L' := by
  unfold hov
  by_cases c : HO a b L
  · have c' : HO a b L' := fun i hi => by rw [← h i hi]; exact c i hi
    rw [if_pos c, if_pos c']
  · have c' : ¬ HO a b L' := fun z => c (fun i hi => by rw [h i hi]; exact z i hi)
    rw [if_neg c, if_neg c']
/-- the class asks whether a deed of no kind is alike -/
abbrev SJz (j : Nat) (C : List Int) (K : List Kl) (X : Nat → Int32) (x d : Int32) (m : qM) : Prop := (G m ∧ LJ j m C K) ∧ m 5 = X ∧ FD (m 35) (nI 12) 1 x d
def lk12 (C : List Int) (K : List Kl) (n : Nat) (X : Nat → Int32) (x d : Int32) (i : Nat) : Int32 := anyL C n (fx (nI 12) 1 x (nI i) (X i) (mbs (x &&& X i) 12) d 0 0 0 0 0) K
theorem c_al12 {n : Nat} (hn : 200000 ≤ n) {j : Nat} (hj : q_isLaw j) {C : List Int} {K : List Kl} (hK : Kg (cdl C) C.length K) {X : Nat → Int32} {x d : Int32} (hx : 0 ≤ x.toInt ∧ x.toInt ≤ 255) {i : Nat} (hi : i < 12) (M : qM) (h : SJz j C K X x d M) : qP (f_X1_isAlike n j (nI i) M) (fun v m => v = lk12 C K n X x d i ∧ SJz j C K X x d m) := by
  obtain ⟨⟨hG, hL⟩, h5, hF⟩ := h
  have ti : (nI i).toInt = (i : Int) := nI_toInt (by omega)
  have ei : (nI i).toNatClampNeg = i := by rw [tnc, ti]; rfl
  refine P_mono (P_and (c_isAlike hn hj hK (nI i) M hG hL hF) (P_T (t_X1_isAlike hn hj (nI i) M hG (by omega)))) ?_
  rintro r4 m5 ⟨hr, _, g5, s5⟩
  rw [ei, h5, bc_mk hx] at hr
  have f5 : FD (m5 35) (nI 12) 1 x d := by
    obtain ⟨⟨q0, q1, q2, q6⟩, q7, q8, q9, q10, q11⟩ := hF
    exact ⟨⟨by rw [s5 35 0 (by decide)]; exact q0, by rw [s5 35 1 (by decide)]; exact q1, by rw [s5 35 2 (by decide)]; exact q2, by rw [s5 35 6 (by decide)]; exact q6⟩, by rw [s5 35 7 (by decide)]; exact q7, by rw [s5 35 8 (by decide)]; exact q8, by rw [s5 35 9 (by decide)]; exact q9, by rw [s5 35 10 (by decide)]; exact q10, by rw [s5 35 11 (by decide)]; exact q11⟩
  exact ⟨hr, ⟨g5, LJ_Sm hj hL s5 rfl⟩, by rw [← h5]; exact funext (fun s_ => s5 5 s_ (outc rfl)), f5⟩
theorem c_hole13 {n : Nat} (hn : 200000 ≤ n) {j : Nat} (hj : q_isLaw j) {C : List Int} {K : List Kl} (hK : Kg (cdl C) C.length K) {a b : Nat} (ha : a < 4096) (hb : b < 4096) {X : Nat → Int32} {x d : Int32} (hx : 0 ≤ x.toInt ∧ x.toInt ≤ 255) : ∀ (m i : Nat) (M : qM), SJz j C K X x d M → i ≤ 12 → (∀ q, q < i → (bitI (nI a) q → lk12 C K n X x d q ≠ 0) ∧ (bitI (nI b) q → lk12 C K n X x d q = 0)) → qP (f_X1_isLoophole_13 n j m (nI a) (nI b) (nI i) M) (fun v _ => HQ (nI a) (nI b) (lk12 C K n X x d) v) := by
  intro m
  induction m with
  | zero => intro i M _ _ _; exact P_none
  | succ m ih =>
    intro i M hS hi hlo
    show qP (b_X1_isLoophole_13 n j (f_X1_isLoophole_13 n j m) (nI a) (nI b) (nI i) M) _
    unfold b_X1_isLoophole_13
    have ti : (nI i).toInt = (i : Int) := nI_toInt (by omega)
    refine P_le l_12 ti (fun c => P_ret (Or.inl ⟨fun q hq => hlo q (by omega), rfl⟩)) (fun c => ?_)
    have hi12 : i < 12 := by omega
    have nx : ∀ (m5 : qM), SJz j C K X x d m5 → ((bitI (nI a) i → lk12 C K n X x d i ≠ 0) ∧ (bitI (nI b) i → lk12 C K n X x d i = 0)) → qP (ql (nI i + (1 : Int32)) (fun x1 => f_X1_isLoophole_13 n j m (nI a) (nI b) x1 m5)) (fun v _ => HQ (nI a) (nI b) (lk12 C K n X x d) v) := by
      intro m5 s5 hp
      refine P_ql (i_add ti l_1 (by omega) (by omega)) (fun x1 hx1 => ?_)
      rw [nI_i (a := x1) (k := i + 1) (by rw [hx1]; omega)]
      refine ih (i + 1) m5 s5 (by omega) (fun q hq => ?_)
      by_cases e : q = i
      · rw [e]; exact hp
      · exact hlo q (by omega)
    have l42 : ∀ m5 : qM, SJz j C K X x d m5 → (bitI (nI a) i → lk12 C K n X x d i ≠ 0) → qP (f_X1_isLoophole_42 n j (f_X1_isLoophole_13 n j m) (nI a) (nI b) (nI i) ((1 : Int32) <<< (nI i &&& 31)) m5) (fun v _ => HQ (nI a) (nI b) (lk12 C K n X x d) v) := by
      intro m5 s5 hp
      unfold f_X1_isLoophole_42
      refine P_if (fun c1 => nx m5 s5 ⟨hp, fun z => absurd z ((and_bit hb hi12).mp c1)⟩) (fun c1 => ?_)
      have b1 : bitI (nI b) i := Classical.byContradiction (fun z => c1 ((and_bit hb hi12).mpr z))
      refine P_qc (c_al12 hn hj hK hx hi12 m5 s5) ?_
      rintro r2 m3 ⟨hr, s3⟩
      refine P_if (fun c2 => nx m3 s3 ⟨hp, fun _ => by rw [← hr]; exact c2⟩) (fun c2 => P_ret (Or.inr ⟨fun z => c2 (by rw [hr]; exact (z i hi12).2 b1), rfl⟩))
    refine P_ql rfl (fun x1 hx1 => ?_)
    rw [show x1 = (1 : Int32) <<< (nI i &&& 31) from Int32.toInt_inj.mp hx1]
    refine P_if (fun c1 => l42 M hS (fun z => absurd z ((and_bit ha hi12).mp c1))) (fun c1 => ?_)
    have b1 : bitI (nI a) i := Classical.byContradiction (fun z => c1 ((and_bit ha hi12).mpr z))
    refine P_qc (c_al12 hn hj hK hx hi12 M hS) ?_
    rintro r2 m3 ⟨hr, s3⟩
    refine P_if (fun c2 => P_ret (Or.inr ⟨fun z => (z i hi12).1 b1 (by rw [← hr]; exact c2), rfl⟩)) (fun c2 => l42 m3 s3 (fun _ z => c2 (by rw [hr]; exact z)))
theorem c_hole {n : Nat} (hn : 200000 ≤ n) {j : Nat} (hj : q_isLaw j) {C : List Int} {K : List Kl} (hK : Kg (cdl C) C.length K) {a b : Nat} (ha : a < 4096) (hb : b < 4096) {w : Nat} (hw : w < 256) {X : Nat → Int32} (M : qM) (hG : G M) (hL : LJ j M C K) (h5 : M 5 = X) (d : Int32) : qP (f_X1_isLoophole n j (nI w) (nI a) (nI b) d M) (fun v m => v = hov (nI a) (nI b) (lk12 C K n X (nI w) d) ∧ G m ∧ LJ j m C K ∧ m 5 = X ∧ m 7 9 = M 7 9) := by
  have tw : (nI w).toInt = (w : Int) := nI_toInt (by omega)
  have n35 : ∀ q, q ≤ 6 → j + q ≠ 35 := fun q hq => by rcases hj with rfl | rfl <;> omega
  refine P_mono (P_and (P := fun v _ => HQ (nI a) (nI b) (lk12 C K n X (nI w) d) v) ?_ (P_T (t_X1_isLoophole hn hj (nI w) (nI a) (nI b) d M hG (by omega)))) ?_
  · unfold f_X1_isLoophole
    refine P_qc (P_and (c_deed 12 1 (nI w) d M) (P_T (t_X1_tellDeed hn 12 1 (nI w) d M hG (by rw [l_12]; omega)))) ?_
    rintro _ m1 ⟨⟨hF, e1⟩, _, g1, _⟩
    exact c_hole13 hn hj hK ha hb (by omega) n 0 m1 ⟨⟨g1, LJ_cg hL (fun q hq => e1 _ (n35 q hq))⟩, by rw [e1 5 (by decide)]; exact h5, FD_of hF⟩ (Nat.zero_le _) (fun q hq => absurd hq (by omega))
  · rintro v m ⟨hq, _, g2, s2⟩
    exact ⟨HQ_v hq, g2, LJ_Sm hj hL s2 rfl, by rw [← h5]; exact funext (fun s_ => s2 5 s_ (outc rfl)), s2 7 9 (by decide)⟩
/-- all marks gone through: the best and how many -/
def lpv (H : Nat → Int32) : Nat → Nat → Int32 → Int32 → Int32 × Int32
  | 0, _, b, f => (b, f)
  | r + 1, w, b, f => if H w = 0 then lpv H r (w + 1) b f else if b = -2 then lpv H r (w + 1) (nI w) (f + 1) else if mbs b 12 ≤ mbs (nI w) 12 then lpv H r (w + 1) b (f + 1) else lpv H r (w + 1) (nI w) (f + 1)
theorem lpv_0 {H : Nat → Int32} {r w : Nat} {b f : Int32} (h : H w = 0) : lpv H (r + 1) w b f = lpv H r (w + 1) b f := by
  show (if H w = 0 then _ else _) = _
  rw [if_pos h]
theorem lpv_1 {H : Nat → Int32} {r w : Nat} {b f : Int32} (h : ¬ H w = 0) : lpv H (r + 1) w b f = if b = -2 then lpv H r (w + 1) (nI w) (f + 1) else if mbs b 12 ≤ mbs (nI w) 12 then lpv H r (w + 1) b (f + 1) else lpv H r (w + 1) (nI w) (f + 1) := by
  show (if H w = 0 then _ else _) = _
  rw [if_neg h]
theorem lpv_cg {H H' : Nat → Int32} : ∀ (r w : Nat) (b f : Int32), w + r = 256 → (∀ q, q < 256 → H q = H' q) → lpv H r w b f = lpv H' r w b f := by
  intro r
  induction r with
  | zero => intro w b f _ _; rfl
  | succ r ih =>
    intro w b f hw h
    have e := h w (by omega)
    by_cases c : H w = 0
    · rw [lpv_0 c, lpv_0 (by rw [← e]; exact c), ih _ _ _ (by omega) h]
    · rw [lpv_1 c, lpv_1 (by rw [← e]; exact c), ih _ _ _ (by omega) h, ih _ _ _ (by omega) h]
theorem c_lp {n : Nat} (hn : 200000 ≤ n) {j : Nat} (hj : q_isLaw j) {C : List Int} {K : List Kl} (hK : Kg (cdl C) C.length K) {a b : Nat} (ha : a < 4096) (hb : b < 4096) {X : Nat → Int32} {d a3 : Int32} {H : Nat → Int32} (hH : ∀ w, w < 256 → H w = hov (nI a) (nI b) (lk12 C K n X (nI w) d)) : ∀ (m r w : Nat) (bst fnd : Int32) (M : qM), G M → LJ j M C K → M 5 = X → M 7 9 = d → w + r = 256 → (bst = -2 ∨ ∃ q, q < 256 ∧ bst = nI q) → qP (f_X11_loophole_49 n j m (nI a) (nI b) a3 bst fnd (nI w) M) (fun v _ => v = if a3 = 0 then (lpv H r w bst fnd).1 else (lpv H r w bst fnd).2) := by
  intro m
  induction m with
  | zero => intro r w bst fnd M _ _ _ _ _ _; exact P_none
  | succ m ih =>
    intro r w bst fnd M hG hL h5 hd hw hb'
    show qP (b_X11_loophole_49 n j (f_X11_loophole_49 n j m) (nI a) (nI b) a3 bst fnd (nI w) M) _
    unfold b_X11_loophole_49
    have tw : (nI w).toInt = (w : Int) := nI_toInt (by omega)
    refine P_lt l_255 tw (fun c => ?_) (fun c => ?_)
    · have hr0 : r = 0 := by clear hb'; omega
      subst hr0
      refine P_if (fun c1 => P_ret ?_) (fun c1 => P_ret ?_)
      · rw [if_pos c1]; rfl
      · rw [if_neg c1]; rfl
    · obtain ⟨r', rfl⟩ : ∃ r', r = r' + 1 := ⟨r - 1, by clear hb'; omega⟩
      have hw' : w < 256 := by clear hb'; omega
      have hw1 : w + 1 + r' = 256 := by clear hb'; omega
      rw [hd]
      refine P_qc (c_hole hn hj hK ha hb hw' M hG hL h5 d) ?_
      rintro r1 m2 ⟨hr, g2, l2, x5, d5⟩
      rw [← hH w hw'] at hr
      have nx : ∀ (bs fn : Int32), (bs = -2 ∨ ∃ q, q < 256 ∧ bs = nI q) → lpv H (r' + 1) w bst fnd = lpv H r' (w + 1) bs fn → qP (ql (nI w + (1 : Int32)) (fun x3 => f_X11_loophole_49 n j m (nI a) (nI b) a3 bs fn x3 m2)) (fun v _ => v = if a3 = 0 then (lpv H (r' + 1) w bst fnd).1 else (lpv H (r' + 1) w bst fnd).2) := by
        intro bs fn hbs e
        refine P_ql (i_add tw l_1 (by clear hb' hbs; omega) (by clear hb' hbs; omega)) (fun x1 hx1 => ?_)
        rw [nI_i (a := x1) (k := w + 1) (by rw [hx1]; clear hb' hbs; omega), e]
        exact ih r' (w + 1) bs fn m2 g2 l2 x5 (d5.trans hd) hw1 hbs
      refine P_if (fun c1 => nx bst fnd hb' (lpv_0 (by rw [← hr]; exact c1))) (fun c1 => ?_)
      have st : lpv H (r' + 1) w bst fnd = _ := lpv_1 (by rw [← hr]; exact c1)
      refine P_ql rfl (fun x4 hx4 => ?_)
      rw [show x4 = fnd + 1 from Int32.toInt_inj.mp hx4]
      unfold f_X11_loophole_101
      refine P_if (fun c2 => nx (nI w) (fnd + 1) (Or.inr ⟨w, hw', rfl⟩) (by rw [st, if_pos c2])) (fun c2 => ?_)
      obtain ⟨q, hq, e⟩ := hb'.resolve_left c2
      have eb : bcv bst = mbs bst 12 := by rw [e]; exact fa_bc q (by omega)
      rw [bc_val, qc_v, bc_val, qc_v, fa_bc w (by omega), eb]
      exact P_if (fun c3 => nx bst (fnd + 1) (Or.inr ⟨q, hq, e⟩) (by rw [st, if_neg c2, if_pos c3])) (fun c3 => nx (nI w) (fnd + 1) (Or.inr ⟨w, hw', rfl⟩) (by rw [st, if_neg c2, if_neg c3]))
/-- the model's side -/
theorem d_h0 {n i : Nat} (a : Int32) (M : qM) : f_X12_has0 n a (nI i) M = some ((if bitI a i then 1 else 0), M) := by
  unfold f_X12_has0
  by_cases c : bitI a i
  · rw [if_pos c, if_pos c]
  · rw [if_neg c, if_neg c]
abbrev SN (C : List Int) (K : List Kl) (H X : Nat → Int32) (d : Int32) (m : qM) : Prop := (G m ∧ LM m C K) ∧ m 81 = H ∧ m 82 = X ∧ m 78 313 = d
theorem d_lk12 {n : Nat} (hn : 200000 ≤ n) {C : List Int} {K : List Kl} (hK : Kg (cdl C) C.length K) (h240 : C.length ≤ 240) {H X : Nat → Int32} {d : Int32} {i : Nat} (hi : i < 12) (M : qM) (h : SN C K H X d M) : qP (f_X12_isLike n (nI 12) (nI i) M) (fun v m => v = lkv C K n H X d 12 i ∧ SN C K H X d m) := by
  obtain ⟨⟨hG, hL⟩, h1, h2, h3⟩ := h
  have ti : (nI i).toInt = (i : Int) := nI_toInt (by omega)
  have t12 : (nI 12).toInt = 12 := nI_toInt (by decide)
  refine P_mono (P_and (d_isLike hn hK h240 (k := 12) (i := i) (Nat.le_refl _) hi M hG hL) (P_T (t_X12_isLike hn (nI 12) (nI i) M hG (by omega) (by omega)))) ?_
  rintro v m ⟨hv, _, g5, s5⟩
  rw [h1, h2, h3] at hv
  exact ⟨hv, ⟨g5, LM_cg hL (fun c c1 c2 => funext (fun s_ => s5 c s_ (out91 c1 c2 rfl))) (s5 77 17 (by decide))⟩, by rw [← h1]; exact funext (fun s_ => s5 81 s_ (outc rfl)), by rw [← h2]; exact funext (fun s_ => s5 82 s_ (outc rfl)), by rw [← h3]; exact s5 78 313 (by decide)⟩
theorem d_hole2 {n : Nat} (hn : 200000 ≤ n) {C : List Int} {K : List Kl} (hK : Kg (cdl C) C.length K) (h240 : C.length ≤ 240) {a b : Int32} {H X : Nat → Int32} {d : Int32} : ∀ (m i : Nat) (M : qM), SN C K H X d M → i ≤ 12 → (∀ q, q < i → (bitI a q → lkv C K n H X d 12 q ≠ 0) ∧ (bitI b q → lkv C K n H X d 12 q = 0)) → qP (f_X12_finds_2 n m a b (nI i) M) (fun v m' => HQ a b (lkv C K n H X d 12) v ∧ SN C K H X d m') := by
  intro m
  induction m with
  | zero => intro i M _ _ _; exact P_none
  | succ m ih =>
    intro i M hS hi hlo
    show qP (b_X12_finds_2 n (f_X12_finds_2 n m) a b (nI i) M) _
    unfold b_X12_finds_2
    have ti : (nI i).toInt = (i : Int) := nI_toInt (by omega)
    refine P_le l_12 ti (fun c => P_ret ⟨Or.inl ⟨fun q hq => hlo q (by omega), rfl⟩, hS⟩) (fun c => ?_)
    have hi12 : i < 12 := by omega
    have nx : ∀ (m5 : qM), SN C K H X d m5 → ((bitI a i → lkv C K n H X d 12 i ≠ 0) ∧ (bitI b i → lkv C K n H X d 12 i = 0)) → qP (ql (nI i + (1 : Int32)) (fun x1 => f_X12_finds_2 n m a b x1 m5)) (fun v m' => HQ a b (lkv C K n H X d 12) v ∧ SN C K H X d m') := by
      intro m5 s5 hp
      refine P_ql (i_add ti l_1 (by omega) (by omega)) (fun x1 hx1 => ?_)
      rw [nI_i (a := x1) (k := i + 1) (by rw [hx1]; omega)]
      refine ih (i + 1) m5 s5 (by omega) (fun q hq => ?_)
      by_cases e : q = i
      · rw [e]; exact hp
      · exact hlo q (by omega)
    have l28 : ∀ m5 : qM, SN C K H X d m5 → (bitI a i → lkv C K n H X d 12 i ≠ 0) → qP (f_X12_finds_28 n (f_X12_finds_2 n m) a b (nI i) m5) (fun v m' => HQ a b (lkv C K n H X d 12) v ∧ SN C K H X d m') := by
      intro m5 s5 hp
      unfold f_X12_finds_28
      rw [d_h0, qc_v]
      by_cases b1 : bitI b i
      · rw [if_pos b1]
        refine P_eq l_1 l_0 (fun z => by omega) (fun _ => ?_)
        refine P_qc (d_lk12 hn hK h240 hi12 m5 s5) ?_
        rintro r2 m3 ⟨hr, s3⟩
        exact P_if (fun c2 => nx m3 s3 ⟨hp, fun _ => by rw [← hr]; exact c2⟩) (fun c2 => P_ret ⟨Or.inr ⟨fun z => c2 (by rw [hr]; exact (z i hi12).2 b1), rfl⟩, s3⟩)
      · rw [if_neg b1]
        refine P_eq l_0 l_0 (fun _ => ?_) (fun z => absurd rfl z)
        exact nx m5 s5 ⟨hp, fun z => absurd z b1⟩
    rw [d_h0, qc_v]
    by_cases a1 : bitI a i
    · rw [if_pos a1]
      refine P_eq l_1 l_0 (fun z => by omega) (fun _ => ?_)
      refine P_qc (d_lk12 hn hK h240 hi12 M hS) ?_
      rintro r2 m3 ⟨hr, s3⟩
      exact P_if (fun c2 => P_ret ⟨Or.inr ⟨fun z => (z i hi12).1 a1 (by rw [← hr]; exact c2), rfl⟩, s3⟩) (fun c2 => l28 m3 s3 (fun _ z => c2 (by rw [hr]; exact z)))
    · rw [if_neg a1]
      refine P_eq l_0 l_0 (fun _ => ?_) (fun z => absurd rfl z)
      exact l28 M hS (fun z => absurd z a1)
theorem d_lp {n : Nat} (hn : 200000 ≤ n) {C : List Int} {K : List Kl} (hK : Kg (cdl C) C.length K) (h240 : C.length ≤ 240) {a b : Int32} {X : Nat → Int32} {d a3 : Int32} {H : Nat → Int32} (hH : ∀ w, w < 256 → H w = hov a b (lk12 C K n X (nI w) d)) : ∀ (m r w : Nat) (bst fnd : Int32) (M : qM), G M → LM M C K → M 81 12 = 1 → (∀ i, i < 12 → M 82 i = X i) → M 78 313 = d → w + r = 256 → qP (f_X12_loophole_56 n m a b a3 fnd bst (nI w) M) (fun v _ => v = if a3 = 0 then (lpv H r w bst fnd).1 else (lpv H r w bst fnd).2) := by
  intro m
  induction m with
  | zero => intro r w bst fnd M _ _ _ _ _ _; exact P_none
  | succ m ih =>
    intro r w bst fnd M hG hL h1 h2 hd hw
    show qP (b_X12_loophole_56 n (f_X12_loophole_56 n m) a b a3 fnd bst (nI w) M) _
    unfold b_X12_loophole_56
    have tw : (nI w).toInt = (w : Int) := nI_toInt (by omega)
    refine P_le l_256 tw (fun c => ?_) (fun c => ?_)
    · have hr0 : r = 0 := by omega
      subst hr0
      refine P_if (fun c1 => P_ret ?_) (fun c1 => P_ret ?_)
      · rw [if_pos c1]; rfl
      · rw [if_neg c1]; rfl
    · obtain ⟨r', rfl⟩ : ∃ r', r = r' + 1 := ⟨r - 1, by omega⟩
      have hw' : w < 256 := by omega
      have hw1 : w + 1 + r' = 256 := by omega
      refine P_g hG (rn_82 _ _) (nw_82 _) ?_
      intro m1 a1 a2 a3' g1
      have l1 : LM m1 C K := LM_cg hL (fun c c1 c2 => a3' c (by omega)) (by rw [a3' 77 (by decide)])
      unfold f_X12_finds
      refine P_qc (d_hole2 hn hK h240 (H := m1 81) (X := m1 82) (d := m1 78 313) n 0 m1 ⟨⟨g1, l1⟩, rfl, rfl, rfl⟩ (Nat.zero_le _) (fun q hq => absurd hq (by omega))) ?_
      rintro r1 m2 ⟨hq, ⟨g2, l2⟩, e81, e82, e78⟩
      have hr : r1 = H w := by
        rw [HQ_v hq, hH w hw']
        refine hov_cg (fun i hi => ?_)
        unfold lkv lk12
        rw [if_neg (show ¬ 12 = i by omega), a1, a3' 81 (by decide), h1, a2 i (by omega), h2 i hi, a3' 78 (by decide), hd]
      have b1 : m2 81 12 = 1 := by rw [e81, a3' 81 (by decide)]; exact h1
      have b2 : ∀ i, i < 12 → m2 82 i = X i := fun i hi => by rw [e82, a2 i (by omega)]; exact h2 i hi
      have b3 : m2 78 313 = d := by rw [e78, a3' 78 (by decide)]; exact hd
      clear hq
      have nx : ∀ (bs fn : Int32), lpv H (r' + 1) w bst fnd = lpv H r' (w + 1) bs fn → qP (ql (nI w + (1 : Int32)) (fun x3 => f_X12_loophole_56 n m a b a3 fn bs x3 m2)) (fun v _ => v = if a3 = 0 then (lpv H (r' + 1) w bst fnd).1 else (lpv H (r' + 1) w bst fnd).2) := by
        intro bs fn e
        refine P_ql (i_add tw l_1 (by omega) (by omega)) (fun x1 hx1 => ?_)
        rw [nI_i (a := x1) (k := w + 1) (by rw [hx1]; omega), e]
        exact ih r' (w + 1) bs fn m2 g2 l2 b1 b2 b3 hw1
      refine P_if (fun c1 => nx bst fnd (lpv_0 (by rw [← hr]; exact c1))) (fun c1 => ?_)
      have st : lpv H (r' + 1) w bst fnd = _ := lpv_1 (by rw [← hr]; exact c1)
      refine P_ql rfl (fun x4 hx4 => ?_)
      rw [show x4 = fnd + 1 from Int32.toInt_inj.mp hx4]
      unfold f_X12_loophole_111
      refine P_if (fun c2 => nx (nI w) (fnd + 1) (by rw [st, if_pos c2])) (fun c2 => ?_)
      rw [bits_val (by omega), qc_v, bits_val (by omega), qc_v]
      exact P_if (fun c3 => nx bst (fnd + 1) (by rw [st, if_neg c2, if_pos c3])) (fun c3 => nx (nI w) (fnd + 1) (by rw [st, if_neg c2, if_neg c3]))
