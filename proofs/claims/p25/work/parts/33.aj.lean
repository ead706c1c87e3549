/-! TOWNS: both sides alike; A is the memory with the class's cells, B the one with the model's -/
abbrev RC (t : Nat) (A B : qM) : Prop := (∀ i, i < 96 → A (t + 2) i = B 78 i ∧ 0 ≤ (A (t + 2) i).toInt ∧ (A (t + 2) i).toInt ≤ 999 ∧ ((A (t + 2) i = 0 ∧ B 78 (96 + i) = -2) ∨ (A (t + 2) i ≠ 0 ∧ A (t + 3) i = B 78 (96 + i)))) ∧ (∀ i, i < 96 → A (t + 4) i = B 78 (192 + i) ∧ 0 ≤ (A (t + 4) i).toInt ∧ (A (t + 4) i).toInt ≤ 999)
theorem cA_iff {A B : qM} (h : KD A B) {C : List Int} {K : List Kl} {n : Nat} {d : Int32} {k q : Nat} (hk : k < 12) (hq : q < 12) (ht : bitI (A 3 3) k) : cA k (A 3 3) C K n (A 4) (A 5) d q ↔ mA (B 77 6) C K n (B 81) (B 82) d k q := by
  have e : lkv C K n (A 4) (A 5) d k q = lkv C K n (B 81) (B 82) d k q := lkv_cg (h.2.2 k hk).1 (h.2.2 k hk).2.1 (h.2.2 q hq).2.1
  show (q = k ∨ (bitI (A 3 3) q ∧ lkv C K n (A 4) (A 5) d k q ≠ 0)) ↔ (bitI (B 77 6) q ∧ lkv C K n (B 81) (B 82) d k q ≠ 0)
  rw [e, ← h.1]
  constructor
  · rintro (rfl | z)
    · refine ⟨ht, ?_⟩
      unfold lkv
      rw [if_pos rfl]
      decide
    · exact z
  · intro z; exact Or.inr z
theorem fgV_cg {C : List Int} {K : List Kl} {n : Nat} {H X H' X' : Nat → Int32} {d : Int32} {p q : Nat} {T N T' N' : Nat → Int32} (hp : p < 8) (hq : q < 12) (h1 : H q = H' q) (h2 : X q = X' q) (h3 : ∀ i, i < 96 → T i = T' i) (h4 : ∀ i, i < 96 → N i = N' i) : fgV C K n H X d p T N q = fgV C K n H' X' d p T' N' q := by
  unfold fgV
  rw [h1, h2, h3 (12 * p + q) (by omega), h4 (12 * p + q) (by omega), byA_cg hq (Nat.le_refl _) h3]
theorem fgP_iff {A B : qM} {t : Nat} (h : KD A B) (hR : RC t A B) (hd : A t 9 = B 78 313) {C : List Int} {K : List Kl} {n p k q : Nat} (hp : p < 8) (hk : k < 12) (hq : q < 12) (ht : bitI (A 3 3) k) : fgP (cA k (A 3 3) C K n (A 4) (A 5) (A t 9)) C K n (A 4) (A 5) (A t 9) p (A (t + 2)) (A (t + 3)) (A (t + 4)) q ↔ mP B C K n p k q := by
  have e1 := cA_iff h (C := C) (K := K) (n := n) (d := A t 9) hk hq ht
  have e2 : fgV C K n (A 4) (A 5) (A t 9) p (A (t + 2)) (A (t + 4)) q = fgV C K n (B 81) (B 82) (B 78 313) p (B 78) (fun i => B 78 (192 + i)) q := by
    rw [hd]
    exact fgV_cg hp hq (h.2.2 q hq).1 (h.2.2 q hq).2.1 (fun i hi => (hR.1 i hi).1) (fun i hi => (hR.2 i hi).1)
  have e3 := hR.1 (12 * p + q) (by omega)
  show (_ ∧ _ ∧ _ ∧ _) ↔ (_ ∧ _ ∧ _ ∧ _)
  rw [e2, e1, hd, e3.1]
  constructor
  · rintro ⟨x1, x2, x3, x4⟩
    refine ⟨x1, x2, x3, ?_⟩
    rcases e3.2.2.2 with ⟨z, _⟩ | ⟨_, z⟩
    · exact absurd (by rw [← e3.1]; exact z) x2
    · show _ ≤ (B 78 313 - B 78 (96 + (12 * p + q))).toInt
      rw [← z]; exact x4
  · rintro ⟨x1, x2, x3, x4⟩
    refine ⟨x1, x2, x3, ?_⟩
    rcases e3.2.2.2 with ⟨z, _⟩ | ⟨_, z⟩
    · exact absurd (by rw [← e3.1]; exact z) x2
    · rw [z]; exact x4
theorem Fgt_eq {P Q : Nat → Prop} {p : Nat} (hp : p < 8) {T U T1 U1 : Nat → Int32} (h : Fgt P p T T1) (k : Fgt Q p U U1) (hPQ : ∀ q, q < 12 → (P q ↔ Q q)) (hT : ∀ i, i < 96 → T i = U i) : ∀ i, i < 96 → T1 i = U1 i := by
  intro i hi
  by_cases c : ∃ q, q < 12 ∧ i = 12 * p + q
  · obtain ⟨q, hq, rfl⟩ := c
    by_cases z : P q
    · rw [(h.1 q hq).1 z, (k.1 q hq).1 ((hPQ q hq).mp z)]
    · rw [(h.1 q hq).2 z, (k.1 q hq).2 (fun y => z ((hPQ q hq).mpr y)), hT _ hi]
  · rw [h.2 i hi (fun q hq e => c ⟨q, hq, e⟩), k.2 i hi (fun q hq e => c ⟨q, hq, e⟩), hT i hi]
theorem Fgt_r {P : Nat → Prop} {p : Nat} {T T1 : Nat → Int32} (h : Fgt P p T T1) (hT : ∀ i, i < 96 → 0 ≤ (T i).toInt ∧ (T i).toInt ≤ 999) : ∀ i, i < 96 → 0 ≤ (T1 i).toInt ∧ (T1 i).toInt ≤ 999 := by
  intro i hi
  by_cases c : ∃ q, q < 12 ∧ i = 12 * p + q
  · obtain ⟨q, hq, rfl⟩ := c
    by_cases z : P q
    · rw [(h.1 q hq).1 z]; decide
    · rw [(h.1 q hq).2 z]; exact hT _ hi
  · rw [h.2 i hi (fun q hq e => c ⟨q, hq, e⟩)]; exact hT i hi
theorem vdV_cg {C : List Int} {K : List Kl} {n : Nat} {H X H' X' : Nat → Int32} {d w : Int32} {p k : Nat} {T N T' N' : Nat → Int32} (hp : p < 8) (hk : k < 12) (h1 : H k = H' k) (h2 : X k = X' k) (h3 : ∀ i, i < 96 → T i = T' i) (h4 : ∀ i, i < 96 → N i = N' i) : vdV C K n H X d p k w T N = vdV C K n H' X' d p k w T' N' := by
  unfold vdV
  rw [h1, h2, h3 (12 * p + k) (by omega), h4 (12 * p + k) (by omega), byA_cg hk (Nat.le_refl _) h3]
theorem Att_eq {old vd hc v v' : Int32} {cell : Nat} {N N' N2 N2' : Nat → Int32} (h : Att old vd hc v cell N N2) (k : Att old vd hc v' cell N' N2') (hN : ∀ i, i < 96 → N i = N' i) : v = v' ∧ ∀ i, i < 96 → N2 i = N2' i := by
  rcases h with ⟨a1, a2, a3⟩ | ⟨a1, a2, a3, a4⟩ | ⟨a1, a2, a3, a4⟩ <;> rcases k with ⟨b1, b2, b3⟩ | ⟨b1, b2, b3, b4⟩ | ⟨b1, b2, b3, b4⟩
  · exact ⟨by rw [a2, b2], fun i hi => by rw [a3 i hi, b3 i hi, hN i hi]⟩
  · omega
  · omega
  · omega
  · exact ⟨by rw [a3, b3], fun i hi => by rw [a4 i hi, b4 i hi, hN i hi]⟩
  · exact absurd a2 b2
  · omega
  · exact absurd b2 a2
  · exact ⟨by rw [a3, b3], fun i hi => by rw [a4 i hi, b4 i hi, hN i hi]⟩
theorem q999 {x : Int32} (h : 0 ≤ x.toInt ∧ x.toInt ≤ 999) : 1 ≤ (qmin 999 (x + 1)).toInt ∧ (qmin 999 (x + 1)).toInt ≤ 999 := by
  have h1 := i_min (a := 999) (b := x + 1) l_999 (i_add rfl l_1 (by omega) (by omega))
  omega
theorem Att_r {old vd hc v : Int32} {cell : Nat} {N N2 : Nat → Int32} (h : Att old vd hc v cell N N2) (hN : ∀ i, i < 96 → 0 ≤ (N i).toInt ∧ (N i).toInt ≤ 999) : ∀ i, i < 96 → 0 ≤ (N2 i).toInt ∧ (N2 i).toInt ≤ 999 := by
  intro i hi
  rcases h with ⟨a1, a2, a3⟩ | ⟨a1, a2, a3, a4⟩ | ⟨a1, a2, a3, a4⟩
  · rw [a3 i hi]; exact hN i hi
  · rw [a4 i hi]; exact hN i hi
  · rw [a4 i hi]
    by_cases c : i = cell
    · rw [if_pos c]
      have := q999 (hN i hi)
      omega
    · rw [if_neg c]; exact hN i hi
/-- a try on both sides -/
theorem try_ag {n : Nat} (hn : 200000 ≤ n) {t j p k : Nat} (ht : t = 7 ∨ t = 25) (hj : q_isLaw j) (hp : p < 8) (hk : k < 12) {C : List Int} {K : List Kl} (hK : Kg (cdl C) C.length K) (h240 : C.length ≤ 240) (w : Int32) (hw : 0 ≤ w.toInt ∧ w.toInt ≤ 8) {A B m1 m2 : qM} {v1 v2 : Int32} (gA : G A) (gB : G B) (hL : LJ j A C K) (hM : LM B C K) (hD : KD A B) (hR : RC t A B) (hd : A t 9 = B 78 313) (htold : bitI (A 3 3) k) (e1 : f_X0_attempt n t j (nI p) (nI k) w A = some (v1, m1)) (e2 : f_X12_triesNow n (nI p) (nI k) w B = some (v2, m2)) : v1 = v2 ∧ RC t m1 m2 := by
  have hTA : ∀ i, i < 96 → 0 ≤ (A (t + 2) i).toInt ∧ (A (t + 2) i).toInt ≤ 999 := fun i hi => ⟨(hR.1 i hi).2.1, (hR.1 i hi).2.2.1⟩
  obtain ⟨T1, b, hb, hF1, q2, q3, r2, r3, ha1⟩ := c_att hn ht hj hp hk hK w hw A gA hL hD.2.1 (fun i hi => (hTA i hi).1) v1 m1 e1
  have hb2 : ∀ q, q < 12 → (bitI b q ↔ mA (B 77 6) C K n (B 81) (B 82) (B 78 313) k q) := fun q hq => by rw [hb q hq, cA_iff hD hk hq htold, hd]
  obtain ⟨U1, L1, hF2, hL2, s2, s3, ha2⟩ := d_att hn hp hk hK h240 w hw B gB hM hb2 (fun i hi => by rw [← (hR.1 i hi).1]; exact (hTA i hi).1) v2 m2 e2
  have hPQ := fun q hq => fgP_iff hD hR hd (C := C) (K := K) (n := n) (p := p) (k := k) (q := q) hp hk hq htold
  have hTU := Fgt_eq hp hF1 hF2 hPQ (fun i hi => (hR.1 i hi).1)
  have hr := Fgt_r hF1 hTA
  have es : smB U1 p b 12 = smB T1 p b 12 := smB_cg hp (fun _ _ => Iff.rfl) (fun i hi => (hTU i hi).symm) (Nat.le_refl _)
  have ev : vdV C K n (B 81) (B 82) (B 78 313) p k w U1 (fun i => B 78 (192 + i)) = vdV C K n (A 4) (A 5) (A t 9) p k w T1 (A (t + 4)) := by
    rw [← hd]
    exact vdV_cg hp hk (hD.2.2 k hk).1.symm (hD.2.2 k hk).2.1.symm (fun i hi => (hTU i hi).symm) (fun i hi => (hR.2 i hi).1.symm)
  have eh : hcv (fun i => B 78 (192 + i)) p (B 83 k) 12 = hcv (A (t + 4)) p (A 6 k) 12 := by
    rw [← (hD.2.2 k hk).2.2]
    exact hcv_cg hp (fun i hi => (hR.2 i hi).1.symm) (Nat.le_refl _)
  rw [es, ev, eh] at ha2
  obtain ⟨ev1, hN⟩ := Att_eq ha1 ha2 (fun i hi => (hR.2 i hi).1)
  refine ⟨ev1, fun i hi => ?_, fun i hi => ⟨hN i hi, Att_r ha1 (fun i hi => (hR.2 i hi).2) i hi⟩⟩
  have h9 := q999 (hr i hi)
  rw [r2 i hi, r3 i hi, s2 i hi, s3 i hi, ← hTU i hi]
  by_cases c : i = 12 * p + k
  · rw [if_pos c, if_pos c, if_pos c]
    refine ⟨rfl, by omega, by omega, Or.inr ⟨fun z => ?_, hd⟩⟩
    rw [z, l_0] at h9; omega
  · rw [if_neg c, if_neg c, if_neg c]
    refine ⟨rfl, (hr i hi).1, (hr i hi).2, ?_⟩
    by_cases c2 : ∃ q, q < 12 ∧ i = 12 * p + q
    · obtain ⟨q, hq, rfl⟩ := c2
      by_cases z : mP B C K n p k q
      · exact Or.inl ⟨by rw [hTU _ hi]; exact (hF2.1 q hq).1 z, (hL2.1 q hq).1 z⟩
      · have x1 : T1 (12 * p + q) = A (t + 2) (12 * p + q) := by rw [hTU _ hi, (hF2.1 q hq).2 z, (hR.1 _ hi).1]
        rw [x1, (hL2.1 q hq).2 z]
        exact (hR.1 _ hi).2.2.2
    · have x1 : T1 i = A (t + 2) i := hF1.2 i hi (fun q hq e => c2 ⟨q, hq, e⟩)
      rw [x1, hL2.2 i hi (fun q hq e => c2 ⟨q, hq, e⟩)]
      exact (hR.1 _ hi).2.2.2
/-! alike: the answers agree -/
theorem kn_out {n : Nat} {a : Int32} (M : qM) (h : ¬ (0 ≤ a.toInt ∧ a.toInt < 12)) : f_X2_knows n a M = some (0, M) ∧ f_X12_isKind n a M = some (0, M) := by
  unfold f_X2_knows f_X12_isKind
  by_cases c1 : a < (0 : Int32)
  · rw [if_pos c1, if_pos c1]; exact ⟨rfl, rfl⟩
  · have c2 : (12 : Int32) ≤ a := by
      rw [Int32.lt_iff_toInt_lt, l_0] at c1
      rw [Int32.le_iff_toInt_le, l_12]
      omega
    rw [if_neg c1, if_neg c1, if_pos c2, if_pos c2]; exact ⟨rfl, rfl⟩
theorem in12 {a : Int32} (h : 0 ≤ a.toInt ∧ a.toInt < 12) : ∃ k : Nat, k < 12 ∧ a = nI k := ⟨a.toInt.toNat, by omega, nI_i (by omega)⟩
theorem nI_inj {a b : Nat} (ha : a < 2 ^ 31) (hb : b < 2 ^ 31) (h : nI a = nI b) : a = b := by
  have := congrArg Int32.toInt h
  rw [nI_toInt ha, nI_toInt hb] at this
  omega
theorem c_finds {n : Nat} (hn : 200000 ≤ n) {j : Nat} (hj : q_isLaw j) {C : List Int} {K : List Kl} (hK : Kg (cdl C) C.length K) {k i : Nat} (hk : k < 12) (hi : i < 12) (d : Int32) (M : qM) (hG : G M) (hL : LJ j M C K) (hX : MK (M 5)) : qP (f_X1_findsAlike n j (nI k) (nI i) d M) (fun v _ => v = lkv C K n (M 4) (M 5) d k i) := by
  have ek : (nI k).toNatClampNeg = k := by rw [tnc, nI_toInt (by omega)]; rfl
  have ei : (nI i).toNatClampNeg = i := by rw [tnc, nI_toInt (by omega)]; rfl
  have tk : (nI k).toInt = (k : Int) := nI_toInt (by omega)
  have ti : (nI i).toInt = (i : Int) := nI_toInt (by omega)
  unfold f_X1_findsAlike lkv
  refine P_eq tk ti (fun c => P_ret ?_) (fun c => ?_)
  · rw [if_pos (by omega)]
  · rw [if_neg (show ¬ k = i by omega)]
    refine P_qg (fun _ _ => P_qg (fun _ _ => ?_))
    rw [ek]
    refine P_qc (P_and (c_deed (nI k) (M 4 k) (M 5 k) d M) (P_T (t_X1_tellDeed hn (nI k) (M 4 k) (M 5 k) d M hG (by omega)))) ?_
    rintro _ m1 ⟨⟨hF, e1⟩, _, g1, _⟩
    have n35 : ∀ q, q ≤ 6 → j + q ≠ 35 := fun q hq => by rcases hj with rfl | rfl <;> omega
    refine P_qc (c_isAlike hn hj hK (nI i) m1 g1 (LJ_cg hL (fun q hq => e1 _ (n35 q hq))) (FD_of hF)) ?_
    intro r2 m3 hr2
    rw [ei, e1 5 (by decide), bc_mk (hX k hk)] at hr2
    exact P_qb (P_ret hr2)
abbrev AQ (told : Int32) (lk : Nat → Nat → Int32) (a1 a2 v : Int32) : Prop := (¬ (∃ k i : Nat, (k < 12 ∧ i < 12) ∧ (a1 = nI k ∧ a2 = nI i) ∧ bitI told k ∧ bitI told i) ∧ v = -1) ∨ (∃ k i : Nat, (k < 12 ∧ i < 12) ∧ (a1 = nI k ∧ a2 = nI i) ∧ (bitI told k ∧ bitI told i) ∧ v = if lk k i = 0 then 0 else 1)
theorem AQ_eq {told : Int32} {lk lk' : Nat → Nat → Int32} {a1 a2 v w : Int32} (h : AQ told lk a1 a2 v) (k : AQ told lk' a1 a2 w) (hl : ∀ k i, k < 12 → i < 12 → lk k i = lk' k i) : v = w := by
  rcases h with ⟨h1, h2⟩ | ⟨p, q, h1, h2, h3, h4⟩ <;> rcases k with ⟨k1, k2⟩ | ⟨p', q', k1, k2, k3, k4⟩
  · rw [h2, k2]
  · exact absurd ⟨p', q', k1, k2, k3⟩ h1
  · exact absurd ⟨p, q, h1, h2, h3⟩ k1
  · have e1 : p = p' := nI_inj (by omega) (by omega) (by rw [← h2.1, ← k2.1])
    have e2 : q = q' := nI_inj (by omega) (by omega) (by rw [← h2.2, ← k2.2])
    subst e1 e2
    rw [h4, k4, hl p q h1.1 h1.2]
theorem c_alike {n : Nat} (hn : 200000 ≤ n) {j : Nat} (hj : q_isLaw j) {C : List Int} {K : List Kl} (hK : Kg (cdl C) C.length K) (a1 a2 : Int32) (M : qM) (hG : G M) (hL : LJ j M C K) (hX : MK (M 5)) : qP (f_X11_alike n j a1 a2 M) (fun v _ => AQ (M 3 3) (lkv C K n (M 4) (M 5) (M 7 9)) a1 a2 v) := by
  unfold f_X11_alike
  by_cases h1 : 0 ≤ a1.toInt ∧ a1.toInt < 12
  · obtain ⟨k, hk, rfl⟩ := in12 h1
    rw [c_kn hk, qc_v]
    by_cases b1 : bitI (M 3 3) k
    · rw [if_pos b1]
      refine P_eq l_1 l_0 (fun z => by omega) (fun _ => ?_)
      by_cases h2 : 0 ≤ a2.toInt ∧ a2.toInt < 12
      · obtain ⟨i, hi, rfl⟩ := in12 h2
        rw [c_kn hi, qc_v]
        by_cases b2 : bitI (M 3 3) i
        · rw [if_pos b2]
          refine P_eq l_1 l_0 (fun z => by omega) (fun _ => ?_)
          refine P_qc (c_finds hn hj hK hk hi (M 7 9) M hG hL hX) ?_
          intro r5 m6 hr5
          refine P_if (fun c => P_ret (Or.inr ⟨k, i, ⟨hk, hi⟩, ⟨rfl, rfl⟩, ⟨b1, b2⟩, ?_⟩)) (fun c => P_ret (Or.inr ⟨k, i, ⟨hk, hi⟩, ⟨rfl, rfl⟩, ⟨b1, b2⟩, ?_⟩))
          · rw [← hr5, if_pos c]
          · rw [← hr5, if_neg c]
        · rw [if_neg b2]
          refine P_eq l_0 l_0 (fun _ => P_ret (Or.inl ⟨?_, rfl⟩)) (fun z => absurd rfl z)
          rintro ⟨k', i', ⟨q1, q2⟩, ⟨_, q3⟩, _, q4⟩
          have : i = i' := nI_inj (by omega) (by omega) q3
          subst this
          exact b2 q4
      · rw [(kn_out M h2).1, qc_v]
        refine P_eq l_0 l_0 (fun _ => P_ret (Or.inl ⟨?_, rfl⟩)) (fun z => absurd rfl z)
        rintro ⟨k', i', ⟨q1, q2⟩, ⟨_, q3⟩, _, q4⟩
        exact h2 (by rw [q3, nI_toInt (by omega)]; omega)
    · rw [if_neg b1]
      refine P_eq l_0 l_0 (fun _ => P_ret (Or.inl ⟨?_, rfl⟩)) (fun z => absurd rfl z)
      rintro ⟨k', i', ⟨q1, q2⟩, ⟨q3, _⟩, q4, _⟩
      have : k = k' := nI_inj (by omega) (by omega) q3
      subst this
      exact b1 q4
  · rw [(kn_out M h1).1, qc_v]
    refine P_eq l_0 l_0 (fun _ => P_ret (Or.inl ⟨?_, rfl⟩)) (fun z => absurd rfl z)
    rintro ⟨k', i', ⟨q1, q2⟩, ⟨q3, _⟩, q4, _⟩
    exact h1 (by rw [q3, nI_toInt (by omega)]; omega)
theorem d_alike {n : Nat} (hn : 200000 ≤ n) {C : List Int} {K : List Kl} (hK : Kg (cdl C) C.length K) (h240 : C.length ≤ 240) (a1 a2 : Int32) (M : qM) (hG : G M) (hL : LM M C K) : qP (f_X12_alike n a1 a2 M) (fun v _ => AQ (M 77 6) (lkv C K n (M 81) (M 82) (M 78 313)) a1 a2 v) := by
  unfold f_X12_alike
  by_cases h1 : 0 ≤ a1.toInt ∧ a1.toInt < 12
  · obtain ⟨k, hk, rfl⟩ := in12 h1
    rw [d_kn hk, qc_v]
    by_cases b1 : bitI (M 77 6) k
    · rw [if_pos b1]
      refine P_eq l_1 l_0 (fun z => by omega) (fun _ => ?_)
      by_cases h2 : 0 ≤ a2.toInt ∧ a2.toInt < 12
      · obtain ⟨i, hi, rfl⟩ := in12 h2
        rw [d_kn hi, qc_v]
        by_cases b2 : bitI (M 77 6) i
        · rw [if_pos b2]
          refine P_eq l_1 l_0 (fun z => by omega) (fun _ => ?_)
          refine P_qc (d_isLike hn hK h240 (k := k) (i := i) (by omega) hi M hG hL) ?_
          intro r5 m6 hr5
          refine P_if (fun c => P_ret (Or.inr ⟨k, i, ⟨hk, hi⟩, ⟨rfl, rfl⟩, ⟨b1, b2⟩, ?_⟩)) (fun c => P_ret (Or.inr ⟨k, i, ⟨hk, hi⟩, ⟨rfl, rfl⟩, ⟨b1, b2⟩, ?_⟩))
          · rw [← hr5, if_pos c]
          · rw [← hr5, if_neg c]
        · rw [if_neg b2]
          refine P_eq l_0 l_0 (fun _ => P_ret (Or.inl ⟨?_, rfl⟩)) (fun z => absurd rfl z)
          rintro ⟨k', i', ⟨q1, q2⟩, ⟨_, q3⟩, _, q4⟩
          have : i = i' := nI_inj (by omega) (by omega) q3
          subst this
          exact b2 q4
      · rw [(kn_out M h2).2, qc_v]
        refine P_eq l_0 l_0 (fun _ => P_ret (Or.inl ⟨?_, rfl⟩)) (fun z => absurd rfl z)
        rintro ⟨k', i', ⟨q1, q2⟩, ⟨_, q3⟩, _, q4⟩
        exact h2 (by rw [q3, nI_toInt (by omega)]; omega)
    · rw [if_neg b1]
      refine P_eq l_0 l_0 (fun _ => P_ret (Or.inl ⟨?_, rfl⟩)) (fun z => absurd rfl z)
      rintro ⟨k', i', ⟨q1, q2⟩, ⟨q3, _⟩, q4, _⟩
      have : k = k' := nI_inj (by omega) (by omega) q3
      subst this
      exact b1 q4
  · rw [(kn_out M h1).2, qc_v]
    refine P_eq l_0 l_0 (fun _ => P_ret (Or.inl ⟨?_, rfl⟩)) (fun z => absurd rfl z)
    rintro ⟨k', i', ⟨q1, q2⟩, ⟨q3, _⟩, q4, _⟩
    exact h1 (by rw [q3, nI_toInt (by omega)]; omega)
theorem alike_ag {n : Nat} (hn : 200000 ≤ n) {j : Nat} (hj : q_isLaw j) {a1 a2 v1 v2 : Int32} {M m1 m2 : qM} (hG : G M) (hG1 : G m1) (hD : KD M M) (hL : LR j M M) (hday : M 7 9 = M 78 313) (e77 : ∀ c, 77 ≤ c → m1 c = M c) (e1 : f_X11_alike n j a1 a2 M = some (v1, m1)) (e2 : f_X12_alike n a1 a2 m1 = some (v2, m2)) : v1 = v2 := by
  obtain ⟨C, K, h1, h2, h3, h4⟩ := hL
  have q1 := c_alike hn hj h3 a1 a2 M hG h1 hD.2.1 v1 m1 e1
  have q2 := d_alike hn h3 h4 a1 a2 m1 hG1 (LM_cg h2 (fun c c1 c2 => e77 c (by omega)) (by rw [e77 77 (by decide)])) v2 m2 e2
  rw [e77 77 (by decide), e77 78 (by decide), e77 81 (by decide), e77 82 (by decide), ← hD.1, ← hday] at q2
  exact AQ_eq q1 q2 (fun k i hk hi => lkv_cg (hD.2.2 k hk).1 (hD.2.2 k hk).2.1 (hD.2.2 i hi).2.1)
/-! kind: what is told stays alike -/
theorem kind_st {n : Nat} {M m1 m2 : qM} {a1 a2 a3 a4 v1 v2 : Int32} (hD : KD M M) (e1 : f_X11_kind n a1 a2 a3 a4 M = some (v1, m1)) (e2 : f_X12_kind n a1 a2 a3 a4 m1 = some (v2, m2)) : v1 = v2 ∧ KD m2 m2 := by
  have h := hD.1
  have fin : ∀ {v : Int32}, f_X11_kind n a1 a2 a3 a4 M = some (v, M) → f_X12_kind n a1 a2 a3 a4 M = some (v, M) → v1 = v2 ∧ KD m2 m2 := by
    intro v q1 q2
    rw [e1] at q1
    cases q1
    rw [e2] at q2
    cases q2
    exact ⟨rfl, hD⟩
  by_cases c1 : a1 < 0
  · exact fin (v := 0) (by simp [f_X11_kind, f_X2_tell, c1, qc, qb]) (by simp [f_X12_kind, in_eq, qc, c1])
  by_cases c2 : (12 : Int32) ≤ a1
  · have d2 : (11 : Int32) < a1 := by
      simp only [Int32.lt_iff_toInt_lt, Int32.le_iff_toInt_le] at *
      simp at *
      omega
    exact fin (v := 0) (by simp [f_X11_kind, f_X2_tell, c1, c2, qc, qb]) (by simp [f_X12_kind, in_eq, qc, d2])
  have d2 : ¬ (11 : Int32) < a1 := by
    simp only [Int32.lt_iff_toInt_lt, Int32.le_iff_toInt_le] at *
    simp at *
    omega
  have k2 := kn_eq (n := n) (M := M) c1 c2
  have k3 := ik_eq (n := n) (M := M) c1 c2
  rw [← h] at k3
  by_cases ck : ((M 3 3) >>> (a1 &&& 31)) &&& (1 : Int32) = (1 : Int32)
  · rw [if_pos ck] at k2 k3
    exact fin (v := 0) (by simp [f_X11_kind, f_X2_tell, c1, c2, k2, qc, qb]) (by simp [f_X12_kind, in_eq, qc, c1, d2, k3])
  rw [if_neg ck] at k2 k3
  by_cases c3 : a2 < 1
  · exact fin (v := 0) (by simp [f_X11_kind, f_X2_tell, c1, c2, c3, k2, qc, qb]) (by simp [f_X12_kind, in_eq, qc, c1, d2, c3, k3])
  by_cases c4 : a2 ≤ (12 : Int32)
  rotate_left
  · have d4 : (12 : Int32) < a2 := Int32.not_le.mp c4
    exact fin (v := 0) (by simp [f_X11_kind, f_X2_tell, c1, c2, c3, c4, k2, qc, qb]) (by simp [f_X12_kind, in_eq, qc, c1, d2, c3, d4, k3])
  have d4 : ¬ (12 : Int32) < a2 := Int32.not_lt.mpr c4
  by_cases c5 : a3 < 0
  · exact fin (v := 0) (by simp [f_X11_kind, f_X2_tell, c1, c2, c3, c4, c5, k2, qc, qb]) (by simp [f_X12_kind, in_eq, qc, c1, d2, c3, d4, c5, k3])
  by_cases c6 : (255 : Int32) < a3
  · exact fin (v := 0) (by simp [f_X11_kind, f_X2_tell, c1, c2, c3, c4, c5, c6, k2, qc, qb]) (by simp [f_X12_kind, in_eq, qc, c1, d2, c3, d4, c5, c6, k3])
  have si := sh_iff (a4 := a4) c1 c2
  by_cases c7 : a4 >>> (a1 &&& 31) = 0
  rotate_left
  · have q0 : f_X11_kind n a1 a2 a3 a4 M = some (0, M) := by simp [f_X11_kind, f_X2_tell, c1, c2, c3, c4, c5, c6, c7, k2, qc, qb]
    by_cases c8 : a4 < 0
    · exact fin (v := 0) q0 (by simp [f_X12_kind, in_eq, qc, c1, d2, c3, d4, c5, c6, k3, c8])
    · have c9 : (1 : Int32) <<< (a1 &&& 31) ≤ a4 := by
        apply Classical.byContradiction
        intro q
        exact c7 (si.mpr ⟨c8, q⟩)
      exact fin (v := 0) q0 (by simp [f_X12_kind, in_eq, qc, c1, d2, c3, d4, c5, c6, k3, c8, c9])
  obtain ⟨c8, c9⟩ := si.mp c7
  by_cases cn : a4 &&& ((M 3 3) ^^^ (-1 : Int32)) = 0
  rotate_left
  · have cm : ¬ a4 &&& ((M 77 6) ^^^ (-1 : Int32)) = 0 := by rw [← h]; exact cn
    have cn2 := cn
    have cm2 := cm
    simp at cn2 cm2
    exact fin (v := 0) (by simp [f_X11_kind, f_X2_tell, f_X2_knowsAll, c1, c2, c3, c4, c5, c6, c7, cn2, k2, qc, qb]) (by simp [f_X12_kind, in_eq, qc, c1, d2, c3, d4, c5, c6, k3, c8, c9, cm2])
  have g1 : ∀ E : qR, qg a1 12 E = E := fun E => by rcases i12 c1 c2 with rfl | rfl | rfl | rfl | rfl | rfl | rfl | rfl | rfl | rfl | rfl | rfl <;> rfl
  have g2 : ∀ E : qR, qg a1 13 E = E := fun E => by rcases i12 c1 c2 with rfl | rfl | rfl | rfl | rfl | rfl | rfl | rfl | rfl | rfl | rfl | rfl <;> rfl
  have hA : f_X11_kind n a1 a2 a3 a4 M = some ((1 : Int32), mu (mu (mu (mu M 4 a1.toNatClampNeg a2) 5 a1.toNatClampNeg a3) 6 a1.toNatClampNeg a4) 3 3 (mu (mu (mu M 4 a1.toNatClampNeg a2) 5 a1.toNatClampNeg a3) 6 a1.toNatClampNeg a4 3 3 ||| 1 <<< (a1 &&& 31))) := by
    unfold f_X11_kind f_X2_tell f_X2_knowsAll
    simp only [c1, c2, c3, c4, c5, c6, c7, cn, k2, qc, if_true, if_false, g1, qlm, qb, show ¬ ((1 : Int32) = 0) from by decide, or_true, false_or]
  rw [e1] at hA
  cases hA
  have f1 : mu (mu (mu M 4 a1.toNatClampNeg a2) 5 a1.toNatClampNeg a3) 6 a1.toNatClampNeg a4 3 3 = M 3 3 := by rw [mu_ne (Or.inl (by decide)), mu_ne (Or.inl (by decide)), mu_ne (Or.inl (by decide))]
  rw [f1] at e2
  have f2 : mu (mu (mu (mu M 4 a1.toNatClampNeg a2) 5 a1.toNatClampNeg a3) 6 a1.toNatClampNeg a4) 3 3 (M 3 3 ||| 1 <<< (a1 &&& 31)) 77 6 = M 77 6 := by rw [mu_ne (Or.inl (by decide)), mu_ne (Or.inl (by decide)), mu_ne (Or.inl (by decide)), mu_ne (Or.inl (by decide))]
  have f3 : mu (mu (mu (mu M 4 a1.toNatClampNeg a2) 5 a1.toNatClampNeg a3) 6 a1.toNatClampNeg a4) 3 3 (M 3 3 ||| 1 <<< (a1 &&& 31)) 3 3 = M 3 3 ||| 1 <<< (a1 &&& 31) := mu_at
  have g4 : ∀ q, mu (mu (mu (mu M 4 a1.toNatClampNeg a2) 5 a1.toNatClampNeg a3) 6 a1.toNatClampNeg a4) 3 3 (M 3 3 ||| 1 <<< (a1 &&& 31)) 4 q = if q = a1.toNatClampNeg then a2 else M 4 q := by
    intro q
    rw [mu_ne (Or.inl (by decide)), mu_ne (Or.inl (by decide)), mu_ne (Or.inl (by decide))]
    by_cases e : q = a1.toNatClampNeg
    · rw [if_pos e, e, mu_at]
    · rw [if_neg e, mu_ne (Or.inr e)]
  have g5 : ∀ q, mu (mu (mu (mu M 4 a1.toNatClampNeg a2) 5 a1.toNatClampNeg a3) 6 a1.toNatClampNeg a4) 3 3 (M 3 3 ||| 1 <<< (a1 &&& 31)) 5 q = if q = a1.toNatClampNeg then a3 else M 5 q := by
    intro q
    rw [mu_ne (Or.inl (by decide)), mu_ne (Or.inl (by decide))]
    by_cases e : q = a1.toNatClampNeg
    · rw [if_pos e, e, mu_at]
    · rw [if_neg e, mu_ne (Or.inr e), mu_ne (Or.inl (by decide))]
  have g6 : ∀ q, mu (mu (mu (mu M 4 a1.toNatClampNeg a2) 5 a1.toNatClampNeg a3) 6 a1.toNatClampNeg a4) 3 3 (M 3 3 ||| 1 <<< (a1 &&& 31)) 6 q = if q = a1.toNatClampNeg then a4 else M 6 q := by
    intro q
    rw [mu_ne (Or.inl (by decide))]
    by_cases e : q = a1.toNatClampNeg
    · rw [if_pos e, e, mu_at]
    · rw [if_neg e, mu_ne (Or.inr e), mu_ne (Or.inl (by decide)), mu_ne (Or.inl (by decide))]
  have g81 : mu (mu (mu (mu M 4 a1.toNatClampNeg a2) 5 a1.toNatClampNeg a3) 6 a1.toNatClampNeg a4) 3 3 (M 3 3 ||| 1 <<< (a1 &&& 31)) 81 = M 81 := by rw [mu_nc (by decide), mu_nc (by decide), mu_nc (by decide), mu_nc (by decide)]
  have g82 : mu (mu (mu (mu M 4 a1.toNatClampNeg a2) 5 a1.toNatClampNeg a3) 6 a1.toNatClampNeg a4) 3 3 (M 3 3 ||| 1 <<< (a1 &&& 31)) 82 = M 82 := by rw [mu_nc (by decide), mu_nc (by decide), mu_nc (by decide), mu_nc (by decide)]
  have g83 : mu (mu (mu (mu M 4 a1.toNatClampNeg a2) 5 a1.toNatClampNeg a3) 6 a1.toNatClampNeg a4) 3 3 (M 3 3 ||| 1 <<< (a1 &&& 31)) 83 = M 83 := by rw [mu_nc (by decide), mu_nc (by decide), mu_nc (by decide), mu_nc (by decide)]
  generalize mu (mu (mu (mu M 4 a1.toNatClampNeg a2) 5 a1.toNatClampNeg a3) 6 a1.toNatClampNeg a4) 3 3 (M 3 3 ||| 1 <<< (a1 &&& 31)) = N at e2 f2 f3 g4 g5 g6 g81 g82 g83
  have k4 := ik_eq (n := n) (M := N) c1 c2
  rw [f2, ← h, if_neg ck] at k4
  have cm : a4 &&& ((N 77 6) ^^^ (-1 : Int32)) = 0 := by rw [f2, ← h]; exact cn
  have hB : f_X12_kind n a1 a2 a3 a4 N = some ((1 : Int32), mu (mu (mu (mu N 77 6 (N 77 6 ||| 1 <<< (a1 &&& 31))) 81 a1.toNatClampNeg a2) 82 a1.toNatClampNeg a3) 83 a1.toNatClampNeg a4) := by
    unfold f_X12_kind
    simp only [in_eq, c1, d2, c3, d4, c5, c6, c8, c9, cm, k4, qc, or_self, if_true, if_false, g2, qlm, show ¬ ((1 : Int32) = 0) from by decide]
  rw [e2] at hB
  cases hB
  rw [Int32.lt_iff_toInt_lt, l_0] at c5
  rw [Int32.lt_iff_toInt_lt, l_255] at c6
  have n4 : mu (mu (mu (mu N 77 6 (N 77 6 ||| 1 <<< (a1 &&& 31))) 81 a1.toNatClampNeg a2) 82 a1.toNatClampNeg a3) 83 a1.toNatClampNeg a4 4 = N 4 := by rw [mu_nc (by decide), mu_nc (by decide), mu_nc (by decide), mu_nc (by decide)]
  have n5 : mu (mu (mu (mu N 77 6 (N 77 6 ||| 1 <<< (a1 &&& 31))) 81 a1.toNatClampNeg a2) 82 a1.toNatClampNeg a3) 83 a1.toNatClampNeg a4 5 = N 5 := by rw [mu_nc (by decide), mu_nc (by decide), mu_nc (by decide), mu_nc (by decide)]
  have n6 : mu (mu (mu (mu N 77 6 (N 77 6 ||| 1 <<< (a1 &&& 31))) 81 a1.toNatClampNeg a2) 82 a1.toNatClampNeg a3) 83 a1.toNatClampNeg a4 6 = N 6 := by rw [mu_nc (by decide), mu_nc (by decide), mu_nc (by decide), mu_nc (by decide)]
  refine ⟨rfl, ?_, ?_, fun q hq => ⟨?_, ?_, ?_⟩⟩
  · rw [mu_ne (Or.inl (by decide)), mu_ne (Or.inl (by decide)), mu_ne (Or.inl (by decide)), mu_ne (Or.inl (by decide)), f3, mu_ne (Or.inl (by decide)), mu_ne (Or.inl (by decide)), mu_ne (Or.inl (by decide)), mu_at, f2, h]
  · intro q hq
    rw [n5, g5 q]
    by_cases e : q = a1.toNatClampNeg
    · rw [if_pos e]; omega
    · rw [if_neg e]; exact hD.2.1 q hq
  · rw [n4, g4 q, mu_ne (Or.inl (by decide)), mu_ne (Or.inl (by decide))]
    by_cases e : q = a1.toNatClampNeg
    · rw [if_pos e, e, mu_at]
    · rw [if_neg e, mu_ne (Or.inr e), mu_ne (Or.inl (by decide)), g81]; exact (hD.2.2 q hq).1
  · rw [n5, g5 q, mu_ne (Or.inl (by decide))]
    by_cases e : q = a1.toNatClampNeg
    · rw [if_pos e, e, mu_at]
    · rw [if_neg e, mu_ne (Or.inr e), mu_ne (Or.inl (by decide)), mu_ne (Or.inl (by decide)), g82]; exact (hD.2.2 q hq).2.1
  · rw [n6, g6 q]
    by_cases e : q = a1.toNatClampNeg
    · rw [if_pos e, e, mu_at]
    · rw [if_neg e, mu_ne (Or.inr e), mu_ne (Or.inl (by decide)), mu_ne (Or.inl (by decide)), mu_ne (Or.inl (by decide)), g83]; exact (hD.2.2 q hq).2.2
/-! what calls leave alike -/
theorem KD_cg {M m : qM} (h : KD M M) (e33 : m 3 3 = M 3 3) (e776 : m 77 6 = M 77 6) (e4 : ∀ q, q < 12 → m 4 q = M 4 q) (e5 : ∀ q, q < 12 → m 5 q = M 5 q) (e6 : ∀ q, q < 12 → m 6 q = M 6 q) (e81 : ∀ q, q < 12 → m 81 q = M 81 q) (e82 : ∀ q, q < 12 → m 82 q = M 82 q) (e83 : ∀ q, q < 12 → m 83 q = M 83 q) : KD m m := by
  obtain ⟨h1, h2, h3⟩ := h
  exact ⟨by rw [e33, e776]; exact h1, fun q hq => by rw [e5 q hq]; exact h2 q hq, fun q hq => ⟨by rw [e4 q hq, e81 q hq]; exact (h3 q hq).1, by rw [e5 q hq, e82 q hq]; exact (h3 q hq).2.1, by rw [e6 q hq, e83 q hq]; exact (h3 q hq).2.2⟩⟩
theorem out46 {l : List Bx} {c q : Nat} (hc : (4 ≤ c ∧ c ≤ 6) ∨ (81 ≤ c ∧ c ≤ 83)) (hq : q < 12) (h : l.all (fun b => (decide (b.2.1 ≤ 4) || decide (7 ≤ b.1)) && (decide (b.2.1 ≤ 81) || decide (84 ≤ b.1) || (decide (12 ≤ b.2.2.1) && decide (b.2.2.2 ≠ 0)))) = true) : ∀ b ∈ l, ¬ inB b c q := by
  intro b hb hi
  rw [List.all_eq_true] at h
  have h3 := h b hb
  obtain ⟨a1, a2, a3⟩ := hi
  simp only [Bool.and_eq_true, Bool.or_eq_true, decide_eq_true_eq] at h3
  omega
theorem KD_S {l : List Bx} {M m : qM} (h : KD M M) (hs : Sm l M m) (e33 : m 3 3 = M 3 3) (e776 : m 77 6 = M 77 6) (hl : l.all (fun b => (decide (b.2.1 ≤ 4) || decide (7 ≤ b.1)) && (decide (b.2.1 ≤ 81) || decide (84 ≤ b.1) || (decide (12 ≤ b.2.2.1) && decide (b.2.2.2 ≠ 0)))) = true) : KD m m :=
  KD_cg h e33 e776 (fun q hq => hs 4 q (out46 (by omega) hq hl)) (fun q hq => hs 5 q (out46 (by omega) hq hl)) (fun q hq => hs 6 q (out46 (by omega) hq hl)) (fun q hq => hs 81 q (out46 (by omega) hq hl)) (fun q hq => hs 82 q (out46 (by omega) hq hl)) (fun q hq => hs 83 q (out46 (by omega) hq hl))
theorem outl2 {j : Nat} (hj : q_isLaw j) {l : List Bx} {k s : Nat} (hk : k ≤ 6) (h : l.all (fun b => decide (b.2.1 ≤ 37) || decide (53 ≤ b.1) || (decide (44 ≤ b.1) && decide (b.2.1 ≤ 46))) = true) : ∀ b ∈ l, ¬ inB b (j + k) s := by
  intro b hb hi
  rw [List.all_eq_true] at h
  have h3 := h b hb
  obtain ⟨a1, a2, _⟩ := hi
  simp only [Bool.or_eq_true, Bool.and_eq_true, decide_eq_true_eq] at h3
  rcases hj with rfl | rfl <;> omega
theorem LR_S {j : Nat} (hj : q_isLaw j) {l : List Bx} {M m : qM} (h : LR j M M) (hs : Sm l M m) (h1 : l.all (fun b => decide (b.2.1 ≤ 37) || decide (53 ≤ b.1) || (decide (44 ≤ b.1) && decide (b.2.1 ≤ 46))) = true) (h2 : l.all (fun b => decide (b.2.1 ≤ 91) || decide (96 ≤ b.1)) = true) (h17 : m 77 17 = M 77 17) : LR j m m :=
  LR_cg h (fun k hk => funext (fun s => hs _ _ (outl2 hj hk h1))) (fun c c1 c2 => funext (fun s => hs c s (out91 c1 c2 h2))) h17
theorem out77 {l : List Bx} {c s : Nat} (hc : 77 ≤ c) (h : l.all (fun b => decide (b.2.1 ≤ 77)) = true) : ∀ b ∈ l, ¬ inB b c s := by
  intro b hb hi
  rw [List.all_eq_true] at h
  have h3 := h b hb
  obtain ⟨a1, a2, _⟩ := hi
  simp only [decide_eq_true_eq] at h3
  omega
theorem KD_0 {M : qM} (hF : Fr M) : KD M M := by
  have z : ((0 : Int32).toInt : Int) = 0 := rfl
  refine ⟨by rw [hF.1 3 3 (by decide), hF.1 77 6 (by decide)], fun q _ => by rw [hF.1 5 q (by decide)]; omega, fun q _ => ⟨?_, ?_, ?_⟩⟩
  · rw [hF.1 4 q (by decide), hF.2.2 81 q (by decide) (by decide) (by decide) (by decide)]
  · rw [hF.1 5 q (by decide), hF.2.2 82 q (by decide) (by decide) (by decide) (by decide)]
  · rw [hF.1 6 q (by decide), hF.2.2 83 q (by decide) (by decide) (by decide) (by decide)]
theorem LR_0 {M : qM} (hF : Fr M) : LR 37 M M := by
  have z : ((0 : Int32).toInt : Int) = 0 := rfl
  refine ⟨[], [], ⟨⟨by rw [hF.1 37 6 (by decide)]; exact z, Fn_nil⟩, by rw [hF.1 37 7 (by decide)]; exact z, fun k hk => absurd hk (by simp)⟩, ⟨Fn_nil, by rw [hF.1 77 17 (by decide)]; exact z, fun k hk => absurd hk (by simp)⟩, (fun q hq => by cases hq), by decide⟩
