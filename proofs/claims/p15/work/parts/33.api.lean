/-! cheapest -/
theorem amtL_r {C : List Int} {n : Nat} {F : Nat → Int32} {c : Int} {hi : Int32} (h0 : 0 ≤ hi.toInt) : ∀ (K : List Kl) (x : Int32), 0 ≤ x.toInt ∧ x.toInt ≤ hi.toInt → 0 ≤ (amtL C n F c hi K x).toInt ∧ (amtL C n F c hi K x).toInt ≤ hi.toInt := by
  intro K
  induction K with
  | nil => intro x h; exact h
  | cons q r ih =>
    intro x h
    unfold amtL
    by_cases c1 : q.1 = c
    · rw [if_pos c1]
      by_cases c2 : EV C F n q.2.2.1.toNat q.2.2.2.toNat = 0
      · rw [if_pos c2]
        exact ih 0 ⟨by rw [l_0]; omega, by rw [l_0]; omega⟩
      · rw [if_neg c2]
        have h1 := i_min (a := hi) (b := EV C F n q.2.1.toNat q.2.2.1.toNat) rfl rfl
        have h2 := i_max (a := 0) (b := qmin hi (EV C F n q.2.1.toNat q.2.2.1.toNat)) l_0 rfl
        omega
    · rw [if_neg c1]
      exact ih x h
theorem cs_r {C : List Int} {K : List Kl} {n : Nat} {H X : Nat → Int32} {d w : Int32} {p k : Nat} {T N : Nat → Int32} : 0 ≤ (csV C K n H X d p k w T N).toInt ∧ (csV C K n H X d p k w T N).toInt ≤ 999 := by
  have e : (999 : Int32).toInt = 999 := by decide
  unfold csV
  have h := amtL_r (C := C) (n := n) (F := fx (nI k) (H k) (X k) 0 0 0 d (nI p) w (T (12 * p + k)) (byA T k 8) (N (12 * p + k))) (c := 99) (hi := 999) (by decide) K 0 (by decide)
  rw [e] at h
  exact h
theorem lpF_cg {far : Int32} {sel sel' : Nat → Bool} {pr pr' : Nat → Int32} : ∀ {s : Nat}, (∀ q, q < s → sel q = sel' q ∧ pr q = pr' q) → lpF far sel pr s = lpF far sel' pr' s := by
  intro s
  induction s with
  | zero => intro _; rfl
  | succ s ih =>
    intro h
    show (if sel s = true then qmin (lpF far sel pr s) (pr s) else lpF far sel pr s) = (if sel' s = true then qmin (lpF far sel' pr' s) (pr' s) else lpF far sel' pr' s)
    rw [ih (fun q hq => h q (by omega)), (h s (by omega)).1, (h s (by omega)).2]
theorem pr_2 {n j p k : Nat} (hp : p < 8) (hk : k < 12) {C : List Int} {K : List Kl} {A B : qM} (hE : RE 7 j C K A B) : ∃ x : Nat, (x ≤ 999 ∨ x = 1048576) ∧ prC C K n p A k = nI x ∧ prM C K n p B k = nI (if x = 1048576 then 1000000000 else x) := by
  have e : prM C K n p B k = lpF 1000000000 (selP (A 7 8) (A 9) p k) (fun s => csV C K n (A 4) (A 5) (A 7 9) p k (nI s) (A 9) (A 11)) 8 := by
    have hR := hE.2.2.2.1
    have h8 : A 7 8 = B 78 312 := hE.2.2.2.2.1
    refine lpF_cg (fun s hs => ⟨?_, (cost_eq hp hk hE).symm⟩)
    unfold selP
    rw [h8, show B 78 (12 * s + k) = A 9 (12 * s + k) from (hR.1 _ (by omega)).1.symm]
  rw [e]
  rcases lpF_2 (sel := selP (A 7 8) (A 9) p k) (pr := fun s => csV C K n (A 4) (A 5) (A 7 9) p k (nI s) (A 9) (A 11)) (fun s _ _ => cs_r) 8 (Nat.le_refl _) with ⟨e1, e2⟩ | ⟨x, hx, e1, e2⟩
  · exact ⟨1048576, Or.inr rfl, e1, by rw [if_pos rfl]; exact e2⟩
  · exact ⟨x, Or.inl hx, e1, by rw [if_neg (by omega)]; exact e2⟩
noncomputable def qEg (P : Prop) (E : qR) : qR := @ite _ P (Classical.propDecidable P) E none
theorem q2_E {P : Prop} {E E' : qR} {Q : Int32 → qM → Int32 → qM → Prop} (h : P → q2 E E' Q) : q2 (qEg P E) E' Q := by
  unfold qEg
  by_cases c : P
  · rw [if_pos c]; exact h c
  · rw [if_neg c]; exact q2_n1
theorem q2_P {F : qR} {P : qM → Prop} (h : qP F (fun _ m => P m)) {E1 : qM → qR} {E : qR} {Q : Int32 → qM → Int32 → qM → Prop} (k : q2 (qc F (fun _ m => qEg (P m) (E1 m))) E Q) : q2 (qc F (fun _ m => E1 m)) E Q := by
  intro v1 m1 v2 m2 e1 e2
  refine k v1 m1 v2 m2 ?_ e2
  rcases hF : F with _ | ⟨v, m⟩
  · rw [hF] at e1; exact e1
  · rw [hF, qc_v] at e1
    rw [qc_v]
    unfold qEg
    rw [if_pos (h v m hF)]
    exact e1
theorem cheapest_2 {n : Nat} (hn : 200000 ≤ n) {j : Nat} (hj : q_isLaw j) {C : List Int} {K : List Kl} (hK : Kg (cdl C) C.length K) (h240 : C.length ≤ 240) (a1 a2 a3 a4 a5 : Int32) (A B : qM) (hE : RE 7 j C K A B) (hT : KT A) (hH : HKd A) (hN : NKd A) (hW : WT B) : q2 (f_X11_cheapest n j a1 a2 a3 a4 a5 A) (f_X12_cheapest n a1 a2 a3 a4 a5 B) (fun v1 _ v2 _ => v1 = v2) := by
  have z0 : (0 : Int32) = 0 := rfl
  have z1 : ¬ (1 : Int32) = 0 := by decide
  have bad : q2 (some ((-1 : Int32), A)) (some ((-1 : Int32), B)) (fun v1 _ v2 _ => v1 = v2) := q2_ret rfl
  unfold f_X11_cheapest f_X12_cheapest
  obtain ⟨r, c1, c2, hr⟩ := can_2 hn hE.2.2.1 hE.2.2.2.2.1 hT a1 a2 a3
  rw [c1, c2, qc_v, qc_v]
  rcases hr with rfl | ⟨rfl, p, k, ⟨hp, hk⟩, ⟨rfl, rfl⟩, h4, hbk, hbt⟩
  · rw [if_pos z0, if_pos z0]; exact bad
  rw [if_neg z1, if_neg z1]
  by_cases d1 : 0 ≤ a4.toInt ∧ a4.toInt ≤ 200
  · by_cases d2 : 0 ≤ a5.toInt ∧ a5.toInt ≤ 1
    · rw [in_y rfl l_0 l_200 d1, qc_v, if_neg z1, in_y rfl l_0 l_1 d2, qc_v, if_neg z1, if_neg (show ¬ a4 < (0 : Int32) by rw [Int32.lt_iff_toInt_lt, l_0]; omega), if_neg (show ¬ (200 : Int32) < a4 by rw [Int32.lt_iff_toInt_lt, l_200]; omega), if_neg (show ¬ a5 < (0 : Int32) by rw [Int32.lt_iff_toInt_lt, l_0]; omega), if_pos (show a5 ≤ (1 : Int32) by rw [Int32.le_iff_toInt_le, l_1]; omega)]
      obtain ⟨H, hH2, rfl⟩ : ∃ H : Nat, H ≤ 200 ∧ a4 = nI H := ⟨a4.toInt.toNat, by omega, nI_i (by omega)⟩
      refine q2_P (P := G) (E1 := fun m3 => qc (f_X7_findCheapest n 7 j (nI p) (nI H) m3) (fun _ m4 => (if (m4 56 12) < (1048576 : Int32) then (if a5 = (0 : Int32) then some ((m4 56 12), m4) else some ((m4 56 13), m4)) else some ((-2 : Int32), m4)))) (P_mono (P_T (t_X7_prepare_c7 hn hj (nI p) a2 (nI k) A hE.1.1 (by rw [nI_toInt (by omega)]; omega) (by rw [nI_toInt (by omega)]; omega))) (fun _ _ h => h.2.1)) ?_
      refine lay_2 hn hj hp hk hK h240 hE hT hH hN hW h4 hbk hbt (E1 := fun m3 => qEg (G m3) (qc (f_X7_findCheapest n 7 j (nI p) (nI H) m3) (fun _ m4 => (if (m4 56 12) < (1048576 : Int32) then (if a5 = (0 : Int32) then some ((m4 56 12), m4) else some ((m4 56 13), m4)) else some ((-2 : Int32), m4))))) (fun m1 m2 hSr hfr hX hSo hfB hWw => ?_)
      refine q2_E (fun hG1 => ?_)
      have hin := chR_in hk hbk
      have hex : ∀ i, ∃ x : Nat, i < cntR a2 12 → ((x ≤ 999 ∨ x = 1048576) ∧ prC C K n p A (chR a2 12 i) = nI x ∧ prM C K n p B (chR a2 12 i) = nI (if x = 1048576 then 1000000000 else x)) := by
        intro i
        by_cases c : i < cntR a2 12
        · obtain ⟨x, h1, h2, h3⟩ := pr_2 (n := n) hp (chR_lt c).1 hE
          exact ⟨x, fun _ => ⟨h1, h2, h3⟩⟩
        · exact ⟨0, fun w => absurd w c⟩
      obtain ⟨pn, hpn⟩ : ∃ pn : Nat → Nat, ∀ i, i < cntR a2 12 → ((pn i ≤ 999 ∨ pn i = 1048576) ∧ prC C K n p A (chR a2 12 i) = nI (pn i) ∧ prM C K n p B (chR a2 12 i) = nI (pmV pn i)) := ⟨fun i => Classical.choose (hex i), fun i hi => Classical.choose_spec (hex i) hi⟩
      have hLA : LJ j m1 C K := LJ_cg hE.2.1.1 (fun q hq => by rcases hj with rfl | rfl <;> exact hfr _ (by omega) (by omega) (by omega) (by omega))
      have hpA : ∀ i, i < cntR a2 12 → prC C K n p m1 (chR a2 12 i) = nI (pn i) := fun i hi => by
        rw [← (hpn i hi).2.1]
        unfold prC
        rw [hfr 4 (by decide) (by decide) (by decide) (by decide), hfr 5 (by decide) (by decide) (by decide) (by decide), hfr 7 (by decide) (by decide) (by decide) (by decide), hfr 9 (by decide) (by decide) (by decide) (by decide), hfr 11 (by decide) (by decide) (by decide) (by decide)]
      have hpB : ∀ i, i < cntR a2 12 → prM C K n p m2 (chR a2 12 i) = nI (pmV pn i) := fun i hi => by
        rw [← (hpn i hi).2.2]
        unfold prM
        rw [hfB 78 (by decide) (by decide) (by decide) (by decide) (by decide) (by decide), hfB 81 (by decide) (by decide) (by decide) (by decide) (by decide) (by decide), hfB 82 (by decide) (by decide) (by decide) (by decide) (by decide) (by decide)]
      unfold f_X7_findCheapest
      refine q2_c1 (c_fc hn hj hp hK h4 hin.1 hH2 (fun i hi => (hpn i hi).1) hSr rfl hLA hpA n 0 m1 (Nat.zero_le _) hG1 (fun _ _ _ _ _ => rfl) (fun q hq => absurd hq (Nat.not_lt_zero _))) ?_
      rintro _ m4 ⟨c, h, ⟨e12, e13⟩, hL⟩
      have key := d_ch43 hn hK h240 h4 hp hk hin.1 hH2 hSo (pm := pmV pn) (fun i hi => by
        have := (hpn i hi).1
        unfold pmV
        by_cases w : pn i = 1048576
        · rw [if_pos w]; exact Or.inr rfl
        · rw [if_neg w]; exact Or.inl (by omega)) hpB hin.2 (fun i hi e => by
        have h1 := (chR_lt (b := a2) (q := 12) (i := i) (by omega)).2.2
        rw [e] at h1
        omega) a5 n 0 m2 (Nat.zero_le _) hX.1 (fun _ _ _ _ => rfl) (fun q hq => absurd hq (Nat.not_lt_zero _))
      have hc : c ≤ 1048576 ∧ h ≤ 1048576 := by
        rcases hL.1 with ⟨a, b⟩ | ⟨_, a, b⟩
        · omega
        · omega
      have tc : (nI c).toInt = (c : Int) := nI_toInt (by omega)
      have lN : (1048576 : Int32).toInt = 1048576 := rfl
      rw [e12, e13]
      refine q2_i1 (fun w => ?_) (fun w => ?_)
      · rw [Int32.lt_iff_toInt_lt, tc, lN] at w
        refine q2_i1 (fun w5 => q2_p2 (fun v2 m2' e => ?_)) (fun w5 => q2_p2 (fun v2 m2' e => ?_))
        · obtain ⟨y, hy, hB⟩ := key v2 m2' e
          rcases cheap_fin h4 hin.1 hH2 hWw (fun i hi => (hpn i hi).1) hL hB with ⟨s1, _⟩ | ⟨_, s2, s3⟩
          · omega
          · show _ = v2
            rw [hy]
            unfold ansC
            rw [if_neg (by omega), if_pos w5, s2, show (256 * c + h) / 256 = c by omega]
        · obtain ⟨y, hy, hB⟩ := key v2 m2' e
          rcases cheap_fin h4 hin.1 hH2 hWw (fun i hi => (hpn i hi).1) hL hB with ⟨s1, _⟩ | ⟨_, s2, s3⟩
          · omega
          · show _ = v2
            rw [hy]
            unfold ansC
            rw [if_neg (by omega), if_neg w5, s2, show (256 * c + h) % 256 = h by omega]
      · rw [Int32.lt_iff_toInt_lt, tc, lN] at w
        refine q2_p2 (fun v2 m2' e => ?_)
        obtain ⟨y, hy, hB⟩ := key v2 m2' e
        rcases cheap_fin h4 hin.1 hH2 hWw (fun i hi => (hpn i hi).1) hL hB with ⟨_, s2⟩ | ⟨s1, _⟩
        · show _ = v2
          rw [hy]
          unfold ansC
          rw [if_pos s2]
        · omega
    · rw [in_y rfl l_0 l_200 d1, qc_v, if_neg z1, in_n rfl l_0 l_1 d2, qc_v, if_pos z0, if_neg (show ¬ a4 < (0 : Int32) by rw [Int32.lt_iff_toInt_lt, l_0]; omega), if_neg (show ¬ (200 : Int32) < a4 by rw [Int32.lt_iff_toInt_lt, l_200]; omega)]
      by_cases e : a5 < (0 : Int32)
      · rw [if_pos e]; exact bad
      · rw [if_neg e]
        rw [Int32.lt_iff_toInt_lt, l_0] at e
        rw [if_neg (show ¬ a5 ≤ (1 : Int32) by rw [Int32.le_iff_toInt_le, l_1]; omega)]
        exact bad
  · rw [in_n rfl l_0 l_200 d1, qc_v, if_pos z0]
    by_cases e : a4 < (0 : Int32)
    · rw [if_pos e]; exact bad
    · rw [if_neg e]
      rw [Int32.lt_iff_toInt_lt, l_0] at e
      rw [if_pos (show (200 : Int32) < a4 by rw [Int32.lt_iff_toInt_lt, l_200]; omega)]
      exact bad
theorem cheapest_st {n : Nat} (hn : 200000 ≤ n) {j : Nat} (hj : q_isLaw j) {a1 a2 a3 a4 a5 v1 v2 : Int32} {M m1 m2 : qM} (hG : G M) (hG1 : G m1) (hD : KD M M) (hL : LR j M M) (hT : TN 7 78 M M) (e77 : ∀ c, 77 ≤ c → m1 c = M c) (e1 : f_X11_cheapest n j a1 a2 a3 a4 a5 M = some (v1, m1)) (e2 : f_X12_cheapest n a1 a2 a3 a4 a5 m1 = some (v2, m2)) (hS : WKS M) : v1 = v2 := by
  obtain ⟨C, K, ⟨hK, h240⟩, hE, _⟩ := RE_of hG hG1 hD hL hT e77
  obtain ⟨h1, h2, h3, h4⟩ := hS
  exact cheapest_2 hn hj hK h240 a1 a2 a3 a4 a5 M m1 hE h1 h2 h3 (fun w hw => by rw [e77 102 (by decide), e77 103 (by decide), e77 104 (by decide)]; exact h4 w hw) v1 m1 v2 m2 e1 e2
