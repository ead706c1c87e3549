/-! the class's first goes, bought in all ways -/
theorem nI_ad {a b : Nat} (h : a + b < 2 ^ 31) : nI a + nI b = nI (a + b) := nI_i (by rw [i_add (nI_toInt (n := a) (by omega)) (nI_toInt (n := b) (by omega)) (by omega) (by omega)]; omega)
theorem nI_sb {a b : Nat} (h : b ≤ a) (ha : a < 2 ^ 31) : nI a - nI b = nI (a - b) := nI_i (by rw [i_sub (nI_toInt (n := a) (by omega)) (nI_toInt (n := b) (by omega)) (by omega) (by omega)]; omega)
theorem nI_ml {a b : Nat} (ha : a < 2 ^ 31) (hb : b < 2 ^ 31) (h : a * b < 2 ^ 31) : nI a * nI b = nI (a * b) := nI_i (by
  have e1 : (a : Int) * (b : Int) = ((a * b : Nat) : Int) := by push_cast; rfl
  rw [i_mul (nI_toInt ha) (nI_toInt hb) (by rw [e1]; omega) (by rw [e1]; omega), e1])
theorem b4_sh {b i : Nat} (hb : b < 4) (hi : i < 4) : nI b <<< (((2 : Int32) * nI i) &&& 31) = nI (b * 4 ^ i) := (by decide +kernel : ∀ b, b < 4 → ∀ i, i < 4 → nI b <<< (((2 : Int32) * nI i) &&& 31) = nI (b * 4 ^ i)) b hb i hi
theorem b4_b {b i : Nat} (hb : b < 4) (hi : i < 4) : b * 4 ^ i ≤ 192 := (by decide +kernel : ∀ b, b < 4 → ∀ i, i < 4 → b * 4 ^ i ≤ 192) b hb i hi
theorem b4_s {st b i : Nat} (hs : st < 4 ^ i) (hb : b ≤ 3) : st + b * 4 ^ i < 4 ^ (i + 1) := by
  have h : b * 4 ^ i ≤ 3 * 4 ^ i := Nat.mul_le_mul_right _ hb
  rw [Nat.pow_succ]
  generalize b * 4 ^ i = x at *
  generalize 4 ^ i = P at *
  omega
/-- the ways to buy from place i on, r places more: what it costs, what hours are best behind it -/
def cpl (pn vf : Nat → Nat) : Nat → Nat → Nat → Nat → Nat → Nat → Nat → Prop
  | 0, _, st, c, _, c', h' => c' = c ∧ h' = vf st / 16
  | r + 1, i, st, c, g, c', h' => ∃ b, b ≤ g ∧ (b = 0 ∨ pn i < 1048576) ∧ cpl pn vf r (i + 1) (st + b * 4 ^ i) (c + b * pn i) (g - b) c' h'
theorem LBs_cg {H : Nat} {V V' : Nat → Nat → Prop} {c h : Nat} (e : ∀ c h, V c h ↔ V' c h) (k : LBs H V c h) : LBs H V' c h := by
  obtain ⟨a, b⟩ := k
  refine ⟨?_, fun c' h' v => b c' h' ((e _ _).mpr v)⟩
  rcases a with a | ⟨a1, a2⟩
  · exact Or.inl a
  · exact Or.inr ⟨(e _ _).mp a1, a2⟩
theorem LBs_y {H : Nat} {V : Nat → Nat → Prop} {c h c2 h2 : Nat} (k : LBs H V c h) (hH : h2 ≤ H) (hc : c2 < 1048576) (hl : c2 < c ∨ (c2 = c ∧ h2 < h)) : LBs H (fun c' h' => V c' h' ∨ (c' = c2 ∧ h' = h2)) c2 h2 := by
  refine ⟨Or.inr ⟨Or.inr ⟨rfl, rfl⟩, hH, hc⟩, fun c' h' v hh => ?_⟩
  rcases v with v | ⟨v1, v2⟩
  · rcases k.2 c' h' v hh with z | ⟨z1, z2⟩ <;> omega
  · exact Or.inr ⟨v1.symm, by omega⟩
theorem LBs_n {H : Nat} {V : Nat → Nat → Prop} {c h c2 h2 : Nat} (k : LBs H V c h) (hl : H < h2 ∨ c < c2 ∨ (c2 = c ∧ h ≤ h2)) : LBs H (fun c' h' => V c' h' ∨ (c' = c2 ∧ h' = h2)) c h := by
  refine ⟨?_, fun c' h' v hh => ?_⟩
  · rcases k.1 with a | ⟨a1, a2⟩
    · exact Or.inl a
    · exact Or.inr ⟨Or.inl a1, a2⟩
  · rcases v with v | ⟨v1, v2⟩
    · exact k.2 c' h' v hh
    · omega
theorem SrS_self {S aim : Nat} {ch hr : Nat → Nat} {W : Nat → Nat → Bool} {M0 M : qM} (h : SrS S aim ch hr W M0 M) : SrS S aim ch hr W M M := by
  obtain ⟨⟨s10, s11⟩, srow, sfr, sme⟩ := h
  exact ⟨⟨by rw [sfr 56 (by decide)]; exact s10, by rw [sfr 56 (by decide)]; exact s11⟩, fun i hi => by rw [sfr 57 (by decide), sfr 4 (by decide)]; exact srow i hi, fun _ _ => rfl, sme⟩
theorem SrS_cg {S aim : Nat} {ch hr : Nat → Nat} {W : Nat → Nat → Bool} {M m : qM} (h : SrS S aim ch hr W M M) (e10 : m 56 10 = M 56 10) (e11 : m 56 11 = M 56 11) (e4 : m 4 = M 4) (e57 : m 57 = M 57) (e63 : m 63 = M 63) : SrS S aim ch hr W m m := by
  obtain ⟨⟨s10, s11⟩, srow, _, sme⟩ := h
  exact ⟨⟨by rw [e10]; exact s10, by rw [e11]; exact s11⟩, fun i hi => by rw [e57, e4]; exact srow i hi, fun _ _ => rfl, fun g st hg hst => by rw [e63]; exact sme g st hg hst⟩
abbrev TrM (S aim : Nat) (ch hr : Nat → Nat) (W : Nat → Nat → Bool) (pn : Nat → Nat) (H : Nat) (V : Nat → Nat → Prop) (M : qM) : Prop := (SrS S aim ch hr W M M ∧ wcS (M 60) (M 58) (M 59) (M 62) S = W) ∧ (∀ i, i < S → M 61 i = nI (pn i)) ∧ ∃ c h, (M 56 12 = nI c ∧ M 56 13 = nI h) ∧ LBs H V c h
theorem TrM_cg {S aim : Nat} {ch hr : Nat → Nat} {W : Nat → Nat → Bool} {pn : Nat → Nat} {H : Nat} {V V' : Nat → Nat → Prop} {M : qM} (h : TrM S aim ch hr W pn H V M) (e : ∀ c h, V c h ↔ V' c h) : TrM S aim ch hr W pn H V' M := by
  obtain ⟨a, b, c, d, f, g⟩ := h
  exact ⟨a, b, c, d, f, LBs_cg e g⟩
theorem c_try {n S aim H : Nat} (hS : S ≤ 4) (haim : aim < S) (hH : H ≤ 200) {ch hr pn : Nat → Nat} {W : Nat → Nat → Bool} (hpn : ∀ i, i < S → pn i ≤ 999 ∨ pn i = 1048576) : ∀ (k r i st c g : Nat) (V : Nat → Nat → Prop) (M : qM), i + r = S → st < 4 ^ i → g ≤ 3 → c + 999 * g ≤ 2997 → TrM S aim ch hr W pn H V M → qP (rc_X7_tryGoes n k (nI i) (nI st) (nI c) (nI g) (nI H) M) (fun _ m' => TrM S aim ch hr W pn H (fun c' h' => V c' h' ∨ cpl pn (fun s => vS S hr aim W s 0) r i st c g c' h') m') := by
  intro k
  induction k with
  | zero => intro r i st c g V M _ _ _ _ _; exact P_none
  | succ k ihk =>
    intro r i st c g V M hir hst hg hc hM
    show qP (fo_X7_tryGoes n (rc_X7_tryGoes n k) (nI i) (nI st) (nI c) (nI g) (nI H) M) _
    unfold fo_X7_tryGoes
    have ti : (nI i).toInt = (i : Int) := nI_toInt (by omega)
    have tc : (nI c).toInt = (c : Int) := nI_toInt (by omega)
    have tg : (nI g).toInt = (g : Int) := nI_toInt (by omega)
    have tH : (nI H).toInt = (H : Int) := nI_toInt (by omega)
    have p4 : 4 ^ i ≤ 256 := Nat.le_trans (Nat.pow_le_pow_right (by decide) (show i ≤ 4 by omega)) (by decide)
    have hst2 : st < 256 := Nat.lt_of_lt_of_le hst p4
    have hSr := hM.1.1
    rw [hSr.1.1]
    refine P_lt ti (nI_toInt (by omega)) (fun z => ?_) (fun z => ?_)
    · cases r with
      | zero => omega
      | succ r =>
        have hiS : i < S := by omega
        have hpi := hpn i hiS
        have ei : (nI i).toNatClampNeg = i := by rw [tnc, ti]; rfl
        have lp : ∀ (m b : Nat) (M' : qM), b ≤ g + 1 → TrM S aim ch hr W pn H (fun c' h' => V c' h' ∨ ∃ b', b' < b ∧ (b' = 0 ∨ pn i < 1048576) ∧ cpl pn (fun s => vS S hr aim W s 0) r (i + 1) (st + b' * 4 ^ i) (c + b' * pn i) (g - b') c' h') M' → qP (f_X7_tryGoes_67 n (rc_X7_tryGoes n k) m (nI i) (nI st) (nI c) (nI g) (nI H) (nI b) M') (fun _ m' => TrM S aim ch hr W pn H (fun c' h' => V c' h' ∨ cpl pn (fun s => vS S hr aim W s 0) (r + 1) i st c g c' h') m') := by
          intro m
          induction m with
          | zero => intro b M' _ _; exact P_none
          | succ m ih =>
            intro b M' hb hM'
            show qP (b_X7_tryGoes_67 n (rc_X7_tryGoes n k) (f_X7_tryGoes_67 n (rc_X7_tryGoes n k) m) (nI i) (nI st) (nI c) (nI g) (nI H) (nI b) M') _
            unfold b_X7_tryGoes_67
            have tb : (nI b).toInt = (b : Int) := nI_toInt (by omega)
            have done : (∀ b', b' ≤ g → (b' = 0 ∨ pn i < 1048576) → b' < b) → qP (some (0, M')) (fun _ m' => TrM S aim ch hr W pn H (fun c' h' => V c' h' ∨ cpl pn (fun s => vS S hr aim W s 0) (r + 1) i st c g c' h') m') := by
              intro hz
              refine P_ret (TrM_cg hM' (fun c' h' => ?_))
              constructor
              · rintro (v | ⟨b', q1, q2, q3⟩)
                · exact Or.inl v
                · exact Or.inr ⟨b', by omega, q2, q3⟩
              · rintro (v | ⟨b', q1, q2, q3⟩)
                · exact Or.inl v
                · exact Or.inr ⟨b', hz b' q1 q2, q2, q3⟩
            have go : b ≤ g → (b = 0 ∨ pn i < 1048576) → qP (f_X7_tryGoes_90 n (rc_X7_tryGoes n k) (f_X7_tryGoes_67 n (rc_X7_tryGoes n k) m) (nI i) (nI st) (nI c) (nI g) (nI H) (nI b) M') (fun _ m' => TrM S aim ch hr W pn H (fun c' h' => V c' h' ∨ cpl pn (fun s => vS S hr aim W s 0) (r + 1) i st c g c' h') m') := by
              intro hbg hok
              unfold f_X7_tryGoes_90
              have h4 := b4_b (b := b) (i := i) (by omega) (by omega)
              have hbp : b * pn i ≤ 999 * b := by
                rcases hok with w | w
                · rw [w, Nat.zero_mul]; exact Nat.zero_le _
                · rw [Nat.mul_comm]
                  exact Nat.mul_le_mul_right _ (by omega)
              rw [b4_sh (by omega) (by omega)]
              refine P_ql rfl (fun x1 hx1 => P_qg (fun _ _ => ?_))
              rw [Int32.toInt_inj.mp hx1, ei, hM'.2.1 i hiS, show nI i + (1 : Int32) = nI (i + 1) from nI_ad (b := 1) (by omega), nI_ad (a := st) (b := b * 4 ^ i) (by omega), nI_ml (a := b) (b := pn i) (by omega) (by omega) (by omega), nI_ad (a := c) (b := b * pn i) (by omega), nI_sb hbg (by omega)]
              refine P_qc (ihk r (i + 1) (st + b * 4 ^ i) (c + b * pn i) (g - b) _ M' (by omega) (b4_s hst (by omega)) (by omega) (by omega) hM') ?_
              rintro _ m2 h2
              refine P_ql (i_add tb l_1 (by omega) (by omega)) (fun x3 hx3 => ?_)
              rw [nI_i (a := x3) (k := b + 1) (by rw [hx3]; omega)]
              refine ih (b + 1) m2 (by omega) (TrM_cg h2 (fun c' h' => ?_))
              constructor
              · rintro ((v | ⟨b', q1, q2, q3⟩) | v)
                · exact Or.inl v
                · exact Or.inr ⟨b', by omega, q2, q3⟩
                · exact Or.inr ⟨b, by omega, hok, v⟩
              · rintro (v | ⟨b', q1, q2, q3⟩)
                · exact Or.inl (Or.inl v)
                · by_cases e : b' = b
                  · rw [e] at q3; exact Or.inr q3
                  · exact Or.inl (Or.inr ⟨b', by omega, q2, q3⟩)
            refine P_lt tg tb (fun y => done (fun b' h1 _ => by omega)) (fun y => P_eq tb l_0 (fun w => go (by omega) (Or.inl (by omega))) (fun w => P_qg (fun _ _ => ?_)))
            rw [ei, hM'.2.1 i hiS]
            refine P_le (show (1048576 : Int32).toInt = 1048576 from rfl) (nI_toInt (by omega)) (fun u => done (fun b' h1 h2 => by omega)) (fun u => go (by omega) (Or.inr (by omega)))
        refine lp n 0 M (Nat.zero_le _) (TrM_cg hM (fun c' h' => ?_))
        constructor
        · intro v; exact Or.inl v
        · rintro (v | ⟨b', q1, _⟩)
          · exact v
          · omega
    · have e : i = S := by omega
      have er : r = 0 := by omega
      subst er
      obtain ⟨⟨_, hWe⟩, h61, c0, h0, ⟨e12, e13⟩, hL⟩ := hM
      unfold f_X7_bestWay
      refine P_qc (c_bw (n := n) hS haim hWe 16 st 0 0 M (by omega) (Nat.zero_le _) (Nat.zero_le _) hSr) ?_
      rintro r1 m2 ⟨rfl, h2⟩
      have vN : vS S hr aim W st 0 ≤ 1048576 := vS_N
      have tV : (nI (vS S hr aim W st 0)).toInt = ((vS S hr aim W st 0 : Nat) : Int) := nI_toInt (by omega)
      refine P_ql (x := ((vS S hr aim W st 0 / 16 : Nat) : Int)) (by rw [i_div tV l_16 (by omega) (by decide)]; omega) (fun x3 hx3 => ?_)
      have e3 : x3 = nI (vS S hr aim W st 0 / 16) := nI_i hx3
      have hs2 := SrS_self h2
      have f2 := h2.2.2.1
      have w2 : wcS (m2 60) (m2 58) (m2 59) (m2 62) S = W := by rw [f2 60 (by decide), f2 58 (by decide), f2 59 (by decide), f2 62 (by decide)]; exact hWe
      have p2 : ∀ i, i < S → m2 61 i = nI (pn i) := fun i hi => by rw [f2 61 (by decide)]; exact h61 i hi
      have e12' : m2 56 12 = nI c0 := by rw [f2 56 (by decide)]; exact e12
      have e13' : m2 56 13 = nI h0 := by rw [f2 56 (by decide)]; exact e13
      have hc0 : c0 ≤ 1048576 ∧ h0 ≤ 1048576 := by
        rcases hL.1 with ⟨a, b⟩ | ⟨_, a, b⟩
        · omega
        · omega
      have no : (H < vS S hr aim W st 0 / 16 ∨ c0 < c ∨ (c = c0 ∧ h0 ≤ vS S hr aim W st 0 / 16)) → qP (some (0, m2)) (fun _ m' => TrM S aim ch hr W pn H (fun c' h' => V c' h' ∨ cpl pn (fun s => vS S hr aim W s 0) 0 i st c g c' h') m') := fun y => P_ret ⟨⟨hs2, w2⟩, p2, c0, h0, ⟨e12', e13'⟩, LBs_n hL y⟩
      have yes : vS S hr aim W st 0 / 16 ≤ H → (c < c0 ∨ (c = c0 ∧ vS S hr aim W st 0 / 16 < h0)) → qP (f_X7_tryGoes_52 n (rc_X7_tryGoes n k) (nI c) x3 m2) (fun _ m' => TrM S aim ch hr W pn H (fun c' h' => V c' h' ∨ cpl pn (fun s => vS S hr aim W s 0) 0 i st c g c' h') m') := by
        intro y1 y2
        unfold f_X7_tryGoes_52
        refine P_m (fun m3 a1 a2 a3 => P_m (fun m4 b1 b2 b3 => P_ret ⟨⟨SrS_cg hs2 ?_ ?_ ?_ ?_ ?_, ?_⟩, ?_, c, _, ⟨?_, ?_⟩, LBs_y hL y1 (by omega) y2⟩))
        · rw [b2 10 (by decide), a2 10 (by decide)]
        · rw [b2 11 (by decide), a2 11 (by decide)]
        · rw [b3 4 (by decide), a3 4 (by decide)]
        · rw [b3 57 (by decide), a3 57 (by decide)]
        · rw [b3 63 (by decide), a3 63 (by decide)]
        · rw [b3 60 (by decide), a3 60 (by decide), b3 58 (by decide), a3 58 (by decide), b3 59 (by decide), a3 59 (by decide), b3 62 (by decide), a3 62 (by decide)]; exact w2
        · intro q hq
          rw [b3 61 (by decide), a3 61 (by decide)]; exact p2 q hq
        · rw [b2 12 (by decide), a1]
        · rw [b1, e3]
      refine P_lt tH hx3 (fun z => no (Or.inl (by omega))) (fun z => ?_)
      rw [e12', e13']
      refine P_lt tc (nI_toInt (by omega)) (fun y => yes (by omega) (Or.inl (by omega))) (fun y => P_eq tc (nI_toInt (n := c0) (by omega)) (fun w => P_le (nI_toInt (by omega)) hx3 (fun u => no (Or.inr (Or.inr ⟨by omega, by omega⟩))) (fun u => yes (by omega) (Or.inr ⟨by omega, by omega⟩))) (fun w => no (Or.inr (Or.inl (by omega)))))
/-- prices of the choice, then all ways -/
abbrev prC (C : List Int) (K : List Kl) (n p : Nat) (A : qM) (k : Nat) : Int32 := lpF 1048576 (selP (A 7 8) (A 9) p k) (fun s => csV C K n (A 4) (A 5) (A 7 9) p k (nI s) (A 9) (A 11)) 8
theorem c_fc {n : Nat} (hn : 200000 ≤ n) {j p : Nat} (hj : q_isLaw j) (hp : p < 8) {C : List Int} {K : List Kl} (hK : Kg (cdl C) C.length K) {S aim H : Nat} (hS : S ≤ 4) (haim : aim < S) (hH : H ≤ 200) {ch hr pn : Nat → Nat} {W : Nat → Nat → Bool} (hpn : ∀ i, i < S → pn i ≤ 999 ∨ pn i = 1048576) {A : qM} (hSr : SrS S aim ch hr W A A) (hWe : wcS (A 60) (A 58) (A 59) (A 62) S = W) (hLA : LJ j A C K) (hpr : ∀ i, i < S → prC C K n p A (ch i) = nI (pn i)) : ∀ (m i : Nat) (M : qM), i ≤ S → G M → (∀ c, c ≠ 34 → c ≠ 35 → c ≠ 36 → c ≠ 61 → M c = A c) → (∀ q, q < i → M 61 q = nI (pn q)) → qP (f_X7_findCheapest_3 n 7 j m (nI p) (nI H) (nI i) M) (fun _ m' => ∃ c h, (m' 56 12 = nI c ∧ m' 56 13 = nI h) ∧ LBs H (cpl pn (fun s => vS S hr aim W s 0) S 0 0 0 3) c h) := by
  intro m
  induction m with
  | zero => intro i M _ _ _ _; exact P_none
  | succ m ih =>
    intro i M hi hG hf hlo
    show qP (b_X7_findCheapest_3 n 7 j (f_X7_findCheapest_3 n 7 j m) (nI p) (nI H) (nI i) M) _
    unfold b_X7_findCheapest_3
    have ti : (nI i).toInt = (i : Int) := nI_toInt (by omega)
    have ei : (nI i).toNatClampNeg = i := by rw [tnc, ti]; rfl
    have e56 : M 56 = A 56 := hf 56 (by decide) (by decide) (by decide) (by decide)
    rw [e56, hSr.1.1]
    refine P_le (nI_toInt (by omega)) ti (fun c => ?_) (fun c => P_qg (fun _ _ => ?_))
    · have e : i = S := by omega
      subst e
      refine P_m (fun m1 a1 a2 a3 => P_m (fun m2 b1 b2 b3 => ?_))
      have f2 : ∀ c, c ≠ 34 → c ≠ 35 → c ≠ 36 → c ≠ 61 → c ≠ 56 → m2 c = A c := fun c q1 q2 q3 q4 q5 => by rw [b3 c q5, a3 c q5, hf c q1 q2 q3 q4]
      unfold f_X7_tryGoes
      refine P_qc (c_try (n := n) (V := fun _ _ => False) hS haim hH hpn 8 i 0 0 0 3 m2 (by omega) (by decide) (by decide) (by decide) ⟨⟨SrS_cg hSr ?_ ?_ ?_ ?_ ?_, ?_⟩, ?_, 1048576, 1048576, ⟨?_, ?_⟩, Or.inl ⟨rfl, rfl⟩, fun _ _ v => absurd v (fun z => z)⟩) ?_
      · rw [b2 10 (by decide), a2 10 (by decide), e56]
      · rw [b2 11 (by decide), a2 11 (by decide), e56]
      · exact f2 4 (by decide) (by decide) (by decide) (by decide) (by decide)
      · exact f2 57 (by decide) (by decide) (by decide) (by decide) (by decide)
      · exact f2 63 (by decide) (by decide) (by decide) (by decide) (by decide)
      · rw [f2 60 (by decide) (by decide) (by decide) (by decide) (by decide), f2 58 (by decide) (by decide) (by decide) (by decide) (by decide), f2 59 (by decide) (by decide) (by decide) (by decide) (by decide), f2 62 (by decide) (by decide) (by decide) (by decide) (by decide)]; exact hWe
      · intro q hq
        rw [b3 61 (by decide), a3 61 (by decide)]; exact hlo q hq
      · rw [b2 12 (by decide), a1]; rfl
      · rw [b1]; rfl
      · rintro _ m3 ⟨_, _, c3, h3, e3, l3⟩
        refine P_ret ⟨c3, h3, e3, LBs_cg (fun c' h' => ⟨fun v => v.elim (fun z => False.elim z) (fun z => z), fun v => Or.inr v⟩) l3⟩
    · have hiS : i < S := by omega
      obtain ⟨r57, rch, _, _⟩ := hSr.2.1 i hiS
      have hL : LJ j M C K := LJ_cg hLA (fun q hq => by rcases hj with rfl | rfl <;> exact hf _ (by omega) (by omega) (by omega) (by omega))
      rw [ei, hf 57 (by decide) (by decide) (by decide) (by decide), r57]
      unfold f_X7_leastPrice
      refine P_qc (c_lp7 hn hj hp rch hK (M0 := M) (sel := selP (A 7 8) (A 9) p (ch i)) (pr := fun s => csV C K n (A 4) (A 5) (A 7 9) p (ch i) (nI s) (A 9) (A 11)) (by rw [hf 7 (by decide) (by decide) (by decide) (by decide), hf 9 (by decide) (by decide) (by decide) (by decide)]) (fun s => by rw [hf 4 (by decide) (by decide) (by decide) (by decide), hf 5 (by decide) (by decide) (by decide) (by decide), hf 7 (by decide) (by decide) (by decide) (by decide), hf 9 (by decide) (by decide) (by decide) (by decide), hf 11 (by decide) (by decide) (by decide) (by decide)]) n 0 M (by decide) hG hL (fun _ _ _ _ => rfl)) ?_
      rintro r4 m5 ⟨hr4, g5, l5, f5⟩
      refine P_qg (fun _ _ => P_g g5 (rn_61 _ _) (nw_61 _) ?_)
      intro m6 a1 a2 a3 g6
      refine P_ql (i_add ti l_1 (by omega) (by omega)) (fun x hx => ?_)
      rw [nI_i (a := x) (k := i + 1) (by rw [hx]; omega)]
      refine ih (i + 1) m6 (by omega) g6 (fun c q1 q2 q3 q4 => by rw [a3 c q4, f5 c q1 q2 q3]; exact hf c q1 q2 q3 q4) (fun q hq => ?_)
      by_cases w : q = i
      · rw [w, a1, hr4]; exact hpr i hiS
      · rw [a2 q w, f5 61 (by decide) (by decide) (by decide)]; exact hlo q (by omega)
