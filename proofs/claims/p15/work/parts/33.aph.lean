/-! the reference: first states marked -/
abbrev gOk (pm : Nat → Nat) (t q : Nat) : Prop := wyG (dgS t q) = 0 ∨ pm q < 1000000000
theorem d_mb36 {n S t : Nat} (hS : S ≤ 4) (ht : t < 160000) {pm : Nat → Nat} {B : Prop} {M : qM} (hG : G M) (h43 : M 77 43 = nI S) (hW : WT M) (hR : RwT S t M) (hpm : ∀ i, i < S → M 109 i = nI (pm i) ∧ pm i ≤ 1000000000) {K2 : Int32 → Int32 → qM → qR} {a1 : Int32} {Q : Int32 → qM → Prop} (hK : ∀ m1 : qM, G m1 → (∀ c, c ≠ 110 → m1 c = M c) → (∀ s, s ≠ t → m1 110 s = M 110 s) → (m1 110 t ≠ 0 ↔ (B ∧ ∀ q, q < S → gOk pm t q)) → qP (K2 a1 (nI (t + 1)) m1) Q) : ∀ (m i : Nat) (z : Int32), i ≤ S → (z = 0 ∨ z = 1) → (z ≠ 0 ↔ (B ∧ ∀ q, q < i → gOk pm t q)) → qP (f_X12_marksBought_36 n K2 m a1 (nI t) z (nI i) M) Q := by
  intro m
  induction m with
  | zero => intro i z _ _ _; exact P_none
  | succ m ih =>
    intro i z hi hz hB
    show qP (b_X12_marksBought_36 n K2 (f_X12_marksBought_36 n K2 m) a1 (nI t) z (nI i) M) _
    unfold b_X12_marksBought_36
    have ti : (nI i).toInt = (i : Int) := nI_toInt (by omega)
    have ei : (nI i).toNatClampNeg = i := by rw [tnc, ti]; rfl
    have tt : (nI t).toInt = (t : Int) := nI_toInt (by omega)
    have et : (nI t).toNatClampNeg = t := by rw [tnc, tt]; rfl
    have hf := wy_f (dgS t i) (dg_lt t i)
    have ed : (nI (dgS t i)).toNatClampNeg = dgS t i := by rw [tnc, nI_toInt (by have := dg_lt t i; omega)]; rfl
    rw [h43]
    refine P_le (nI_toInt (by omega)) ti (fun c => P_qg (fun _ _ => ?_)) (fun c => ?_)
    · have e : i = S := by omega
      have ez : vp_nar .boolean z = z := by rcases hz with rfl | rfl <;> rfl
      rw [et, ez]
      refine P_g hG (show 0 ≤ z.toInt ∧ z.toInt ≤ 1 by rcases hz with rfl | rfl <;> decide) (nw_110 _) ?_
      intro m1 a1' a2 a3 g1
      refine P_ql (i_add tt l_1 (by omega) (by omega)) (fun x hx => ?_)
      rw [nI_i (a := x) (k := t + 1) (by rw [hx]; omega)]
      exact hK m1 g1 a3 a2 (by rw [a1', hB, e])
    · have hiS : i < S := by omega
      have no : ¬ (B ∧ ∀ q, q < i + 1 → gOk pm t q) → qP (f_X12_marksBought_81 n K2 (f_X12_marksBought_36 n K2 m) a1 (nI t) (nI i) M) Q := by
        intro hno
        unfold f_X12_marksBought_81
        refine P_ql (i_add ti l_1 (by omega) (by omega)) (fun x hx => ?_)
        rw [nI_i (a := x) (k := i + 1) (by rw [hx]; omega)]
        exact ih (i + 1) 0 (by omega) (Or.inl rfl) ⟨fun w => absurd rfl w, fun w => absurd w hno⟩
      have yes : (B ∧ ∀ q, q < i + 1 → gOk pm t q) → qP (ql (nI i + (1 : Int32)) (fun x => f_X12_marksBought_36 n K2 m a1 (nI t) (1 : Int32) x M)) Q := by
        intro hy
        refine P_ql (i_add ti l_1 (by omega) (by omega)) (fun x hx => ?_)
        rw [nI_i (a := x) (k := i + 1) (by rw [hx]; omega)]
        exact ih (i + 1) 1 (by omega) (Or.inr rfl) ⟨fun _ => hy, fun _ => by decide⟩
      have up : z ≠ 0 → gOk pm t i → (B ∧ ∀ q, q < i + 1 → gOk pm t q) := by
        intro w1 w2
        obtain ⟨b1, b2⟩ := hB.mp w1
        refine ⟨b1, fun q hq => ?_⟩
        by_cases e : q = i
        · rw [e]; exact w2
        · exact b2 q (by omega)
      refine P_if (fun w => no (fun y => ?_)) (fun w => P_qg (fun _ _ => ?_))
      · exact absurd w (hB.mpr ⟨y.1, fun q hq => y.2 q (by omega)⟩)
      · rw [ei, hR i hiS]
        refine P_qg (fun _ _ => ?_)
        rw [ed, (hW _ (dg_lt t i)).2.1]
        obtain ⟨c1, c2⟩ := hpm i hiS
        refine P_eq (nI_toInt (n := wyG (dgS t i)) (by omega)) l_0 (fun y => yes (up w (Or.inl (by omega)))) (fun y => P_qg (fun _ _ => ?_))
        rw [c1]
        refine P_le l_1000000000 (nI_toInt (by omega)) (fun u => no (fun v => ?_)) (fun u => yes (up w (Or.inr (by omega))))
        rcases v.2 i (by omega) with k | k
        · exact y (by omega)
        · omega
theorem d_mb2 {n : Nat} (hn : 200000 ≤ n) {C : List Int} {K : List Kl} {S p : Nat} (hS : S ≤ 4) {ch hr pm : Nat → Nat} {M0 : qM} (hM0 : SoM C K n S p ch hr M0) (hpm : ∀ i, i < S → M0 109 i = nI (pm i) ∧ pm i ≤ 1000000000) : ∀ (m s : Nat) (M : qM), s ≤ 20 ^ S → MX M0 M → (∀ t, t < s → (M 110 t ≠ 0 ↔ inG pm S t)) → qP (f_X12_marksBought_2 n m (nI (20 ^ S)) (nI s) M) (fun _ m' => MX M0 m' ∧ ∀ t, t < 20 ^ S → (m' 110 t ≠ 0 ↔ inG pm S t)) := by
  intro m
  induction m with
  | zero => intro s M _ _ _; exact P_none
  | succ m ih =>
    intro s M hs hX hlo
    show qP (b_X12_marksBought_2 n (f_X12_marksBought_2 n m) (nI (20 ^ S)) (nI s) M) _
    unfold b_X12_marksBought_2
    have p4 := p20 hS
    have ts : (nI s).toInt = (s : Int) := nI_toInt (by omega)
    refine P_le (nI_toInt (by omega)) ts (fun c => P_ret ⟨hX, fun t ht => hlo t (by omega)⟩) (fun c => ?_)
    have hsA : s < 20 ^ S := by omega
    obtain ⟨hL, hW, ⟨h43, h44⟩, hch, hN, hwm⟩ := SoM_M hM0 hX
    refine P_qc (P_and (d_tk hS (t := s) (by omega) h43) (P_T (t_X12_takesState hn (nI s) M hX.1 (by omega)))) ?_
    rintro _ m1 ⟨⟨hR, o1⟩, hp1⟩
    have g1 : G m1 := by first | exact hp1.1 | exact hp1.2.1 | exact hp1.2.2.1
    have X1 : MX M0 m1 := ⟨g1, fun c q1 q2 q3 q4 => by rw [o1 c q3]; exact hX.2 c q1 q2 q3 q4⟩
    have e110 : m1 110 = M 110 := o1 110 (by decide)
    obtain ⟨hL1, hW1, ⟨h431, _⟩, hch1, _, _⟩ := SoM_M hM0 X1
    have hpm1 : ∀ i, i < S → m1 109 i = nI (pm i) ∧ pm i ≤ 1000000000 := fun i hi => by rw [X1.2 109 (by decide) (by decide) (by decide) (by decide)]; exact hpm i hi
    have fin : ∀ (m2 : qM), G m2 → (∀ c, c ≠ 110 → m2 c = m1 c) → (∀ t, t ≠ s → m2 110 t = m1 110 t) → (m2 110 s ≠ 0 ↔ ((maS S s = 0 ∧ gaS S s ≤ 3) ∧ ∀ q, q < S → gOk pm s q)) → qP (f_X12_marksBought_2 n m (nI (20 ^ S)) (nI (s + 1)) m2) (fun _ m' => MX M0 m' ∧ ∀ t, t < 20 ^ S → (m' 110 t ≠ 0 ↔ inG pm S t)) := by
      intro m2 g2 f2 k2 k3
      refine ih (s + 1) m2 (by omega) ⟨g2, fun c q1 q2 q3 q4 => by rw [f2 c q4]; exact X1.2 c q1 q2 q3 q4⟩ (fun t ht => ?_)
      by_cases e : t = s
      · rw [e, k3]
        exact ⟨fun w => ⟨hsA, w.1.1, w.1.2, w.2⟩, fun w => ⟨⟨w.2.1, w.2.2.1⟩, w.2.2.2⟩⟩
      · rw [k2 t e, e110]; exact hlo t (by omega)
    have hma := ma_le (S := S) (t := s)
    have hga : gaS S s ≤ 3 * S := smN_le (fun q _ => by have := (wy_f (dgS s q) (dg_lt s q)).1; omega)
    refine P_qc (d_madeN hS h431 hW1 hR) ?_
    rintro r2 m3 ⟨rfl, rfl⟩
    refine P_eq (nI_toInt (n := maS S s) (by omega)) l_0 (fun z => ?_) (fun z => ?_)
    · refine P_qc (d_goesN hS h431 hW1 hR) ?_
      rintro r4 m5 ⟨rfl, rfl⟩
      refine P_lt l_3 (nI_toInt (n := gaS S s) (by omega)) (fun y => ?_) (fun y => ?_)
      · unfold f_X12_marksBought_31 f_X12_marksBought_32
        exact d_mb36 (B := maS S s = 0 ∧ gaS S s ≤ 3) hS (by omega) g1 h431 hW1 hR hpm1 fin n 0 0 (Nat.zero_le _) (Or.inl rfl) ⟨fun w => absurd rfl w, fun w => by have := w.1.2; omega⟩
      · unfold f_X12_marksBought_32
        exact d_mb36 (B := maS S s = 0 ∧ gaS S s ≤ 3) hS (by omega) g1 h431 hW1 hR hpm1 fin n 0 1 (Nat.zero_le _) (Or.inr rfl) ⟨fun _ => ⟨⟨by omega, by omega⟩, fun q hq => by omega⟩, fun _ => by decide⟩
    · unfold f_X12_marksBought_31 f_X12_marksBought_32
      exact d_mb36 (B := maS S s = 0 ∧ gaS S s ≤ 3) hS (by omega) g1 h431 hW1 hR hpm1 fin n 0 0 (Nat.zero_le _) (Or.inl rfl) ⟨fun w => absurd rfl w, fun w => by have := w.1.1; omega⟩
def ansC (x : Nat) (what : Int32) : Int32 := if x = 1000000000 then -2 else if what = 0 then nI (x / 256) else nI (x % 256)
theorem d_ch104 {n : Nat} (hn : 200000 ≤ n) {C : List Int} {K : List Kl} (hK : Kg (cdl C) C.length K) (h240 : C.length ≤ 240) {S p aim H : Nat} (hS : S ≤ 4) (hp : p < 8) (haim : aim < S) (hH : H ≤ 200) {ch hr pm : Nat → Nat} {M0 : qM} (hM0 : SoM C K n S p ch hr M0) (hpm : ∀ i, i < S → M0 109 i = nI (pm i) ∧ (pm i ≤ 999 ∨ pm i = 1000000000)) (what : Int32) : ∀ (m s x : Nat) (M : qM), s ≤ 20 ^ S → MX M0 M → (∀ t, t < 20 ^ S → (M 110 t ≠ 0 ↔ bA (inG pm S) (tmS aim) (suC (wMS C K n S p ch M0) hr H S) s t)) → BCs H (inG pm S) (tmS aim) (suC (wMS C K n S p ch M0) hr H S) (coS hr S) (cnS pm S) s x → qP (f_X12_cheapest_104 n m (nI H) what (nI (20 ^ S)) (nI aim) (nI x) (nI s) M) (fun v _ => ∃ y, v = ansC y what ∧ BCs H (inG pm S) (tmS aim) (suC (wMS C K n S p ch M0) hr H S) (coS hr S) (cnS pm S) (20 ^ S) y) := by
  intro m
  induction m with
  | zero => intro s x M _ _ _ _; exact P_none
  | succ m ih =>
    intro s x M hs hX hmk hB
    show qP (b_X12_cheapest_104 n (f_X12_cheapest_104 n m) (nI H) what (nI (20 ^ S)) (nI aim) (nI x) (nI s) M) _
    unfold b_X12_cheapest_104
    have p4 := p20 hS
    have ts : (nI s).toInt = (s : Int) := nI_toInt (by omega)
    have es : (nI s).toNatClampNeg = s := by rw [tnc, ts]; rfl
    have hx3 := hB.2.2
    have tx : (nI x).toInt = (x : Int) := nI_toInt (by omega)
    refine P_le (nI_toInt (by omega)) ts (fun c => ?_) (fun c => P_qg (fun _ _ => ?_))
    · have e : s = 20 ^ S := by omega
      rw [e] at hB
      refine P_eq tx l_1000000000 (fun z => P_ret ⟨x, ?_, hB⟩) (fun z => P_if (fun w => P_ret ⟨x, ?_, hB⟩) (fun w => P_ret ⟨x, ?_, hB⟩))
      · unfold ansC; rw [if_pos (by omega)]
      · unfold ansC
        rw [if_neg (by omega), if_pos w]
        exact nI_i (by rw [i_div tx l_256 (by omega) (by decide)]; omega)
      · unfold ansC
        rw [if_neg (by omega), if_neg w]
        exact nI_i (by rw [i_rem tx l_256 (by omega) (by decide)]; omega)
    · have hlt : ∀ a b, suC (wMS C K n S p ch M0) hr H S a b → a < b := fun a b h => (su_lt h.2).1
      have hsA : s < 20 ^ S := by omega
      have nxB : ∀ y, y ≤ 1000000000 → (y = x ∨ (okS (inG pm S) (tmS aim) (suC (wMS C K n S p ch M0) hr H S) s ∧ tmS aim s ∧ coS hr S s / 16 ≤ H ∧ y = 256 * cnS pm S s + coS hr S s / 16)) → y ≤ x → (okS (inG pm S) (tmS aim) (suC (wMS C K n S p ch M0) hr H S) s → tmS aim s → coS hr S s / 16 ≤ H → y ≤ 256 * cnS pm S s + coS hr S s / 16) → BCs H (inG pm S) (tmS aim) (suC (wMS C K n S p ch M0) hr H S) (coS hr S) (cnS pm S) (s + 1) y := by
        intro y h0 h1 h2 h3
        refine ⟨?_, fun t ht hok htm hcH => ?_, h0⟩
        · rcases h1 with h1 | ⟨a, b, d, f⟩
          · rw [h1]
            rcases hB.1 with e | ⟨t, a, b⟩
            · exact Or.inl e
            · exact Or.inr ⟨t, by omega, b⟩
          · exact Or.inr ⟨s, by omega, a, b, d, f⟩
        · by_cases e : t = s
          · rw [e] at hok htm hcH ⊢; exact h3 hok htm hcH
          · have := hB.2.1 t (by omega) hok htm hcH
            omega
      rw [es]
      refine P_if (fun z => P_ql (i_add ts l_1 (by omega) (by omega)) (fun x2 hx2 => ?_)) (fun z => ?_)
      · rw [nI_i (a := x2) (k := s + 1) (by rw [hx2]; omega)]
        have hno : ¬ bA (inG pm S) (tmS aim) (suC (wMS C K n S p ch M0) hr H S) s s := fun w => (hmk s hsA).mpr w z
        refine ih (s + 1) x M (by omega) hX (fun t ht => ?_) (nxB x hx3 (Or.inl rfl) (Nat.le_refl _) (fun w _ _ => absurd w hno))
        rw [hmk t ht]
        exact ⟨fun w => Or.inl w, fun w => w.elim (fun w => w) (fun w => absurd w.1 hno)⟩
      · have hyes := (hmk s hsA).mp z
        obtain ⟨hL, hW, ⟨h43, h44⟩, hch, hN, hwm⟩ := SoM_M hM0 hX
        refine P_qc (P_and (d_tk hS (t := s) (by omega) h43) (P_T (t_X12_takesState hn (nI s) M hX.1 (by omega)))) ?_
        rintro _ m1 ⟨⟨hR, o1⟩, hp1⟩
        have g1 : G m1 := by first | exact hp1.1 | exact hp1.2.1 | exact hp1.2.2.1
        have X1 : MX M0 m1 := ⟨g1, fun c q1 q2 q3 q4 => by rw [o1 c q3]; exact hX.2 c q1 q2 q3 q4⟩
        have e110 : m1 110 = M 110 := o1 110 (by decide)
        obtain ⟨hL1, hW1, ⟨h431, _⟩, hch1, _, _⟩ := SoM_M hM0 X1
        have ea : (nI aim).toNatClampNeg = aim := by rw [tnc, nI_toInt (by omega)]; rfl
        have hd := dg_lt s aim
        have hcm := co_hm hr s S
        have hcl := co_le (t := s) (hr := hr) hS (fun i hi => (hch i hi).2.2.2)
        have hml := ma_le (S := S) (t := s)
        have hdv : coS hr S s / 16 = hoS hr S s := by omega
        have hpm1 : ∀ i, i < S → m1 109 i = nI (pm i) ∧ (wyG (dgS s i) = 0 ∨ pm i ≤ 999) := fun i hi => by
          rw [X1.2 109 (by decide) (by decide) (by decide) (by decide)]
          refine ⟨(hpm i hi).1, ?_⟩
          rcases (ok_bC (s + 1) s (by omega) hyes).2 i hi with w | w
          · exact Or.inl w
          · have := (hpm i hi).2
            exact Or.inr (by omega)
        refine P_qc (d_hoursN (ch := ch) (hr := hr) hS h431 hW1 hR hch1) ?_
        rintro r2 m3 ⟨rfl, rfl⟩
        refine P_le (nI_toInt (n := hoS hr S s) (by omega)) (nI_toInt (n := H) (by omega)) (fun y => P_qg (fun _ _ => ?_)) (fun y => P_ql (i_add ts l_1 (by omega) (by omega)) (fun x2 hx2 => ?_))
        · rw [ea, hR aim haim]
          refine P_qg (fun _ _ => ?_)
          rw [show (nI (dgS s aim)).toNatClampNeg = dgS s aim by rw [tnc, nI_toInt (by omega)]; rfl, (hW1 (dgS s aim) hd).2.2]
          have hf := wy_f (dgS s aim) hd
          refine P_le (nI_toInt (by omega)) l_0 (fun z0 => ?_) (fun z0 => ?_)
          · have htm : ¬ tmS aim s := fun w => w (by omega)
            refine P_qc (d_spr (g := 0) hn hK h240 hS hp hsA (by decide) hM0 hR X1) ?_
            rintro _ m2 ⟨X2, k2⟩
            refine P_ql (i_add ts l_1 (by omega) (by omega)) (fun x3 hx3' => ?_)
            rw [nI_i (a := x3) (k := s + 1) (by rw [hx3']; omega)]
            refine ih (s + 1) x m2 (by omega) X2 (fun t ht => ?_) (nxB x hx3 (Or.inl rfl) (Nat.le_refl _) (fun _ w _ => absurd w htm))
            rw [k2 t, e110, hmk t ht]
            exact ⟨fun w => w.elim (fun w => Or.inl w) (fun w => Or.inr ⟨hyes, htm, by omega, w⟩), fun w => w.elim (fun w => Or.inl w) (fun w => Or.inr w.2.2.2)⟩
          · have htm : tmS aim s := fun w => by omega
            refine P_qc (d_coinsN hS h431 hW1 hR hpm1) ?_
            rintro r6 m7 ⟨rfl, rfl⟩
            refine P_qc (d_hoursN (ch := ch) (hr := hr) hS h431 hW1 hR hch1) ?_
            rintro r8 m9 ⟨rfl, rfl⟩
            have hcn := cnS_le (pn := pm) (t := s) (S := S) (fun i hi => (hpm1 i hi).2)
            have eco : (256 : Int32) * nI (cnS pm S s) + nI (hoS hr S s) = nI (256 * cnS pm S s + coS hr S s / 16) := nI_i (by
              rw [i_add (i_mul l_256 (nI_toInt (n := cnS pm S s) (by omega)) (by omega) (by omega)) (nI_toInt (n := hoS hr S s) (by omega)) (by omega) (by omega), hdv]; omega)
            rw [eco, d_min, n_min (by omega) (by omega), qc_v]
            refine P_ql (i_add ts l_1 (by omega) (by omega)) (fun x10 hx10 => ?_)
            rw [nI_i (a := x10) (k := s + 1) (by rw [hx10]; omega)]
            refine ih (s + 1) (min x (256 * cnS pm S s + coS hr S s / 16)) m9 (by omega) X1 (fun t ht => ?_) (nxB _ (by omega) ?_ (by omega) (fun _ _ _ => by omega))
            · rw [e110, hmk t ht]
              exact ⟨fun w => Or.inl w, fun w => w.elim (fun w => w) (fun w => absurd htm w.2.1)⟩
            · by_cases c5 : x ≤ 256 * cnS pm S s + coS hr S s / 16
              · exact Or.inl (by omega)
              · exact Or.inr ⟨hyes, htm, by omega, by omega⟩
        · rw [nI_i (a := x2) (k := s + 1) (by rw [hx2]; omega)]
          refine ih (s + 1) x m3 (by omega) X1 (fun t ht => ?_) (nxB x hx3 (Or.inl rfl) (Nat.le_refl _) (fun _ _ w => by omega))
          rw [e110, hmk t ht]
          exact ⟨fun w => Or.inl w, fun w => w.elim (fun w => w) (fun w => by have := w.2.2.1; omega)⟩
theorem SoM_9 {C : List Int} {K : List Kl} {n S p : Nat} {ch hr : Nat → Nat} {M0 M : qM} (h : SoM C K n S p ch hr M0) (o : ∀ c, c ≠ 96 → c ≠ 97 → c ≠ 109 → M c = M0 c) : SoM C K n S p ch hr M ∧ wMS C K n S p ch M = wMS C K n S p ch M0 := by
  obtain ⟨h1, h2, h3, h4, h5⟩ := h
  refine ⟨⟨LM_cg h1 (fun c q1 q2 => o c (by omega) (by omega) (by omega)) (by rw [o 77 (by decide) (by decide) (by decide)]), fun w hw => by rw [o 102 (by decide) (by decide) (by decide), o 103 (by decide) (by decide) (by decide), o 104 (by decide) (by decide) (by decide)]; exact h2 w hw, by rw [o 77 (by decide) (by decide) (by decide)]; exact h3, fun i hi => by rw [o 105 (by decide) (by decide) (by decide), o 81 (by decide) (by decide) (by decide)]; exact h4 i hi, fun i hi => by rw [o 78 (by decide) (by decide) (by decide)]; exact h5 i hi⟩, ?_⟩
  funext t i
  unfold wMS
  rw [o 106 (by decide) (by decide) (by decide), o 107 (by decide) (by decide) (by decide), o 81 (by decide) (by decide) (by decide), o 82 (by decide) (by decide) (by decide), o 78 (by decide) (by decide) (by decide), o 83 (by decide) (by decide) (by decide)]
abbrev prM (C : List Int) (K : List Kl) (n p : Nat) (B : qM) (k : Nat) : Int32 := lpF 1000000000 (selP (B 78 312) (B 78) p k) (fun s => csV C K n (B 81) (B 82) (B 78 313) p k (nI s) (B 78) (fun i => B 78 (192 + i))) 8
theorem d_ch43 {n : Nat} (hn : 200000 ≤ n) {C : List Int} {K : List Kl} (hK : Kg (cdl C) C.length K) (h240 : C.length ≤ 240) {S p k aim H : Nat} (hS : S ≤ 4) (hp : p < 8) (hk : k < 12) (haim : aim < S) (hH : H ≤ 200) {ch hr pm : Nat → Nat} {B : qM} (hB : SoM C K n S p ch hr B) (hpm : ∀ i, i < S → (pm i ≤ 999 ∨ pm i = 1000000000)) (hpr : ∀ i, i < S → prM C K n p B (ch i) = nI (pm i)) (hka : ch aim = k) (hne : ∀ i, i < aim → ch i ≠ k) (what : Int32) : ∀ (m i : Nat) (M : qM), i ≤ S → G M → (∀ c, c ≠ 96 → c ≠ 97 → c ≠ 109 → M c = B c) → (∀ q, q < i → M 109 q = nI (pm q)) → qP (f_X12_cheapest_43 n m (nI p) (nI k) (nI H) what (nI i) M) (fun v _ => ∃ y, v = ansC y what ∧ BCs H (inG pm S) (tmS aim) (suC (wMS C K n S p ch B) hr H S) (coS hr S) (cnS pm S) (20 ^ S) y) := by
  intro m
  induction m with
  | zero => intro i M _ _ _ _; exact P_none
  | succ m ih =>
    intro i M hi hG hf hlo
    show qP (b_X12_cheapest_43 n (f_X12_cheapest_43 n m) (nI p) (nI k) (nI H) what (nI i) M) _
    unfold b_X12_cheapest_43
    have ti : (nI i).toInt = (i : Int) := nI_toInt (by omega)
    have ei : (nI i).toNatClampNeg = i := by rw [tnc, ti]; rfl
    obtain ⟨hSo, hwm⟩ := SoM_9 hB hf
    obtain ⟨hL, hW, ⟨h43, h44⟩, hch, hN⟩ := hSo
    rw [h43]
    refine P_le (nI_toInt (by omega)) ti (fun c => ?_) (fun c => P_qg (fun _ _ => ?_))
    · have hX : MX M M := ⟨hG, fun _ _ _ _ _ => rfl⟩
      have hSo : SoM C K n S p ch hr M := ⟨hL, hW, ⟨h43, h44⟩, hch, hN⟩
      refine P_qc (d_all hS h43) ?_
      rintro r1 m2 ⟨rfl, rfl⟩
      refine P_qc (d_plc hS haim hk (ch := ch) (fun i hi => ⟨(hch i hi).1, (hch i hi).2.1⟩) hka hne) ?_
      rintro r3 m4 ⟨rfl, rfl⟩
      unfold f_X12_marksBought
      refine P_qc (d_mb2 hn hS hSo (pm := pm) (fun q hq => ⟨hlo q (by omega), by have := hpm q hq; omega⟩) n 0 m4 (Nat.zero_le _) hX (fun t ht => absurd ht (Nat.not_lt_zero _))) ?_
      rintro _ m5 ⟨X5, k5⟩
      rw [← hwm]
      exact d_ch104 hn hK h240 hS hp haim hH hSo (fun q hq => ⟨hlo q (by omega), hpm q hq⟩) what n 0 1000000000 m5 (Nat.zero_le _) X5 k5 ⟨Or.inl rfl, fun t ht => absurd ht (Nat.not_lt_zero _), Nat.le_refl _⟩
    · have hiS : i < S := by omega
      obtain ⟨c105, cch, _, _⟩ := hch i hiS
      rw [ei, c105]
      unfold f_X12_leastPrice
      refine P_qc (d_lp7 hn hp cch hK h240 (M0 := M) (sel := selP (B 78 312) (B 78) p (ch i)) (pr := fun s => csV C K n (B 81) (B 82) (B 78 313) p (ch i) (nI s) (B 78) (fun i => B 78 (192 + i))) (by rw [hf 78 (by decide) (by decide) (by decide)]) (fun s => by rw [hf 81 (by decide) (by decide) (by decide), hf 82 (by decide) (by decide) (by decide), hf 78 (by decide) (by decide) (by decide)]) n 0 M (by decide) hG hL (fun _ _ _ => rfl)) ?_
      rintro r6 m7 ⟨hr6, g7, l7, f7⟩
      refine P_qg (fun _ _ => P_g g7 (rn_109 _ _) (nw_109 _) ?_)
      intro m8 a1 a2 a3 g8
      refine P_ql (i_add ti l_1 (by omega) (by omega)) (fun x hx => ?_)
      rw [nI_i (a := x) (k := i + 1) (by rw [hx]; omega)]
      refine ih (i + 1) m8 (by omega) g8 (fun c q1 q2 q3 => by rw [a3 c q3, f7 c q1 q2]; exact hf c q1 q2 q3) (fun q hq => ?_)
      by_cases w : q = i
      · rw [w, a1, hr6]; exact hpr i hiS
      · rw [a2 q w, f7 109 (by decide) (by decide)]; exact hlo q (by omega)
