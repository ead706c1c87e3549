/-! deeds told, and whether they are alike -/
theorem c_fill {n c len : Nat} (hl : len ≤ 1000) (a1 : Int32) : ∀ (m : Nat) (a2 a3 : Int32) (M : qM), 0 ≤ a2.toInt → a3.toInt = (len : Int) → qP (f_J7_fill_53178_5 n c len m a1 a2 a3 M) (fun _ m' => (∀ c2, c2 ≠ c → m' c2 = M c2) ∧ ∀ i : Nat, ((i : Int) < a2.toInt → m' c i = M c i) ∧ (a2.toInt ≤ (i : Int) → i < len → m' c i = a1)) := by
  intro m
  induction m with
  | zero => intro a2 a3 M _ _; exact P_none
  | succ m ih =>
    intro a2 a3 M h0 h3
    show qP (b_J7_fill_53178_5 n c len (f_J7_fill_53178_5 n c len m) a1 a2 a3 M) _
    unfold b_J7_fill_53178_5
    refine P_le rfl rfl (fun h => P_ret ⟨fun _ _ => rfl, fun i => ⟨fun _ => rfl, fun h1 h2 => by omega⟩⟩) (fun hlt => ?_)
    refine P_qg (fun _ hg => P_m (fun m1 b1 b2 b3 => P_ql (i_add rfl l_1 (by omega) (by omega)) (fun x hx => ?_)))
    refine P_mono (ih x a3 m1 (by omega) h3) (fun v m' h => ?_)
    obtain ⟨e1, e2⟩ := h
    refine ⟨fun c2 hc => by rw [e1 c2 hc, b3 c2 hc], fun i => ⟨fun hi => ?_, fun h1 h2 => ?_⟩⟩
    · rw [(e2 i).1 (by omega), b2 i (by rw [tnc]; omega)]
    · by_cases q : i = a2.toNatClampNeg
      · rw [(e2 i).1 (by rw [q, tnc]; omega), q, b1]
      · exact (e2 i).2 (by rw [tnc] at q; omega) h2
theorem c_deed {n : Nat} (k h x d : Int32) (M : qM) : qP (f_X1_tellDeed n k h x d M) (fun _ m => FE (m 35) (fx k h x 0 0 0 d 0 0 0 0 0) ∧ ∀ c, c ≠ 35 → m c = M c) := by
  unfold f_X1_tellDeed f_J7_fill_53178
  refine P_qc (P_ql rfl (fun x1 hx1 => c_fill (len := 12) (by decide) 0 n 0 x1 M (by rw [l_0]; omega) (by rw [hx1]; decide))) ?_
  rintro _ m1 ⟨e1, e2⟩
  have z : ∀ i : Nat, i < 12 → m1 35 i = 0 := fun i hi => (e2 i).2 (by rw [l_0]; omega) hi
  refine P_m (fun m2 a1 a2 a3 => P_m (fun m3 b1 b2 b3 => P_m (fun m4 c1 c2 c3 => P_m (fun m5 d1 d2 d3 => P_ret ⟨?_, fun c hc => ?_⟩))))
  · have o : ∀ i, i < 12 → i ≠ 0 → i ≠ 1 → i ≠ 2 → i ≠ 6 → m5 35 i = 0 := fun i hi q0 q1 q2 q6 => by rw [d2 i q6, c2 i q2, b2 i q1, a2 i q0, z i hi]
    exact FE_mk (by rw [d2 0 (by decide), c2 0 (by decide), b2 0 (by decide), a1]) (by rw [d2 1 (by decide), c2 1 (by decide), b1]) (by rw [d2 2 (by decide), c1]) (o 3 (by decide) (by decide) (by decide) (by decide) (by decide)) (o 4 (by decide) (by decide) (by decide) (by decide) (by decide)) (o 5 (by decide) (by decide) (by decide) (by decide) (by decide)) d1 (o 7 (by decide) (by decide) (by decide) (by decide) (by decide)) (o 8 (by decide) (by decide) (by decide) (by decide) (by decide)) (o 9 (by decide) (by decide) (by decide) (by decide) (by decide)) (o 10 (by decide) (by decide) (by decide) (by decide) (by decide)) (o 11 (by decide) (by decide) (by decide) (by decide) (by decide))
  · rw [d3 c hc, c3 c hc, b3 c hc, a3 c hc, e1 c hc]
abbrev FD (F : Nat → Int32) (k h x d : Int32) : Prop := (F 0 = k ∧ F 1 = h ∧ F 2 = x ∧ F 6 = d) ∧ F 7 = 0 ∧ F 8 = 0 ∧ F 9 = 0 ∧ F 10 = 0 ∧ F 11 = 0
theorem FD_of {F : Nat → Int32} {k h x j y m d : Int32} (e : FE F (fx k h x j y m d 0 0 0 0 0)) : FD F k h x d := ⟨⟨e 0 (by decide), e 1 (by decide), e 2 (by decide), e 6 (by decide)⟩, e 7 (by decide), e 8 (by decide), e 9 (by decide), e 10 (by decide), e 11 (by decide)⟩
theorem c_isAlike {n : Nat} (hn : 200000 ≤ n) {j : Nat} (hj : q_isLaw j) {C : List Int} {K : List Kl} (hK : Kg (cdl C) C.length K) (a1 : Int32) (M : qM) (hG : G M) (hL : LJ j M C K) {k h x d : Int32} (hF : FD (M 35) k h x d) : qP (f_X1_isAlike n j a1 M) (fun v _ => v = anyL C n (fx k h x a1 (M 5 a1.toNatClampNeg) (bcv (x &&& M 5 a1.toNatClampNeg)) d 0 0 0 0 0) K) := by
  obtain ⟨⟨f0, f1, f2, f6⟩, f7, f8, f9, f10, f11⟩ := hF
  unfold f_X1_isAlike
  refine P_g hG (rn_35 _ _) (nw_35 _) ?_
  intro m1 a1' a2 a3 g1
  refine P_qg (fun _ _ => ?_)
  rw [a3 5 (by decide)]
  refine P_g g1 (rn_35 _ _) (nw_35 _) ?_
  intro m2 b1 b2 b3 g2
  refine P_qg (fun _ _ => ?_)
  rw [bc_val, qc_v, b2 2 (by decide), a2 2 (by decide), f2, b3 5 (by decide), a3 5 (by decide)]
  refine P_g g2 (rn_35 _ _) (nw_35 _) ?_
  intro m5 c1 c2 c3 g5
  have n35 : ∀ q, q ≤ 6 → j + q ≠ 35 := fun q hq => by rcases hj with rfl | rfl <;> omega
  have hL5 : LJ j m5 C K := LJ_cg hL (fun q hq => by rw [c3 _ (n35 q hq), b3 _ (n35 q hq), a3 _ (n35 q hq)])
  refine P_mono (c_any49 hn hj hK n 0 (0 : Int32) m5 g5 hL5 rfl l_0 (Nat.zero_le _)) (fun v _ e => ?_)
  rw [e]
  refine anyL_F (FE_mk ?_ ?_ ?_ ?_ ?_ c1 ?_ ?_ ?_ ?_ ?_ ?_) hK
  · rw [c2 0 (by decide), b2 0 (by decide), a2 0 (by decide), f0]
  · rw [c2 1 (by decide), b2 1 (by decide), a2 1 (by decide), f1]
  · rw [c2 2 (by decide), b2 2 (by decide), a2 2 (by decide), f2]
  · rw [c2 3 (by decide), b2 3 (by decide), a1']
  · rw [c2 4 (by decide), b1]
  · rw [c2 6 (by decide), b2 6 (by decide), a2 6 (by decide), f6]
  · rw [c2 7 (by decide), b2 7 (by decide), a2 7 (by decide), f7]
  · rw [c2 8 (by decide), b2 8 (by decide), a2 8 (by decide), f8]
  · rw [c2 9 (by decide), b2 9 (by decide), a2 9 (by decide), f9]
  · rw [c2 10 (by decide), b2 10 (by decide), a2 10 (by decide), f10]
  · rw [c2 11 (by decide), b2 11 (by decide), a2 11 (by decide), f11]
/-- the model tells a deed -/
theorem d_deed2 {n : Nat} (a1 : Int32) : ∀ (m : Nat) (a2 : Int32) (M : qM), 0 ≤ a2.toInt → (∀ i : Nat, (i : Int) < a2.toInt → M 97 i = 0) → qP (f_X12_feelsKind_2 n m a1 a2 M) (fun _ m' => FE (m' 97) (fx a1 (M 81 a1.toNatClampNeg) (M 82 a1.toNatClampNeg) 0 0 0 (M 78 313) 0 0 0 0 0) ∧ ∀ c, c ≠ 97 → m' c = M c) := by
  intro m
  induction m with
  | zero => intro a2 M _ _; exact P_none
  | succ m ih =>
    intro a2 M h0 hz
    show qP (b_X12_feelsKind_2 n (f_X12_feelsKind_2 n m) a1 a2 M) _
    unfold b_X12_feelsKind_2
    refine P_le l_12 rfl (fun hle => ?_) (fun hlt => ?_)
    · have z : ∀ i : Nat, i < 12 → M 97 i = 0 := fun i hi => hz i (by omega)
      refine P_m (fun m2 a1' a2' a3 => P_qg (fun _ _ => ?_))
      rw [a3 81 (by decide)]
      refine P_m (fun m3 b1 b2 b3 => P_qg (fun _ _ => ?_))
      rw [b3 82 (by decide), a3 82 (by decide)]
      refine P_m (fun m4 c1 c2 c3 => ?_)
      rw [c3 78 (by decide), b3 78 (by decide), a3 78 (by decide)]
      refine P_m (fun m5 d1 d2 d3 => P_ret ⟨?_, fun c hc => ?_⟩)
      · have o : ∀ i, i < 12 → i ≠ 0 → i ≠ 1 → i ≠ 2 → i ≠ 6 → m5 97 i = 0 := fun i hi q0 q1 q2 q6 => by rw [d2 i q6, c2 i q2, b2 i q1, a2' i q0, z i hi]
        exact FE_mk (by rw [d2 0 (by decide), c2 0 (by decide), b2 0 (by decide), a1']) (by rw [d2 1 (by decide), c2 1 (by decide), b1]) (by rw [d2 2 (by decide), c1]) (o 3 (by decide) (by decide) (by decide) (by decide) (by decide)) (o 4 (by decide) (by decide) (by decide) (by decide) (by decide)) (o 5 (by decide) (by decide) (by decide) (by decide) (by decide)) d1 (o 7 (by decide) (by decide) (by decide) (by decide) (by decide)) (o 8 (by decide) (by decide) (by decide) (by decide) (by decide)) (o 9 (by decide) (by decide) (by decide) (by decide) (by decide)) (o 10 (by decide) (by decide) (by decide) (by decide) (by decide)) (o 11 (by decide) (by decide) (by decide) (by decide) (by decide))
      · rw [d3 c hc, c3 c hc, b3 c hc, a3 c hc]
    · refine P_qg (fun _ hg => P_m (fun m1 b1 b2 b3 => P_ql (i_add rfl l_1 (by omega) (by omega)) (fun x hx => ?_)))
      refine P_mono (ih x m1 (by omega) (fun i hi => ?_)) (fun v m' h => ?_)
      · by_cases q : i = a2.toNatClampNeg
        · rw [q]; exact b1
        · rw [b2 i q]; exact hz i (by rw [tnc] at q; omega)
      · rw [b3 81 (by decide), b3 82 (by decide), b3 78 (by decide)] at h
        exact ⟨h.1, fun c hc => by rw [h.2 c hc, b3 c hc]⟩
theorem d_deed {n : Nat} (a1 : Int32) (M : qM) : qP (f_X12_feelsKind n a1 M) (fun _ m' => FE (m' 97) (fx a1 (M 81 a1.toNatClampNeg) (M 82 a1.toNatClampNeg) 0 0 0 (M 78 313) 0 0 0 0 0) ∧ ∀ c, c ≠ 97 → m' c = M c) := by
  unfold f_X12_feelsKind
  exact d_deed2 a1 n (0 : Int32) M (by rw [l_0]; omega) (fun i hi => by rw [l_0] at hi; omega)
/-- whether a deed of kind k finds one of kind i alike -/
def lkv (C : List Int) (K : List Kl) (n : Nat) (H X : Nat → Int32) (d : Int32) (k i : Nat) : Int32 := if k = i then 1 else anyL C n (fx (nI k) (H k) (X k) (nI i) (X i) (mbs (X k &&& X i) 12) d 0 0 0 0 0) K
theorem d_isLike {n : Nat} (hn : 200000 ≤ n) {C : List Int} {K : List Kl} (hK : Kg (cdl C) C.length K) (h240 : C.length ≤ 240) {k i : Nat} (hk : k ≤ 12) (hi : i < 12) (M : qM) (hG : G M) (hL : LM M C K) : qP (f_X12_isLike n (nI k) (nI i) M) (fun v _ => v = lkv C K n (M 81) (M 82) (M 78 313) k i) := by
  have ek : (nI k).toNatClampNeg = k := by rw [tnc, nI_toInt (by omega)]; rfl
  have ei : (nI i).toNatClampNeg = i := by rw [tnc, nI_toInt (by omega)]; rfl
  unfold f_X12_isLike lkv
  refine P_eq rfl rfl (fun c => P_ret ?_) (fun c => ?_)
  · rw [nI_toInt (by omega), nI_toInt (by omega)] at c
    rw [if_pos (by omega)]
  · rw [nI_toInt (by omega), nI_toInt (by omega)] at c
    rw [if_neg (show ¬ k = i by omega)]
    refine P_qc (P_and (d_deed (nI k) M) (P_T (t_X12_feelsKind hn (nI k) M hG (by rw [nI_toInt (by omega)]; omega)))) ?_
    rintro _ m1 ⟨⟨hF, e1⟩, _, g1, _⟩
    rw [ek] at hF
    refine P_g g1 (rn_97 _ _) (nw_97 _) ?_
    intro m2 a1 a2 a3 g2
    refine P_qg (fun _ _ => ?_)
    rw [ei, a3 82 (by decide), e1 82 (by decide)]
    refine P_g g2 (rn_97 _ _) (nw_97 _) ?_
    intro m3 b1 b2 b3 g3
    refine P_qg (fun _ _ => P_qg (fun _ _ => ?_))
    rw [ek, b3 82 (by decide), a3 82 (by decide), e1 82 (by decide), bits_val (by omega), qc_v]
    refine P_g g3 (rn_97 _ _) (nw_97 _) ?_
    intro m6 c1 c2 c3 g6
    have e6 : ∀ c, c ≠ 97 → m6 c = M c := fun c hc => by rw [c3 c hc, b3 c hc, a3 c hc, e1 c hc]
    refine P_mono (d_any55 hn hK h240 n 0 (0 : Int32) m6 g6 (LM_cg hL (fun c h1 h2 => e6 c (by omega)) (by rw [e6 77 (by decide)])) rfl l_0 (Nat.zero_le _)) (fun v _ e => ?_)
    rw [e]
    refine anyL_F (FE_mk ?_ ?_ ?_ ?_ ?_ c1 ?_ ?_ ?_ ?_ ?_ ?_) hK
    · rw [c2 0 (by decide), b2 0 (by decide), a2 0 (by decide)]; exact hF 0 (by decide)
    · rw [c2 1 (by decide), b2 1 (by decide), a2 1 (by decide)]; exact hF 1 (by decide)
    · rw [c2 2 (by decide), b2 2 (by decide), a2 2 (by decide)]; exact hF 2 (by decide)
    · rw [c2 3 (by decide), b2 3 (by decide), a1]
    · rw [c2 4 (by decide), b1]
    · rw [c2 6 (by decide), b2 6 (by decide), a2 6 (by decide)]; exact hF 6 (by decide)
    · rw [c2 7 (by decide), b2 7 (by decide), a2 7 (by decide)]; exact hF 7 (by decide)
    · rw [c2 8 (by decide), b2 8 (by decide), a2 8 (by decide)]; exact hF 8 (by decide)
    · rw [c2 9 (by decide), b2 9 (by decide), a2 9 (by decide)]; exact hF 9 (by decide)
    · rw [c2 10 (by decide), b2 10 (by decide), a2 10 (by decide)]; exact hF 10 (by decide)
    · rw [c2 11 (by decide), b2 11 (by decide), a2 11 (by decide)]; exact hF 11 (by decide)
/-- marks of all kinds lie in 0 to 255 -/
abbrev MK (X : Nat → Int32) : Prop := ∀ i, i < 12 → 0 ≤ (X i).toInt ∧ (X i).toInt ≤ 255
theorem bc_mk {x y : Int32} (h : 0 ≤ x.toInt ∧ x.toInt ≤ 255) : bcv (x &&& y) = mbs (x &&& y) 12 := by
  have h1 := i_andl (b := y) (a := x) rfl h.1
  obtain ⟨z, hz, e⟩ := nI_of (x := x &&& y) (by rw [Int32.lt_iff_toInt_lt]; show ¬ (x &&& y).toInt < 0; omega)
  rw [e]
  rw [e, nI_toInt hz] at h1
  exact fa_bc z (by omega)
theorem c_kn {n i : Nat} (hi : i < 12) (M : qM) : f_X2_knows n (nI i) M = some ((if bitI (M 3 3) i then 1 else 0), M) :=
  kn_eq (nI_n0 (by omega)) (nI_ge (a := i) (b := 12) (by omega) (by decide))
theorem d_kn {n i : Nat} (hi : i < 12) (M : qM) : f_X12_isKind n (nI i) M = some ((if bitI (M 77 6) i then 1 else 0), M) :=
  ik_eq (nI_n0 (by omega)) (nI_ge (a := i) (b := 12) (by omega) (by decide))
/-- the Java side's bits of the kinds alike -/
theorem c_alikes29 {n : Nat} (hn : 200000 ≤ n) {j : Nat} (hj : q_isLaw j) {C : List Int} {K : List Kl} (hK : Kg (cdl C) C.length K) {H X : Nat → Int32} (hX : MK X) {d told : Int32} {k : Nat} (hk : k < 12) : ∀ (m i b : Nat) (M : qM), G M → LJ j M C K → M 5 = X → M 3 3 = told → FD (M 35) (nI k) (H k) (X k) d → i ≤ 12 → b < 4096 → (∀ q, q < i → (bitI (nI b) q ↔ (q = k ∨ (bitI told q ∧ lkv C K n H X d k q ≠ 0)))) → (∀ q, i ≤ q → q < 12 → ¬ bitI (nI b) q) → qP (f_X1_alikes_29 n j m (nI k) (nI b) (nI i) M) (fun v _ => ∀ q, q < 12 → (bitI v q ↔ (q = k ∨ (bitI told q ∧ lkv C K n H X d k q ≠ 0)))) := by
  intro m
  induction m with
  | zero => intro i b M _ _ _ _ _ _ _ _ _; exact P_none
  | succ m ih =>
    intro i b M hG hL h5 h3 hF hi hb hlo hhi
    show qP (b_X1_alikes_29 n j (f_X1_alikes_29 n j m) (nI k) (nI b) (nI i) M) _
    unfold b_X1_alikes_29
    have ti : (nI i).toInt = (i : Int) := nI_toInt (by omega)
    refine P_le l_12 ti (fun c => P_ret ?_) (fun c => ?_)
    · intro q hq; exact hlo q (by omega)
    · have hi12 : i < 12 := by omega
      have enx : ∀ x : Int32, x.toInt = (i : Int) + 1 → x = nI (i + 1) := fun x hx => nI_i (by rw [hx]; omega)
      have yes : ∀ m5 : qM, (i = k ∨ (bitI told i ∧ lkv C K n H X d k i ≠ 0)) → G m5 → LJ j m5 C K → m5 5 = X → m5 3 3 = told → FD (m5 35) (nI k) (H k) (X k) d → qP (f_X1_alikes_63 n j (f_X1_alikes_29 n j m) (nI k) (nI b) (nI i) m5) (fun v _ => ∀ q, q < 12 → (bitI v q ↔ (q = k ∨ (bitI told q ∧ lkv C K n H X d k q ≠ 0)))) := by
        intro m5 hy g5 l5 x5 t5 f5
        unfold f_X1_alikes_63
        obtain ⟨_, c', hc', ec⟩ := bit_or (i := 0) hb (by decide) hi12
        have bo : ∀ q, q < 12 → (bitI (nI c') q ↔ (q = i ∨ bitI (nI b) q)) := fun q hq => by rw [← ec]; exact (bit_or hb hq hi12).1
        rw [ec]
        refine P_ql rfl (fun x1 hx1 => P_ql (i_add ti l_1 (by omega) (by omega)) (fun x2 hx2 => ?_))
        have e1 : x1 = nI c' := Int32.toInt_inj.mp hx1
        rw [e1, enx x2 hx2]
        refine ih (i + 1) c' m5 g5 l5 x5 t5 f5 (by omega) hc' (fun q hq => ?_) (fun q h1 h2 => ?_)
        · rw [bo q (by omega)]
          by_cases e : q = i
          · rw [e]; exact ⟨fun _ => hy, fun _ => Or.inl rfl⟩
          · rw [← hlo q (by omega)]
            exact ⟨fun z => z.resolve_left e, fun z => Or.inr z⟩
        · rw [bo q h2]
          intro z
          rcases z with z | z
          · omega
          · exact hhi q (by omega) h2 z
      have no : ∀ (m5 : qM) (x : Int32), x.toInt = (i : Int) + 1 → ¬ (i = k ∨ (bitI told i ∧ lkv C K n H X d k i ≠ 0)) → G m5 → LJ j m5 C K → m5 5 = X → m5 3 3 = told → FD (m5 35) (nI k) (H k) (X k) d → qP (f_X1_alikes_29 n j m (nI k) (nI b) x m5) (fun v _ => ∀ q, q < 12 → (bitI v q ↔ (q = k ∨ (bitI told q ∧ lkv C K n H X d k q ≠ 0)))) := by
        intro m5 x hx hno g5 l5 x5 t5 f5
        rw [enx x hx]
        refine ih (i + 1) b m5 g5 l5 x5 t5 f5 (by omega) hb (fun q hq => ?_) (fun q h1 h2 => hhi q (by omega) h2)
        by_cases e : q = i
        · rw [e]; exact ⟨fun z => absurd z (hhi i (Nat.le_refl _) hi12), fun z => absurd z hno⟩
        · exact hlo q (by omega)
      refine P_eq ti (nI_toInt (by omega)) (fun c2 => yes M (Or.inl (by omega)) hG hL h5 h3 hF) (fun c2 => ?_)
      have hne : ¬ i = k := by omega
      rw [c_kn hi12, qc_v, h3]
      by_cases ct : bitI told i
      · rw [if_pos ct]
        refine P_eq l_1 l_0 (fun z => by omega) (fun _ => ?_)
        have ei : (nI i).toNatClampNeg = i := by rw [tnc, ti]; rfl
        refine P_qc (P_and (c_isAlike hn hj hK (nI i) M hG hL hF) (P_T (t_X1_isAlike hn hj (nI i) M hG (by omega)))) ?_
        rintro r4 m5 ⟨hr, _, g5, s5⟩
        rw [ei, h5, bc_mk (hX k hk)] at hr
        have hlk : lkv C K n H X d k i = r4 := by unfold lkv; rw [if_neg (fun z => hne z.symm), hr]
        have l5 := LJ_Sm hj hL s5 rfl
        have x5 : m5 5 = X := by rw [← h5]; exact funext (fun s_ => s5 5 s_ (outc rfl))
        have t5 : m5 3 3 = told := by rw [← h3]; exact s5 3 3 (by decide)
        have f5 : FD (m5 35) (nI k) (H k) (X k) d := by
          obtain ⟨⟨q0, q1, q2, q6⟩, q7, q8, q9, q10, q11⟩ := hF
          exact ⟨⟨by rw [s5 35 0 (by decide)]; exact q0, by rw [s5 35 1 (by decide)]; exact q1, by rw [s5 35 2 (by decide)]; exact q2, by rw [s5 35 6 (by decide)]; exact q6⟩, by rw [s5 35 7 (by decide)]; exact q7, by rw [s5 35 8 (by decide)]; exact q8, by rw [s5 35 9 (by decide)]; exact q9, by rw [s5 35 10 (by decide)]; exact q10, by rw [s5 35 11 (by decide)]; exact q11⟩
        refine P_if (fun c3 => ?_) (fun c3 => ?_)
        · exact P_ql (i_add ti l_1 (by omega) (by omega)) (fun x hx => no m5 x hx (fun z => by rcases z with z | z; exact hne z; exact z.2 (by rw [hlk, c3])) g5 l5 x5 t5 f5)
        · exact yes m5 (Or.inr ⟨ct, by rw [hlk]; exact c3⟩) g5 l5 x5 t5 f5
      · rw [if_neg ct]
        refine P_eq l_0 l_0 (fun _ => ?_) (fun z => absurd rfl z)
        exact P_ql (i_add ti l_1 (by omega) (by omega)) (fun x hx => no M x hx (fun z => by rcases z with z | z; exact hne z; exact ct z.1) hG hL h5 h3 hF)
theorem c_alikes {n : Nat} (hn : 200000 ≤ n) {j : Nat} (hj : q_isLaw j) {C : List Int} {K : List Kl} (hK : Kg (cdl C) C.length K) {k : Nat} (hk : k < 12) (d : Int32) (M : qM) (hG : G M) (hL : LJ j M C K) (hX : MK (M 5)) : qP (f_X1_alikes n j (nI k) d M) (fun v _ => ∀ q, q < 12 → (bitI v q ↔ (q = k ∨ (bitI (M 3 3) q ∧ lkv C K n (M 4) (M 5) d k q ≠ 0)))) := by
  have ek : (nI k).toNatClampNeg = k := by rw [tnc, nI_toInt (by omega)]; rfl
  unfold f_X1_alikes
  refine P_qg (fun _ _ => P_qg (fun _ _ => ?_))
  rw [ek]
  refine P_qc (P_and (c_deed (nI k) (M 4 k) (M 5 k) d M) (P_T (t_X1_tellDeed hn (nI k) (M 4 k) (M 5 k) d M hG (by rw [nI_toInt (by omega)]; omega)))) ?_
  rintro _ m1 ⟨⟨hF, e1⟩, _, g1, _⟩
  have n35 : ∀ q, q ≤ 6 → j + q ≠ 35 := fun q hq => by rcases hj with rfl | rfl <;> omega
  have := c_alikes29 hn hj hK (H := M 4) (X := M 5) hX (d := d) (told := M 3 3) hk n 0 0 m1 g1 (LJ_cg hL (fun q hq => e1 _ (n35 q hq))) (e1 5 (by decide)) (by rw [e1 3 (by decide)]) (FD_of hF) (Nat.zero_le _) (by decide) (fun q hq => absurd hq (by omega)) (fun q _ h2 => bit_0 h2)
  exact this
/-- kinds of both sides: A is the memory with the class's cells, B the one with the model's -/
abbrev KD (A B : qM) : Prop := A 3 3 = B 77 6 ∧ MK (A 5) ∧ ∀ q, q < 12 → A 4 q = B 81 q ∧ A 5 q = B 82 q ∧ A 6 q = B 83 q
theorem lkv_cg {C : List Int} {K : List Kl} {n : Nat} {H X H' X' : Nat → Int32} {d : Int32} {k q : Nat} (hk : H k = H' k) (hx : X k = X' k) (hq : X q = X' q) : lkv C K n H X d k q = lkv C K n H' X' d k q := by
  unfold lkv
  rw [hk, hx, hq]
