/-! loophole: the answers agree -/
def KT (M : qM) : Prop := ∃ t, t < 4096 ∧ M 3 3 = nI t
theorem KT_mk {M : qM} {t : Nat} (ht : t < 4096) (q : M 3 3 = nI t) : KT M := by
  unfold KT
  exact ⟨t, ht, q⟩
theorem KT_ex {M : qM} (h : KT M) : ∃ t, t < 4096 ∧ M 3 3 = nI t := h
theorem KT_cg {M m : qM} (h : KT M) (e : m 3 3 = M 3 3) : KT m := by
  obtain ⟨t, ht, q⟩ := KT_ex h
  exact KT_mk ht (by rw [e, q])
theorem KT_0 {M : qM} (hF : Fr M) : KT M := KT_mk (t := 0) (by decide) (hF.1 3 3 (by decide))
theorem kind_KT {n : Nat} {M m1 : qM} {a1 a2 a3 a4 v1 : Int32} (h : KT M) (e1 : f_X11_kind n a1 a2 a3 a4 M = some (v1, m1)) : KT m1 := by
  have key : qP (f_X11_kind n a1 a2 a3 a4 M) (fun _ m => KT m) := by
    unfold f_X11_kind f_X2_tell
    refine P_qc (Q := fun _ m => KT m) ?_ (fun v m hm => P_qb (P_ret hm))
    refine P_lt rfl l_0 (fun _ => P_ret h) (fun c1 => ?_)
    refine P_le l_12 rfl (fun _ => P_ret h) (fun c2 => ?_)
    obtain ⟨k, hk, rfl⟩ := in12 (a := a1) ⟨c1, c2⟩
    rw [c_kn hk, qc_v]
    refine P_if (fun _ => ?_) (fun _ => P_ret h)
    refine P_lt rfl l_1 (fun _ => P_ret h) (fun _ => ?_)
    refine P_le rfl l_12 (fun _ => ?_) (fun _ => P_ret h)
    refine P_lt rfl l_0 (fun _ => P_ret h) (fun _ => ?_)
    refine P_lt l_255 rfl (fun _ => P_ret h) (fun _ => ?_)
    refine P_if (fun _ => ?_) (fun _ => P_ret h)
    unfold f_X2_knowsAll
    refine P_qc (Q := fun _ m => m = M) (P_if (fun _ => P_ret rfl) (fun _ => P_ret rfl)) ?_
    intro r3 m4 e4
    rw [e4]
    refine P_if (fun _ => P_ret h) (fun _ => ?_)
    refine P_qg (fun _ _ => P_m (fun m5 _ _ a3 => P_qg (fun _ _ => P_m (fun m6 _ _ b3 => P_qg (fun _ _ => P_m (fun m7 _ _ d3 => P_m (fun m8 f1 _ _ => P_ret ?_)))))))
    obtain ⟨t, ht, q⟩ := KT_ex h
    obtain ⟨c, hc, e⟩ := (bit_or (b := t) (i := 0) (a := k) ht (by decide) hk).2
    exact KT_mk hc (by rw [f1, d3 3 (by decide), b3 3 (by decide), a3 3 (by decide), q, e])
  exact key v1 m1 e1
theorem and_bit {w i : Nat} (hw : w < 4096) (hi : i < 12) : (nI w &&& ((1 : Int32) <<< (nI i &&& 31)) = 0 ↔ ¬ bitI (nI w) i) := by
  have e1 : (1 : Int32) <<< (nI i &&& 31) = nI (2 ^ i) := (by decide +kernel : ∀ a, a < 12 → (1 : Int32) <<< (nI a &&& 31) = nI (2 ^ a)) i hi
  have h2 : 2 ^ i < 2 ^ 12 := Nat.pow_lt_pow_right (by decide) hi
  have h3 : 0 < 2 ^ i := Nat.two_pow_pos i
  have h4 : w &&& 2 ^ i ≤ w := Nat.and_le_left
  rw [e1, n_and, bit_n (by omega) (by omega)]
  constructor
  · intro q t
    have q2 := congrArg Int32.toInt q
    rw [nI_toInt (by omega), l_0] at q2
    have q3 : w &&& 2 ^ i = 0 := by omega
    have q4 := congrArg (fun x => Nat.testBit x i) q3
    simp [Nat.testBit_and, Nat.testBit_two_pow, t] at q4
  · intro t
    have q3 : w &&& 2 ^ i = 0 := by
      apply Nat.eq_of_testBit_eq
      intro k
      rw [Nat.testBit_and, Nat.testBit_two_pow, Nat.zero_testBit]
      by_cases c : i = k
      · subst c
        simp at t
        simp [t]
      · simp [c]
    rw [q3]
    rfl
theorem know_n {a : Int32} {t : Nat} (ht : t < 4096) (h : a &&& (nI t ^^^ (-1 : Int32)) = 0) : ∃ w, w < 4096 ∧ a = nI w := by
  have hb : a.toBitVec &&& (BitVec.ofNat 32 t ^^^ BitVec.allOnes 32) = 0#32 := congrArg Int32.toBitVec h
  rw [BitVec.xor_allOnes] at hb
  refine ⟨(a.toBitVec &&& BitVec.ofNat 32 t).toNat, ?_, ?_⟩
  · rw [BitVec.toNat_and, BitVec.toNat_ofNat, Nat.mod_eq_of_lt (by omega)]
    have := Nat.and_le_right (n := a.toBitVec.toNat) (m := t)
    omega
  · apply Int32.toBitVec_inj.1
    show a.toBitVec = BitVec.ofNat 32 (a.toBitVec &&& BitVec.ofNat 32 t).toNat
    rw [BitVec.ofNat_toNat, BitVec.setWidth_eq]
    apply BitVec.eq_of_getLsbD_eq
    intro i hi
    have q := congrArg (fun x => BitVec.getLsbD x i) hb
    simp only [BitVec.getLsbD_and, BitVec.getLsbD_not, BitVec.getLsbD_zero, hi, decide_true, Bool.true_and] at q ⊢
    revert q
    cases a.toBitVec.getLsbD i <;> cases (BitVec.ofNat 32 t).getLsbD i <;> simp
theorem know_i {t w : Nat} (ht : t < 4096) : nI w &&& (nI t ^^^ (-1 : Int32)) = 0 → ¬ nI w < (0 : Int32) := by
  intro h
  obtain ⟨q, hq, e⟩ := know_n ht h
  rw [e]
  exact nI_n0 (by omega)
abbrev HO (a b : Int32) (L : Nat → Int32) : Prop := ∀ i, i < 12 → (bitI a i → L i ≠ 0) ∧ (bitI b i → L i = 0)
abbrev HQ (a b : Int32) (L : Nat → Int32) (v : Int32) : Prop := (HO a b L ∧ v = 1) ∨ (¬ HO a b L ∧ v = 0)
def hov (a b : Int32) (L : Nat → Int32) : Int32 := if HO a b L then 1 else 0
theorem HQ_v {a b : Int32} {L : Nat → Int32} {v : Int32} (h : HQ a b L v) : v = hov a b L := by
  unfold hov
  rcases h with ⟨h1, h2⟩ | ⟨h1, h2⟩
  · rw [if_pos h1, h2]
  · rw [if_neg h1, h2]
theorem hov_cg {a b : Int32} {L L' : Nat → Int32} (h : ∀ i, i < 12 → L i = L' i) : hov a b L = hov a b L' := by
  unfold hov
  by_cases c : HO a b L
  · have c' : HO a b L' := fun i hi => by rw [← h i hi]; exact c i hi
    rw [if_pos c, if_pos c']
  · have c' : ¬ HO a b L' := fun z => c (fun i hi => by rw [h i hi]; exact z i hi)
    rw [if_neg c, if_neg c']
/-- the class asks whether a deed of no kind is alike -/
abbrev SJz (j : Nat) (C : List Int) (K : List Kl) (X : Nat → Int32) (x d : Int32) (m : qM) : Prop := (G m ∧ LJ j m C K) ∧ m 5 = X ∧ FD (m 35) (nI 12) 1 x d
def lk12 (C : List Int) (K : List Kl) (n : Nat) (X : Nat → Int32) (x d : Int32) (i : Nat) : Int32 := anyL C n (fx (nI 12) 1 x (nI i) (X i) (mbs (x &&& X i) 12) d 0 0 0 0 0) K
theorem c_al12 {n : Nat} (hn : 200000 ≤ n) {j : Nat} (hj : q_isLaw j) {C : List Int} {K : List Kl} (hK : Kg (cdl C) C.length K) {X : Nat → Int32} {x d : Int32} (hx : 0 ≤ x.toInt ∧ x.toInt ≤ 255) {i : Nat} (hi : i < 12) (M : qM) (h : SJz j C K X x d M) : qP (f_X1_isAlike n j (nI i) M) (fun v m => v = lk12 C K n X x d i ∧ SJz j C K X x d m) := by
  obtain ⟨⟨hG, hL⟩, h5, hF⟩ := h
  have ti : (nI i).toInt = (i : Int) := nI_toInt (by omega)
  have ei : (nI i).toNatClampNeg = i := by rw [tnc, ti]; rfl
  refine P_mono (P_and (c_isAlike hn hj hK (nI i) M hG hL hF) (P_T (t_X1_isAlike hn hj (nI i) M hG (by omega)))) ?_
  rintro r4 m5 ⟨hr, _, g5, s5⟩
  rw [ei, h5, bc_mk hx] at hr
  have f5 : FD (m5 35) (nI 12) 1 x d := by
    obtain ⟨⟨q0, q1, q2, q6⟩, q7, q8, q9, q10, q11⟩ := hF
    exact ⟨⟨by rw [s5 35 0 (by decide)]; exact q0, by rw [s5 35 1 (by decide)]; exact q1, by rw [s5 35 2 (by decide)]; exact q2, by rw [s5 35 6 (by decide)]; exact q6⟩, by rw [s5 35 7 (by decide)]; exact q7, by rw [s5 35 8 (by decide)]; exact q8, by rw [s5 35 9 (by decide)]; exact q9, by rw [s5 35 10 (by decide)]; exact q10, by rw [s5 35 11 (by decide)]; exact q11⟩
  exact ⟨hr, ⟨g5, LJ_Sm hj hL s5 rfl⟩, by rw [← h5]; exact funext (fun s_ => s5 5 s_ (outc rfl)), f5⟩
theorem c_hole13 {n : Nat} (hn : 200000 ≤ n) {j : Nat} (hj : q_isLaw j) {C : List Int} {K : List Kl} (hK : Kg (cdl C) C.length K) {a b : Nat} (ha : a < 4096) (hb : b < 4096) {X : Nat → Int32} {x d : Int32} (hx : 0 ≤ x.toInt ∧ x.toInt ≤ 255) : ∀ (m i : Nat) (M : qM), SJz j C K X x d M → i ≤ 12 → (∀ q, q < i → (bitI (nI a) q → lk12 C K n X x d q ≠ 0) ∧ (bitI (nI b) q → lk12 C K n X x d q = 0)) → qP (f_X1_isLoophole_13 n j m (nI a) (nI b) (nI i) M) (fun v _ => HQ (nI a) (nI b) (lk12 C K n X x d) v) := by
  intro m
  induction m with
  | zero => intro i M _ _ _; exact P_none
  | succ m ih =>
    intro i M hS hi hlo
    show qP (b_X1_isLoophole_13 n j (f_X1_isLoophole_13 n j m) (nI a) (nI b) (nI i) M) _
    unfold b_X1_isLoophole_13
    have ti : (nI i).toInt = (i : Int) := nI_toInt (by omega)
    refine P_le l_12 ti (fun c => P_ret (Or.inl ⟨fun q hq => hlo q (by omega), rfl⟩)) (fun c => ?_)
    have hi12 : i < 12 := by omega
    have nx : ∀ (m5 : qM), SJz j C K X x d m5 → ((bitI (nI a) i → lk12 C K n X x d i ≠ 0) ∧ (bitI (nI b) i → lk12 C K n X x d i = 0)) → qP (ql (nI i + (1 : Int32)) (fun x1 => f_X1_isLoophole_13 n j m (nI a) (nI b) x1 m5)) (fun v _ => HQ (nI a) (nI b) (lk12 C K n X x d) v) := by
      intro m5 s5 hp
      refine P_ql (i_add ti l_1 (by omega) (by omega)) (fun x1 hx1 => ?_)
      rw [nI_i (a := x1) (k := i + 1) (by rw [hx1]; omega)]
      refine ih (i + 1) m5 s5 (by omega) (fun q hq => ?_)
      by_cases e : q = i
      · rw [e]; exact hp
      · exact hlo q (by omega)
    have l42 : ∀ m5 : qM, SJz j C K X x d m5 → (bitI (nI a) i → lk12 C K n X x d i ≠ 0) → qP (f_X1_isLoophole_42 n j (f_X1_isLoophole_13 n j m) (nI a) (nI b) (nI i) ((1 : Int32) <<< (nI i &&& 31)) m5) (fun v _ => HQ (nI a) (nI b) (lk12 C K n X x d) v) := by
      intro m5 s5 hp
      unfold f_X1_isLoophole_42
      refine P_if (fun c1 => nx m5 s5 ⟨hp, fun z => absurd z ((and_bit hb hi12).mp c1)⟩) (fun c1 => ?_)
      have b1 : bitI (nI b) i := Classical.byContradiction (fun z => c1 ((and_bit hb hi12).mpr z))
      refine P_qc (c_al12 hn hj hK hx hi12 m5 s5) ?_
      rintro r2 m3 ⟨hr, s3⟩
      refine P_if (fun c2 => nx m3 s3 ⟨hp, fun _ => by rw [← hr]; exact c2⟩) (fun c2 => P_ret (Or.inr ⟨fun z => c2 (by rw [hr]; exact (z i hi12).2 b1), rfl⟩))
    refine P_ql rfl (fun x1 hx1 => ?_)
    rw [show x1 = (1 : Int32) <<< (nI i &&& 31) from Int32.toInt_inj.mp hx1]
    refine P_if (fun c1 => l42 M hS (fun z => absurd z ((and_bit ha hi12).mp c1))) (fun c1 => ?_)
    have b1 : bitI (nI a) i := Classical.byContradiction (fun z => c1 ((and_bit ha hi12).mpr z))
    refine P_qc (c_al12 hn hj hK hx hi12 M hS) ?_
    rintro r2 m3 ⟨hr, s3⟩
    refine P_if (fun c2 => P_ret (Or.inr ⟨fun z => (z i hi12).1 b1 (by rw [← hr]; exact c2), rfl⟩)) (fun c2 => l42 m3 s3 (fun _ z => c2 (by rw [hr]; exact z)))
theorem c_hole {n : Nat} (hn : 200000 ≤ n) {j : Nat} (hj : q_isLaw j) {C : List Int} {K : List Kl} (hK : Kg (cdl C) C.length K) {a b : Nat} (ha : a < 4096) (hb : b < 4096) {w : Nat} (hw : w < 256) {X : Nat → Int32} (M : qM) (hG : G M) (hL : LJ j M C K) (h5 : M 5 = X) (d : Int32) : qP (f_X1_isLoophole n j (nI w) (nI a) (nI b) d M) (fun v m => v = hov (nI a) (nI b) (lk12 C K n X (nI w) d) ∧ G m ∧ LJ j m C K ∧ m 5 = X ∧ m 7 9 = M 7 9) := by
  have tw : (nI w).toInt = (w : Int) := nI_toInt (by omega)
  have n35 : ∀ q, q ≤ 6 → j + q ≠ 35 := fun q hq => by rcases hj with rfl | rfl <;> omega
  refine P_mono (P_and (P := fun v _ => HQ (nI a) (nI b) (lk12 C K n X (nI w) d) v) ?_ (P_T (t_X1_isLoophole hn hj (nI w) (nI a) (nI b) d M hG (by omega)))) ?_
  · unfold f_X1_isLoophole
    refine P_qc (P_and (c_deed 12 1 (nI w) d M) (P_T (t_X1_tellDeed hn 12 1 (nI w) d M hG (by rw [l_12]; omega)))) ?_
    rintro _ m1 ⟨⟨hF, e1⟩, _, g1, _⟩
    exact c_hole13 hn hj hK ha hb (by omega) n 0 m1 ⟨⟨g1, LJ_cg hL (fun q hq => e1 _ (n35 q hq))⟩, by rw [e1 5 (by decide)]; exact h5, FD_of hF⟩ (Nat.zero_le _) (fun q hq => absurd hq (by omega))
  · rintro v m ⟨hq, _, g2, s2⟩
    exact ⟨HQ_v hq, g2, LJ_Sm hj hL s2 rfl, by rw [← h5]; exact funext (fun s_ => s2 5 s_ (outc rfl)), s2 7 9 (by decide)⟩
/-- all marks gone through: the best and how many -/
def lpv (H : Nat → Int32) : Nat → Nat → Int32 → Int32 → Int32 × Int32
  | 0, _, b, f => (b, f)
  | r + 1, w, b, f => if H w = 0 then lpv H r (w + 1) b f else if b = -2 then lpv H r (w + 1) (nI w) (f + 1) else if mbs b 12 ≤ mbs (nI w) 12 then lpv H r (w + 1) b (f + 1) else lpv H r (w + 1) (nI w) (f + 1)
theorem lpv_0 {H : Nat → Int32} {r w : Nat} {b f : Int32} (h : H w = 0) : lpv H (r + 1) w b f = lpv H r (w + 1) b f := by
  show (if H w = 0 then _ else _) = _
  rw [if_pos h]
theorem lpv_1 {H : Nat → Int32} {r w : Nat} {b f : Int32} (h : ¬ H w = 0) : lpv H (r + 1) w b f = if b = -2 then lpv H r (w + 1) (nI w) (f + 1) else if mbs b 12 ≤ mbs (nI w) 12 then lpv H r (w + 1) b (f + 1) else lpv H r (w + 1) (nI w) (f + 1) := by
  show (if H w = 0 then _ else _) = _
  rw [if_neg h]
theorem lpv_cg {H H' : Nat → Int32} : ∀ (r w : Nat) (b f : Int32), w + r = 256 → (∀ q, q < 256 → H q = H' q) → lpv H r w b f = lpv H' r w b f := by
  intro r
  induction r with
  | zero => intro w b f _ _; rfl
  | succ r ih =>
    intro w b f hw h
    have e := h w (by omega)
    by_cases c : H w = 0
    · rw [lpv_0 c, lpv_0 (by rw [← e]; exact c), ih _ _ _ (by omega) h]
    · rw [lpv_1 c, lpv_1 (by rw [← e]; exact c), ih _ _ _ (by omega) h, ih _ _ _ (by omega) h]
theorem c_lp {n : Nat} (hn : 200000 ≤ n) {j : Nat} (hj : q_isLaw j) {C : List Int} {K : List Kl} (hK : Kg (cdl C) C.length K) {a b : Nat} (ha : a < 4096) (hb : b < 4096) {X : Nat → Int32} {d a3 : Int32} {H : Nat → Int32} (hH : ∀ w, w < 256 → H w = hov (nI a) (nI b) (lk12 C K n X (nI w) d)) : ∀ (m r w : Nat) (bst fnd : Int32) (M : qM), G M → LJ j M C K → M 5 = X → M 7 9 = d → w + r = 256 → (bst = -2 ∨ ∃ q, q < 256 ∧ bst = nI q) → qP (f_X11_loophole_49 n j m (nI a) (nI b) a3 bst fnd (nI w) M) (fun v _ => v = if a3 = 0 then (lpv H r w bst fnd).1 else (lpv H r w bst fnd).2) := by
  intro m
  induction m with
  | zero => intro r w bst fnd M _ _ _ _ _ _; exact P_none
  | succ m ih =>
    intro r w bst fnd M hG hL h5 hd hw hb'
    show qP (b_X11_loophole_49 n j (f_X11_loophole_49 n j m) (nI a) (nI b) a3 bst fnd (nI w) M) _
    unfold b_X11_loophole_49
    have tw : (nI w).toInt = (w : Int) := nI_toInt (by omega)
    refine P_lt l_255 tw (fun c => ?_) (fun c => ?_)
    · have hr0 : r = 0 := by clear hb'; omega
      subst hr0
      refine P_if (fun c1 => P_ret ?_) (fun c1 => P_ret ?_)
      · rw [if_pos c1]; rfl
      · rw [if_neg c1]; rfl
    · obtain ⟨r', rfl⟩ : ∃ r', r = r' + 1 := ⟨r - 1, by clear hb'; omega⟩
      have hw' : w < 256 := by clear hb'; omega
      have hw1 : w + 1 + r' = 256 := by clear hb'; omega
      rw [hd]
      refine P_qc (c_hole hn hj hK ha hb hw' M hG hL h5 d) ?_
      rintro r1 m2 ⟨hr, g2, l2, x5, d5⟩
      rw [← hH w hw'] at hr
      have nx : ∀ (bs fn : Int32), (bs = -2 ∨ ∃ q, q < 256 ∧ bs = nI q) → lpv H (r' + 1) w bst fnd = lpv H r' (w + 1) bs fn → qP (ql (nI w + (1 : Int32)) (fun x3 => f_X11_loophole_49 n j m (nI a) (nI b) a3 bs fn x3 m2)) (fun v _ => v = if a3 = 0 then (lpv H (r' + 1) w bst fnd).1 else (lpv H (r' + 1) w bst fnd).2) := by
        intro bs fn hbs e
        refine P_ql (i_add tw l_1 (by clear hb' hbs; omega) (by clear hb' hbs; omega)) (fun x1 hx1 => ?_)
        rw [nI_i (a := x1) (k := w + 1) (by rw [hx1]; clear hb' hbs; omega), e]
        exact ih r' (w + 1) bs fn m2 g2 l2 x5 (d5.trans hd) hw1 hbs
      refine P_if (fun c1 => nx bst fnd hb' (lpv_0 (by rw [← hr]; exact c1))) (fun c1 => ?_)
      have st : lpv H (r' + 1) w bst fnd = _ := lpv_1 (by rw [← hr]; exact c1)
      refine P_ql rfl (fun x4 hx4 => ?_)
      rw [show x4 = fnd + 1 from Int32.toInt_inj.mp hx4]
      unfold f_X11_loophole_101
      refine P_if (fun c2 => nx (nI w) (fnd + 1) (Or.inr ⟨w, hw', rfl⟩) (by rw [st, if_pos c2])) (fun c2 => ?_)
      obtain ⟨q, hq, e⟩ := hb'.resolve_left c2
      have eb : bcv bst = mbs bst 12 := by rw [e]; exact fa_bc q (by omega)
      rw [bc_val, qc_v, bc_val, qc_v, fa_bc w (by omega), eb]
      exact P_if (fun c3 => nx bst (fnd + 1) (Or.inr ⟨q, hq, e⟩) (by rw [st, if_neg c2, if_pos c3])) (fun c3 => nx (nI w) (fnd + 1) (Or.inr ⟨w, hw', rfl⟩) (by rw [st, if_neg c2, if_neg c3]))
/-- the model's side -/
theorem d_h0 {n i : Nat} (a : Int32) (M : qM) : f_X12_has0 n a (nI i) M = some ((if bitI a i then 1 else 0), M) := by
  unfold f_X12_has0
  by_cases c : bitI a i
  · rw [if_pos c, if_pos c]
  · rw [if_neg c, if_neg c]
abbrev SN (C : List Int) (K : List Kl) (H X : Nat → Int32) (d : Int32) (m : qM) : Prop := (G m ∧ LM m C K) ∧ m 81 = H ∧ m 82 = X ∧ m 78 313 = d
theorem d_lk12 {n : Nat} (hn : 200000 ≤ n) {C : List Int} {K : List Kl} (hK : Kg (cdl C) C.length K) (h240 : C.length ≤ 240) {H X : Nat → Int32} {d : Int32} {i : Nat} (hi : i < 12) (M : qM) (h : SN C K H X d M) : qP (f_X12_isLike n (nI 12) (nI i) M) (fun v m => v = lkv C K n H X d 12 i ∧ SN C K H X d m) := by
  obtain ⟨⟨hG, hL⟩, h1, h2, h3⟩ := h
  have ti : (nI i).toInt = (i : Int) := nI_toInt (by omega)
  have t12 : (nI 12).toInt = 12 := nI_toInt (by decide)
  refine P_mono (P_and (d_isLike hn hK h240 (k := 12) (i := i) (Nat.le_refl _) hi M hG hL) (P_T (t_X12_isLike hn (nI 12) (nI i) M hG (by omega) (by omega)))) ?_
  rintro v m ⟨hv, _, g5, s5⟩
  rw [h1, h2, h3] at hv
  exact ⟨hv, ⟨g5, LM_cg hL (fun c c1 c2 => funext (fun s_ => s5 c s_ (out91 c1 c2 rfl))) (s5 77 17 (by decide))⟩, by rw [← h1]; exact funext (fun s_ => s5 81 s_ (outc rfl)), by rw [← h2]; exact funext (fun s_ => s5 82 s_ (outc rfl)), by rw [← h3]; exact s5 78 313 (by decide)⟩
theorem d_hole2 {n : Nat} (hn : 200000 ≤ n) {C : List Int} {K : List Kl} (hK : Kg (cdl C) C.length K) (h240 : C.length ≤ 240) {a b : Int32} {H X : Nat → Int32} {d : Int32} : ∀ (m i : Nat) (M : qM), SN C K H X d M → i ≤ 12 → (∀ q, q < i → (bitI a q → lkv C K n H X d 12 q ≠ 0) ∧ (bitI b q → lkv C K n H X d 12 q = 0)) → qP (f_X12_finds_2 n m a b (nI i) M) (fun v m' => HQ a b (lkv C K n H X d 12) v ∧ SN C K H X d m') := by
  intro m
  induction m with
  | zero => intro i M _ _ _; exact P_none
  | succ m ih =>
    intro i M hS hi hlo
    show qP (b_X12_finds_2 n (f_X12_finds_2 n m) a b (nI i) M) _
    unfold b_X12_finds_2
    have ti : (nI i).toInt = (i : Int) := nI_toInt (by omega)
    refine P_le l_12 ti (fun c => P_ret ⟨Or.inl ⟨fun q hq => hlo q (by omega), rfl⟩, hS⟩) (fun c => ?_)
    have hi12 : i < 12 := by omega
    have nx : ∀ (m5 : qM), SN C K H X d m5 → ((bitI a i → lkv C K n H X d 12 i ≠ 0) ∧ (bitI b i → lkv C K n H X d 12 i = 0)) → qP (ql (nI i + (1 : Int32)) (fun x1 => f_X12_finds_2 n m a b x1 m5)) (fun v m' => HQ a b (lkv C K n H X d 12) v ∧ SN C K H X d m') := by
      intro m5 s5 hp
      refine P_ql (i_add ti l_1 (by omega) (by omega)) (fun x1 hx1 => ?_)
      rw [nI_i (a := x1) (k := i + 1) (by rw [hx1]; omega)]
      refine ih (i + 1) m5 s5 (by omega) (fun q hq => ?_)
      by_cases e : q = i
      · rw [e]; exact hp
      · exact hlo q (by omega)
    have l28 : ∀ m5 : qM, SN C K H X d m5 → (bitI a i → lkv C K n H X d 12 i ≠ 0) → qP (f_X12_finds_28 n (f_X12_finds_2 n m) a b (nI i) m5) (fun v m' => HQ a b (lkv C K n H X d 12) v ∧ SN C K H X d m') := by
      intro m5 s5 hp
      unfold f_X12_finds_28
      rw [d_h0, qc_v]
      by_cases b1 : bitI b i
      · rw [if_pos b1]
        refine P_eq l_1 l_0 (fun z => by omega) (fun _ => ?_)
        refine P_qc (d_lk12 hn hK h240 hi12 m5 s5) ?_
        rintro r2 m3 ⟨hr, s3⟩
        exact P_if (fun c2 => nx m3 s3 ⟨hp, fun _ => by rw [← hr]; exact c2⟩) (fun c2 => P_ret ⟨Or.inr ⟨fun z => c2 (by rw [hr]; exact (z i hi12).2 b1), rfl⟩, s3⟩)
      · rw [if_neg b1]
        refine P_eq l_0 l_0 (fun _ => ?_) (fun z => absurd rfl z)
        exact nx m5 s5 ⟨hp, fun z => absurd z b1⟩
    rw [d_h0, qc_v]
    by_cases a1 : bitI a i
    · rw [if_pos a1]
      refine P_eq l_1 l_0 (fun z => by omega) (fun _ => ?_)
      refine P_qc (d_lk12 hn hK h240 hi12 M hS) ?_
      rintro r2 m3 ⟨hr, s3⟩
      exact P_if (fun c2 => P_ret ⟨Or.inr ⟨fun z => (z i hi12).1 a1 (by rw [← hr]; exact c2), rfl⟩, s3⟩) (fun c2 => l28 m3 s3 (fun _ z => c2 (by rw [hr]; exact z)))
    · rw [if_neg a1]
      refine P_eq l_0 l_0 (fun _ => ?_) (fun z => absurd rfl z)
      exact l28 M hS (fun z => absurd z a1)
theorem d_lp {n : Nat} (hn : 200000 ≤ n) {C : List Int} {K : List Kl} (hK : Kg (cdl C) C.length K) (h240 : C.length ≤ 240) {a b : Int32} {X : Nat → Int32} {d a3 : Int32} {H : Nat → Int32} (hH : ∀ w, w < 256 → H w = hov a b (lk12 C K n X (nI w) d)) : ∀ (m r w : Nat) (bst fnd : Int32) (M : qM), G M → LM M C K → M 81 12 = 1 → (∀ i, i < 12 → M 82 i = X i) → M 78 313 = d → w + r = 256 → qP (f_X12_loophole_56 n m a b a3 fnd bst (nI w) M) (fun v _ => v = if a3 = 0 then (lpv H r w bst fnd).1 else (lpv H r w bst fnd).2) := by
  intro m
  induction m with
  | zero => intro r w bst fnd M _ _ _ _ _ _; exact P_none
  | succ m ih =>
    intro r w bst fnd M hG hL h1 h2 hd hw
    show qP (b_X12_loophole_56 n (f_X12_loophole_56 n m) a b a3 fnd bst (nI w) M) _
    unfold b_X12_loophole_56
    have tw : (nI w).toInt = (w : Int) := nI_toInt (by omega)
    refine P_le l_256 tw (fun c => ?_) (fun c => ?_)
    · have hr0 : r = 0 := by omega
      subst hr0
      refine P_if (fun c1 => P_ret ?_) (fun c1 => P_ret ?_)
      · rw [if_pos c1]; rfl
      · rw [if_neg c1]; rfl
    · obtain ⟨r', rfl⟩ : ∃ r', r = r' + 1 := ⟨r - 1, by omega⟩
      have hw' : w < 256 := by omega
      have hw1 : w + 1 + r' = 256 := by omega
      refine P_g hG (rn_82 _ _) (nw_82 _) ?_
      intro m1 a1 a2 a3' g1
      have l1 : LM m1 C K := LM_cg hL (fun c c1 c2 => a3' c (by omega)) (by rw [a3' 77 (by decide)])
      unfold f_X12_finds
      refine P_qc (d_hole2 hn hK h240 (H := m1 81) (X := m1 82) (d := m1 78 313) n 0 m1 ⟨⟨g1, l1⟩, rfl, rfl, rfl⟩ (Nat.zero_le _) (fun q hq => absurd hq (by omega))) ?_
      rintro r1 m2 ⟨hq, ⟨g2, l2⟩, e81, e82, e78⟩
      have hr : r1 = H w := by
        rw [HQ_v hq, hH w hw']
        refine hov_cg (fun i hi => ?_)
        unfold lkv lk12
        rw [if_neg (show ¬ 12 = i by omega), a1, a3' 81 (by decide), h1, a2 i (by omega), h2 i hi, a3' 78 (by decide), hd]
      have b1 : m2 81 12 = 1 := by rw [e81, a3' 81 (by decide)]; exact h1
      have b2 : ∀ i, i < 12 → m2 82 i = X i := fun i hi => by rw [e82, a2 i (by omega)]; exact h2 i hi
      have b3 : m2 78 313 = d := by rw [e78, a3' 78 (by decide)]; exact hd
      clear hq
      have nx : ∀ (bs fn : Int32), lpv H (r' + 1) w bst fnd = lpv H r' (w + 1) bs fn → qP (ql (nI w + (1 : Int32)) (fun x3 => f_X12_loophole_56 n m a b a3 fn bs x3 m2)) (fun v _ => v = if a3 = 0 then (lpv H (r' + 1) w bst fnd).1 else (lpv H (r' + 1) w bst fnd).2) := by
        intro bs fn e
        refine P_ql (i_add tw l_1 (by omega) (by omega)) (fun x1 hx1 => ?_)
        rw [nI_i (a := x1) (k := w + 1) (by rw [hx1]; omega), e]
        exact ih r' (w + 1) bs fn m2 g2 l2 b1 b2 b3 hw1
      refine P_if (fun c1 => nx bst fnd (lpv_0 (by rw [← hr]; exact c1))) (fun c1 => ?_)
      have st : lpv H (r' + 1) w bst fnd = _ := lpv_1 (by rw [← hr]; exact c1)
      refine P_ql rfl (fun x4 hx4 => ?_)
      rw [show x4 = fnd + 1 from Int32.toInt_inj.mp hx4]
      unfold f_X12_loophole_111
      refine P_if (fun c2 => nx (nI w) (fnd + 1) (by rw [st, if_pos c2])) (fun c2 => ?_)
      rw [bits_val (by omega), qc_v, bits_val (by omega), qc_v]
      exact P_if (fun c3 => nx bst (fnd + 1) (by rw [st, if_neg c2, if_pos c3])) (fun c3 => nx (nI w) (fnd + 1) (by rw [st, if_neg c2, if_neg c3]))
