abbrev l_X0_attempt_c7 : List Bx := [(9, 12, 0, 0), (34, 35, 4, 5), (35, 37, 0, 0), (44, 45, 2, 4)]
abbrev po_X0_attempt_c7 (a2 a3 a4 : Int32) (M : qM) (v : Int32) (M' : qM) : Prop := ((-2) ≤ v.toInt ∧ v.toInt ≤ 1) ∧ G M' ∧ Sm l_X0_attempt_c7 M M'
theorem t_X0_attempt_c7 {n : Nat} (hn : 200000 ≤ n) {j : Nat} (hj : q_isLaw j) (a2 a3 a4 : Int32) (M : qM) (hG : G M) (pa2 : 0 ≤ a2.toInt ∧ a2.toInt ≤ 7) (pa3 : 0 ≤ a3.toInt ∧ a3.toInt ≤ 11) (pa4 : 0 ≤ a4.toInt ∧ a4.toInt ≤ 8) : qT (f_X0_attempt n 7 j a2 a3 a4 M) (po_X0_attempt_c7 a2 a3 a4 M) := by
  have hS : Sm l_X0_attempt_c7 M M := Sm.rf
  unfold f_X0_attempt
  try simp only [Nat.reduceAdd]
  refine T_qc (t_X1_alikes hn hj a3 (M 7 9) M hG (i_rng (lo := 0) (hi := 11) rfl (by omega) (by omega))) ?_
  rintro rv1 mv2 ⟨gq3_, kq4_⟩
  have kq5_ := Sm.call hS kq4_ rfl
  refine T_qc (t_X0_forget_c7 hn hj a2 rv1 mv2 gq3_ (i_rng (lo := 0) (hi := 7) rfl (by omega) (by omega))) ?_
  rintro rv6 mv7 ⟨hq8_, gq9_, kq10_⟩
  have kq11_ := Sm.call kq5_ kq10_ rfl
  refine T_qc (t_X10_triesAmong_c7 hn a2 rv1 mv7 gq9_ (i_rng (lo := 0) (hi := 7) rfl (by omega) (by omega))) ?_
  rintro rv12 mv13 ⟨gq14_, kq15_⟩
  have hq16_ := kq15_.nil
  subst hq16_
  refine T_mu gq9_ kq11_ (rn_44_2 _) (nw_44 _) (i := 3) rfl ⟨by decide, by decide, Or.inr ⟨by decide, by decide⟩⟩ ?_
  intro mv17 hq18_ gq19_ kq20_
  have hq21_ : (mv17 44 2).toInt = rv12.toInt := by rw [hq18_, mu_at]
  refine T_qc (t_X0_tellAll_c7 hn a2 a3 a4 mv17 gq19_ (i_rng (lo := 0) (hi := 7) rfl (by omega) (by omega)) (i_rng (lo := 0) (hi := 11) rfl (by omega) (by omega)) (i_rng (lo := 0) (hi := 8) rfl (by omega) (by omega))) ?_
  rintro rv22 mv23 ⟨hq24_, gq25_, kq26_⟩
  have kq27_ := Sm.call kq20_ kq26_ rfl
  have hq28_ : (mv23 44 2).toInt = (mv17 44 2).toInt := by rw [kq26_ 44 2 (by decide)]
  refine T_qc (t_X1_voidTries hn hj  mv23 gq25_ ) ?_
  rintro rv29 mv30 ⟨hq31_, gq32_, kq33_⟩
  have kq34_ := Sm.call kq27_ kq33_ rfl
  have hq35_ : (mv30 44 2).toInt = (mv23 44 2).toInt := by rw [kq33_ 44 2 (by decide)]
  refine T_mu gq32_ kq34_ (rn_44_3 _) (nw_44 _) (i := 3) rfl ⟨by decide, by decide, Or.inr ⟨by decide, by decide⟩⟩ ?_
  intro mv36 hq37_ gq38_ kq39_
  have hq40_ : (mv36 44 2).toInt = (mv30 44 2).toInt := by rw [hq37_, mu_ne (Or.inr (by decide))]
  have hq41_ : (mv36 44 3).toInt = rv29.toInt := by rw [hq37_, mu_at]
  refine T_qc (t_X10_addTry_c7 hn a2 a3 mv36 gq38_ (i_rng (lo := 0) (hi := 7) rfl (by omega) (by omega)) (i_rng (lo := 0) (hi := 11) rfl (by omega) (by omega))) ?_
  rintro rv42 mv43 ⟨hq44_, gq45_, kq46_⟩
  have kq47_ := Sm.call kq39_ kq46_ rfl
  have hq48_ : (mv43 44 2).toInt = (mv36 44 2).toInt := by rw [kq46_ 44 2 (by decide)]
  have hq49_ : (mv43 44 3).toInt = (mv36 44 3).toInt := by rw [kq46_ 44 3 (by decide)]
  refine T_le rfl rfl (fun hq50_ => ?_) (fun hq50_ => ?_)
  · refine T_qg rfl (by omega) (by omega) ?_
    refine T_qc (t_X10_hasCounted_c7 hn a2 (mv43 6 a3.toNatClampNeg) mv43 gq45_ (i_rng (lo := 0) (hi := 7) rfl (by omega) (by omega))) ?_
    rintro rv51 mv52 ⟨hq53_, gq54_, kq55_⟩
    have hq56_ := kq55_.nil
    subst hq56_
    refine T_eq rfl l_0 (fun hq57_ => ?_) (fun hq57_ => ?_)
    · exact T_ret ⟨(i_rng (lo := (-2)) (hi := 1) l_m2 (by omega) (by omega)), gq45_, kq47_⟩
    · refine T_qc (t_X10_addCounted_c7 hn a2 a3 mv43 gq45_ (i_rng (lo := 0) (hi := 7) rfl (by omega) (by omega)) (i_rng (lo := 0) (hi := 11) rfl (by omega) (by omega))) ?_
      rintro rv58 mv59 ⟨hq60_, gq61_, kq62_⟩
      have kq63_ := Sm.call kq47_ kq62_ rfl
      have hq64_ : (mv59 44 2).toInt = (mv43 44 2).toInt := by rw [kq62_ 44 2 (by decide)]
      have hq65_ : (mv59 44 3).toInt = (mv43 44 3).toInt := by rw [kq62_ 44 3 (by decide)]
      exact T_ret ⟨(i_rng (lo := (-2)) (hi := 1) l_1 (by omega) (by omega)), gq61_, kq63_⟩
  · exact T_ret ⟨(i_rng (lo := (-2)) (hi := 1) l_0 (by omega) (by omega)), gq45_, kq47_⟩
abbrev l_X11_tries : List Bx := [(9, 12, 0, 0), (34, 35, 4, 5), (35, 37, 0, 0), (44, 45, 2, 4)]
abbrev po_X11_tries (a1 a2 a3 : Int32) (M : qM) (v : Int32) (M' : qM) : Prop := ((-2) ≤ v.toInt ∧ v.toInt ≤ 1) ∧ G M' ∧ Sm l_X11_tries M M'
theorem t_X11_tries {n : Nat} (hn : 200000 ≤ n) {j : Nat} (hj : q_isLaw j) (a1 a2 a3 : Int32) (M : qM) (hG : G M) : qT (f_X11_tries n j a1 a2 a3 M) (po_X11_tries a1 a2 a3 M) := by
  have hS : Sm l_X11_tries M M := Sm.rf
  unfold f_X11_tries
  refine T_qc (t_X10_knows_c7 hn a1 M hG ) ?_
  rintro rv1 mv2 ⟨hq3_, hq4_, gq5_, kq6_⟩
  have hq7_ := kq6_.nil
  subst hq7_
  refine T_eq rfl l_0 (fun hq8_ => ?_) (fun hq8_ => ?_)
  · exact T_ret ⟨(i_rng (lo := (-2)) (hi := 1) l_m1 (by omega) (by omega)), hG, hS⟩
  · refine T_qc (t_X2_knows hn a2 M hG ) ?_
    rintro rv9 mv10 ⟨hq11_, hq12_, gq13_, kq14_⟩
    have hq15_ := kq14_.nil
    subst hq15_
    refine T_eq rfl l_0 (fun hq16_ => ?_) (fun hq16_ => ?_)
    · exact T_ret ⟨(i_rng (lo := (-2)) (hi := 1) l_m1 (by omega) (by omega)), hG, hS⟩
    · refine T_eq rfl l_m1 (fun hq17_ => ?_) (fun hq17_ => ?_)
      · refine T_qc (t_X0_attempt_c7 hn hj a1 a2 (8 : Int32) M hG (i_rng (lo := 0) (hi := 7) rfl (by omega) (by omega)) (i_rng (lo := 0) (hi := 11) rfl (by omega) (by omega)) (i_rng (lo := 0) (hi := 8) l_8 (by omega) (by omega))) ?_
        rintro rv18 mv19 ⟨hq20_, gq21_, kq22_⟩
        have kq23_ := Sm.call hS kq22_ rfl
        exact T_ret ⟨(i_rng (lo := (-2)) (hi := 1) rfl (by omega) (by omega)), gq21_, kq23_⟩
      · refine T_eq rfl rfl (fun hq24_ => ?_) (fun hq24_ => ?_)
        · exact T_ret ⟨(i_rng (lo := (-2)) (hi := 1) l_m1 (by omega) (by omega)), hG, hS⟩
        · refine T_qc (t_X10_knows_c7 hn a3 M hG ) ?_
          rintro rv25 mv26 ⟨hq27_, hq28_, gq29_, kq30_⟩
          have hq31_ := kq30_.nil
          subst hq31_
          refine T_eq rfl l_0 (fun hq32_ => ?_) (fun hq32_ => ?_)
          · exact T_ret ⟨(i_rng (lo := (-2)) (hi := 1) l_m1 (by omega) (by omega)), hG, hS⟩
          · refine T_qc (t_X0_attempt_c7 hn hj a1 a2 a3 M hG (i_rng (lo := 0) (hi := 7) rfl (by omega) (by omega)) (i_rng (lo := 0) (hi := 11) rfl (by omega) (by omega)) (i_rng (lo := 0) (hi := 8) rfl (by omega) (by omega))) ?_
            rintro rv33 mv34 ⟨hq35_, gq36_, kq37_⟩
            have kq38_ := Sm.call hS kq37_ rfl
            exact T_ret ⟨(i_rng (lo := (-2)) (hi := 1) rfl (by omega) (by omega)), gq36_, kq38_⟩
abbrev l_X12_at : List Bx := []
abbrev po_X12_at (a0 a1 : Int32) (M : qM) (v : Int32) (M' : qM) : Prop := (0 ≤ v.toInt ∧ v.toInt ≤ 95) ∧ (v.toInt = 12 * a0.toInt + a1.toInt) ∧ G M' ∧ Sm l_X12_at M M'
theorem t_X12_at {n : Nat} (hn : 200000 ≤ n) (a0 a1 : Int32) (M : qM) (hG : G M) (pa0 : 0 ≤ a0.toInt ∧ a0.toInt ≤ 7) (pa1 : 0 ≤ a1.toInt ∧ a1.toInt ≤ 11) : qT (f_X12_at n a0 a1 M) (po_X12_at a0 a1 M) := by
  have hS : Sm l_X12_at M M := Sm.rf
  unfold f_X12_at
  exact T_ret ⟨(i_rng (lo := 0) (hi := 95) (i_add (i_mul l_12 rfl (by omega) (by omega)) rfl (by omega) (by omega)) (by omega) (by omega)), (by have e9 : (((12 : Int32) * a0) + a1).toInt = _ := (i_add (i_mul l_12 rfl (by omega) (by omega)) rfl (by omega) (by omega)); omega), hG, hS⟩
abbrev l_X12_feelsKind : List Bx := [(97, 98, 0, 0)]
abbrev po_X12_feelsKind (a1 : Int32) (M : qM) (v : Int32) (M' : qM) : Prop := (0 ≤ v.toInt ∧ v.toInt ≤ 0) ∧ G M' ∧ Sm l_X12_feelsKind M M'
theorem t_X12_feelsKind_2 {n : Nat} (hn : 200000 ≤ n) {oa1 : Int32} {M0 : qM} : ∀ (m : Nat) (a1 a2 : Int32) (M : qM), G M → Sm l_X12_feelsKind M0 M → 0 ≤ a1.toInt ∧ a1.toInt ≤ 12 → 0 ≤ a2.toInt ∧ a2.toInt ≤ 12 → 12 - a2.toInt < (m : Int) → qT (f_X12_feelsKind_2 n m a1 a2 M) (po_X12_feelsKind oa1 M0) := by
  intro m
  induction m with
  | zero =>
    intro a1 a2 M hG hS i0 i1 i2
    exfalso; omega
  | succ m ih =>
    intro a1 a2 M hG hS i0 i1 i2
    show qT (b_X12_feelsKind_2 n (f_X12_feelsKind_2 n m) a1 a2 M) _
    unfold b_X12_feelsKind_2
    refine T_le l_12 rfl (fun hq2_ => ?_) (fun hq2_ => ?_)
    · refine T_mu hG hS (rn_97 _ _) (nw_97 _) (i := 0) rfl ⟨by decide, by decide, Or.inl rfl⟩ ?_
      intro mv3 hq4_ gq5_ kq6_
      have hq7_ : (mv3 97 0).toInt = a1.toInt := by rw [hq4_, mu_at]
      refine T_qg rfl (by omega) (by omega) ?_
      refine T_mu gq5_ kq6_ (rn_97 _ _) (nw_97 _) (i := 0) rfl ⟨by decide, by decide, Or.inl rfl⟩ ?_
      intro mv8 hq9_ gq10_ kq11_
      have hq12_ : (mv8 97 0).toInt = (mv3 97 0).toInt := by rw [hq9_, mu_ne (Or.inr (by decide))]
      have hq13_ : (mv8 97 1).toInt = (mv3 81 a1.toNatClampNeg).toInt := by rw [hq9_, mu_at]
      refine T_qg rfl (by omega) (by omega) ?_
      refine T_mu gq10_ kq11_ (rn_97 _ _) (nw_97 _) (i := 0) rfl ⟨by decide, by decide, Or.inl rfl⟩ ?_
      intro mv14 hq15_ gq16_ kq17_
      have hq18_ : (mv14 97 0).toInt = (mv8 97 0).toInt := by rw [hq15_, mu_ne (Or.inr (by decide))]
      have hq19_ : (mv14 97 1).toInt = (mv8 97 1).toInt := by rw [hq15_, mu_ne (Or.inr (by decide))]
      have hq20_ : (mv14 97 2).toInt = (mv8 82 a1.toNatClampNeg).toInt := by rw [hq15_, mu_at]
      refine T_mu gq16_ kq17_ (rn_97 _ _) (nw_97 _) (i := 0) rfl ⟨by decide, by decide, Or.inl rfl⟩ ?_
      intro mv21 hq22_ gq23_ kq24_
      have hq25_ : (mv21 97 0).toInt = (mv14 97 0).toInt := by rw [hq22_, mu_ne (Or.inr (by decide))]
      have hq26_ : (mv21 97 1).toInt = (mv14 97 1).toInt := by rw [hq22_, mu_ne (Or.inr (by decide))]
      have hq27_ : (mv21 97 2).toInt = (mv14 97 2).toInt := by rw [hq22_, mu_ne (Or.inr (by decide))]
      have hq28_ : (mv21 97 6).toInt = (mv14 78 313).toInt := by rw [hq22_, mu_at]
      exact T_ret ⟨(i_rng (lo := 0) (hi := 0) l_0 (by omega) (by omega)), gq23_, kq24_⟩
    · refine T_qg rfl (by omega) (by omega) ?_
      refine T_mu hG hS (rn_97 _ _) (nw_97 _) (i := 0) rfl ⟨by decide, by decide, Or.inl rfl⟩ ?_
      intro mv29 hq30_ gq31_ kq32_
      have hq33_ : (mv29 97 a2.toNatClampNeg).toInt = 0 := by rw [hq30_, mu_at]; exact l_0
      refine T_ql (i_add rfl l_1 (by omega) (by omega)) ?_
      intro xv34 hq35_
      exact ih a1 xv34 mv29 gq31_ kq32_ (i_rng (lo := 0) (hi := 12) rfl (by omega) (by omega)) (i_rng (lo := 0) (hi := 12) rfl (by omega) (by omega)) (by omega)
theorem t_X12_feelsKind {n : Nat} (hn : 200000 ≤ n) (a1 : Int32) (M : qM) (hG : G M) (pa1 : 0 ≤ a1.toInt ∧ a1.toInt ≤ 12) : qT (f_X12_feelsKind n a1 M) (po_X12_feelsKind a1 M) := by
  have hS : Sm l_X12_feelsKind M M := Sm.rf
  unfold f_X12_feelsKind
  exact (t_X12_feelsKind_2 hn) n a1 (0 : Int32) M hG hS (i_rng (lo := 0) (hi := 12) rfl (by omega) (by omega)) (i_rng (lo := 0) (hi := 12) l_0 (by omega) (by omega)) (by have e1 : ((0 : Int32)).toInt = _ := l_0; omega)
abbrev l_X12_bits : List Bx := []
abbrev po_X12_bits (a0 : Int32) (M : qM) (v : Int32) (M' : qM) : Prop := G M' ∧ Sm l_X12_bits M M'
theorem t_X12_bits_4 {n : Nat} (hn : 200000 ≤ n) {oa0 : Int32} {M0 : qM} : ∀ (m : Nat) (a0 a1 a2 : Int32) (M : qM), G M → Sm l_X12_bits M0 M → 0 ≤ a2.toInt ∧ a2.toInt ≤ 12 → 12 - a2.toInt < (m : Int) → qT (f_X12_bits_4 n m a0 a1 a2 M) (po_X12_bits oa0 M0) := by
  intro m
  induction m with
  | zero =>
    intro a0 a1 a2 M hG hS i0 i1
    exfalso; omega
  | succ m ih =>
    intro a0 a1 a2 M hG hS i0 i1
    show qT (b_X12_bits_4 n (f_X12_bits_4 n m) a0 a1 a2 M) _
    unfold b_X12_bits_4
    refine T_le l_12 rfl (fun hq3_ => ?_) (fun hq3_ => ?_)
    · exact T_ret ⟨hG, hS⟩
    · have hq4_ := i_and (a := a0 >>> (a2 &&& 31)) (b := (1 : Int32)) l_1 (by omega)
      have hq5_ := i_full (a1)
      refine T_ql rfl ?_
      intro xv6 hq7_
      refine T_ql (i_add rfl l_1 (by omega) (by omega)) ?_
      intro xv8 hq9_
      exact ih a0 xv6 xv8 M hG hS (i_rng (lo := 0) (hi := 12) rfl (by omega) (by omega)) (by omega)
theorem t_X12_bits {n : Nat} (hn : 200000 ≤ n) (a0 : Int32) (M : qM) (hG : G M) : qT (f_X12_bits n a0 M) (po_X12_bits a0 M) := by
  have hS : Sm l_X12_bits M M := Sm.rf
  unfold f_X12_bits
  exact (t_X12_bits_4 hn) n a0 (0 : Int32) (0 : Int32) M hG hS (i_rng (lo := 0) (hi := 12) l_0 (by omega) (by omega)) (by have e1 : ((0 : Int32)).toInt = _ := l_0; have e2 : ((0 : Int32)).toInt = _ := l_0; omega)
abbrev l_X12_reckon : List Bx := []
abbrev po_X12_reckon (a0 a1 a2 : Int32) (M : qM) (v : Int32) (M' : qM) : Prop := G M' ∧ Sm l_X12_reckon M M'
theorem t_X12_reckon {n : Nat} (hn : 200000 ≤ n) (a0 a1 a2 : Int32) (M : qM) (hG : G M) (pa0 : 2 ≤ a0.toInt ∧ a0.toInt ≤ 19) (pe : a2.toInt ≠ 0 ∨ (a0.toInt ≠ 5 ∧ a0.toInt ≠ 6)) : qT (f_X12_reckon n a0 a1 a2 M) (po_X12_reckon a0 a1 a2 M) := by
  have hS : Sm l_X12_reckon M M := Sm.rf
  unfold f_X12_reckon
  refine T_sw rfl l_2 (fun hq1_ => ?_) (fun hq1_ => ?_)
  · have hq2_ := i_full (a1)
    have hq3_ := i_full (a2)
    exact T_ret ⟨hG, hS⟩
  refine T_sw rfl l_3 (fun hq4_ => ?_) (fun hq4_ => ?_)
  · have hq5_ := i_full (a1)
    have hq6_ := i_full (a2)
    exact T_ret ⟨hG, hS⟩
  refine T_sw rfl l_4 (fun hq7_ => ?_) (fun hq7_ => ?_)
  · have hq8_ := i_full (a1)
    have hq9_ := i_full (a2)
    exact T_ret ⟨hG, hS⟩
  refine T_sw rfl l_5 (fun hq10_ => ?_) (fun hq10_ => ?_)
  · refine T_qd rfl (by omega) ?_
    have hq11_ := i_full (a1)
    have hq12_ := i_full (a2)
    exact T_ret ⟨hG, hS⟩
  refine T_sw rfl l_6 (fun hq13_ => ?_) (fun hq13_ => ?_)
  · refine T_qd rfl (by omega) ?_
    exact T_ret ⟨hG, hS⟩
  refine T_sw rfl l_7 (fun hq14_ => ?_) (fun hq14_ => ?_)
  · refine T_le rfl rfl (fun hq15_ => ?_) (fun hq15_ => ?_)
    · exact T_ret ⟨hG, hS⟩
    · exact T_ret ⟨hG, hS⟩
  refine T_sw rfl l_8 (fun hq16_ => ?_) (fun hq16_ => ?_)
  · refine T_le rfl rfl (fun hq17_ => ?_) (fun hq17_ => ?_)
    · exact T_ret ⟨hG, hS⟩
    · exact T_ret ⟨hG, hS⟩
  refine T_sw0 ?_
  refine T_eq rfl rfl (fun hq18_ => ?_) (fun hq18_ => ?_)
  · exact T_ret ⟨hG, hS⟩
  · exact T_ret ⟨hG, hS⟩
abbrev l_X12_comesTo : List Bx := [(96, 97, 0, 0)]
abbrev po_X12_comesTo (a1 a2 : Int32) (M : qM) (v : Int32) (M' : qM) : Prop := G M' ∧ Sm l_X12_comesTo M M'
theorem t_X12_comesTo_16 {n : Nat} (hn : 200000 ≤ n) {oa1 oa2 : Int32} {M0 : qM} {D : Nat → Nat} {f : Nat} {tt : Nat} (hD : ∀ k, f ≤ k → k < tt → 0 ≤ (M0 91 k).toInt ∧ D k ≤ 250 ∧ (((M0 91 k).toInt / 1048576 = 0 ∧ D (k + 1) = D k + 1) ∨ ((M0 91 k).toInt / 1048576 = 1 ∧ (M0 91 k).toInt % 1048576 ≤ 11 ∧ D (k + 1) = D k + 1) ∨ ((M0 91 k).toInt / 1048576 = 10 ∧ 1 ≤ D k ∧ D (k + 1) = D k) ∨ (((M0 91 k).toInt / 1048576 = 11 ∨ (M0 91 k).toInt / 1048576 = 12) ∧ 1 ≤ D k ∧ D (k + 1) + 1 = D k ∧ (k : Int) < (M0 91 k).toInt % 1048576 ∧ D ((M0 91 k).toInt % 1048576).toNat = D k) ∨ (2 ≤ (M0 91 k).toInt / 1048576 ∧ (M0 91 k).toInt / 1048576 ≤ 9 ∧ 2 ≤ D k ∧ D (k + 1) + 1 = D k))) : ∀ (m : Nat) (a2 a3 a4 a5 : Int32) (M : qM), G M → Sm l_X12_comesTo M0 M → 0 ≤ a2.toInt ∧ a2.toInt ≤ 250 → 0 ≤ a3.toInt ∧ a3.toInt ≤ 252 → 0 ≤ a4.toInt ∧ a4.toInt ≤ 0 → 0 ≤ a5.toInt ∧ a5.toInt ≤ 2000000 → (a2.toInt = (tt : Int) ∧ (f : Int) ≤ a5.toInt ∧ (a5.toInt < a2.toInt → (D a5.toInt.toNat : Int) = a3.toInt)) → (0 : Int) < (m : Int) ∧ 251 - a5.toInt < (m : Int) → qT (f_X12_comesTo_16 n m a2 a3 a4 a5 M) (po_X12_comesTo oa1 oa2 M0) := by
  intro m
  induction m with
  | zero =>
    intro a2 a3 a4 a5 M hG hS i0 i1 i2 i3 i4 i5
    exfalso; omega
  | succ m ih =>
    intro a2 a3 a4 a5 M hG hS i0 i1 i2 i3 i4 i5
    show qT (b_X12_comesTo_16 n (f_X12_comesTo_16 n m) a2 a3 a4 a5 M) _
    unfold b_X12_comesTo_16
    refine T_le rfl rfl (fun hq1_ => ?_) (fun hq1_ => ?_)
    · exact T_ret ⟨hG, hS⟩
    · refine T_qg rfl (by omega) (by omega) ?_
      have hw9_ := hD a5.toInt.toNat (by omega) (by omega)
      have hw8_ : (M 91 a5.toNatClampNeg).toInt = (M0 91 a5.toInt.toNat).toInt := by rw [tnc, hS 91 _ (outc rfl)]
      have hq2_ := r_91 hG a5.toNatClampNeg
      refine T_ql (i_div rfl l_1048576 (by omega) (by omega)) ?_
      intro xv3 hq4_
      refine T_qg rfl (by omega) (by omega) ?_
      refine T_ql (i_sub rfl (i_mul (i_div rfl l_1048576 (by omega) (by omega)) l_1048576 (by omega) (by omega)) (by omega) (by omega)) ?_
      intro xv5 hq6_
      refine T_ql (i_add rfl l_1 (by omega) (by omega)) ?_
      intro xv7 hq8_
      refine T_eq rfl l_0 (fun hq9_ => ?_) (fun hq9_ => ?_)
      · unfold f_X12_comesTo_63
        refine T_eq rfl l_0 (fun hq10_ => ?_) (fun hq10_ => ?_)
        · unfold f_X12_comesTo_85
          refine T_qg rfl (by omega) (by omega) ?_
          refine T_mu hG hS (rn_96 _ _) (nw_96 _) (i := 0) rfl ⟨by decide, by decide, Or.inl rfl⟩ ?_
          intro mv11 hq12_ gq13_ kq14_
          have hq15_ : (mv11 96 a3.toNatClampNeg).toInt = xv5.toInt := by rw [hq12_, mu_at]
          refine T_ql (i_add rfl l_1 (by omega) (by omega)) ?_
          intro xv16 hq17_
          exact ih a2 xv16 a4 xv7 mv11 gq13_ kq14_ (i_rng (lo := 0) (hi := 250) rfl (by omega) (by omega)) (i_rng (lo := 0) (hi := 252) rfl (by omega) (by omega)) (i_rng (lo := 0) (hi := 0) rfl (by omega) (by omega)) (i_rng (lo := 0) (hi := 2000000) rfl (by omega) (by omega)) (by refine ⟨by omega, by omega, fun _ => ?_⟩; first | (rw [show (xv7).toInt.toNat = a5.toInt.toNat + 1 by omega]; omega) | (rw [show (xv7).toInt.toNat = ((M0 91 a5.toInt.toNat).toInt % 1048576).toNat by omega]; omega) | (rw [hD0]; decide)) (by omega)
        · exfalso; omega
      · refine T_eq rfl l_1 (fun hq18_ => ?_) (fun hq18_ => ?_)
        · unfold f_X12_comesTo_63
          refine T_eq rfl l_0 (fun hq19_ => ?_) (fun hq19_ => ?_)
          · exfalso; omega
          · refine T_qg rfl (by omega) (by omega) ?_
            unfold f_X12_comesTo_85
            refine T_qg rfl (by omega) (by omega) ?_
            refine T_mu hG hS (rn_96 _ _) (nw_96 _) (i := 0) rfl ⟨by decide, by decide, Or.inl rfl⟩ ?_
            intro mv20 hq21_ gq22_ kq23_
            have hq24_ : (mv20 96 a3.toNatClampNeg).toInt = (M 97 xv5.toNatClampNeg).toInt := by rw [hq21_, mu_at]
            refine T_ql (i_add rfl l_1 (by omega) (by omega)) ?_
            intro xv25 hq26_
            exact ih a2 xv25 a4 xv7 mv20 gq22_ kq23_ (i_rng (lo := 0) (hi := 250) rfl (by omega) (by omega)) (i_rng (lo := 0) (hi := 252) rfl (by omega) (by omega)) (i_rng (lo := 0) (hi := 0) rfl (by omega) (by omega)) (i_rng (lo := 0) (hi := 2000000) rfl (by omega) (by omega)) (by refine ⟨by omega, by omega, fun _ => ?_⟩; first | (rw [show (xv7).toInt.toNat = a5.toInt.toNat + 1 by omega]; omega) | (rw [show (xv7).toInt.toNat = ((M0 91 a5.toInt.toNat).toInt % 1048576).toNat by omega]; omega) | (rw [hD0]; decide)) (by omega)
        · refine T_eq rfl l_10 (fun hq27_ => ?_) (fun hq27_ => ?_)
          · refine T_qg (i_sub rfl l_1 (by omega) (by omega)) (by omega) (by omega) ?_
            refine T_qg (i_sub rfl l_1 (by omega) (by omega)) (by omega) (by omega) ?_
            have hq29_ := i_full (M 96 ((a3 - (1 : Int32)).toNatClampNeg))
            refine T_mu hG hS (rn_96 _ _) (nw_96 _) (i := 0) rfl ⟨by decide, by decide, Or.inl rfl⟩ ?_
            intro mv28 hq30_ gq31_ kq32_
            have hq33_ : (mv28 96 ((a3 - (1 : Int32)).toNatClampNeg)).toInt = ((1 : Int32) - (M 96 ((a3 - (1 : Int32)).toNatClampNeg))).toInt := by rw [hq30_, mu_at]
            exact ih a2 a3 a4 xv7 mv28 gq31_ kq32_ (i_rng (lo := 0) (hi := 250) rfl (by omega) (by omega)) (i_rng (lo := 0) (hi := 252) rfl (by omega) (by omega)) (i_rng (lo := 0) (hi := 0) rfl (by omega) (by omega)) (i_rng (lo := 0) (hi := 2000000) rfl (by omega) (by omega)) (by refine ⟨by omega, by omega, fun _ => ?_⟩; first | (rw [show (xv7).toInt.toNat = a5.toInt.toNat + 1 by omega]; omega) | (rw [show (xv7).toInt.toNat = ((M0 91 a5.toInt.toNat).toInt % 1048576).toNat by omega]; omega) | (rw [hD0]; decide)) (by omega)
          · refine T_eq rfl l_11 (fun hq34_ => ?_) (fun hq34_ => ?_)
            · unfold f_X12_comesTo_135
              refine T_qg (i_sub rfl l_1 (by omega) (by omega)) (by omega) (by omega) ?_
              refine T_eq rfl l_12 (fun hq35_ => ?_) (fun hq35_ => ?_)
              · exfalso; omega
              · unfold f_X12_comesTo_155
                refine T_eq rfl l_0 (fun hq36_ => ?_) (fun hq36_ => ?_)
                · refine T_ql (i_add rfl rfl (by omega) (by omega)) ?_
                  intro xv37 hq38_
                  exact ih a2 a3 a4 xv37 M hG hS (i_rng (lo := 0) (hi := 250) rfl (by omega) (by omega)) (i_rng (lo := 0) (hi := 252) rfl (by omega) (by omega)) (i_rng (lo := 0) (hi := 0) rfl (by omega) (by omega)) (i_rng (lo := 0) (hi := 2000000) rfl (by omega) (by omega)) (by refine ⟨by omega, by omega, fun _ => ?_⟩; first | (rw [show (xv37).toInt.toNat = a5.toInt.toNat + 1 by omega]; omega) | (rw [show (xv37).toInt.toNat = ((M0 91 a5.toInt.toNat).toInt % 1048576).toNat by omega]; omega) | (rw [hD0]; decide)) (by omega)
                · refine T_ql (i_sub rfl l_1 (by omega) (by omega)) ?_
                  intro xv39 hq40_
                  exact ih a2 xv39 a4 xv7 M hG hS (i_rng (lo := 0) (hi := 250) rfl (by omega) (by omega)) (i_rng (lo := 0) (hi := 252) rfl (by omega) (by omega)) (i_rng (lo := 0) (hi := 0) rfl (by omega) (by omega)) (i_rng (lo := 0) (hi := 2000000) rfl (by omega) (by omega)) (by refine ⟨by omega, by omega, fun _ => ?_⟩; first | (rw [show (xv7).toInt.toNat = a5.toInt.toNat + 1 by omega]; omega) | (rw [show (xv7).toInt.toNat = ((M0 91 a5.toInt.toNat).toInt % 1048576).toNat by omega]; omega) | (rw [hD0]; decide)) (by omega)
            · refine T_eq rfl l_12 (fun hq41_ => ?_) (fun hq41_ => ?_)
              · unfold f_X12_comesTo_135
                refine T_qg (i_sub rfl l_1 (by omega) (by omega)) (by omega) (by omega) ?_
                refine T_eq rfl l_12 (fun hq42_ => ?_) (fun hq42_ => ?_)
                · unfold f_X12_comesTo_155
                  refine T_eq rfl l_1 (fun hq43_ => ?_) (fun hq43_ => ?_)
                  · refine T_ql (i_add rfl rfl (by omega) (by omega)) ?_
                    intro xv44 hq45_
                    exact ih a2 a3 a4 xv44 M hG hS (i_rng (lo := 0) (hi := 250) rfl (by omega) (by omega)) (i_rng (lo := 0) (hi := 252) rfl (by omega) (by omega)) (i_rng (lo := 0) (hi := 0) rfl (by omega) (by omega)) (i_rng (lo := 0) (hi := 2000000) rfl (by omega) (by omega)) (by refine ⟨by omega, by omega, fun _ => ?_⟩; first | (rw [show (xv44).toInt.toNat = a5.toInt.toNat + 1 by omega]; omega) | (rw [show (xv44).toInt.toNat = ((M0 91 a5.toInt.toNat).toInt % 1048576).toNat by omega]; omega) | (rw [hD0]; decide)) (by omega)
                  · refine T_ql (i_sub rfl l_1 (by omega) (by omega)) ?_
                    intro xv46 hq47_
                    exact ih a2 xv46 a4 xv7 M hG hS (i_rng (lo := 0) (hi := 250) rfl (by omega) (by omega)) (i_rng (lo := 0) (hi := 252) rfl (by omega) (by omega)) (i_rng (lo := 0) (hi := 0) rfl (by omega) (by omega)) (i_rng (lo := 0) (hi := 2000000) rfl (by omega) (by omega)) (by refine ⟨by omega, by omega, fun _ => ?_⟩; first | (rw [show (xv7).toInt.toNat = a5.toInt.toNat + 1 by omega]; omega) | (rw [show (xv7).toInt.toNat = ((M0 91 a5.toInt.toNat).toInt % 1048576).toNat by omega]; omega) | (rw [hD0]; decide)) (by omega)
                · exfalso; omega
              · refine T_ql (i_sub rfl l_1 (by omega) (by omega)) ?_
                intro xv48 hq49_
                refine T_eq rfl l_5 (fun hq50_ => ?_) (fun hq50_ => ?_)
                · unfold f_X12_comesTo_192
                  refine T_qg rfl (by omega) (by omega) ?_
                  refine T_eq rfl l_0 (fun hq51_ => ?_) (fun hq51_ => ?_)
                  · exact T_ret ⟨hG, hS⟩
                  · unfold f_X12_comesTo_203
                    refine T_qg (i_sub rfl l_1 (by omega) (by omega)) (by omega) (by omega) ?_
                    refine T_qg rfl (by omega) (by omega) ?_
                    refine T_qc (t_X12_reckon hn xv3 (M 96 ((xv48 - (1 : Int32)).toNatClampNeg)) (M 96 xv48.toNatClampNeg) M hG (i_rng (lo := 2) (hi := 19) rfl (by omega) (by omega)) (by omega)) ?_
                    rintro rv52 mv53 ⟨gq54_, kq55_⟩
                    have hq56_ := kq55_.nil
                    subst hq56_
                    refine T_qg (i_sub rfl l_1 (by omega) (by omega)) (by omega) (by omega) ?_
                    refine T_mu hG hS (rn_96 _ _) (nw_96 _) (i := 0) rfl ⟨by decide, by decide, Or.inl rfl⟩ ?_
                    intro mv57 hq58_ gq59_ kq60_
                    have hq61_ : (mv57 96 ((xv48 - (1 : Int32)).toNatClampNeg)).toInt = rv52.toInt := by rw [hq58_, mu_at]
                    exact ih a2 xv48 a4 xv7 mv57 gq59_ kq60_ (i_rng (lo := 0) (hi := 250) rfl (by omega) (by omega)) (i_rng (lo := 0) (hi := 252) rfl (by omega) (by omega)) (i_rng (lo := 0) (hi := 0) rfl (by omega) (by omega)) (i_rng (lo := 0) (hi := 2000000) rfl (by omega) (by omega)) (by refine ⟨by omega, by omega, fun _ => ?_⟩; first | (rw [show (xv7).toInt.toNat = a5.toInt.toNat + 1 by omega]; omega) | (rw [show (xv7).toInt.toNat = ((M0 91 a5.toInt.toNat).toInt % 1048576).toNat by omega]; omega) | (rw [hD0]; decide)) (by omega)
                · refine T_eq rfl l_6 (fun hq62_ => ?_) (fun hq62_ => ?_)
                  · unfold f_X12_comesTo_192
                    refine T_qg rfl (by omega) (by omega) ?_
                    refine T_eq rfl l_0 (fun hq63_ => ?_) (fun hq63_ => ?_)
                    · exact T_ret ⟨hG, hS⟩
                    · unfold f_X12_comesTo_203
                      refine T_qg (i_sub rfl l_1 (by omega) (by omega)) (by omega) (by omega) ?_
                      refine T_qg rfl (by omega) (by omega) ?_
                      refine T_qc (t_X12_reckon hn xv3 (M 96 ((xv48 - (1 : Int32)).toNatClampNeg)) (M 96 xv48.toNatClampNeg) M hG (i_rng (lo := 2) (hi := 19) rfl (by omega) (by omega)) (by omega)) ?_
                      rintro rv64 mv65 ⟨gq66_, kq67_⟩
                      have hq68_ := kq67_.nil
                      subst hq68_
                      refine T_qg (i_sub rfl l_1 (by omega) (by omega)) (by omega) (by omega) ?_
                      refine T_mu hG hS (rn_96 _ _) (nw_96 _) (i := 0) rfl ⟨by decide, by decide, Or.inl rfl⟩ ?_
                      intro mv69 hq70_ gq71_ kq72_
                      have hq73_ : (mv69 96 ((xv48 - (1 : Int32)).toNatClampNeg)).toInt = rv64.toInt := by rw [hq70_, mu_at]
                      exact ih a2 xv48 a4 xv7 mv69 gq71_ kq72_ (i_rng (lo := 0) (hi := 250) rfl (by omega) (by omega)) (i_rng (lo := 0) (hi := 252) rfl (by omega) (by omega)) (i_rng (lo := 0) (hi := 0) rfl (by omega) (by omega)) (i_rng (lo := 0) (hi := 2000000) rfl (by omega) (by omega)) (by refine ⟨by omega, by omega, fun _ => ?_⟩; first | (rw [show (xv7).toInt.toNat = a5.toInt.toNat + 1 by omega]; omega) | (rw [show (xv7).toInt.toNat = ((M0 91 a5.toInt.toNat).toInt % 1048576).toNat by omega]; omega) | (rw [hD0]; decide)) (by omega)
                  · unfold f_X12_comesTo_203
                    refine T_qg (i_sub rfl l_1 (by omega) (by omega)) (by omega) (by omega) ?_
                    refine T_qg rfl (by omega) (by omega) ?_
                    refine T_qc (t_X12_reckon hn xv3 (M 96 ((xv48 - (1 : Int32)).toNatClampNeg)) (M 96 xv48.toNatClampNeg) M hG (i_rng (lo := 2) (hi := 19) rfl (by omega) (by omega)) (by omega)) ?_
                    rintro rv74 mv75 ⟨gq76_, kq77_⟩
                    have hq78_ := kq77_.nil
                    subst hq78_
                    refine T_qg (i_sub rfl l_1 (by omega) (by omega)) (by omega) (by omega) ?_
                    refine T_mu hG hS (rn_96 _ _) (nw_96 _) (i := 0) rfl ⟨by decide, by decide, Or.inl rfl⟩ ?_
                    intro mv79 hq80_ gq81_ kq82_
                    have hq83_ : (mv79 96 ((xv48 - (1 : Int32)).toNatClampNeg)).toInt = rv74.toInt := by rw [hq80_, mu_at]
                    exact ih a2 xv48 a4 xv7 mv79 gq81_ kq82_ (i_rng (lo := 0) (hi := 250) rfl (by omega) (by omega)) (i_rng (lo := 0) (hi := 252) rfl (by omega) (by omega)) (i_rng (lo := 0) (hi := 0) rfl (by omega) (by omega)) (i_rng (lo := 0) (hi := 2000000) rfl (by omega) (by omega)) (by refine ⟨by omega, by omega, fun _ => ?_⟩; first | (rw [show (xv7).toInt.toNat = a5.toInt.toNat + 1 by omega]; omega) | (rw [show (xv7).toInt.toNat = ((M0 91 a5.toInt.toNat).toInt % 1048576).toNat by omega]; omega) | (rw [hD0]; decide)) (by omega)
theorem t_X12_comesTo {n : Nat} (hn : 200000 ≤ n) (a1 a2 : Int32) (M : qM) (hG : G M) (pa1 : 0 ≤ a1.toInt ∧ a1.toInt ≤ 250) (pa2 : 0 ≤ a2.toInt ∧ a2.toInt ≤ 250) (pe : WFs (M 91) a1.toInt.toNat a2.toInt.toNat) : qT (f_X12_comesTo n a1 a2 M) (po_X12_comesTo a1 a2 M) := by
  have hS : Sm l_X12_comesTo M M := Sm.rf
  obtain ⟨D, hD0, hD⟩ := pe
  unfold f_X12_comesTo
  refine T_ql (i_mul l_260 (i_div rfl l_260 (by omega) (by omega)) (by omega) (by omega)) ?_
  intro xv84 hq85_
  exact (t_X12_comesTo_16 hn hD) n a2 (0 : Int32) xv84 a1 M hG hS (i_rng (lo := 0) (hi := 250) rfl (by omega) (by omega)) (i_rng (lo := 0) (hi := 252) l_0 (by omega) (by omega)) (i_rng (lo := 0) (hi := 0) rfl (by omega) (by omega)) (i_rng (lo := 0) (hi := 2000000) rfl (by omega) (by omega)) (by have e1 : ((0 : Int32)).toInt = _ := l_0; refine ⟨by omega, by omega, fun _ => ?_⟩; first | (rw [show (a1).toInt.toNat = a5.toInt.toNat + 1 by omega]; omega) | (rw [show (a1).toInt.toNat = ((M0 91 a5.toInt.toNat).toInt % 1048576).toNat by omega]; omega) | (rw [hD0]; decide)) (by have e1 : ((0 : Int32)).toInt = _ := l_0; omega)
