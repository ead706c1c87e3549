abbrev l_X11_rivals : List Bx := []
abbrev po_X11_rivals (a1 a2 a3 : Int32) (M : qM) (v : Int32) (M' : qM) : Prop := G M' ∧ Sm l_X11_rivals M M'
theorem t_X11_rivals_43 {n : Nat} (hn : 200000 ≤ n) {oa1 oa2 oa3 : Int32} {M0 : qM} : ∀ (m : Nat) (a1 a2 a3 a4 a5 a6 : Int32) (M : qM), G M → Sm l_X11_rivals M0 M → 0 ≤ a1.toInt ∧ a1.toInt ≤ 999 → 0 ≤ a2.toInt ∧ a2.toInt ≤ 999 → 0 ≤ a3.toInt ∧ a3.toInt ≤ 1 → (-2) ≤ a5.toInt ∧ a5.toInt ≤ 3 → (-1) ≤ a6.toInt ∧ a6.toInt ≤ 3 → a6.toInt - (-1) < (m : Int) → qT (f_X11_rivals_43 n m a1 a2 a3 a4 a5 a6 M) (po_X11_rivals oa1 oa2 oa3 M0) := by
  intro m
  induction m with
  | zero =>
    intro a1 a2 a3 a4 a5 a6 M hG hS i0 i1 i2 i3 i4 i7
    exfalso; omega
  | succ m ih =>
    intro a1 a2 a3 a4 a5 a6 M hG hS i0 i1 i2 i3 i4 i7
    show qT (b_X11_rivals_43 n (f_X11_rivals_43 n m) a1 a2 a3 a4 a5 a6 M) _
    unfold b_X11_rivals_43
    refine T_lt rfl l_0 (fun hq4_ => ?_) (fun hq4_ => ?_)
    · refine T_eq rfl l_0 (fun hq5_ => ?_) (fun hq5_ => ?_)
      · exact T_ret ⟨hG, hS⟩
      · exact T_ret ⟨hG, hS⟩
    · refine T_qc (t_X11_isSettled hn a6 a1 a2 M hG (i_rng (lo := 0) (hi := 3) rfl (by omega) (by omega)) (i_rng (lo := 0) (hi := 999) rfl (by omega) (by omega)) (i_rng (lo := 0) (hi := 999) rfl (by omega) (by omega))) ?_
      rintro rv6 mv7 ⟨hq8_, gq9_, kq10_⟩
      have hq11_ := kq10_.nil
      subst hq11_
      refine T_eq rfl l_0 (fun hq12_ => ?_) (fun hq12_ => ?_)
      · refine T_ql (i_add rfl l_m1 (by omega) (by omega)) ?_
        intro xv13 hq14_
        exact ih a1 a2 a3 a4 a5 xv13 M hG hS (i_rng (lo := 0) (hi := 999) rfl (by omega) (by omega)) (i_rng (lo := 0) (hi := 999) rfl (by omega) (by omega)) (i_rng (lo := 0) (hi := 1) rfl (by omega) (by omega)) (i_rng (lo := (-2)) (hi := 3) rfl (by omega) (by omega)) (i_rng (lo := (-1)) (hi := 3) rfl (by omega) (by omega)) (by omega)
      · have hq15_ := i_full (a4)
        refine T_ql rfl ?_
        intro xv16 hq17_
        refine T_ql (i_add rfl l_m1 (by omega) (by omega)) ?_
        intro xv18 hq19_
        exact ih a1 a2 a3 xv16 a6 xv18 M hG hS (i_rng (lo := 0) (hi := 999) rfl (by omega) (by omega)) (i_rng (lo := 0) (hi := 999) rfl (by omega) (by omega)) (i_rng (lo := 0) (hi := 1) rfl (by omega) (by omega)) (i_rng (lo := (-2)) (hi := 3) rfl (by omega) (by omega)) (i_rng (lo := (-1)) (hi := 3) rfl (by omega) (by omega)) (by omega)
theorem t_X11_rivals {n : Nat} (hn : 200000 ≤ n) (a1 a2 a3 : Int32) (M : qM) (hG : G M) : qT (f_X11_rivals n a1 a2 a3 M) (po_X11_rivals a1 a2 a3 M) := by
  have hS : Sm l_X11_rivals M M := Sm.rf
  unfold f_X11_rivals
  refine T_lt rfl l_0 (fun hq20_ => ?_) (fun hq20_ => ?_)
  · exact T_ret ⟨hG, hS⟩
  · refine T_lt l_999 rfl (fun hq21_ => ?_) (fun hq21_ => ?_)
    · exact T_ret ⟨hG, hS⟩
    · refine T_lt rfl l_0 (fun hq22_ => ?_) (fun hq22_ => ?_)
      · exact T_ret ⟨hG, hS⟩
      · refine T_lt l_999 rfl (fun hq23_ => ?_) (fun hq23_ => ?_)
        · exact T_ret ⟨hG, hS⟩
        · refine T_lt rfl l_0 (fun hq24_ => ?_) (fun hq24_ => ?_)
          · exact T_ret ⟨hG, hS⟩
          · refine T_le rfl l_1 (fun hq25_ => ?_) (fun hq25_ => ?_)
            · exact (t_X11_rivals_43 hn) n a1 a2 a3 (0 : Int32) (-2 : Int32) (3 : Int32) M hG hS (i_rng (lo := 0) (hi := 999) rfl (by omega) (by omega)) (i_rng (lo := 0) (hi := 999) rfl (by omega) (by omega)) (i_rng (lo := 0) (hi := 1) rfl (by omega) (by omega)) (i_rng (lo := (-2)) (hi := 3) l_m2 (by omega) (by omega)) (i_rng (lo := (-1)) (hi := 3) l_3 (by omega) (by omega)) (by have e3 : ((0 : Int32)).toInt = _ := l_0; have e4 : ((-2 : Int32)).toInt = _ := l_m2; have e5 : ((3 : Int32)).toInt = _ := l_3; omega)
            · exact T_ret ⟨hG, hS⟩
abbrev l_X12_gainOf : List Bx := []
abbrev po_X12_gainOf (a0 a1 a2 a3 : Int32) (M : qM) (v : Int32) (M' : qM) : Prop := ((-999) ≤ v.toInt ∧ v.toInt ≤ 999) ∧ G M' ∧ Sm l_X12_gainOf M M'
theorem t_X12_gainOf {n : Nat} (hn : 200000 ≤ n) (a0 a1 a2 a3 : Int32) (M : qM) (hG : G M) (pa1 : 0 ≤ a1.toInt ∧ a1.toInt ≤ 1) (pa2 : 0 ≤ a2.toInt ∧ a2.toInt ≤ 999) (pa3 : 0 ≤ a3.toInt ∧ a3.toInt ≤ 999) : qT (f_X12_gainOf n a0 a1 a2 a3 M) (po_X12_gainOf a0 a1 a2 a3 M) := by
  have hS : Sm l_X12_gainOf M M := Sm.rf
  unfold f_X12_gainOf
  refine T_qc (t_X12_has0 hn a0 a1 M hG (i_rng (lo := 0) (hi := 11) rfl (by omega) (by omega))) ?_
  rintro rv1 mv2 ⟨hq3_, hq4_, gq5_, kq6_⟩
  have hq7_ := kq6_.nil
  subst hq7_
  have hq10_ := (show ((1 : Int32) - a1).toInt = _ from (i_sub l_1 rfl (by omega) (by omega)))
  refine T_qc (t_X12_has0 hn a0 ((1 : Int32) - a1) M hG (i_rng (lo := 0) (hi := 11) (i_sub l_1 rfl (by omega) (by omega)) (by omega) (by omega))) ?_
  rintro rv8 mv9 ⟨hq11_, hq12_, gq13_, kq14_⟩
  have hq15_ := kq14_.nil
  subst hq15_
  refine T_eq rfl l_0 (fun hq16_ => ?_) (fun hq16_ => ?_)
  · refine T_eq rfl l_0 (fun hq17_ => ?_) (fun hq17_ => ?_)
    · exact T_ret ⟨(i_rng (lo := (-999)) (hi := 999) l_m1 (by omega) (by omega)), hG, hS⟩
    · exact T_ret ⟨(i_rng (lo := (-999)) (hi := 999) rfl (by omega) (by omega)), hG, hS⟩
  · refine T_eq rfl l_0 (fun hq18_ => ?_) (fun hq18_ => ?_)
    · exact T_ret ⟨(i_rng (lo := (-999)) (hi := 999) (i_neg rfl (by omega) (by omega)) (by omega) (by omega)), hG, hS⟩
    · exact T_ret ⟨(i_rng (lo := (-999)) (hi := 999) (i_neg (i_div rfl l_2 (by omega) (by omega)) (by omega) (by omega)) (by omega) (by omega)), hG, hS⟩
abbrev l_X12_rivals : List Bx := []
abbrev po_X12_rivals (a1 a2 a3 : Int32) (M : qM) (v : Int32) (M' : qM) : Prop := G M' ∧ Sm l_X12_rivals M M'
theorem t_X12_rivals_43 {n : Nat} (hn : 200000 ≤ n) {oa1 oa2 oa3 : Int32} {M0 : qM} : ∀ (m : Nat) (a1 a2 a3 a4 a5 a6 : Int32) (M : qM), G M → Sm l_X12_rivals M0 M → 0 ≤ a1.toInt ∧ a1.toInt ≤ 999 → 0 ≤ a2.toInt ∧ a2.toInt ≤ 999 → 0 ≤ a3.toInt ∧ a3.toInt ≤ 1 → (-2) ≤ a5.toInt ∧ a5.toInt ≤ 3 → 0 ≤ a6.toInt ∧ a6.toInt ≤ 4 → 4 - a6.toInt < (m : Int) → qT (f_X12_rivals_43 n m a1 a2 a3 a4 a5 a6 M) (po_X12_rivals oa1 oa2 oa3 M0) := by
  intro m
  induction m with
  | zero =>
    intro a1 a2 a3 a4 a5 a6 M hG hS i0 i1 i2 i3 i4 i7
    exfalso; omega
  | succ m ih =>
    intro a1 a2 a3 a4 a5 a6 M hG hS i0 i1 i2 i3 i4 i7
    show qT (b_X12_rivals_43 n (f_X12_rivals_43 n m) a1 a2 a3 a4 a5 a6 M) _
    unfold b_X12_rivals_43
    refine T_le l_4 rfl (fun hq7_ => ?_) (fun hq7_ => ?_)
    · refine T_eq rfl l_0 (fun hq8_ => ?_) (fun hq8_ => ?_)
      · exact T_ret ⟨hG, hS⟩
      · exact T_ret ⟨hG, hS⟩
    · refine T_qc (t_X12_gainOf hn (a6 ^^^ (1 : Int32)) (0 : Int32) a1 a2 M hG (i_rng (lo := 0) (hi := 1) l_0 (by omega) (by omega)) (i_rng (lo := 0) (hi := 999) rfl (by omega) (by omega)) (i_rng (lo := 0) (hi := 999) rfl (by omega) (by omega))) ?_
      rintro rv9 mv10 ⟨hq11_, gq12_, kq13_⟩
      have hq14_ := kq13_.nil
      subst hq14_
      refine T_qc (t_X12_gainOf hn a6 (0 : Int32) a1 a2 M hG (i_rng (lo := 0) (hi := 1) l_0 (by omega) (by omega)) (i_rng (lo := 0) (hi := 999) rfl (by omega) (by omega)) (i_rng (lo := 0) (hi := 999) rfl (by omega) (by omega))) ?_
      rintro rv15 mv16 ⟨hq17_, gq18_, kq19_⟩
      have hq20_ := kq19_.nil
      subst hq20_
      refine T_lt rfl rfl (fun hq21_ => ?_) (fun hq21_ => ?_)
      · refine T_ql (i_add rfl l_1 (by omega) (by omega)) ?_
        intro xv22 hq23_
        exact ih a1 a2 a3 a4 a5 xv22 M hG hS (i_rng (lo := 0) (hi := 999) rfl (by omega) (by omega)) (i_rng (lo := 0) (hi := 999) rfl (by omega) (by omega)) (i_rng (lo := 0) (hi := 1) rfl (by omega) (by omega)) (i_rng (lo := (-2)) (hi := 3) rfl (by omega) (by omega)) (i_rng (lo := 0) (hi := 4) rfl (by omega) (by omega)) (by omega)
      · refine T_qc (t_X12_gainOf hn (a6 ^^^ (2 : Int32)) (1 : Int32) a1 a2 M hG (i_rng (lo := 0) (hi := 1) l_1 (by omega) (by omega)) (i_rng (lo := 0) (hi := 999) rfl (by omega) (by omega)) (i_rng (lo := 0) (hi := 999) rfl (by omega) (by omega))) ?_
        rintro rv24 mv25 ⟨hq26_, gq27_, kq28_⟩
        have hq29_ := kq28_.nil
        subst hq29_
        refine T_qc (t_X12_gainOf hn a6 (1 : Int32) a1 a2 M hG (i_rng (lo := 0) (hi := 1) l_1 (by omega) (by omega)) (i_rng (lo := 0) (hi := 999) rfl (by omega) (by omega)) (i_rng (lo := 0) (hi := 999) rfl (by omega) (by omega))) ?_
        rintro rv30 mv31 ⟨hq32_, gq33_, kq34_⟩
        have hq35_ := kq34_.nil
        subst hq35_
        refine T_le rfl rfl (fun hq36_ => ?_) (fun hq36_ => ?_)
        · refine T_eq rfl l_0 (fun hq37_ => ?_) (fun hq37_ => ?_)
          · unfold f_X12_rivals_106
            refine T_ql (i_add rfl l_1 (by omega) (by omega)) ?_
            intro xv38 hq39_
            refine T_ql (i_add rfl l_1 (by omega) (by omega)) ?_
            intro xv40 hq41_
            exact ih a1 a2 a3 xv38 a6 xv40 M hG hS (i_rng (lo := 0) (hi := 999) rfl (by omega) (by omega)) (i_rng (lo := 0) (hi := 999) rfl (by omega) (by omega)) (i_rng (lo := 0) (hi := 1) rfl (by omega) (by omega)) (i_rng (lo := (-2)) (hi := 3) rfl (by omega) (by omega)) (i_rng (lo := 0) (hi := 4) rfl (by omega) (by omega)) (by omega)
          · unfold f_X12_rivals_106
            have hq42_ := i_full (a4)
            refine T_ql rfl ?_
            intro xv43 hq44_
            refine T_ql (i_add rfl l_1 (by omega) (by omega)) ?_
            intro xv45 hq46_
            exact ih a1 a2 a3 xv43 a5 xv45 M hG hS (i_rng (lo := 0) (hi := 999) rfl (by omega) (by omega)) (i_rng (lo := 0) (hi := 999) rfl (by omega) (by omega)) (i_rng (lo := 0) (hi := 1) rfl (by omega) (by omega)) (i_rng (lo := (-2)) (hi := 3) rfl (by omega) (by omega)) (i_rng (lo := 0) (hi := 4) rfl (by omega) (by omega)) (by omega)
        · refine T_ql (i_add rfl l_1 (by omega) (by omega)) ?_
          intro xv47 hq48_
          exact ih a1 a2 a3 a4 a5 xv47 M hG hS (i_rng (lo := 0) (hi := 999) rfl (by omega) (by omega)) (i_rng (lo := 0) (hi := 999) rfl (by omega) (by omega)) (i_rng (lo := 0) (hi := 1) rfl (by omega) (by omega)) (i_rng (lo := (-2)) (hi := 3) rfl (by omega) (by omega)) (i_rng (lo := 0) (hi := 4) rfl (by omega) (by omega)) (by omega)
theorem t_X12_rivals {n : Nat} (hn : 200000 ≤ n) (a1 a2 a3 : Int32) (M : qM) (hG : G M) : qT (f_X12_rivals n a1 a2 a3 M) (po_X12_rivals a1 a2 a3 M) := by
  have hS : Sm l_X12_rivals M M := Sm.rf
  unfold f_X12_rivals
  have hq51_ := (show ((0 : Int32)).toInt = _ from l_0)
  have hq52_ := (show ((999 : Int32)).toInt = _ from l_999)
  refine T_qc (t_X12_in hn a1 (0 : Int32) (999 : Int32) M hG (i_rng (lo := 0) (hi := 70) l_0 (by omega) (by omega)) (i_rng (lo := 0) (hi := 99999) l_999 (by omega) (by omega))) ?_
  rintro rv49 mv50 ⟨hq53_, hq54_, gq55_, kq56_⟩
  have hq57_ := kq56_.nil
  subst hq57_
  refine T_eq rfl l_0 (fun hq58_ => ?_) (fun hq58_ => ?_)
  · exact T_ret ⟨hG, hS⟩
  · refine T_qc (t_X12_in hn a2 (0 : Int32) (999 : Int32) M hG (i_rng (lo := 0) (hi := 70) l_0 (by omega) (by omega)) (i_rng (lo := 0) (hi := 99999) l_999 (by omega) (by omega))) ?_
    rintro rv59 mv60 ⟨hq61_, hq62_, gq63_, kq64_⟩
    have hq65_ := kq64_.nil
    subst hq65_
    refine T_eq rfl l_0 (fun hq66_ => ?_) (fun hq66_ => ?_)
    · exact T_ret ⟨hG, hS⟩
    · have hq69_ := (show ((1 : Int32)).toInt = _ from l_1)
      refine T_qc (t_X12_in hn a3 (0 : Int32) (1 : Int32) M hG (i_rng (lo := 0) (hi := 70) l_0 (by omega) (by omega)) (i_rng (lo := 0) (hi := 99999) l_1 (by omega) (by omega))) ?_
      rintro rv67 mv68 ⟨hq70_, hq71_, gq72_, kq73_⟩
      have hq74_ := kq73_.nil
      subst hq74_
      refine T_eq rfl l_0 (fun hq75_ => ?_) (fun hq75_ => ?_)
      · exact T_ret ⟨hG, hS⟩
      · exact (t_X12_rivals_43 hn) n a1 a2 a3 (0 : Int32) (-2 : Int32) (0 : Int32) M hG hS (i_rng (lo := 0) (hi := 999) rfl (by omega) (by omega)) (i_rng (lo := 0) (hi := 999) rfl (by omega) (by omega)) (i_rng (lo := 0) (hi := 1) rfl (by omega) (by omega)) (i_rng (lo := (-2)) (hi := 3) l_m2 (by omega) (by omega)) (i_rng (lo := 0) (hi := 4) l_0 (by omega) (by omega)) (by have e3 : ((0 : Int32)).toInt = _ := l_0; have e4 : ((-2 : Int32)).toInt = _ := l_m2; have e5 : ((0 : Int32)).toInt = _ := l_0; omega)
abbrev l_X8_read : List Bx := [(70, 71, 8, 10), (71, 72, 0, 0), (73, 75, 0, 0)]
abbrev po_X8_read (a2 a3 : Int32) (M : qM) (v : Int32) (M' : qM) : Prop := (0 ≤ v.toInt ∧ v.toInt ≤ 1) ∧ (v.toInt = 0 ∨ KS  M') ∧ G M' ∧ Sm l_X8_read M M'
theorem t_X8_read_105 {n : Nat} (hn : 200000 ≤ n) {oa2 oa3 : Int32} {M0 : qM} : ∀ (m : Nat) (a5 : Int32) (M : qM), G M → Sm l_X8_read M0 M → 0 ≤ a5.toInt ∧ a5.toInt ≤ 10 → ((∀ i : Nat, (i : Int) < (M 70 8).toInt → 0 ≤ (M 71 i).toInt ∧ (M 71 i).toInt ≤ 11) ∧ ∀ i : Nat, (i : Int) < a5.toInt → 0 ≤ (M 73 i).toInt ∧ (M 73 i).toInt ≤ (M 70 8).toInt - 1) → 10 - a5.toInt < (m : Int) → qT (f_X8_read_105 n m a5 M) (po_X8_read oa2 oa3 M0) := by
  intro m
  induction m with
  | zero =>
    intro a5 M hG hS i0 hE i4
    have hq2_ := r_70_8 hG
    have hq3_ := r_70_9 hG
    exfalso; omega
  | succ m ih =>
    intro a5 M hG hS i0 hE i4
    show qT (b_X8_read_105 n (f_X8_read_105 n m) a5 M) _
    unfold b_X8_read_105
    have hq2_ := r_70_8 hG
    have hq3_ := r_70_9 hG
    refine T_le rfl rfl (fun hq4_ => ?_) (fun hq4_ => ?_)
    · exact T_ret ⟨(i_rng (lo := 0) (hi := 1) l_1 (by omega) (by omega)), (Or.inr ⟨hE.1, fun i hi => hE.2 i (by omega)⟩), hG, hS⟩
    · refine T_qc (t_X9_at hn ((M 70 8) + ((2 : Int32) * a5)) M hG (i_rng (lo := 0) (hi := 47) (i_add rfl (i_mul l_2 rfl (by omega) (by omega)) (by omega) (by omega)) (by omega) (by omega))) ?_
      rintro rv5 mv6 ⟨hq7_, gq8_, kq9_⟩
      have hq10_ := kq9_.nil
      subst hq10_
      refine T_qg rfl (by omega) (by omega) ?_
      refine T_mu hG hS (i_rng (lo := (-1)) (hi := 255) rfl (by omega) (by omega)) (nw_73 _) (i := 2) rfl ⟨by decide, by decide, Or.inl rfl⟩ ?_
      intro mv11 hq12_ gq13_ kq14_
      have hq15_ : (mv11 70 8).toInt = (M 70 8).toInt := by rw [hq12_, mu_ne (Or.inl (by decide))]
      have hq16_ : (mv11 70 9).toInt = (M 70 9).toInt := by rw [hq12_, mu_ne (Or.inl (by decide))]
      have hq17_ : (mv11 73 a5.toNatClampNeg).toInt = rv5.toInt := by rw [hq12_, mu_at]
      have hq20_ := r_70_8 gq13_
      refine T_qc (t_X9_at hn (((mv11 70 8) + ((2 : Int32) * a5)) + (1 : Int32)) mv11 gq13_ (i_rng (lo := 0) (hi := 47) (i_add (i_add rfl (i_mul l_2 rfl (by omega) (by omega)) (by omega) (by omega)) l_1 (by omega) (by omega)) (by omega) (by omega))) ?_
      rintro rv18 mv19 ⟨hq21_, gq22_, kq23_⟩
      have hq24_ := kq23_.nil
      subst hq24_
      refine T_qg rfl (by omega) (by omega) ?_
      refine T_mu gq13_ kq14_ (rn_74 _ _) (nw_74 _) (i := 2) rfl ⟨by decide, by decide, Or.inl rfl⟩ ?_
      intro mv25 hq26_ gq27_ kq28_
      have hq29_ : (mv25 70 8).toInt = (mv11 70 8).toInt := by rw [hq26_, mu_ne (Or.inl (by decide))]
      have hq30_ : (mv25 70 9).toInt = (mv11 70 9).toInt := by rw [hq26_, mu_ne (Or.inl (by decide))]
      have hq31_ : (mv25 73 a5.toNatClampNeg).toInt = (mv11 73 a5.toNatClampNeg).toInt := by rw [hq26_, mu_ne (Or.inl (by decide))]
      have hq32_ : (mv25 74 a5.toNatClampNeg).toInt = rv18.toInt := by rw [hq26_, mu_at]
      refine T_qg rfl (by omega) (by omega) ?_
      have hq33_ := r_73 gq27_ a5.toNatClampNeg
      refine T_lt rfl l_0 (fun hq34_ => ?_) (fun hq34_ => ?_)
      · exact T_ret ⟨(i_rng (lo := 0) (hi := 1) l_0 (by omega) (by omega)), (Or.inl (by first | exact l_0 | omega)), gq27_, kq28_⟩
      · refine T_qg rfl (by omega) (by omega) ?_
        have hq35_ := r_70_8 gq27_
        refine T_le rfl rfl (fun hq36_ => ?_) (fun hq36_ => ?_)
        · exact T_ret ⟨(i_rng (lo := 0) (hi := 1) l_0 (by omega) (by omega)), (Or.inl (by first | exact l_0 | omega)), gq27_, kq28_⟩
        · refine T_qg rfl (by omega) (by omega) ?_
          refine T_lt rfl l_0 (fun hq37_ => ?_) (fun hq37_ => ?_)
          · exact T_ret ⟨(i_rng (lo := 0) (hi := 1) l_0 (by omega) (by omega)), (Or.inl (by first | exact l_0 | omega)), gq27_, kq28_⟩
          · refine T_qg rfl (by omega) (by omega) ?_
            refine T_le rfl l_1 (fun hq38_ => ?_) (fun hq38_ => ?_)
            · refine T_ql (i_add rfl l_1 (by omega) (by omega)) ?_
              intro xv39 hq40_
              have hq41_ := r_70_9 gq27_
              exact ih xv39 mv25 gq27_ kq28_ (i_rng (lo := 0) (hi := 10) rfl (by omega) (by omega)) (by first | exact ⟨fun i hi => hE i (by omega), fun i hi => absurd hi (by omega)⟩ | exact ⟨fun i hi => by have e_ : mv25 71 i = M 71 i := (by rw [hq26_, mu_ne (Or.inl (by decide))]; rw [hq12_, mu_ne (Or.inl (by decide))]); rw [e_]; exact hE.1 i (by omega), kAll_step (M := M) (a := a5) (fun s_ hs_ => by rw [hq26_, mu_ne (Or.inl (by decide))]; rw [hq12_, mu_ne (Or.inr hs_)]) (fun i hi => by have := hE.2 i hi; omega) (by omega) (by omega) (by omega) (by omega)⟩) (by omega)
            · exact T_ret ⟨(i_rng (lo := 0) (hi := 1) l_0 (by omega) (by omega)), (Or.inl (by first | exact l_0 | omega)), gq27_, kq28_⟩
theorem t_X8_read_25 {n : Nat} (hn : 200000 ≤ n) {oa2 oa3 : Int32} {M0 : qM} : ∀ (m : Nat) (a4 a5 : Int32) (M : qM), G M → Sm l_X8_read M0 M → 0 ≤ a5.toInt ∧ a5.toInt ≤ 4 → (∀ i : Nat, (i : Int) < a5.toInt → 0 ≤ (M 71 i).toInt ∧ (M 71 i).toInt ≤ 11) → 4 - a5.toInt < (m : Int) → qT (f_X8_read_25 n m a4 a5 M) (po_X8_read oa2 oa3 M0) := by
  intro m
  induction m with
  | zero =>
    intro a4 a5 M hG hS i0 hE i4
    have hq44_ := r_70_8 hG
    exfalso; omega
  | succ m ih =>
    intro a4 a5 M hG hS i0 hE i4
    show qT (b_X8_read_25 n (f_X8_read_25 n m) a4 a5 M) _
    unfold b_X8_read_25
    have hq44_ := r_70_8 hG
    refine T_le rfl rfl (fun hq45_ => ?_) (fun hq45_ => ?_)
    · have hq46_ := r_70_9 hG
      exact (t_X8_read_105 hn) n (0 : Int32) M hG hS (i_rng (lo := 0) (hi := 10) l_0 (by omega) (by omega)) (by have e0 : ((0 : Int32)).toInt = _ := l_0; first | exact ⟨fun i hi => hE i (by omega), fun i hi => absurd hi (by omega)⟩ | exact ⟨fun i hi => by have e_ : M 71 i = M 71 i := (by rfl); rw [e_]; exact hE.1 i (by omega), kAll_step (M := M) (a := a5) (fun s_ hs_ => by rfl) (fun i hi => by have := hE.2 i hi; omega) (by omega) (by omega) (by omega) (by omega)⟩) (by have e0 : ((0 : Int32)).toInt = _ := l_0; omega)
    · refine T_qc (t_X9_at hn a5 M hG (i_rng (lo := 0) (hi := 47) rfl (by omega) (by omega))) ?_
      rintro rv47 mv48 ⟨hq49_, gq50_, kq51_⟩
      have hq52_ := kq51_.nil
      subst hq52_
      refine T_qg rfl (by omega) (by omega) ?_
      refine T_mu hG hS (i_rng (lo := (-1)) (hi := 255) rfl (by omega) (by omega)) (nw_71 _) (i := 1) rfl ⟨by decide, by decide, Or.inl rfl⟩ ?_
      intro mv53 hq54_ gq55_ kq56_
      have hq57_ : (mv53 70 8).toInt = (M 70 8).toInt := by rw [hq54_, mu_ne (Or.inl (by decide))]
      have hq58_ : (mv53 71 a5.toNatClampNeg).toInt = rv47.toInt := by rw [hq54_, mu_at]
      refine T_qg rfl (by omega) (by omega) ?_
      have hq61_ := r_71 gq55_ a5.toNatClampNeg
      refine T_qc (t_X2_knows hn (mv53 71 a5.toNatClampNeg) mv53 gq55_ ) ?_
      rintro rv59 mv60 ⟨hq62_, hq63_, gq64_, kq65_⟩
      have hq66_ := kq65_.nil
      subst hq66_
      refine T_eq rfl l_0 (fun hq67_ => ?_) (fun hq67_ => ?_)
      · exact T_ret ⟨(i_rng (lo := 0) (hi := 1) l_0 (by omega) (by omega)), (Or.inl (by first | exact l_0 | omega)), gq55_, kq56_⟩
      · refine T_qg rfl (by omega) (by omega) ?_
        have hq68_ := i_and (a := a4 >>> ((mv53 71 a5.toNatClampNeg) &&& 31)) (b := (1 : Int32)) l_1 (by omega)
        refine T_eq rfl l_1 (fun hq69_ => ?_) (fun hq69_ => ?_)
        · exact T_ret ⟨(i_rng (lo := 0) (hi := 1) l_0 (by omega) (by omega)), (Or.inl (by first | exact l_0 | omega)), gq55_, kq56_⟩
        · refine T_qg rfl (by omega) (by omega) ?_
          have hq70_ := i_shl1 (c := 11) (k := mv53 71 a5.toNatClampNeg) (by decide) rfl (by omega) (by omega)
          refine T_ql rfl ?_
          intro xv71 hq72_
          refine T_ql (i_add rfl l_1 (by omega) (by omega)) ?_
          intro xv73 hq74_
          have hq75_ := r_70_8 gq55_
          exact ih xv71 xv73 mv53 gq55_ kq56_ (i_rng (lo := 0) (hi := 4) rfl (by omega) (by omega)) (by first | exact (fun i hi => absurd hi (by omega)) | exact kAll_step (M := M) (a := a5) (fun s_ hs_ => by rw [hq54_, mu_ne (Or.inr hs_)]) hE (by omega) (by omega) (by omega) (by omega)) (by omega)
theorem t_X8_read {n : Nat} (hn : 200000 ≤ n) (a2 a3 : Int32) (M : qM) (hG : G M) (pa2 : 1 ≤ a2.toInt ∧ a2.toInt ≤ 4) (pa3 : 0 ≤ a3.toInt ∧ a3.toInt ≤ 10) : qT (f_X8_read n a2 a3 M) (po_X8_read a2 a3 M) := by
  have hS : Sm l_X8_read M M := Sm.rf
  unfold f_X8_read
  have hq77_ := i_min (a := a2) (b := (4 : Int32)) rfl l_4
  refine T_mu hG hS (i_rng (lo := 0) (hi := 4) rfl (by omega) (by omega)) (nw_70 _) (i := 0) rfl ⟨by decide, by decide, Or.inr ⟨by decide, by decide⟩⟩ ?_
  intro mv76 hq78_ gq79_ kq80_
  have hq81_ : (mv76 70 8).toInt = (qmin a2 (4 : Int32)).toInt := by rw [hq78_, mu_at]
  have hq83_ := i_min (a := a3) (b := (10 : Int32)) rfl l_10
  refine T_mu gq79_ kq80_ (i_rng (lo := 0) (hi := 10) rfl (by omega) (by omega)) (nw_70 _) (i := 0) rfl ⟨by decide, by decide, Or.inr ⟨by decide, by decide⟩⟩ ?_
  intro mv82 hq84_ gq85_ kq86_
  have hq87_ : (mv82 70 8).toInt = (mv76 70 8).toInt := by rw [hq84_, mu_ne (Or.inr (by decide))]
  have hq88_ : (mv82 70 9).toInt = (qmin a3 (10 : Int32)).toInt := by rw [hq84_, mu_at]
  have hq89_ := r_70_8 gq85_
  exact (t_X8_read_25 hn) n (0 : Int32) (0 : Int32) mv82 gq85_ kq86_ (i_rng (lo := 0) (hi := 4) l_0 (by omega) (by omega)) (by have e0 : ((0 : Int32)).toInt = _ := l_0; have e1 : ((0 : Int32)).toInt = _ := l_0; first | exact (fun i hi => absurd hi (by omega)) | exact kAll_step (M := M) (a := a5) (fun s_ hs_ => by rw [hq84_, mu_ne (Or.inl (by decide))]; rw [hq78_, mu_ne (Or.inl (by decide))]) hE (by omega) (by omega) (by omega) (by omega)) (by have e0 : ((0 : Int32)).toInt = _ := l_0; have e1 : ((0 : Int32)).toInt = _ := l_0; omega)
abbrev l_J7_fill_53178_c76_4 : List Bx := [(76, 77, 0, 0)]
abbrev po_J7_fill_53178_c76_4 (a1 : Int32) (M : qM) (v : Int32) (M' : qM) : Prop := (0 ≤ v.toInt ∧ v.toInt ≤ 0) ∧ G M' ∧ Sm l_J7_fill_53178_c76_4 M M'
theorem t_J7_fill_53178_c76_4_5 {n : Nat} (hn : 200000 ≤ n) {oa1 : Int32} {M0 : qM} : ∀ (m : Nat) (a1 a2 a3 : Int32) (M : qM), G M → Sm l_J7_fill_53178_c76_4 M0 M → 0 ≤ a1.toInt ∧ a1.toInt ≤ 0 → 0 ≤ a2.toInt ∧ a2.toInt ≤ 4 → 4 ≤ a3.toInt ∧ a3.toInt ≤ 4 → 4 - a2.toInt < (m : Int) → qT (f_J7_fill_53178_5 n 76 4 m a1 a2 a3 M) (po_J7_fill_53178_c76_4 oa1 M0) := by
  intro m
  induction m with
  | zero =>
    intro a1 a2 a3 M hG hS i0 i1 i2 i5
    exfalso; omega
  | succ m ih =>
    intro a1 a2 a3 M hG hS i0 i1 i2 i5
    show qT (b_J7_fill_53178_5 n 76 4 (f_J7_fill_53178_5 n 76 4 m) a1 a2 a3 M) _
    unfold b_J7_fill_53178_5
    try simp only [Nat.reduceAdd]
    refine T_le rfl rfl (fun hq2_ => ?_) (fun hq2_ => ?_)
    · exact T_ret ⟨(i_rng (lo := 0) (hi := 0) l_0 (by omega) (by omega)), hG, hS⟩
    · refine T_qg rfl (by omega) (by omega) ?_
      refine T_mu hG hS (rn_76 _ _) (nw_76 _) (i := 0) rfl ⟨by decide, by decide, Or.inl rfl⟩ ?_
      intro mv3 hq4_ gq5_ kq6_
      have hq7_ : (mv3 76 a2.toNatClampNeg).toInt = a1.toInt := by rw [hq4_, mu_at]
      refine T_ql (i_add rfl l_1 (by omega) (by omega)) ?_
      intro xv8 hq9_
      exact ih a1 xv8 a3 mv3 gq5_ kq6_ (i_rng (lo := 0) (hi := 0) rfl (by omega) (by omega)) (i_rng (lo := 0) (hi := 4) rfl (by omega) (by omega)) (i_rng (lo := 4) (hi := 4) rfl (by omega) (by omega)) (by omega)
theorem t_J7_fill_53178_c76_4 {n : Nat} (hn : 200000 ≤ n) (a1 : Int32) (M : qM) (hG : G M) (pa1 : 0 ≤ a1.toInt ∧ a1.toInt ≤ 0) : qT (f_J7_fill_53178 n 76 4 a1 M) (po_J7_fill_53178_c76_4 a1 M) := by
  have hS : Sm l_J7_fill_53178_c76_4 M M := Sm.rf
  unfold f_J7_fill_53178
  try simp only [Nat.reduceAdd]
  refine T_ql (show (Int32.ofNat 4).toInt = 4 from by decide) ?_
  intro xv10 hq11_
  exact (t_J7_fill_53178_c76_4_5 hn) n a1 (0 : Int32) xv10 M hG hS (i_rng (lo := 0) (hi := 0) rfl (by omega) (by omega)) (i_rng (lo := 0) (hi := 4) l_0 (by omega) (by omega)) (i_rng (lo := 4) (hi := 4) rfl (by omega) (by omega)) (by have e1 : ((0 : Int32)).toInt = _ := l_0; omega)
abbrev l_X8_old : List Bx := []
abbrev po_X8_old (a1 : Int32) (M : qM) (v : Int32) (M' : qM) : Prop := G M' ∧ Sm l_X8_old M M'
theorem t_X8_old_4 {n : Nat} (hn : 200000 ≤ n) {oa1 : Int32} {M0 : qM} : ∀ (m : Nat) (a1 a2 a3 : Int32) (M : qM), G M → Sm l_X8_old M0 M → 0 ≤ a1.toInt ∧ a1.toInt ≤ 3 → 0 ≤ a3.toInt ∧ a3.toInt ≤ 4 → 4 - a3.toInt < (m : Int) → qT (f_X8_old_4 n m a1 a2 a3 M) (po_X8_old oa1 M0) := by
  intro m
  induction m with
  | zero =>
    intro a1 a2 a3 M hG hS i0 i1 i4
    exfalso; omega
  | succ m ih =>
    intro a1 a2 a3 M hG hS i0 i1 i4
    show qT (b_X8_old_4 n (f_X8_old_4 n m) a1 a2 a3 M) _
    unfold b_X8_old_4
    have hq5_ := r_70_8 hG
    refine T_le rfl rfl (fun hq6_ => ?_) (fun hq6_ => ?_)
    · exact T_ret ⟨hG, hS⟩
    · refine T_qg rfl (by omega) (by omega) ?_
      refine T_qg rfl (by omega) (by omega) ?_
      have hq7_ := i_and (a := (M 72 a1.toNatClampNeg) >>> ((M 71 a3.toNatClampNeg) &&& 31)) (b := (1 : Int32)) l_1 (by omega)
      refine T_eq rfl l_1 (fun hq8_ => ?_) (fun hq8_ => ?_)
      · refine T_qg rfl (by omega) (by omega) ?_
        unfold f_X8_old_42
        have hq9_ := i_full (a2)
        have hq10_ := i_full (M 75 a3.toNatClampNeg)
        refine T_ql rfl ?_
        intro xv11 hq12_
        refine T_ql (i_add rfl l_1 (by omega) (by omega)) ?_
        intro xv13 hq14_
        exact ih a1 xv11 xv13 M hG hS (i_rng (lo := 0) (hi := 3) rfl (by omega) (by omega)) (i_rng (lo := 0) (hi := 4) rfl (by omega) (by omega)) (by omega)
      · unfold f_X8_old_42
        have hq15_ := i_full (a2)
        refine T_ql (i_add rfl l_0 (by omega) (by omega)) ?_
        intro xv16 hq17_
        refine T_ql (i_add rfl l_1 (by omega) (by omega)) ?_
        intro xv18 hq19_
        exact ih a1 xv16 xv18 M hG hS (i_rng (lo := 0) (hi := 3) rfl (by omega) (by omega)) (i_rng (lo := 0) (hi := 4) rfl (by omega) (by omega)) (by omega)
theorem t_X8_old {n : Nat} (hn : 200000 ≤ n) (a1 : Int32) (M : qM) (hG : G M) (pa1 : 0 ≤ a1.toInt ∧ a1.toInt ≤ 3) : qT (f_X8_old n a1 M) (po_X8_old a1 M) := by
  have hS : Sm l_X8_old M M := Sm.rf
  unfold f_X8_old
  exact (t_X8_old_4 hn) n a1 (0 : Int32) (0 : Int32) M hG hS (i_rng (lo := 0) (hi := 3) rfl (by omega) (by omega)) (i_rng (lo := 0) (hi := 4) l_0 (by omega) (by omega)) (by have e1 : ((0 : Int32)).toInt = _ := l_0; have e2 : ((0 : Int32)).toInt = _ := l_0; omega)
