abbrev l_X12_longestBy : List Bx := [(96, 98, 0, 0), (114, 116, 0, 0)]
abbrev po_X12_longestBy (a1 : Int32) (M : qM) (v : Int32) (M' : qM) : Prop := G M' ∧ Sm l_X12_longestBy M M'
theorem t_X12_longestBy_4 {n : Nat} (hn : 200000 ≤ n) {oa1 : Int32} {M0 : qM} : ∀ (m : Nat) (a1 a2 a3 : Int32) (M : qM), G M → Sm l_X12_longestBy M0 M → 0 ≤ a1.toInt ∧ a1.toInt ≤ 6560 → 0 ≤ a3.toInt ∧ a3.toInt ≤ 3 → 1 ≤ (M 77 60).toInt → 3 - a3.toInt < (m : Int) → qT (f_X12_longestBy_4 n m a1 a2 a3 M) (po_X12_longestBy oa1 M0) := by
  intro m
  induction m with
  | zero =>
    intro a1 a2 a3 M hG hS i0 i1 i2 i3
    have hq2_ := r_77_60 hG
    exfalso; omega
  | succ m ih =>
    intro a1 a2 a3 M hG hS i0 i1 i2 i3
    show qT (b_X12_longestBy_4 n (f_X12_longestBy_4 n m) a1 a2 a3 M) _
    unfold b_X12_longestBy_4
    have hq2_ := r_77_60 hG
    refine T_le rfl rfl (fun hq3_ => ?_) (fun hq3_ => ?_)
    · exact T_ret ⟨hG, hS⟩
    · refine T_qc (t_X12_hoursBy hn a3 a1 M hG (i_rng (lo := 0) (hi := 2) rfl (by omega) (by omega)) (i_rng (lo := 0) (hi := 6560) rfl (by omega) (by omega)) (by omega)) ?_
      rintro rv4 mv5 ⟨gq6_, kq7_⟩
      have kq8_ := Sm.call hS kq7_ rfl
      have hq9_ : (mv5 77 60).toInt = (M 77 60).toInt := by rw [kq7_ 77 60 (by decide)]
      refine T_qc (t_X12_max hn a2 rv4 mv5 gq6_ ) ?_
      rintro rv10 mv11 ⟨gq12_, kq13_⟩
      have hq14_ := kq13_.nil
      subst hq14_
      refine T_ql (i_add rfl l_1 (by omega) (by omega)) ?_
      intro xv15 hq16_
      have hq17_ := r_77_60 gq6_
      exact ih a1 rv10 xv15 mv5 gq6_ kq8_ (i_rng (lo := 0) (hi := 6560) rfl (by omega) (by omega)) (i_rng (lo := 0) (hi := 3) rfl (by omega) (by omega)) (by omega) (by omega)
theorem t_X12_longestBy {n : Nat} (hn : 200000 ≤ n) (a1 : Int32) (M : qM) (hG : G M) (pa1 : 0 ≤ a1.toInt ∧ a1.toInt ≤ 6560) (pe : 1 ≤ (M 77 60).toInt) : qT (f_X12_longestBy n a1 M) (po_X12_longestBy a1 M) := by
  have hS : Sm l_X12_longestBy M M := Sm.rf
  unfold f_X12_longestBy
  have hq18_ := r_77_60 hG
  exact (t_X12_longestBy_4 hn) n a1 (0 : Int32) (0 : Int32) M hG hS (i_rng (lo := 0) (hi := 6560) rfl (by omega) (by omega)) (i_rng (lo := 0) (hi := 3) l_0 (by omega) (by omega)) (by have e1 : ((0 : Int32)).toInt = _ := l_0; have e2 : ((0 : Int32)).toInt = _ := l_0; omega) (by have e1 : ((0 : Int32)).toInt = _ := l_0; have e2 : ((0 : Int32)).toInt = _ := l_0; omega)
abbrev l_X12_jobs : List Bx := [(77, 78, 8, 9), (77, 78, 59, 61), (96, 98, 0, 0), (111, 116, 0, 0)]
abbrev po_X12_jobs (a1 a2 a3 : Int32) (M : qM) (v : Int32) (M' : qM) : Prop := ((-2147483648) ≤ v.toInt ∧ v.toInt ≤ 1000000000) ∧ G M' ∧ Sm l_X12_jobs M M'
theorem t_X12_jobs {n : Nat} (hn : 200000 ≤ n) (a1 a2 a3 : Int32) (M : qM) (hG : G M) : qT (f_X12_jobs n a1 a2 a3 M) (po_X12_jobs a1 a2 a3 M) := by
  sorry
abbrev l_X11_pence : List Bx := []
abbrev po_X11_pence (a0 a1 a2 a3 : Int32) (M : qM) (v : Int32) (M' : qM) : Prop := ((-999) ≤ v.toInt ∧ v.toInt ≤ 999) ∧ G M' ∧ Sm l_X11_pence M M'
theorem t_X11_pence {n : Nat} (hn : 200000 ≤ n) (a0 a1 a2 a3 : Int32) (M : qM) (hG : G M) (pa0 : 0 ≤ a0.toInt ∧ a0.toInt ≤ 1) (pa1 : 0 ≤ a1.toInt ∧ a1.toInt ≤ 1) (pa2 : 0 ≤ a2.toInt ∧ a2.toInt ≤ 999) (pa3 : 0 ≤ a3.toInt ∧ a3.toInt ≤ 999) : qT (f_X11_pence n a0 a1 a2 a3 M) (po_X11_pence a0 a1 a2 a3 M) := by
  have hS : Sm l_X11_pence M M := Sm.rf
  unfold f_X11_pence
  refine T_eq rfl l_1 (fun hq1_ => ?_) (fun hq1_ => ?_)
  · refine T_eq rfl l_1 (fun hq2_ => ?_) (fun hq2_ => ?_)
    · exact T_ret ⟨(i_rng (lo := (-999)) (hi := 999) (i_neg (i_div rfl l_2 (by omega) (by omega)) (by omega) (by omega)) (by omega) (by omega)), hG, hS⟩
    · exact T_ret ⟨(i_rng (lo := (-999)) (hi := 999) (i_neg rfl (by omega) (by omega)) (by omega) (by omega)), hG, hS⟩
  · refine T_eq rfl l_1 (fun hq3_ => ?_) (fun hq3_ => ?_)
    · exact T_ret ⟨(i_rng (lo := (-999)) (hi := 999) rfl (by omega) (by omega)), hG, hS⟩
    · exact T_ret ⟨(i_rng (lo := (-999)) (hi := 999) l_m1 (by omega) (by omega)), hG, hS⟩
abbrev l_X11_isSettled : List Bx := []
abbrev po_X11_isSettled (a0 a1 a2 : Int32) (M : qM) (v : Int32) (M' : qM) : Prop := (0 ≤ v.toInt ∧ v.toInt ≤ 1) ∧ G M' ∧ Sm l_X11_isSettled M M'
theorem t_X11_isSettled {n : Nat} (hn : 200000 ≤ n) (a0 a1 a2 : Int32) (M : qM) (hG : G M) (pa0 : 0 ≤ a0.toInt ∧ a0.toInt ≤ 3) (pa1 : 0 ≤ a1.toInt ∧ a1.toInt ≤ 999) (pa2 : 0 ≤ a2.toInt ∧ a2.toInt ≤ 999) : qT (f_X11_isSettled n a0 a1 a2 M) (po_X11_isSettled a0 a1 a2 M) := by
  sorry
abbrev l_X11_rivals : List Bx := []
abbrev po_X11_rivals (a1 a2 a3 : Int32) (M : qM) (v : Int32) (M' : qM) : Prop := G M' ∧ Sm l_X11_rivals M M'
theorem t_X11_rivals_43 {n : Nat} (hn : 200000 ≤ n) {oa1 oa2 oa3 : Int32} {M0 : qM} : ∀ (m : Nat) (a1 a2 a3 a4 a5 a6 : Int32) (M : qM), G M → Sm l_X11_rivals M0 M → 0 ≤ a1.toInt ∧ a1.toInt ≤ 999 → 0 ≤ a2.toInt ∧ a2.toInt ≤ 999 → 0 ≤ a3.toInt ∧ a3.toInt ≤ 1 → (-2) ≤ a5.toInt ∧ a5.toInt ≤ 3 → (-1) ≤ a6.toInt ∧ a6.toInt ≤ 3 → a6.toInt - (-1) < (m : Int) → qT (f_X11_rivals_43 n m a1 a2 a3 a4 a5 a6 M) (po_X11_rivals oa1 oa2 oa3 M0) := by
  intro m
  induction m with
  | zero =>
    intro a1 a2 a3 a4 a5 a6 M hG hS i0 i1 i2 i3 i4 i5
    exfalso; omega
  | succ m ih =>
    intro a1 a2 a3 a4 a5 a6 M hG hS i0 i1 i2 i3 i4 i5
    show qT (b_X11_rivals_43 n (f_X11_rivals_43 n m) a1 a2 a3 a4 a5 a6 M) _
    unfold b_X11_rivals_43
    refine T_lt rfl l_0 (fun hq4_ => ?_) (fun hq4_ => ?_)
    · refine T_eq rfl l_0 (fun hq5_ => ?_) (fun hq5_ => ?_)
      · exact T_ret ⟨hG, hS⟩
      · exact T_ret ⟨hG, hS⟩
    · refine T_qc (t_X11_isSettled hn a6 a1 a2 M hG (i_rng (lo := 0) (hi := 3) rfl (by omega) (by omega)) (i_rng (lo := 0) (hi := 999) rfl (by omega) (by omega)) (i_rng (lo := 0) (hi := 999) rfl (by omega) (by omega))) ?_
      rintro rv6 mv7 ⟨hq8_, gq9_, kq10_⟩
      have hq11_ := kq10_.nil
      subst hq11_
      refine T_eq rfl l_0 (fun hq12_ => ?_) (fun hq12_ => ?_)
      · refine T_ql (i_add rfl l_m1 (by omega) (by omega)) ?_
        intro xv13 hq14_
        exact ih a1 a2 a3 a4 a5 xv13 M hG hS (i_rng (lo := 0) (hi := 999) rfl (by omega) (by omega)) (i_rng (lo := 0) (hi := 999) rfl (by omega) (by omega)) (i_rng (lo := 0) (hi := 1) rfl (by omega) (by omega)) (i_rng (lo := (-2)) (hi := 3) rfl (by omega) (by omega)) (i_rng (lo := (-1)) (hi := 3) rfl (by omega) (by omega)) (by omega)
      · have hq15_ := i_full (a4)
        refine T_ql rfl ?_
        intro xv16 hq17_
        refine T_ql (i_add rfl l_m1 (by omega) (by omega)) ?_
        intro xv18 hq19_
        exact ih a1 a2 a3 xv16 a6 xv18 M hG hS (i_rng (lo := 0) (hi := 999) rfl (by omega) (by omega)) (i_rng (lo := 0) (hi := 999) rfl (by omega) (by omega)) (i_rng (lo := 0) (hi := 1) rfl (by omega) (by omega)) (i_rng (lo := (-2)) (hi := 3) rfl (by omega) (by omega)) (i_rng (lo := (-1)) (hi := 3) rfl (by omega) (by omega)) (by omega)
theorem t_X11_rivals {n : Nat} (hn : 200000 ≤ n) (a1 a2 a3 : Int32) (M : qM) (hG : G M) : qT (f_X11_rivals n a1 a2 a3 M) (po_X11_rivals a1 a2 a3 M) := by
  have hS : Sm l_X11_rivals M M := Sm.rf
  unfold f_X11_rivals
  refine T_lt rfl l_0 (fun hq20_ => ?_) (fun hq20_ => ?_)
  · exact T_ret ⟨hG, hS⟩
  · refine T_lt l_999 rfl (fun hq21_ => ?_) (fun hq21_ => ?_)
    · exact T_ret ⟨hG, hS⟩
    · refine T_lt rfl l_0 (fun hq22_ => ?_) (fun hq22_ => ?_)
      · exact T_ret ⟨hG, hS⟩
      · refine T_lt l_999 rfl (fun hq23_ => ?_) (fun hq23_ => ?_)
        · exact T_ret ⟨hG, hS⟩
        · refine T_lt rfl l_0 (fun hq24_ => ?_) (fun hq24_ => ?_)
          · exact T_ret ⟨hG, hS⟩
          · refine T_le rfl l_1 (fun hq25_ => ?_) (fun hq25_ => ?_)
            · exact (t_X11_rivals_43 hn) n a1 a2 a3 (0 : Int32) (-2 : Int32) (3 : Int32) M hG hS (i_rng (lo := 0) (hi := 999) rfl (by omega) (by omega)) (i_rng (lo := 0) (hi := 999) rfl (by omega) (by omega)) (i_rng (lo := 0) (hi := 1) rfl (by omega) (by omega)) (i_rng (lo := (-2)) (hi := 3) l_m2 (by omega) (by omega)) (i_rng (lo := (-1)) (hi := 3) l_3 (by omega) (by omega)) (by have e3 : ((0 : Int32)).toInt = _ := l_0; have e4 : ((-2 : Int32)).toInt = _ := l_m2; have e5 : ((3 : Int32)).toInt = _ := l_3; omega)
            · exact T_ret ⟨hG, hS⟩
abbrev l_X12_gainOf : List Bx := []
abbrev po_X12_gainOf (a0 a1 a2 a3 : Int32) (M : qM) (v : Int32) (M' : qM) : Prop := ((-999) ≤ v.toInt ∧ v.toInt ≤ 999) ∧ G M' ∧ Sm l_X12_gainOf M M'
theorem t_X12_gainOf {n : Nat} (hn : 200000 ≤ n) (a0 a1 a2 a3 : Int32) (M : qM) (hG : G M) (pa0 : 0 ≤ a0.toInt ∧ a0.toInt ≤ 3) (pa1 : 0 ≤ a1.toInt ∧ a1.toInt ≤ 1) (pa2 : 0 ≤ a2.toInt ∧ a2.toInt ≤ 999) (pa3 : 0 ≤ a3.toInt ∧ a3.toInt ≤ 999) : qT (f_X12_gainOf n a0 a1 a2 a3 M) (po_X12_gainOf a0 a1 a2 a3 M) := by
  have hS : Sm l_X12_gainOf M M := Sm.rf
  unfold f_X12_gainOf
  refine T_qc (t_X12_has0 hn a0 a1 M hG (i_rng (lo := 0) (hi := 11) rfl (by omega) (by omega))) ?_
  rintro rv1 mv2 ⟨hq3_, gq4_, kq5_⟩
  have hq6_ := kq5_.nil
  subst hq6_
  refine T_qc (t_X12_has0 hn a0 ((1 : Int32) - a1) M hG (i_rng (lo := 0) (hi := 11) (i_sub l_1 rfl (by omega) (by omega)) (by omega) (by omega))) ?_
  rintro rv7 mv8 ⟨hq9_, gq10_, kq11_⟩
  have hq12_ := kq11_.nil
  subst hq12_
  refine T_eq rfl l_0 (fun hq13_ => ?_) (fun hq13_ => ?_)
  · refine T_eq rfl l_0 (fun hq14_ => ?_) (fun hq14_ => ?_)
    · exact T_ret ⟨(i_rng (lo := (-999)) (hi := 999) l_m1 (by omega) (by omega)), hG, hS⟩
    · exact T_ret ⟨(i_rng (lo := (-999)) (hi := 999) rfl (by omega) (by omega)), hG, hS⟩
  · refine T_eq rfl l_0 (fun hq15_ => ?_) (fun hq15_ => ?_)
    · exact T_ret ⟨(i_rng (lo := (-999)) (hi := 999) (i_neg rfl (by omega) (by omega)) (by omega) (by omega)), hG, hS⟩
    · exact T_ret ⟨(i_rng (lo := (-999)) (hi := 999) (i_neg (i_div rfl l_2 (by omega) (by omega)) (by omega) (by omega)) (by omega) (by omega)), hG, hS⟩
abbrev l_X12_rivals : List Bx := []
abbrev po_X12_rivals (a1 a2 a3 : Int32) (M : qM) (v : Int32) (M' : qM) : Prop := G M' ∧ Sm l_X12_rivals M M'
theorem t_X12_rivals_43 {n : Nat} (hn : 200000 ≤ n) {oa1 oa2 oa3 : Int32} {M0 : qM} : ∀ (m : Nat) (a1 a2 a3 a4 a5 a6 : Int32) (M : qM), G M → Sm l_X12_rivals M0 M → 0 ≤ a1.toInt ∧ a1.toInt ≤ 999 → 0 ≤ a2.toInt ∧ a2.toInt ≤ 999 → 0 ≤ a3.toInt ∧ a3.toInt ≤ 1 → (-2) ≤ a5.toInt ∧ a5.toInt ≤ 3 → 0 ≤ a6.toInt ∧ a6.toInt ≤ 4 → 4 - a6.toInt < (m : Int) → qT (f_X12_rivals_43 n m a1 a2 a3 a4 a5 a6 M) (po_X12_rivals oa1 oa2 oa3 M0) := by
  sorry
theorem t_X12_rivals {n : Nat} (hn : 200000 ≤ n) (a1 a2 a3 : Int32) (M : qM) (hG : G M) : qT (f_X12_rivals n a1 a2 a3 M) (po_X12_rivals a1 a2 a3 M) := by
  have hS : Sm l_X12_rivals M M := Sm.rf
  unfold f_X12_rivals
  have hq51_ := (show ((0 : Int32)).toInt = _ from l_0)
  have hq52_ := (show ((999 : Int32)).toInt = _ from l_999)
  refine T_qc (t_X12_in hn a1 (0 : Int32) (999 : Int32) M hG (i_rng (lo := 0) (hi := 70) l_0 (by omega) (by omega)) (i_rng (lo := 0) (hi := 99999) l_999 (by omega) (by omega))) ?_
  rintro rv49 mv50 ⟨hq53_, hq54_, gq55_, kq56_⟩
  have hq57_ := kq56_.nil
  subst hq57_
  refine T_eq rfl l_0 (fun hq58_ => ?_) (fun hq58_ => ?_)
  · exact T_ret ⟨hG, hS⟩
  · refine T_qc (t_X12_in hn a2 (0 : Int32) (999 : Int32) M hG (i_rng (lo := 0) (hi := 70) l_0 (by omega) (by omega)) (i_rng (lo := 0) (hi := 99999) l_999 (by omega) (by omega))) ?_
    rintro rv59 mv60 ⟨hq61_, hq62_, gq63_, kq64_⟩
    have hq65_ := kq64_.nil
    subst hq65_
    refine T_eq rfl l_0 (fun hq66_ => ?_) (fun hq66_ => ?_)
    · exact T_ret ⟨hG, hS⟩
    · have hq69_ := (show ((1 : Int32)).toInt = _ from l_1)
      refine T_qc (t_X12_in hn a3 (0 : Int32) (1 : Int32) M hG (i_rng (lo := 0) (hi := 70) l_0 (by omega) (by omega)) (i_rng (lo := 0) (hi := 99999) l_1 (by omega) (by omega))) ?_
      rintro rv67 mv68 ⟨hq70_, hq71_, gq72_, kq73_⟩
      have hq74_ := kq73_.nil
      subst hq74_
      refine T_eq rfl l_0 (fun hq75_ => ?_) (fun hq75_ => ?_)
      · exact T_ret ⟨hG, hS⟩
      · exact (t_X12_rivals_43 hn) n a1 a2 a3 (0 : Int32) (-2 : Int32) (0 : Int32) M hG hS (i_rng (lo := 0) (hi := 999) rfl (by omega) (by omega)) (i_rng (lo := 0) (hi := 999) rfl (by omega) (by omega)) (i_rng (lo := 0) (hi := 1) rfl (by omega) (by omega)) (i_rng (lo := (-2)) (hi := 3) l_m2 (by omega) (by omega)) (i_rng (lo := 0) (hi := 4) l_0 (by omega) (by omega)) (by have e3 : ((0 : Int32)).toInt = _ := l_0; have e4 : ((-2 : Int32)).toInt = _ := l_m2; have e5 : ((0 : Int32)).toInt = _ := l_0; omega)
abbrev l_X8_read : List Bx := [(70, 71, 8, 10), (71, 72, 0, 0), (73, 75, 0, 0)]
abbrev po_X8_read (a2 a3 : Int32) (M : qM) (v : Int32) (M' : qM) : Prop := (0 ≤ v.toInt ∧ v.toInt ≤ 1) ∧ G M' ∧ Sm l_X8_read M M'
theorem t_X8_read_105 {n : Nat} (hn : 200000 ≤ n) {oa2 oa3 : Int32} {M0 : qM} : ∀ (m : Nat) (a5 : Int32) (M : qM), G M → Sm l_X8_read M0 M → 0 ≤ a5.toInt ∧ a5.toInt ≤ 10 → 10 - a5.toInt < (m : Int) → qT (f_X8_read_105 n m a5 M) (po_X8_read oa2 oa3 M0) := by
  intro m
  induction m with
  | zero =>
    intro a5 M hG hS i0 i1
    exfalso; omega
  | succ m ih =>
    intro a5 M hG hS i0 i1
    show qT (b_X8_read_105 n (f_X8_read_105 n m) a5 M) _
    unfold b_X8_read_105
    have hq2_ := r_70_9 hG
    refine T_le rfl rfl (fun hq3_ => ?_) (fun hq3_ => ?_)
    · exact T_ret ⟨(i_rng (lo := 0) (hi := 1) l_1 (by omega) (by omega)), hG, hS⟩
    · have hq6_ := r_70_8 hG
      refine T_qc (t_X9_at hn ((M 70 8) + ((2 : Int32) * a5)) M hG (i_rng (lo := 0) (hi := 47) (i_add rfl (i_mul l_2 rfl (by omega) (by omega)) (by omega) (by omega)) (by omega) (by omega))) ?_
      rintro rv4 mv5 ⟨hq7_, gq8_, kq9_⟩
      have hq10_ := kq9_.nil
      subst hq10_
      refine T_qg rfl (by omega) (by omega) ?_
      refine T_mu hG hS (i_rng (lo := (-1)) (hi := 255) rfl (by omega) (by omega)) (nw_73 _) (i := 2) rfl ⟨by decide, by decide, Or.inl rfl⟩ ?_
      intro mv11 hq12_ gq13_ kq14_
      have hq15_ : (mv11 70 9).toInt = (M 70 9).toInt := by rw [hq12_, mu_ne (Or.inl (by decide))]
      have hq16_ : (mv11 73 a5.toNatClampNeg).toInt = rv4.toInt := by rw [hq12_, mu_at]
      have hq19_ := r_70_8 gq13_
      refine T_qc (t_X9_at hn (((mv11 70 8) + ((2 : Int32) * a5)) + (1 : Int32)) mv11 gq13_ (i_rng (lo := 0) (hi := 47) (i_add (i_add rfl (i_mul l_2 rfl (by omega) (by omega)) (by omega) (by omega)) l_1 (by omega) (by omega)) (by omega) (by omega))) ?_
      rintro rv17 mv18 ⟨hq20_, gq21_, kq22_⟩
      have hq23_ := kq22_.nil
      subst hq23_
      refine T_qg rfl (by omega) (by omega) ?_
      refine T_mu gq13_ kq14_ (rn_74 _ _) (nw_74 _) (i := 2) rfl ⟨by decide, by decide, Or.inl rfl⟩ ?_
      intro mv24 hq25_ gq26_ kq27_
      have hq28_ : (mv24 70 9).toInt = (mv11 70 9).toInt := by rw [hq25_, mu_ne (Or.inl (by decide))]
      have hq29_ : (mv24 73 a5.toNatClampNeg).toInt = (mv11 73 a5.toNatClampNeg).toInt := by rw [hq25_, mu_ne (Or.inl (by decide))]
      have hq30_ : (mv24 74 a5.toNatClampNeg).toInt = rv17.toInt := by rw [hq25_, mu_at]
      refine T_qg rfl (by omega) (by omega) ?_
      have hq31_ := r_73 gq26_ a5.toNatClampNeg
      refine T_lt rfl l_0 (fun hq32_ => ?_) (fun hq32_ => ?_)
      · exact T_ret ⟨(i_rng (lo := 0) (hi := 1) l_0 (by omega) (by omega)), gq26_, kq27_⟩
      · refine T_qg rfl (by omega) (by omega) ?_
        have hq33_ := r_70_8 gq26_
        refine T_le rfl rfl (fun hq34_ => ?_) (fun hq34_ => ?_)
        · exact T_ret ⟨(i_rng (lo := 0) (hi := 1) l_0 (by omega) (by omega)), gq26_, kq27_⟩
        · refine T_qg rfl (by omega) (by omega) ?_
          refine T_lt rfl l_0 (fun hq35_ => ?_) (fun hq35_ => ?_)
          · exact T_ret ⟨(i_rng (lo := 0) (hi := 1) l_0 (by omega) (by omega)), gq26_, kq27_⟩
          · refine T_qg rfl (by omega) (by omega) ?_
            refine T_le rfl l_1 (fun hq36_ => ?_) (fun hq36_ => ?_)
            · refine T_ql (i_add rfl l_1 (by omega) (by omega)) ?_
              intro xv37 hq38_
              exact ih xv37 mv24 gq26_ kq27_ (i_rng (lo := 0) (hi := 10) rfl (by omega) (by omega)) (by omega)
            · exact T_ret ⟨(i_rng (lo := 0) (hi := 1) l_0 (by omega) (by omega)), gq26_, kq27_⟩
theorem t_X8_read_25 {n : Nat} (hn : 200000 ≤ n) {oa2 oa3 : Int32} {M0 : qM} : ∀ (m : Nat) (a4 a5 : Int32) (M : qM), G M → Sm l_X8_read M0 M → 0 ≤ a5.toInt ∧ a5.toInt ≤ 4 → 4 - a5.toInt < (m : Int) → qT (f_X8_read_25 n m a4 a5 M) (po_X8_read oa2 oa3 M0) := by
  intro m
  induction m with
  | zero =>
    intro a4 a5 M hG hS i0 i1
    exfalso; omega
  | succ m ih =>
    intro a4 a5 M hG hS i0 i1
    show qT (b_X8_read_25 n (f_X8_read_25 n m) a4 a5 M) _
    unfold b_X8_read_25
    have hq41_ := r_70_8 hG
    refine T_le rfl rfl (fun hq42_ => ?_) (fun hq42_ => ?_)
    · exact (t_X8_read_105 hn) n (0 : Int32) M hG hS (i_rng (lo := 0) (hi := 10) l_0 (by omega) (by omega)) (by have e0 : ((0 : Int32)).toInt = _ := l_0; omega)
    · refine T_qc (t_X9_at hn a5 M hG (i_rng (lo := 0) (hi := 47) rfl (by omega) (by omega))) ?_
      rintro rv43 mv44 ⟨hq45_, gq46_, kq47_⟩
      have hq48_ := kq47_.nil
      subst hq48_
      refine T_qg rfl (by omega) (by omega) ?_
      refine T_mu hG hS (i_rng (lo := (-1)) (hi := 255) rfl (by omega) (by omega)) (nw_71 _) (i := 1) rfl ⟨by decide, by decide, Or.inl rfl⟩ ?_
      intro mv49 hq50_ gq51_ kq52_
      have hq53_ : (mv49 70 8).toInt = (M 70 8).toInt := by rw [hq50_, mu_ne (Or.inl (by decide))]
      have hq54_ : (mv49 71 a5.toNatClampNeg).toInt = rv43.toInt := by rw [hq50_, mu_at]
      refine T_qg rfl (by omega) (by omega) ?_
      have hq57_ := r_71 gq51_ a5.toNatClampNeg
      refine T_qc (t_X2_knows hn (mv49 71 a5.toNatClampNeg) mv49 gq51_ ) ?_
      rintro rv55 mv56 ⟨hq58_, hq59_, gq60_, kq61_⟩
      have hq62_ := kq61_.nil
      subst hq62_
      refine T_eq rfl l_0 (fun hq63_ => ?_) (fun hq63_ => ?_)
      · exact T_ret ⟨(i_rng (lo := 0) (hi := 1) l_0 (by omega) (by omega)), gq51_, kq52_⟩
      · refine T_qg rfl (by omega) (by omega) ?_
        have hq64_ := i_and (a := a4 >>> ((mv49 71 a5.toNatClampNeg) &&& 31)) (b := (1 : Int32)) l_1 (by omega)
        refine T_eq rfl l_1 (fun hq65_ => ?_) (fun hq65_ => ?_)
        · exact T_ret ⟨(i_rng (lo := 0) (hi := 1) l_0 (by omega) (by omega)), gq51_, kq52_⟩
        · refine T_qg rfl (by omega) (by omega) ?_
          have hq66_ := i_shl1 (c := 11) (k := mv49 71 a5.toNatClampNeg) (by decide) rfl (by omega) (by omega)
          refine T_ql rfl ?_
          intro xv67 hq68_
          refine T_ql (i_add rfl l_1 (by omega) (by omega)) ?_
          intro xv69 hq70_
          exact ih xv67 xv69 mv49 gq51_ kq52_ (i_rng (lo := 0) (hi := 4) rfl (by omega) (by omega)) (by omega)
theorem t_X8_read {n : Nat} (hn : 200000 ≤ n) (a2 a3 : Int32) (M : qM) (hG : G M) (pa2 : 1 ≤ a2.toInt ∧ a2.toInt ≤ 4) (pa3 : 0 ≤ a3.toInt ∧ a3.toInt ≤ 10) : qT (f_X8_read n a2 a3 M) (po_X8_read a2 a3 M) := by
  have hS : Sm l_X8_read M M := Sm.rf
  unfold f_X8_read
  have hq72_ := i_min (a := a2) (b := (4 : Int32)) rfl l_4
  refine T_mu hG hS (i_rng (lo := 0) (hi := 4) rfl (by omega) (by omega)) (nw_70 _) (i := 0) rfl ⟨by decide, by decide, Or.inr ⟨by decide, by decide⟩⟩ ?_
  intro mv71 hq73_ gq74_ kq75_
  have hq76_ : (mv71 70 8).toInt = (qmin a2 (4 : Int32)).toInt := by rw [hq73_, mu_at]
  have hq78_ := i_min (a := a3) (b := (10 : Int32)) rfl l_10
  refine T_mu gq74_ kq75_ (i_rng (lo := 0) (hi := 10) rfl (by omega) (by omega)) (nw_70 _) (i := 0) rfl ⟨by decide, by decide, Or.inr ⟨by decide, by decide⟩⟩ ?_
  intro mv77 hq79_ gq80_ kq81_
  have hq82_ : (mv77 70 8).toInt = (mv71 70 8).toInt := by rw [hq79_, mu_ne (Or.inr (by decide))]
  have hq83_ : (mv77 70 9).toInt = (qmin a3 (10 : Int32)).toInt := by rw [hq79_, mu_at]
  exact (t_X8_read_25 hn) n (0 : Int32) (0 : Int32) mv77 gq80_ kq81_ (i_rng (lo := 0) (hi := 4) l_0 (by omega) (by omega)) (by have e0 : ((0 : Int32)).toInt = _ := l_0; have e1 : ((0 : Int32)).toInt = _ := l_0; omega)
abbrev l_J7_fill_53178_c76_4 : List Bx := [(76, 77, 0, 0)]
abbrev po_J7_fill_53178_c76_4 (a1 : Int32) (M : qM) (v : Int32) (M' : qM) : Prop := (0 ≤ v.toInt ∧ v.toInt ≤ 0) ∧ G M' ∧ Sm l_J7_fill_53178_c76_4 M M'
theorem t_J7_fill_53178_c76_4_5 {n : Nat} (hn : 200000 ≤ n) {oa1 : Int32} {M0 : qM} : ∀ (m : Nat) (a1 a2 a3 : Int32) (M : qM), G M → Sm l_J7_fill_53178_c76_4 M0 M → 0 ≤ a1.toInt ∧ a1.toInt ≤ 0 → 0 ≤ a2.toInt ∧ a2.toInt ≤ 4 → 4 ≤ a3.toInt ∧ a3.toInt ≤ 4 → 4 - a2.toInt < (m : Int) → qT (f_J7_fill_53178_5 n 76 4 m a1 a2 a3 M) (po_J7_fill_53178_c76_4 oa1 M0) := by
  intro m
  induction m with
  | zero =>
    intro a1 a2 a3 M hG hS i0 i1 i2 i3
    exfalso; omega
  | succ m ih =>
    intro a1 a2 a3 M hG hS i0 i1 i2 i3
    show qT (b_J7_fill_53178_5 n 76 4 (f_J7_fill_53178_5 n 76 4 m) a1 a2 a3 M) _
    unfold b_J7_fill_53178_5
    try simp only [Nat.reduceAdd]
    refine T_le rfl rfl (fun hq2_ => ?_) (fun hq2_ => ?_)
    · exact T_ret ⟨(i_rng (lo := 0) (hi := 0) l_0 (by omega) (by omega)), hG, hS⟩
    · refine T_qg rfl (by omega) (by omega) ?_
      refine T_mu hG hS (rn_76 _ _) (nw_76 _) (i := 0) rfl ⟨by decide, by decide, Or.inl rfl⟩ ?_
      intro mv3 hq4_ gq5_ kq6_
      have hq7_ : (mv3 76 a2.toNatClampNeg).toInt = a1.toInt := by rw [hq4_, mu_at]
      refine T_ql (i_add rfl l_1 (by omega) (by omega)) ?_
      intro xv8 hq9_
      exact ih a1 xv8 a3 mv3 gq5_ kq6_ (i_rng (lo := 0) (hi := 0) rfl (by omega) (by omega)) (i_rng (lo := 0) (hi := 4) rfl (by omega) (by omega)) (i_rng (lo := 4) (hi := 4) rfl (by omega) (by omega)) (by omega)
theorem t_J7_fill_53178_c76_4 {n : Nat} (hn : 200000 ≤ n) (a1 : Int32) (M : qM) (hG : G M) (pa1 : 0 ≤ a1.toInt ∧ a1.toInt ≤ 0) : qT (f_J7_fill_53178 n 76 4 a1 M) (po_J7_fill_53178_c76_4 a1 M) := by
  have hS : Sm l_J7_fill_53178_c76_4 M M := Sm.rf
  unfold f_J7_fill_53178
  try simp only [Nat.reduceAdd]
  refine T_ql (show (Int32.ofNat 4).toInt = 4 from by decide) ?_
  intro xv10 hq11_
  exact (t_J7_fill_53178_c76_4_5 hn) n a1 (0 : Int32) xv10 M hG hS (i_rng (lo := 0) (hi := 0) rfl (by omega) (by omega)) (i_rng (lo := 0) (hi := 4) l_0 (by omega) (by omega)) (i_rng (lo := 4) (hi := 4) rfl (by omega) (by omega)) (by have e1 : ((0 : Int32)).toInt = _ := l_0; omega)
abbrev l_X8_old : List Bx := []
abbrev po_X8_old (a1 : Int32) (M : qM) (v : Int32) (M' : qM) : Prop := G M' ∧ Sm l_X8_old M M'
theorem t_X8_old_4 {n : Nat} (hn : 200000 ≤ n) {oa1 : Int32} {M0 : qM} : ∀ (m : Nat) (a1 a2 a3 : Int32) (M : qM), G M → Sm l_X8_old M0 M → 0 ≤ a1.toInt ∧ a1.toInt ≤ 3 → 0 ≤ a3.toInt ∧ a3.toInt ≤ 4 → 4 - a3.toInt < (m : Int) → qT (f_X8_old_4 n m a1 a2 a3 M) (po_X8_old oa1 M0) := by
  intro m
  induction m with
  | zero =>
    intro a1 a2 a3 M hG hS i0 i1 i2
    exfalso; omega
  | succ m ih =>
    intro a1 a2 a3 M hG hS i0 i1 i2
    show qT (b_X8_old_4 n (f_X8_old_4 n m) a1 a2 a3 M) _
    unfold b_X8_old_4
    have hq5_ := r_70_8 hG
    refine T_le rfl rfl (fun hq6_ => ?_) (fun hq6_ => ?_)
    · exact T_ret ⟨hG, hS⟩
    · refine T_qg rfl (by omega) (by omega) ?_
      refine T_qg rfl (by omega) (by omega) ?_
      have hq7_ := i_and (a := (M 72 a1.toNatClampNeg) >>> ((M 71 a3.toNatClampNeg) &&& 31)) (b := (1 : Int32)) l_1 (by omega)
      refine T_eq rfl l_1 (fun hq8_ => ?_) (fun hq8_ => ?_)
      · refine T_qg rfl (by omega) (by omega) ?_
        unfold f_X8_old_42
        have hq9_ := i_full (a2)
        have hq10_ := i_full (M 75 a3.toNatClampNeg)
        refine T_ql rfl ?_
        intro xv11 hq12_
        refine T_ql (i_add rfl l_1 (by omega) (by omega)) ?_
        intro xv13 hq14_
        exact ih a1 xv11 xv13 M hG hS (i_rng (lo := 0) (hi := 3) rfl (by omega) (by omega)) (i_rng (lo := 0) (hi := 4) rfl (by omega) (by omega)) (by omega)
      · unfold f_X8_old_42
        have hq15_ := i_full (a2)
        refine T_ql (i_add rfl l_0 (by omega) (by omega)) ?_
        intro xv16 hq17_
        refine T_ql (i_add rfl l_1 (by omega) (by omega)) ?_
        intro xv18 hq19_
        exact ih a1 xv16 xv18 M hG hS (i_rng (lo := 0) (hi := 3) rfl (by omega) (by omega)) (i_rng (lo := 0) (hi := 4) rfl (by omega) (by omega)) (by omega)
theorem t_X8_old {n : Nat} (hn : 200000 ≤ n) (a1 : Int32) (M : qM) (hG : G M) (pa1 : 0 ≤ a1.toInt ∧ a1.toInt ≤ 3) : qT (f_X8_old n a1 M) (po_X8_old a1 M) := by
  have hS : Sm l_X8_old M M := Sm.rf
  unfold f_X8_old
  exact (t_X8_old_4 hn) n a1 (0 : Int32) (0 : Int32) M hG hS (i_rng (lo := 0) (hi := 3) rfl (by omega) (by omega)) (i_rng (lo := 0) (hi := 4) l_0 (by omega) (by omega)) (by have e1 : ((0 : Int32)).toInt = _ := l_0; have e2 : ((0 : Int32)).toInt = _ := l_0; omega)
abbrev l_X8_fits : List Bx := [(75, 76, 0, 0)]
abbrev po_X8_fits (a1 a2 : Int32) (M : qM) (v : Int32) (M' : qM) : Prop := (0 ≤ v.toInt ∧ v.toInt ≤ 1) ∧ G M' ∧ Sm l_X8_fits M M'
theorem t_X8_fits_38 {n : Nat} (hn : 200000 ≤ n) {oa1 oa2 : Int32} {M0 : qM} : ∀ (m : Nat) (a2 a3 : Int32) (M : qM), G M → Sm l_X8_fits M0 M → 0 ≤ a2.toInt ∧ a2.toInt ≤ 9 → 0 ≤ a3.toInt ∧ a3.toInt ≤ 10 → 10 - a3.toInt < (m : Int) → qT (f_X8_fits_38 n m a2 a3 M) (po_X8_fits oa1 oa2 M0) := by
  sorry
theorem t_X8_fits_2 {n : Nat} (hn : 200000 ≤ n) {oa1 oa2 : Int32} {M0 : qM} : ∀ (m : Nat) (a1 a2 a3 : Int32) (M : qM), G M → Sm l_X8_fits M0 M → (-2147483634) ≤ a1.toInt ∧ a1.toInt ≤ 255 → 0 ≤ a2.toInt ∧ a2.toInt ≤ 9 → 0 ≤ a3.toInt ∧ a3.toInt ≤ 4 → 4 - a3.toInt < (m : Int) → qT (f_X8_fits_2 n m a1 a2 a3 M) (po_X8_fits oa1 oa2 M0) := by
  intro m
  induction m with
  | zero =>
    intro a1 a2 a3 M hG hS i0 i1 i2 i3
    exfalso; omega
  | succ m ih =>
    intro a1 a2 a3 M hG hS i0 i1 i2 i3
    show qT (b_X8_fits_2 n (f_X8_fits_2 n m) a1 a2 a3 M) _
    unfold b_X8_fits_2
    have hq41_ := r_70_8 hG
    refine T_le rfl rfl (fun hq42_ => ?_) (fun hq42_ => ?_)
    · exact (t_X8_fits_38 hn) n a2 (0 : Int32) M hG hS (i_rng (lo := 0) (hi := 9) rfl (by omega) (by omega)) (i_rng (lo := 0) (hi := 10) l_0 (by omega) (by omega)) (by have e1 : ((0 : Int32)).toInt = _ := l_0; omega)
    · refine T_qg rfl (by omega) (by omega) ?_
      have hq44_ := i_and (a := a1 >>> (((2 : Int32) * (((M 70 8) - (1 : Int32)) - a3)) &&& 31)) (b := (3 : Int32)) l_3 (by omega)
      refine T_mu hG hS (rn_75 _ _) (nw_75 _) (i := 0) rfl ⟨by decide, by decide, Or.inl rfl⟩ ?_
      intro mv43 hq45_ gq46_ kq47_
      have hq48_ : (mv43 70 8).toInt = (M 70 8).toInt := by rw [hq45_, mu_ne (Or.inl (by decide))]
      have hq49_ : (mv43 75 a3.toNatClampNeg).toInt = ((a1 >>> (((2 : Int32) * (((M 70 8) - (1 : Int32)) - a3)) &&& 31)) &&& (3 : Int32)).toInt := by rw [hq45_, mu_at]
      refine T_ql (i_add rfl l_1 (by omega) (by omega)) ?_
      intro xv50 hq51_
      exact ih a1 a2 xv50 mv43 gq46_ kq47_ (i_rng (lo := (-2147483634)) (hi := 255) rfl (by omega) (by omega)) (i_rng (lo := 0) (hi := 9) rfl (by omega) (by omega)) (i_rng (lo := 0) (hi := 4) rfl (by omega) (by omega)) (by omega)
theorem t_X8_fits {n : Nat} (hn : 200000 ≤ n) (a1 a2 : Int32) (M : qM) (hG : G M) (pa1 : (-2147483634) ≤ a1.toInt ∧ a1.toInt ≤ 255) (pa2 : 0 ≤ a2.toInt ∧ a2.toInt ≤ 9) : qT (f_X8_fits n a1 a2 M) (po_X8_fits a1 a2 M) := by
  have hS : Sm l_X8_fits M M := Sm.rf
  unfold f_X8_fits
  exact (t_X8_fits_2 hn) n a1 a2 (0 : Int32) M hG hS (i_rng (lo := (-2147483634)) (hi := 255) rfl (by omega) (by omega)) (i_rng (lo := 0) (hi := 9) rfl (by omega) (by omega)) (i_rng (lo := 0) (hi := 4) l_0 (by omega) (by omega)) (by have e2 : ((0 : Int32)).toInt = _ := l_0; omega)
