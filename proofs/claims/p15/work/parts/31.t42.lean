abbrev l_X10_sumOf_c7_9 : List Bx := []
abbrev po_X10_sumOf_c7_9 (a2 : Int32) (M : qM) (v : Int32) (M' : qM) : Prop := G M' ∧ Sm l_X10_sumOf_c7_9 M M'
theorem t_X10_sumOf_c7_9_5 {n : Nat} (hn : 200000 ≤ n) {oa2 : Int32} {M0 : qM} : ∀ (m : Nat) (a2 a3 a4 : Int32) (M : qM), G M → Sm l_X10_sumOf_c7_9 M0 M → 0 ≤ a2.toInt ∧ a2.toInt ≤ 7 → 0 ≤ a4.toInt ∧ a4.toInt ≤ 12 → 12 - a4.toInt < (m : Int) → qT (f_X10_sumOf_5 n 7 9 m a2 a3 a4 M) (po_X10_sumOf_c7_9 oa2 M0) := by
  intro m
  induction m with
  | zero =>
    intro a2 a3 a4 M hG hS i0 i1 i4
    exfalso; omega
  | succ m ih =>
    intro a2 a3 a4 M hG hS i0 i1 i4
    show qT (b_X10_sumOf_5 n 7 9 (f_X10_sumOf_5 n 7 9 m) a2 a3 a4 M) _
    unfold b_X10_sumOf_5
    try simp only [Nat.reduceAdd]
    refine T_le l_12 rfl (fun hq3_ => ?_) (fun hq3_ => ?_)
    · exact T_ret ⟨hG, hS⟩
    · refine T_qg (i_add (i_mul rfl l_12 (by omega) (by omega)) rfl (by omega) (by omega)) (by omega) (by omega) ?_
      have hq4_ := i_full (a3)
      have hq5_ := i_full (M 9 (((a2 * (12 : Int32)) + a4).toNatClampNeg))
      refine T_ql rfl ?_
      intro xv6 hq7_
      refine T_ql (i_add rfl l_1 (by omega) (by omega)) ?_
      intro xv8 hq9_
      exact ih a2 xv6 xv8 M hG hS (i_rng (lo := 0) (hi := 7) rfl (by omega) (by omega)) (i_rng (lo := 0) (hi := 12) rfl (by omega) (by omega)) (by omega)
theorem t_X10_sumOf_c7_9 {n : Nat} (hn : 200000 ≤ n) (a2 : Int32) (M : qM) (hG : G M) (pa2 : 0 ≤ a2.toInt ∧ a2.toInt ≤ 7) : qT (f_X10_sumOf n 7 9 a2 M) (po_X10_sumOf_c7_9 a2 M) := by
  have hS : Sm l_X10_sumOf_c7_9 M M := Sm.rf
  unfold f_X10_sumOf
  try simp only [Nat.reduceAdd]
  exact (t_X10_sumOf_c7_9_5 hn) n a2 (0 : Int32) (0 : Int32) M hG hS (i_rng (lo := 0) (hi := 7) rfl (by omega) (by omega)) (i_rng (lo := 0) (hi := 12) l_0 (by omega) (by omega)) (by have e1 : ((0 : Int32)).toInt = _ := l_0; have e2 : ((0 : Int32)).toInt = _ := l_0; omega)
abbrev l_X10_stepsLeft_c7 : List Bx := []
abbrev po_X10_stepsLeft_c7 (a1 : Int32) (M : qM) (v : Int32) (M' : qM) : Prop := ((-40) ≤ v.toInt ∧ v.toInt ≤ 40) ∧ G M' ∧ Sm l_X10_stepsLeft_c7 M M'
theorem t_X10_stepsLeft_c7 {n : Nat} (hn : 200000 ≤ n) (a1 : Int32) (M : qM) (hG : G M) (pa1 : 0 ≤ a1.toInt ∧ a1.toInt ≤ 7) : qT (f_X10_stepsLeft n 7 a1 M) (po_X10_stepsLeft_c7 a1 M) := by
  have hS : Sm l_X10_stepsLeft_c7 M M := Sm.rf
  unfold f_X10_stepsLeft
  try simp only [Nat.reduceAdd]
  refine T_qg rfl (by omega) (by omega) ?_
  refine T_qg rfl (by omega) (by omega) ?_
  have hq1_ := r_14 hG a1.toNatClampNeg
  have hq2_ := r_15 hG a1.toNatClampNeg
  exact T_ret ⟨(i_rng (lo := (-40)) (hi := 40) (i_sub rfl rfl (by omega) (by omega)) (by omega) (by omega)), hG, hS⟩
abbrev l_X11_countOfPerson : List Bx := []
abbrev po_X11_countOfPerson (a1 : Int32) (M : qM) (v : Int32) (M' : qM) : Prop := G M' ∧ Sm l_X11_countOfPerson M M'
theorem t_X11_countOfPerson {n : Nat} (hn : 200000 ≤ n) (a1 : Int32) (M : qM) (hG : G M) (pa1 : 70 ≤ a1.toInt ∧ a1.toInt ≤ 2147483647) : qT (f_X11_countOfPerson n a1 M) (po_X11_countOfPerson a1 M) := by
  have hS : Sm l_X11_countOfPerson M M := Sm.rf
  unfold f_X11_countOfPerson
  have hq3_ := i_full (a1)
  have hq4_ := (show (a1 - (70 : Int32)).toInt = _ from (i_sub rfl l_70 (by omega) (by omega)))
  refine T_qc (t_X10_knows_c7 hn (a1 - (70 : Int32)) M hG ) ?_
  rintro rv1 mv2 ⟨hq5_, hq6_, gq7_, kq8_⟩
  have hq9_ := kq8_.nil
  subst hq9_
  refine T_eq rfl l_0 (fun hq10_ => ?_) (fun hq10_ => ?_)
  · have hq13_ := (show (a1 - (80 : Int32)).toInt = _ from (i_sub rfl l_80 (by omega) (by omega)))
    refine T_qc (t_X10_knows_c7 hn (a1 - (80 : Int32)) M hG ) ?_
    rintro rv11 mv12 ⟨hq14_, hq15_, gq16_, kq17_⟩
    have hq18_ := kq17_.nil
    subst hq18_
    refine T_eq rfl l_0 (fun hq19_ => ?_) (fun hq19_ => ?_)
    · have hq22_ := (show (a1 - (90 : Int32)).toInt = _ from (i_sub rfl l_90 (by omega) (by omega)))
      refine T_qc (t_X10_knows_c7 hn (a1 - (90 : Int32)) M hG ) ?_
      rintro rv20 mv21 ⟨hq23_, hq24_, gq25_, kq26_⟩
      have hq27_ := kq26_.nil
      subst hq27_
      refine T_eq rfl l_0 (fun hq28_ => ?_) (fun hq28_ => ?_)
      · have hq31_ := (show (a1 - (100 : Int32)).toInt = _ from (i_sub rfl l_100 (by omega) (by omega)))
        refine T_qc (t_X10_knows_c7 hn (a1 - (100 : Int32)) M hG ) ?_
        rintro rv29 mv30 ⟨hq32_, hq33_, gq34_, kq35_⟩
        have hq36_ := kq35_.nil
        subst hq36_
        refine T_eq rfl l_0 (fun hq37_ => ?_) (fun hq37_ => ?_)
        · exact T_ret ⟨hG, hS⟩
        · refine T_qc (t_X10_sumOf_c7_11 hn (a1 - (100 : Int32)) M hG (i_rng (lo := 0) (hi := 7) (i_sub rfl l_100 (by omega) (by omega)) (by omega) (by omega))) ?_
          rintro rv38 mv39 ⟨gq40_, kq41_⟩
          have hq42_ := kq41_.nil
          subst hq42_
          exact T_ret ⟨hG, hS⟩
      · refine T_qc (t_X10_sumOf_c7_9 hn (a1 - (90 : Int32)) M hG (i_rng (lo := 0) (hi := 7) (i_sub rfl l_90 (by omega) (by omega)) (by omega) (by omega))) ?_
        rintro rv43 mv44 ⟨gq45_, kq46_⟩
        have hq47_ := kq46_.nil
        subst hq47_
        exact T_ret ⟨hG, hS⟩
    · refine T_qc (t_X10_stepsLeft_c7 hn (a1 - (80 : Int32)) M hG (i_rng (lo := 0) (hi := 7) (i_sub rfl l_80 (by omega) (by omega)) (by omega) (by omega))) ?_
      rintro rv48 mv49 ⟨hq50_, gq51_, kq52_⟩
      have hq53_ := kq52_.nil
      subst hq53_
      exact T_ret ⟨hG, hS⟩
  · refine T_qg (i_sub rfl l_70 (by omega) (by omega)) (by omega) (by omega) ?_
    exact T_ret ⟨hG, hS⟩
abbrev l_X11_countOfKind : List Bx := []
abbrev po_X11_countOfKind (a1 : Int32) (M : qM) (v : Int32) (M' : qM) : Prop := G M' ∧ Sm l_X11_countOfKind M M'
theorem t_X11_countOfKind {n : Nat} (hn : 200000 ≤ n) (a1 : Int32) (M : qM) (hG : G M) (pa1 : (-2147483648) ≤ a1.toInt ∧ a1.toInt ≤ 69) : qT (f_X11_countOfKind n a1 M) (po_X11_countOfKind a1 M) := by
  have hS : Sm l_X11_countOfKind M M := Sm.rf
  unfold f_X11_countOfKind
  have hq3_ := i_full (a1)
  refine T_qc (t_X2_knows hn (a1 - (10 : Int32)) M hG ) ?_
  rintro rv1 mv2 ⟨hq4_, hq5_, gq6_, kq7_⟩
  have hq8_ := kq7_.nil
  subst hq8_
  refine T_eq rfl l_0 (fun hq9_ => ?_) (fun hq9_ => ?_)
  · refine T_qc (t_X2_knows hn (a1 - (30 : Int32)) M hG ) ?_
    rintro rv10 mv11 ⟨hq12_, hq13_, gq14_, kq15_⟩
    have hq16_ := kq15_.nil
    subst hq16_
    refine T_eq rfl l_0 (fun hq17_ => ?_) (fun hq17_ => ?_)
    · refine T_qc (t_X2_knows hn (a1 - (50 : Int32)) M hG ) ?_
      rintro rv18 mv19 ⟨hq20_, hq21_, gq22_, kq23_⟩
      have hq24_ := kq23_.nil
      subst hq24_
      refine T_eq rfl l_0 (fun hq25_ => ?_) (fun hq25_ => ?_)
      · exact T_ret ⟨hG, hS⟩
      · refine T_qg rfl (by omega) (by omega) ?_
        exact T_ret ⟨hG, hS⟩
    · refine T_qg rfl (by omega) (by omega) ?_
      exact T_ret ⟨hG, hS⟩
  · refine T_qg rfl (by omega) (by omega) ?_
    exact T_ret ⟨hG, hS⟩
abbrev l_X11_count : List Bx := []
abbrev po_X11_count (a1 : Int32) (M : qM) (v : Int32) (M' : qM) : Prop := G M' ∧ Sm l_X11_count M M'
theorem t_X11_count {n : Nat} (hn : 200000 ≤ n) {j : Nat} (hj : q_isLaw j) (a1 : Int32) (M : qM) (hG : G M) : qT (f_X11_count n j a1 M) (po_X11_count a1 M) := by
  have hS : Sm l_X11_count M M := Sm.rf
  unfold f_X11_count
  refine T_sw rfl l_0 (fun hq1_ => ?_) (fun hq1_ => ?_)
  · exact T_ret ⟨hG, hS⟩
  refine T_sw rfl l_1 (fun hq2_ => ?_) (fun hq2_ => ?_)
  · exact T_ret ⟨hG, hS⟩
  refine T_sw rfl l_2 (fun hq3_ => ?_) (fun hq3_ => ?_)
  · exact T_ret ⟨hG, hS⟩
  refine T_sw rfl l_3 (fun hq4_ => ?_) (fun hq4_ => ?_)
  · have hq5_ := rw_0_7 hj hG
    exact T_ret ⟨hG, hS⟩
  refine T_sw rfl l_4 (fun hq6_ => ?_) (fun hq6_ => ?_)
  · have hq7_ := r_1_1 hG
    exact T_ret ⟨hG, hS⟩
  refine T_sw0 ?_
  refine T_le l_70 rfl (fun hq8_ => ?_) (fun hq8_ => ?_)
  · have hq11_ := i_full (a1)
    refine T_qc (t_X11_countOfPerson hn a1 M hG (i_rng (lo := 70) (hi := 2147483647) rfl (by omega) (by omega))) ?_
    rintro rv9 mv10 ⟨gq12_, kq13_⟩
    have hq14_ := kq13_.nil
    subst hq14_
    exact T_ret ⟨hG, hS⟩
  · have hq17_ := i_full (a1)
    refine T_qc (t_X11_countOfKind hn a1 M hG (i_rng (lo := (-2147483648)) (hi := 69) rfl (by omega) (by omega))) ?_
    rintro rv15 mv16 ⟨gq18_, kq19_⟩
    have hq20_ := kq19_.nil
    subst hq20_
    exact T_ret ⟨hG, hS⟩
abbrev l_X12_sumOf : List Bx := []
abbrev po_X12_sumOf (a1 a2 : Int32) (M : qM) (v : Int32) (M' : qM) : Prop := G M' ∧ Sm l_X12_sumOf M M'
theorem t_X12_sumOf_5 {n : Nat} (hn : 200000 ≤ n) {oa1 oa2 : Int32} {M0 : qM} : ∀ (m : Nat) (a1 a2 a3 a4 : Int32) (M : qM), G M → Sm l_X12_sumOf M0 M → 0 ≤ a1.toInt ∧ a1.toInt ≤ 192 → 0 ≤ a2.toInt ∧ a2.toInt ≤ 7 → 0 ≤ a4.toInt ∧ a4.toInt ≤ 12 → 12 - a4.toInt < (m : Int) → qT (f_X12_sumOf_5 n m a1 a2 a3 a4 M) (po_X12_sumOf oa1 oa2 M0) := by
  intro m
  induction m with
  | zero =>
    intro a1 a2 a3 a4 M hG hS i0 i1 i2 i5
    exfalso; omega
  | succ m ih =>
    intro a1 a2 a3 a4 M hG hS i0 i1 i2 i5
    show qT (b_X12_sumOf_5 n (f_X12_sumOf_5 n m) a1 a2 a3 a4 M) _
    unfold b_X12_sumOf_5
    refine T_le l_12 rfl (fun hq3_ => ?_) (fun hq3_ => ?_)
    · exact T_ret ⟨hG, hS⟩
    · refine T_qc (t_X12_at hn a2 a4 M hG (i_rng (lo := 0) (hi := 7) rfl (by omega) (by omega)) (i_rng (lo := 0) (hi := 11) rfl (by omega) (by omega))) ?_
      rintro rv4 mv5 ⟨hq6_, hq7_, gq8_, kq9_⟩
      have hq10_ := kq9_.nil
      subst hq10_
      refine T_qg (i_add rfl rfl (by omega) (by omega)) (by omega) (by omega) ?_
      have hq11_ := i_full (a3)
      have hq12_ := i_full (M 78 ((a1 + rv4).toNatClampNeg))
      refine T_ql rfl ?_
      intro xv13 hq14_
      refine T_ql (i_add rfl l_1 (by omega) (by omega)) ?_
      intro xv15 hq16_
      exact ih a1 a2 xv13 xv15 M hG hS (i_rng (lo := 0) (hi := 192) rfl (by omega) (by omega)) (i_rng (lo := 0) (hi := 7) rfl (by omega) (by omega)) (i_rng (lo := 0) (hi := 12) rfl (by omega) (by omega)) (by omega)
theorem t_X12_sumOf {n : Nat} (hn : 200000 ≤ n) (a1 a2 : Int32) (M : qM) (hG : G M) (pa1 : 0 ≤ a1.toInt ∧ a1.toInt ≤ 192) (pa2 : 0 ≤ a2.toInt ∧ a2.toInt ≤ 7) : qT (f_X12_sumOf n a1 a2 M) (po_X12_sumOf a1 a2 M) := by
  have hS : Sm l_X12_sumOf M M := Sm.rf
  unfold f_X12_sumOf
  exact (t_X12_sumOf_5 hn) n a1 a2 (0 : Int32) (0 : Int32) M hG hS (i_rng (lo := 0) (hi := 192) rfl (by omega) (by omega)) (i_rng (lo := 0) (hi := 7) rfl (by omega) (by omega)) (i_rng (lo := 0) (hi := 12) l_0 (by omega) (by omega)) (by have e2 : ((0 : Int32)).toInt = _ := l_0; have e3 : ((0 : Int32)).toInt = _ := l_0; omega)
abbrev l_X12_count : List Bx := []
abbrev po_X12_count (a1 : Int32) (M : qM) (v : Int32) (M' : qM) : Prop := G M' ∧ Sm l_X12_count M M'
theorem t_X12_count {n : Nat} (hn : 200000 ≤ n) (a1 : Int32) (M : qM) (hG : G M) : qT (f_X12_count n a1 M) (po_X12_count a1 M) := by
  have hS : Sm l_X12_count M M := Sm.rf
  unfold f_X12_count
  refine T_sw rfl l_0 (fun hq1_ => ?_) (fun hq1_ => ?_)
  · exact T_ret ⟨hG, hS⟩
  refine T_sw rfl l_1 (fun hq2_ => ?_) (fun hq2_ => ?_)
  · exact T_ret ⟨hG, hS⟩
  refine T_sw rfl l_2 (fun hq3_ => ?_) (fun hq3_ => ?_)
  · exact T_ret ⟨hG, hS⟩
  refine T_sw rfl l_3 (fun hq4_ => ?_) (fun hq4_ => ?_)
  · have hq5_ := r_77_17 hG
    exact T_ret ⟨hG, hS⟩
  refine T_sw rfl l_4 (fun hq6_ => ?_) (fun hq6_ => ?_)
  · have hq7_ := r_77_8 hG
    exact T_ret ⟨hG, hS⟩
  refine T_sw0 ?_
  have hq10_ := (show ((10 : Int32)).toInt = _ from l_10)
  have hq11_ := (show ((21 : Int32)).toInt = _ from l_21)
  refine T_qc (t_X12_in hn a1 (10 : Int32) (21 : Int32) M hG (i_rng (lo := 0) (hi := 70) l_10 (by omega) (by omega)) (i_rng (lo := 0) (hi := 99999) l_21 (by omega) (by omega))) ?_
  rintro rv8 mv9 ⟨hq12_, hq13_, gq14_, kq15_⟩
  have hq16_ := kq15_.nil
  subst hq16_
  refine T_eq rfl l_0 (fun hq17_ => ?_) (fun hq17_ => ?_)
  · have hq20_ := (show ((30 : Int32)).toInt = _ from l_30)
    have hq21_ := (show ((41 : Int32)).toInt = _ from l_41)
    refine T_qc (t_X12_in hn a1 (30 : Int32) (41 : Int32) M hG (i_rng (lo := 0) (hi := 70) l_30 (by omega) (by omega)) (i_rng (lo := 0) (hi := 99999) l_41 (by omega) (by omega))) ?_
    rintro rv18 mv19 ⟨hq22_, hq23_, gq24_, kq25_⟩
    have hq26_ := kq25_.nil
    subst hq26_
    refine T_eq rfl l_0 (fun hq27_ => ?_) (fun hq27_ => ?_)
    · have hq30_ := (show ((50 : Int32)).toInt = _ from l_50)
      have hq31_ := (show ((61 : Int32)).toInt = _ from l_61)
      refine T_qc (t_X12_in hn a1 (50 : Int32) (61 : Int32) M hG (i_rng (lo := 0) (hi := 70) l_50 (by omega) (by omega)) (i_rng (lo := 0) (hi := 99999) l_61 (by omega) (by omega))) ?_
      rintro rv28 mv29 ⟨hq32_, hq33_, gq34_, kq35_⟩
      have hq36_ := kq35_.nil
      subst hq36_
      refine T_eq rfl l_0 (fun hq37_ => ?_) (fun hq37_ => ?_)
      · have hq40_ := (show ((70 : Int32)).toInt = _ from l_70)
        have hq41_ := (show ((109 : Int32)).toInt = _ from l_109)
        refine T_qc (t_X12_in hn a1 (70 : Int32) (109 : Int32) M hG (i_rng (lo := 0) (hi := 70) l_70 (by omega) (by omega)) (i_rng (lo := 0) (hi := 99999) l_109 (by omega) (by omega))) ?_
        rintro rv38 mv39 ⟨hq42_, hq43_, gq44_, kq45_⟩
        have hq46_ := kq45_.nil
        subst hq46_
        refine T_eq rfl l_0 (fun hq47_ => ?_) (fun hq47_ => ?_)
        · exact T_ret ⟨hG, hS⟩
        · have hq50_ := (show (a1 - ((a1 / (10 : Int32)) * (10 : Int32))).toInt = _ from (i_sub rfl (i_mul (i_div rfl l_10 (by omega) (by omega)) l_10 (by omega) (by omega)) (by omega) (by omega)))
          refine T_qc (t_X12_isPerson hn (a1 - ((a1 / (10 : Int32)) * (10 : Int32))) M hG ) ?_
          rintro rv48 mv49 ⟨hq51_, hq52_, gq53_, kq54_⟩
          have hq55_ := kq54_.nil
          subst hq55_
          refine T_eq rfl l_0 (fun hq56_ => ?_) (fun hq56_ => ?_)
          · exact T_ret ⟨hG, hS⟩
          · refine T_sw (i_div rfl l_10 (by omega) (by omega)) l_7 (fun hq57_ => ?_) (fun hq57_ => ?_)
            · refine T_qg (i_sub (i_add l_288 rfl (by omega) (by omega)) l_70 (by omega) (by omega)) (by omega) (by omega) ?_
              exact T_ret ⟨hG, hS⟩
            refine T_sw (i_div rfl l_10 (by omega) (by omega)) l_8 (fun hq58_ => ?_) (fun hq58_ => ?_)
            · refine T_qg (i_sub (i_add l_296 rfl (by omega) (by omega)) l_80 (by omega) (by omega)) (by omega) (by omega) ?_
              refine T_qg (i_sub (i_add l_304 rfl (by omega) (by omega)) l_80 (by omega) (by omega)) (by omega) (by omega) ?_
              have hq59_ := i_full (M 78 ((((296 : Int32) + a1) - (80 : Int32)).toNatClampNeg))
              have hq60_ := i_full (M 78 ((((304 : Int32) + a1) - (80 : Int32)).toNatClampNeg))
              exact T_ret ⟨hG, hS⟩
            refine T_sw (i_div rfl l_10 (by omega) (by omega)) l_9 (fun hq61_ => ?_) (fun hq61_ => ?_)
            · refine T_qc (t_X12_sumOf hn (0 : Int32) (a1 - (90 : Int32)) M hG (i_rng (lo := 0) (hi := 192) l_0 (by omega) (by omega)) (i_rng (lo := 0) (hi := 7) (i_sub rfl l_90 (by omega) (by omega)) (by omega) (by omega))) ?_
              rintro rv62 mv63 ⟨gq64_, kq65_⟩
              have hq66_ := kq65_.nil
              subst hq66_
              exact T_ret ⟨hG, hS⟩
            refine T_sw0 ?_
            refine T_qc (t_X12_sumOf hn (192 : Int32) (a1 - (100 : Int32)) M hG (i_rng (lo := 0) (hi := 192) l_192 (by omega) (by omega)) (i_rng (lo := 0) (hi := 7) (i_sub rfl l_100 (by omega) (by omega)) (by omega) (by omega))) ?_
            rintro rv67 mv68 ⟨gq69_, kq70_⟩
            have hq71_ := kq70_.nil
            subst hq71_
            exact T_ret ⟨hG, hS⟩
      · have hq74_ := (show (a1 - (50 : Int32)).toInt = _ from (i_sub rfl l_50 (by omega) (by omega)))
        refine T_qc (t_X12_isKind hn (a1 - (50 : Int32)) M hG ) ?_
        rintro rv72 mv73 ⟨hq75_, hq76_, gq77_, kq78_⟩
        have hq79_ := kq78_.nil
        subst hq79_
        refine T_eq rfl l_0 (fun hq80_ => ?_) (fun hq80_ => ?_)
        · exact T_ret ⟨hG, hS⟩
        · refine T_qg (i_sub rfl l_50 (by omega) (by omega)) (by omega) (by omega) ?_
          exact T_ret ⟨hG, hS⟩
    · have hq83_ := (show (a1 - (30 : Int32)).toInt = _ from (i_sub rfl l_30 (by omega) (by omega)))
      refine T_qc (t_X12_isKind hn (a1 - (30 : Int32)) M hG ) ?_
      rintro rv81 mv82 ⟨hq84_, hq85_, gq86_, kq87_⟩
      have hq88_ := kq87_.nil
      subst hq88_
      refine T_eq rfl l_0 (fun hq89_ => ?_) (fun hq89_ => ?_)
      · exact T_ret ⟨hG, hS⟩
      · refine T_qg (i_sub rfl l_30 (by omega) (by omega)) (by omega) (by omega) ?_
        exact T_ret ⟨hG, hS⟩
  · have hq92_ := (show (a1 - (10 : Int32)).toInt = _ from (i_sub rfl l_10 (by omega) (by omega)))
    refine T_qc (t_X12_isKind hn (a1 - (10 : Int32)) M hG ) ?_
    rintro rv90 mv91 ⟨hq93_, hq94_, gq95_, kq96_⟩
    have hq97_ := kq96_.nil
    subst hq97_
    refine T_eq rfl l_0 (fun hq98_ => ?_) (fun hq98_ => ?_)
    · exact T_ret ⟨hG, hS⟩
    · refine T_qg (i_sub rfl l_10 (by omega) (by omega)) (by omega) (by omega) ?_
      exact T_ret ⟨hG, hS⟩
