abbrev l_X11_undo : List Bx := [(7, 8, 8, 10), (8, 16, 0, 0)]
abbrev po_X11_undo (M : qM) (v : Int32) (M' : qM) : Prop := (0 ≤ v.toInt ∧ v.toInt ≤ 1) ∧ G M' ∧ Sm l_X11_undo M M'
theorem t_X11_undo {n : Nat} (hn : 200000 ≤ n) (M : qM) (hG : G M) : qT (f_X11_undo n  M) (po_X11_undo  M) := by
  have hS : Sm l_X11_undo M M := Sm.rf
  unfold f_X11_undo
  refine T_eq rfl l_0 (fun hq1_ => ?_) (fun hq1_ => ?_)
  · exact T_ret ⟨(i_rng (lo := 0) (hi := 1) l_0 (by omega) (by omega)), hG, hS⟩
  · refine T_qc (t_X10_copy_c7_16 hn  M hG ) ?_
    rintro rv2 mv3 ⟨hq4_, gq5_, kq6_⟩
    have kq7_ := Sm.call hS kq6_ rfl
    have hq8_ : (mv3 0 12).toInt = (M 0 12).toInt := by rw [kq6_ 0 12 (by decide)]
    exact T_ret ⟨(i_rng (lo := 0) (hi := 1) l_1 (by omega) (by omega)), gq5_, kq7_⟩
abbrev l_X12_copies_c80_78 : List Bx := [(78, 79, 0, 954)]
abbrev po_X12_copies_c80_78 (M : qM) (v : Int32) (M' : qM) : Prop := (0 ≤ v.toInt ∧ v.toInt ≤ 0) ∧ G M' ∧ Sm l_X12_copies_c80_78 M M'
theorem t_X12_copies_c80_78_2 {n : Nat} (hn : 200000 ≤ n) {M0 : qM} : ∀ (m : Nat) (a2 : Int32) (M : qM), G M → Sm l_X12_copies_c80_78 M0 M → 0 ≤ a2.toInt ∧ a2.toInt ≤ 954 → 954 - a2.toInt < (m : Int) → qT (f_X12_copies_2 n 80 78 m a2 M) (po_X12_copies_c80_78  M0) := by
  intro m
  induction m with
  | zero =>
    intro a2 M hG hS i0 i3
    exfalso; omega
  | succ m ih =>
    intro a2 M hG hS i0 i3
    show qT (b_X12_copies_2 n 80 78 (f_X12_copies_2 n 80 78 m) a2 M) _
    unfold b_X12_copies_2
    try simp only [Nat.reduceAdd]
    refine T_le l_954 rfl (fun hq2_ => ?_) (fun hq2_ => ?_)
    · exact T_ret ⟨(i_rng (lo := 0) (hi := 0) l_0 (by omega) (by omega)), hG, hS⟩
    · refine T_qg rfl (by omega) (by omega) ?_
      refine T_qg rfl (by omega) (by omega) ?_
      refine T_mu hG hS (cp78 (by decide) (by decide) hG) (nw_78 _) (i := 0) rfl ⟨by decide, by decide, Or.inr ⟨(show 0 ≤ _ by rw [tnc]; omega), (show _ < 954 by rw [tnc]; omega)⟩⟩ ?_
      intro mv3 hq4_ gq5_ kq6_
      have hq7_ : (mv3 78 a2.toNatClampNeg).toInt = (M 80 a2.toNatClampNeg).toInt := by rw [hq4_, mu_at]
      refine T_ql (i_add rfl l_1 (by omega) (by omega)) ?_
      intro xv8 hq9_
      exact ih xv8 mv3 gq5_ kq6_ (i_rng (lo := 0) (hi := 954) rfl (by omega) (by omega)) (by omega)
theorem t_X12_copies_c80_78 {n : Nat} (hn : 200000 ≤ n) (M : qM) (hG : G M) : qT (f_X12_copies n 80 78  M) (po_X12_copies_c80_78  M) := by
  have hS : Sm l_X12_copies_c80_78 M M := Sm.rf
  unfold f_X12_copies
  try simp only [Nat.reduceAdd]
  exact (t_X12_copies_c80_78_2 hn) n (0 : Int32) M hG hS (i_rng (lo := 0) (hi := 954) l_0 (by omega) (by omega)) (by have e0 : ((0 : Int32)).toInt = _ := l_0; omega)
abbrev l_X12_undo : List Bx := [(78, 79, 0, 954)]
abbrev po_X12_undo (M : qM) (v : Int32) (M' : qM) : Prop := (0 ≤ v.toInt ∧ v.toInt ≤ 1) ∧ G M' ∧ Sm l_X12_undo M M'
theorem t_X12_undo {n : Nat} (hn : 200000 ≤ n) (M : qM) (hG : G M) : qT (f_X12_undo n  M) (po_X12_undo  M) := by
  have hS : Sm l_X12_undo M M := Sm.rf
  unfold f_X12_undo
  refine T_eq rfl l_0 (fun hq1_ => ?_) (fun hq1_ => ?_)
  · exact T_ret ⟨(i_rng (lo := 0) (hi := 1) l_0 (by omega) (by omega)), hG, hS⟩
  · refine T_qc (t_X12_copies_c80_78 hn  M hG ) ?_
    rintro rv2 mv3 ⟨hq4_, gq5_, kq6_⟩
    have kq7_ := Sm.call hS kq6_ rfl
    have hq8_ : (mv3 77 67).toInt = (M 77 67).toInt := by rw [kq6_ 77 67 (by decide)]
    exact T_ret ⟨(i_rng (lo := 0) (hi := 1) l_1 (by omega) (by omega)), gq5_, kq7_⟩
abbrev l_X9_word : List Bx := []
abbrev po_X9_word (a1 : Int32) (M : qM) (v : Int32) (M' : qM) : Prop := G M' ∧ Sm l_X9_word M M'
theorem t_X9_word {n : Nat} (hn : 200000 ≤ n) (a1 : Int32) (M : qM) (hG : G M) (pa1 : 0 ≤ a1.toInt ∧ a1.toInt ≤ 44) : qT (f_X9_word n a1 M) (po_X9_word a1 M) := by
  have hS : Sm l_X9_word M M := Sm.rf
  unfold f_X9_word
  refine T_qc (t_X9_at hn a1 M hG (i_rng (lo := 0) (hi := 47) rfl (by omega) (by omega))) ?_
  rintro rv1 mv2 ⟨hq3_, gq4_, kq5_⟩
  have hq6_ := kq5_.nil
  subst hq6_
  refine T_qc (t_X9_at hn (a1 + (1 : Int32)) M hG (i_rng (lo := 0) (hi := 47) (i_add rfl l_1 (by omega) (by omega)) (by omega) (by omega))) ?_
  rintro rv7 mv8 ⟨hq9_, gq10_, kq11_⟩
  have hq12_ := kq11_.nil
  subst hq12_
  refine T_qc (t_X9_at hn (a1 + (2 : Int32)) M hG (i_rng (lo := 0) (hi := 47) (i_add rfl l_2 (by omega) (by omega)) (by omega) (by omega))) ?_
  rintro rv13 mv14 ⟨hq15_, gq16_, kq17_⟩
  have hq18_ := kq17_.nil
  subst hq18_
  refine T_qc (t_X9_at hn (a1 + (3 : Int32)) M hG (i_rng (lo := 0) (hi := 47) (i_add rfl l_3 (by omega) (by omega)) (by omega) (by omega))) ?_
  rintro rv19 mv20 ⟨hq21_, gq22_, kq23_⟩
  have hq24_ := kq23_.nil
  subst hq24_
  exact T_ret ⟨hG, hS⟩
abbrev l_X11_check : List Bx := [(1, 2, 1, 2)]
abbrev po_X11_check (a1 a2 : Int32) (M : qM) (v : Int32) (M' : qM) : Prop := ((-2) ≤ v.toInt ∧ v.toInt ≤ 11) ∧ G M' ∧ Sm l_X11_check M M'
theorem t_X11_check_44 {n : Nat} (hn : 200000 ≤ n) {oa1 oa2 : Int32} {M0 : qM} : ∀ (m : Nat) (a1 a3 a4 : Int32) (M : qM), G M → Sm l_X11_check M0 M → 0 ≤ a1.toInt ∧ a1.toInt ≤ 7 → (-1) ≤ a3.toInt ∧ a3.toInt ≤ 11 → (-1) ≤ a4.toInt ∧ a4.toInt ≤ 11 → a4.toInt - (-1) < (m : Int) → qT (f_X11_check_44 n m a1 a3 a4 M) (po_X11_check oa1 oa2 M0) := by
  intro m
  induction m with
  | zero =>
    intro a1 a3 a4 M hG hS i0 i1 i2 i5
    exfalso; omega
  | succ m ih =>
    intro a1 a3 a4 M hG hS i0 i1 i2 i5
    show qT (b_X11_check_44 n (f_X11_check_44 n m) a1 a3 a4 M) _
    unfold b_X11_check_44
    refine T_lt rfl l_0 (fun hq3_ => ?_) (fun hq3_ => ?_)
    · refine T_qc (t_X9_clear hn  M hG ) ?_
      rintro rv4 mv5 ⟨hq6_, gq7_, kq8_⟩
      have kq9_ := Sm.call hS kq8_ rfl
      exact T_ret ⟨(i_rng (lo := (-2)) (hi := 11) rfl (by omega) (by omega)), gq7_, kq9_⟩
    · refine T_qc (t_X9_word hn ((4 : Int32) * a4) M hG (i_rng (lo := 0) (hi := 44) (i_mul l_4 rfl (by omega) (by omega)) (by omega) (by omega))) ?_
      rintro rv10 mv11 ⟨gq12_, kq13_⟩
      have hq14_ := kq13_.nil
      subst hq14_
      refine T_qg (i_add (i_mul rfl l_12 (by omega) (by omega)) rfl (by omega) (by omega)) (by omega) (by omega) ?_
      refine T_eq rfl rfl (fun hq15_ => ?_) (fun hq15_ => ?_)
      · refine T_ql (i_add rfl l_m1 (by omega) (by omega)) ?_
        intro xv16 hq17_
        exact ih a1 a3 xv16 M hG hS (i_rng (lo := 0) (hi := 7) rfl (by omega) (by omega)) (i_rng (lo := (-1)) (hi := 11) rfl (by omega) (by omega)) (i_rng (lo := (-1)) (hi := 11) rfl (by omega) (by omega)) (by omega)
      · refine T_ql (i_add rfl l_m1 (by omega) (by omega)) ?_
        intro xv18 hq19_
        exact ih a1 a4 xv18 M hG hS (i_rng (lo := 0) (hi := 7) rfl (by omega) (by omega)) (i_rng (lo := (-1)) (hi := 11) rfl (by omega) (by omega)) (i_rng (lo := (-1)) (hi := 11) rfl (by omega) (by omega)) (by omega)
theorem t_X11_check {n : Nat} (hn : 200000 ≤ n) (a1 a2 : Int32) (M : qM) (hG : G M) : qT (f_X11_check n a1 a2 M) (po_X11_check a1 a2 M) := by
  have hS : Sm l_X11_check M M := Sm.rf
  unfold f_X11_check
  refine T_qc (t_X10_knows_c7 hn a1 M hG ) ?_
  rintro rv20 mv21 ⟨hq22_, hq23_, gq24_, kq25_⟩
  have hq26_ := kq25_.nil
  subst hq26_
  refine T_eq rfl l_0 (fun hq27_ => ?_) (fun hq27_ => ?_)
  · exact T_ret ⟨(i_rng (lo := (-2)) (hi := 11) l_m2 (by omega) (by omega)), hG, hS⟩
  · refine T_lt rfl l_0 (fun hq28_ => ?_) (fun hq28_ => ?_)
    · exact T_ret ⟨(i_rng (lo := (-2)) (hi := 11) l_m2 (by omega) (by omega)), hG, hS⟩
    · refine T_lt l_12 rfl (fun hq29_ => ?_) (fun hq29_ => ?_)
      · exact T_ret ⟨(i_rng (lo := (-2)) (hi := 11) l_m2 (by omega) (by omega)), hG, hS⟩
      · have hq30_ := r_1_1 hG
        refine T_le (i_mul l_4 rfl (by omega) (by omega)) rfl (fun hq31_ => ?_) (fun hq31_ => ?_)
        · refine T_ql (i_sub rfl l_1 (by omega) (by omega)) ?_
          intro xv32 hq33_
          exact (t_X11_check_44 hn) n a1 (-1 : Int32) xv32 M hG hS (i_rng (lo := 0) (hi := 7) rfl (by omega) (by omega)) (i_rng (lo := (-1)) (hi := 11) l_m1 (by omega) (by omega)) (i_rng (lo := (-1)) (hi := 11) rfl (by omega) (by omega)) (by have e1 : ((-1 : Int32)).toInt = _ := l_m1; omega)
        · exact T_ret ⟨(i_rng (lo := (-2)) (hi := 11) l_m2 (by omega) (by omega)), hG, hS⟩
abbrev l_X12_tapeNumber : List Bx := []
abbrev po_X12_tapeNumber (a1 : Int32) (M : qM) (v : Int32) (M' : qM) : Prop := G M' ∧ Sm l_X12_tapeNumber M M'
theorem t_X12_tapeNumber_6 {n : Nat} (hn : 200000 ≤ n) {oa1 : Int32} {M0 : qM} : ∀ (m : Nat) (a1 a2 a3 : Int32) (M : qM), G M → Sm l_X12_tapeNumber M0 M → 0 ≤ a1.toInt ∧ a1.toInt ≤ 11 → 0 ≤ a3.toInt ∧ a3.toInt ≤ 48 → 48 - a3.toInt < (m : Int) → qT (f_X12_tapeNumber_6 n m a1 a2 a3 M) (po_X12_tapeNumber oa1 M0) := by
  intro m
  induction m with
  | zero =>
    intro a1 a2 a3 M hG hS i0 i1 i4
    exfalso; omega
  | succ m ih =>
    intro a1 a2 a3 M hG hS i0 i1 i4
    show qT (b_X12_tapeNumber_6 n (f_X12_tapeNumber_6 n m) a1 a2 a3 M) _
    unfold b_X12_tapeNumber_6
    refine T_le (i_add (i_mul l_4 rfl (by omega) (by omega)) l_4 (by omega) (by omega)) rfl (fun hq3_ => ?_) (fun hq3_ => ?_)
    · exact T_ret ⟨hG, hS⟩
    · refine T_qg rfl (by omega) (by omega) ?_
      have hq4_ := r_84 hG a3.toNatClampNeg
      have hq5_ := i_and (a := M 84 a3.toNatClampNeg) (b := (255 : Int32)) l_255 (by omega)
      refine T_ql rfl ?_
      intro xv6 hq7_
      refine T_ql (i_add rfl l_1 (by omega) (by omega)) ?_
      intro xv8 hq9_
      exact ih a1 xv6 xv8 M hG hS (i_rng (lo := 0) (hi := 11) rfl (by omega) (by omega)) (i_rng (lo := 0) (hi := 48) rfl (by omega) (by omega)) (by omega)
theorem t_X12_tapeNumber {n : Nat} (hn : 200000 ≤ n) (a1 : Int32) (M : qM) (hG : G M) (pa1 : 0 ≤ a1.toInt ∧ a1.toInt ≤ 11) : qT (f_X12_tapeNumber n a1 M) (po_X12_tapeNumber a1 M) := by
  have hS : Sm l_X12_tapeNumber M M := Sm.rf
  unfold f_X12_tapeNumber
  refine T_ql (i_mul l_4 rfl (by omega) (by omega)) ?_
  intro xv10 hq11_
  exact (t_X12_tapeNumber_6 hn) n a1 (0 : Int32) xv10 M hG hS (i_rng (lo := 0) (hi := 11) rfl (by omega) (by omega)) (i_rng (lo := 0) (hi := 48) rfl (by omega) (by omega)) (by have e1 : ((0 : Int32)).toInt = _ := l_0; omega)
abbrev l_X12_check : List Bx := [(77, 78, 8, 9)]
abbrev po_X12_check (a1 a2 : Int32) (M : qM) (v : Int32) (M' : qM) : Prop := ((-2) ≤ v.toInt ∧ v.toInt ≤ 11) ∧ G M' ∧ Sm l_X12_check M M'
theorem t_X12_check_38 {n : Nat} (hn : 200000 ≤ n) {oa1 oa2 : Int32} {M0 : qM} : ∀ (m : Nat) (a1 a2 a3 : Int32) (M : qM), G M → Sm l_X12_check M0 M → 0 ≤ a1.toInt ∧ a1.toInt ≤ 7 → 0 ≤ a2.toInt ∧ a2.toInt ≤ 12 → 0 ≤ a3.toInt ∧ a3.toInt ≤ 12 → 12 - a3.toInt < (m : Int) → qT (f_X12_check_38 n m a1 a2 a3 M) (po_X12_check oa1 oa2 M0) := by
  intro m
  induction m with
  | zero =>
    intro a1 a2 a3 M hG hS i0 i1 i2 i5
    exfalso; omega
  | succ m ih =>
    intro a1 a2 a3 M hG hS i0 i1 i2 i5
    show qT (b_X12_check_38 n (f_X12_check_38 n m) a1 a2 a3 M) _
    unfold b_X12_check_38
    refine T_le rfl rfl (fun hq2_ => ?_) (fun hq2_ => ?_)
    · exact T_ret ⟨(i_rng (lo := (-2)) (hi := 11) l_m1 (by omega) (by omega)), hG, hS⟩
    · refine T_qc (t_X12_tapeNumber hn a3 M hG (i_rng (lo := 0) (hi := 11) rfl (by omega) (by omega))) ?_
      rintro rv3 mv4 ⟨gq5_, kq6_⟩
      have hq7_ := kq6_.nil
      subst hq7_
      refine T_qc (t_X12_at hn a1 a3 M hG (i_rng (lo := 0) (hi := 7) rfl (by omega) (by omega)) (i_rng (lo := 0) (hi := 11) rfl (by omega) (by omega))) ?_
      rintro rv8 mv9 ⟨hq10_, hq11_, gq12_, kq13_⟩
      have hq14_ := kq13_.nil
      subst hq14_
      refine T_qg (i_add l_0 rfl (by omega) (by omega)) (by omega) (by omega) ?_
      refine T_eq rfl rfl (fun hq15_ => ?_) (fun hq15_ => ?_)
      · refine T_ql (i_add rfl l_1 (by omega) (by omega)) ?_
        intro xv16 hq17_
        exact ih a1 a2 xv16 M hG hS (i_rng (lo := 0) (hi := 7) rfl (by omega) (by omega)) (i_rng (lo := 0) (hi := 12) rfl (by omega) (by omega)) (i_rng (lo := 0) (hi := 12) rfl (by omega) (by omega)) (by omega)
      · exact T_ret ⟨(i_rng (lo := (-2)) (hi := 11) rfl (by omega) (by omega)), hG, hS⟩
theorem t_X12_check {n : Nat} (hn : 200000 ≤ n) (a1 a2 : Int32) (M : qM) (hG : G M) : qT (f_X12_check n a1 a2 M) (po_X12_check a1 a2 M) := by
  have hS : Sm l_X12_check M M := Sm.rf
  unfold f_X12_check
  refine T_qc (t_X12_isPerson hn a1 M hG ) ?_
  rintro rv18 mv19 ⟨hq20_, hq21_, gq22_, kq23_⟩
  have hq24_ := kq23_.nil
  subst hq24_
  refine T_eq rfl l_0 (fun hq25_ => ?_) (fun hq25_ => ?_)
  · exact T_ret ⟨(i_rng (lo := (-2)) (hi := 11) l_m2 (by omega) (by omega)), hG, hS⟩
  · have hq28_ := (show ((0 : Int32)).toInt = _ from l_0)
    have hq29_ := (show ((12 : Int32)).toInt = _ from l_12)
    refine T_qc (t_X12_in hn a2 (0 : Int32) (12 : Int32) M hG (i_rng (lo := 0) (hi := 70) l_0 (by omega) (by omega)) (i_rng (lo := 0) (hi := 99999) l_12 (by omega) (by omega))) ?_
    rintro rv26 mv27 ⟨hq30_, hq31_, gq32_, kq33_⟩
    have hq34_ := kq33_.nil
    subst hq34_
    refine T_eq rfl l_0 (fun hq35_ => ?_) (fun hq35_ => ?_)
    · exact T_ret ⟨(i_rng (lo := (-2)) (hi := 11) l_m2 (by omega) (by omega)), hG, hS⟩
    · have hq36_ := r_77_8 hG
      refine T_le rfl (i_div rfl l_4 (by omega) (by omega)) (fun hq37_ => ?_) (fun hq37_ => ?_)
      · refine T_mu hG hS (i_rng (lo := 0) (hi := 260) l_0 (by omega) (by omega)) nw_77_8 (i := 0) rfl ⟨by decide, by decide, Or.inr ⟨by decide, by decide⟩⟩ ?_
        intro mv38 hq39_ gq40_ kq41_
        have hq42_ : (mv38 77 8).toInt = 0 := by rw [hq39_, mu_at]; exact l_0
        exact (t_X12_check_38 hn) n a1 a2 (0 : Int32) mv38 gq40_ kq41_ (i_rng (lo := 0) (hi := 7) rfl (by omega) (by omega)) (i_rng (lo := 0) (hi := 12) rfl (by omega) (by omega)) (i_rng (lo := 0) (hi := 12) l_0 (by omega) (by omega)) (by have e2 : ((0 : Int32)).toInt = _ := l_0; omega)
      · exact T_ret ⟨(i_rng (lo := (-2)) (hi := 11) l_m2 (by omega) (by omega)), hG, hS⟩
abbrev l_X10_sumOf_c7_11 : List Bx := []
abbrev po_X10_sumOf_c7_11 (a2 : Int32) (M : qM) (v : Int32) (M' : qM) : Prop := G M' ∧ Sm l_X10_sumOf_c7_11 M M'
theorem t_X10_sumOf_c7_11_5 {n : Nat} (hn : 200000 ≤ n) {oa2 : Int32} {M0 : qM} : ∀ (m : Nat) (a2 a3 a4 : Int32) (M : qM), G M → Sm l_X10_sumOf_c7_11 M0 M → 0 ≤ a2.toInt ∧ a2.toInt ≤ 7 → 0 ≤ a4.toInt ∧ a4.toInt ≤ 12 → 12 - a4.toInt < (m : Int) → qT (f_X10_sumOf_5 n 7 11 m a2 a3 a4 M) (po_X10_sumOf_c7_11 oa2 M0) := by
  intro m
  induction m with
  | zero =>
    intro a2 a3 a4 M hG hS i0 i1 i4
    exfalso; omega
  | succ m ih =>
    intro a2 a3 a4 M hG hS i0 i1 i4
    show qT (b_X10_sumOf_5 n 7 11 (f_X10_sumOf_5 n 7 11 m) a2 a3 a4 M) _
    unfold b_X10_sumOf_5
    try simp only [Nat.reduceAdd]
    refine T_le l_12 rfl (fun hq3_ => ?_) (fun hq3_ => ?_)
    · exact T_ret ⟨hG, hS⟩
    · refine T_qg (i_add (i_mul rfl l_12 (by omega) (by omega)) rfl (by omega) (by omega)) (by omega) (by omega) ?_
      have hq4_ := i_full (a3)
      have hq5_ := i_full (M 11 (((a2 * (12 : Int32)) + a4).toNatClampNeg))
      refine T_ql rfl ?_
      intro xv6 hq7_
      refine T_ql (i_add rfl l_1 (by omega) (by omega)) ?_
      intro xv8 hq9_
      exact ih a2 xv6 xv8 M hG hS (i_rng (lo := 0) (hi := 7) rfl (by omega) (by omega)) (i_rng (lo := 0) (hi := 12) rfl (by omega) (by omega)) (by omega)
theorem t_X10_sumOf_c7_11 {n : Nat} (hn : 200000 ≤ n) (a2 : Int32) (M : qM) (hG : G M) (pa2 : 0 ≤ a2.toInt ∧ a2.toInt ≤ 7) : qT (f_X10_sumOf n 7 11 a2 M) (po_X10_sumOf_c7_11 a2 M) := by
  have hS : Sm l_X10_sumOf_c7_11 M M := Sm.rf
  unfold f_X10_sumOf
  try simp only [Nat.reduceAdd]
  exact (t_X10_sumOf_c7_11_5 hn) n a2 (0 : Int32) (0 : Int32) M hG hS (i_rng (lo := 0) (hi := 7) rfl (by omega) (by omega)) (i_rng (lo := 0) (hi := 12) l_0 (by omega) (by omega)) (by have e1 : ((0 : Int32)).toInt = _ := l_0; have e2 : ((0 : Int32)).toInt = _ := l_0; omega)
abbrev l_X10_sumOf_c7_9 : List Bx := []
abbrev po_X10_sumOf_c7_9 (a2 : Int32) (M : qM) (v : Int32) (M' : qM) : Prop := G M' ∧ Sm l_X10_sumOf_c7_9 M M'
theorem t_X10_sumOf_c7_9_5 {n : Nat} (hn : 200000 ≤ n) {oa2 : Int32} {M0 : qM} : ∀ (m : Nat) (a2 a3 a4 : Int32) (M : qM), G M → Sm l_X10_sumOf_c7_9 M0 M → 0 ≤ a2.toInt ∧ a2.toInt ≤ 7 → 0 ≤ a4.toInt ∧ a4.toInt ≤ 12 → 12 - a4.toInt < (m : Int) → qT (f_X10_sumOf_5 n 7 9 m a2 a3 a4 M) (po_X10_sumOf_c7_9 oa2 M0) := by
  intro m
  induction m with
  | zero =>
    intro a2 a3 a4 M hG hS i0 i1 i4
    exfalso; omega
  | succ m ih =>
    intro a2 a3 a4 M hG hS i0 i1 i4
    show qT (b_X10_sumOf_5 n 7 9 (f_X10_sumOf_5 n 7 9 m) a2 a3 a4 M) _
    unfold b_X10_sumOf_5
    try simp only [Nat.reduceAdd]
    refine T_le l_12 rfl (fun hq3_ => ?_) (fun hq3_ => ?_)
    · exact T_ret ⟨hG, hS⟩
    · refine T_qg (i_add (i_mul rfl l_12 (by omega) (by omega)) rfl (by omega) (by omega)) (by omega) (by omega) ?_
      have hq4_ := i_full (a3)
      have hq5_ := i_full (M 9 (((a2 * (12 : Int32)) + a4).toNatClampNeg))
      refine T_ql rfl ?_
      intro xv6 hq7_
      refine T_ql (i_add rfl l_1 (by omega) (by omega)) ?_
      intro xv8 hq9_
      exact ih a2 xv6 xv8 M hG hS (i_rng (lo := 0) (hi := 7) rfl (by omega) (by omega)) (i_rng (lo := 0) (hi := 12) rfl (by omega) (by omega)) (by omega)
theorem t_X10_sumOf_c7_9 {n : Nat} (hn : 200000 ≤ n) (a2 : Int32) (M : qM) (hG : G M) (pa2 : 0 ≤ a2.toInt ∧ a2.toInt ≤ 7) : qT (f_X10_sumOf n 7 9 a2 M) (po_X10_sumOf_c7_9 a2 M) := by
  have hS : Sm l_X10_sumOf_c7_9 M M := Sm.rf
  unfold f_X10_sumOf
  try simp only [Nat.reduceAdd]
  exact (t_X10_sumOf_c7_9_5 hn) n a2 (0 : Int32) (0 : Int32) M hG hS (i_rng (lo := 0) (hi := 7) rfl (by omega) (by omega)) (i_rng (lo := 0) (hi := 12) l_0 (by omega) (by omega)) (by have e1 : ((0 : Int32)).toInt = _ := l_0; have e2 : ((0 : Int32)).toInt = _ := l_0; omega)
abbrev l_X10_stepsLeft_c7 : List Bx := []
abbrev po_X10_stepsLeft_c7 (a1 : Int32) (M : qM) (v : Int32) (M' : qM) : Prop := ((-40) ≤ v.toInt ∧ v.toInt ≤ 40) ∧ G M' ∧ Sm l_X10_stepsLeft_c7 M M'
theorem t_X10_stepsLeft_c7 {n : Nat} (hn : 200000 ≤ n) (a1 : Int32) (M : qM) (hG : G M) (pa1 : 0 ≤ a1.toInt ∧ a1.toInt ≤ 7) : qT (f_X10_stepsLeft n 7 a1 M) (po_X10_stepsLeft_c7 a1 M) := by
  have hS : Sm l_X10_stepsLeft_c7 M M := Sm.rf
  unfold f_X10_stepsLeft
  try simp only [Nat.reduceAdd]
  refine T_qg rfl (by omega) (by omega) ?_
  refine T_qg rfl (by omega) (by omega) ?_
  have hq1_ := r_14 hG a1.toNatClampNeg
  have hq2_ := r_15 hG a1.toNatClampNeg
  exact T_ret ⟨(i_rng (lo := (-40)) (hi := 40) (i_sub rfl rfl (by omega) (by omega)) (by omega) (by omega)), hG, hS⟩
abbrev l_X11_countOfPerson : List Bx := []
abbrev po_X11_countOfPerson (a1 : Int32) (M : qM) (v : Int32) (M' : qM) : Prop := G M' ∧ Sm l_X11_countOfPerson M M'
theorem t_X11_countOfPerson {n : Nat} (hn : 200000 ≤ n) (a1 : Int32) (M : qM) (hG : G M) (pa1 : 70 ≤ a1.toInt ∧ a1.toInt ≤ 2147483647) : qT (f_X11_countOfPerson n a1 M) (po_X11_countOfPerson a1 M) := by
  have hS : Sm l_X11_countOfPerson M M := Sm.rf
  unfold f_X11_countOfPerson
  have hq3_ := i_full (a1)
  have hq4_ := (show (a1 - (70 : Int32)).toInt = _ from (i_sub rfl l_70 (by omega) (by omega)))
  refine T_qc (t_X10_knows_c7 hn (a1 - (70 : Int32)) M hG ) ?_
  rintro rv1 mv2 ⟨hq5_, hq6_, gq7_, kq8_⟩
  have hq9_ := kq8_.nil
  subst hq9_
  refine T_eq rfl l_0 (fun hq10_ => ?_) (fun hq10_ => ?_)
  · have hq13_ := (show (a1 - (80 : Int32)).toInt = _ from (i_sub rfl l_80 (by omega) (by omega)))
    refine T_qc (t_X10_knows_c7 hn (a1 - (80 : Int32)) M hG ) ?_
    rintro rv11 mv12 ⟨hq14_, hq15_, gq16_, kq17_⟩
    have hq18_ := kq17_.nil
    subst hq18_
    refine T_eq rfl l_0 (fun hq19_ => ?_) (fun hq19_ => ?_)
    · have hq22_ := (show (a1 - (90 : Int32)).toInt = _ from (i_sub rfl l_90 (by omega) (by omega)))
      refine T_qc (t_X10_knows_c7 hn (a1 - (90 : Int32)) M hG ) ?_
      rintro rv20 mv21 ⟨hq23_, hq24_, gq25_, kq26_⟩
      have hq27_ := kq26_.nil
      subst hq27_
      refine T_eq rfl l_0 (fun hq28_ => ?_) (fun hq28_ => ?_)
      · have hq31_ := (show (a1 - (100 : Int32)).toInt = _ from (i_sub rfl l_100 (by omega) (by omega)))
        refine T_qc (t_X10_knows_c7 hn (a1 - (100 : Int32)) M hG ) ?_
        rintro rv29 mv30 ⟨hq32_, hq33_, gq34_, kq35_⟩
        have hq36_ := kq35_.nil
        subst hq36_
        refine T_eq rfl l_0 (fun hq37_ => ?_) (fun hq37_ => ?_)
        · exact T_ret ⟨hG, hS⟩
        · refine T_qc (t_X10_sumOf_c7_11 hn (a1 - (100 : Int32)) M hG (i_rng (lo := 0) (hi := 7) (i_sub rfl l_100 (by omega) (by omega)) (by omega) (by omega))) ?_
          rintro rv38 mv39 ⟨gq40_, kq41_⟩
          have hq42_ := kq41_.nil
          subst hq42_
          exact T_ret ⟨hG, hS⟩
      · refine T_qc (t_X10_sumOf_c7_9 hn (a1 - (90 : Int32)) M hG (i_rng (lo := 0) (hi := 7) (i_sub rfl l_90 (by omega) (by omega)) (by omega) (by omega))) ?_
        rintro rv43 mv44 ⟨gq45_, kq46_⟩
        have hq47_ := kq46_.nil
        subst hq47_
        exact T_ret ⟨hG, hS⟩
    · refine T_qc (t_X10_stepsLeft_c7 hn (a1 - (80 : Int32)) M hG (i_rng (lo := 0) (hi := 7) (i_sub rfl l_80 (by omega) (by omega)) (by omega) (by omega))) ?_
      rintro rv48 mv49 ⟨hq50_, gq51_, kq52_⟩
      have hq53_ := kq52_.nil
      subst hq53_
      exact T_ret ⟨hG, hS⟩
  · refine T_qg (i_sub rfl l_70 (by omega) (by omega)) (by omega) (by omega) ?_
    exact T_ret ⟨hG, hS⟩
abbrev l_X11_countOfKind : List Bx := []
abbrev po_X11_countOfKind (a1 : Int32) (M : qM) (v : Int32) (M' : qM) : Prop := G M' ∧ Sm l_X11_countOfKind M M'
theorem t_X11_countOfKind {n : Nat} (hn : 200000 ≤ n) (a1 : Int32) (M : qM) (hG : G M) (pa1 : (-2147483648) ≤ a1.toInt ∧ a1.toInt ≤ 69) : qT (f_X11_countOfKind n a1 M) (po_X11_countOfKind a1 M) := by
  have hS : Sm l_X11_countOfKind M M := Sm.rf
  unfold f_X11_countOfKind
  have hq3_ := i_full (a1)
  refine T_qc (t_X2_knows hn (a1 - (10 : Int32)) M hG ) ?_
  rintro rv1 mv2 ⟨hq4_, hq5_, gq6_, kq7_⟩
  have hq8_ := kq7_.nil
  subst hq8_
  refine T_eq rfl l_0 (fun hq9_ => ?_) (fun hq9_ => ?_)
  · refine T_qc (t_X2_knows hn (a1 - (30 : Int32)) M hG ) ?_
    rintro rv10 mv11 ⟨hq12_, hq13_, gq14_, kq15_⟩
    have hq16_ := kq15_.nil
    subst hq16_
    refine T_eq rfl l_0 (fun hq17_ => ?_) (fun hq17_ => ?_)
    · refine T_qc (t_X2_knows hn (a1 - (50 : Int32)) M hG ) ?_
      rintro rv18 mv19 ⟨hq20_, hq21_, gq22_, kq23_⟩
      have hq24_ := kq23_.nil
      subst hq24_
      refine T_eq rfl l_0 (fun hq25_ => ?_) (fun hq25_ => ?_)
      · exact T_ret ⟨hG, hS⟩
      · refine T_qg rfl (by omega) (by omega) ?_
        exact T_ret ⟨hG, hS⟩
    · refine T_qg rfl (by omega) (by omega) ?_
      exact T_ret ⟨hG, hS⟩
  · refine T_qg rfl (by omega) (by omega) ?_
    exact T_ret ⟨hG, hS⟩
abbrev l_X11_count : List Bx := []
abbrev po_X11_count (a1 : Int32) (M : qM) (v : Int32) (M' : qM) : Prop := G M' ∧ Sm l_X11_count M M'
theorem t_X11_count {n : Nat} (hn : 200000 ≤ n) {j : Nat} (hj : q_isLaw j) (a1 : Int32) (M : qM) (hG : G M) : qT (f_X11_count n j a1 M) (po_X11_count a1 M) := by
  have hS : Sm l_X11_count M M := Sm.rf
  unfold f_X11_count
  refine T_sw rfl l_0 (fun hq1_ => ?_) (fun hq1_ => ?_)
  · exact T_ret ⟨hG, hS⟩
  refine T_sw rfl l_1 (fun hq2_ => ?_) (fun hq2_ => ?_)
  · exact T_ret ⟨hG, hS⟩
  refine T_sw rfl l_2 (fun hq3_ => ?_) (fun hq3_ => ?_)
  · exact T_ret ⟨hG, hS⟩
  refine T_sw rfl l_3 (fun hq4_ => ?_) (fun hq4_ => ?_)
  · have hq5_ := rw_0_7 hj hG
    exact T_ret ⟨hG, hS⟩
  refine T_sw rfl l_4 (fun hq6_ => ?_) (fun hq6_ => ?_)
  · have hq7_ := r_1_1 hG
    exact T_ret ⟨hG, hS⟩
  refine T_sw0 ?_
  refine T_le l_70 rfl (fun hq8_ => ?_) (fun hq8_ => ?_)
  · have hq11_ := i_full (a1)
    refine T_qc (t_X11_countOfPerson hn a1 M hG (i_rng (lo := 70) (hi := 2147483647) rfl (by omega) (by omega))) ?_
    rintro rv9 mv10 ⟨gq12_, kq13_⟩
    have hq14_ := kq13_.nil
    subst hq14_
    exact T_ret ⟨hG, hS⟩
  · have hq17_ := i_full (a1)
    refine T_qc (t_X11_countOfKind hn a1 M hG (i_rng (lo := (-2147483648)) (hi := 69) rfl (by omega) (by omega))) ?_
    rintro rv15 mv16 ⟨gq18_, kq19_⟩
    have hq20_ := kq19_.nil
    subst hq20_
    exact T_ret ⟨hG, hS⟩
abbrev l_X12_sumOf : List Bx := []
abbrev po_X12_sumOf (a1 a2 : Int32) (M : qM) (v : Int32) (M' : qM) : Prop := G M' ∧ Sm l_X12_sumOf M M'
theorem t_X12_sumOf_5 {n : Nat} (hn : 200000 ≤ n) {oa1 oa2 : Int32} {M0 : qM} : ∀ (m : Nat) (a1 a2 a3 a4 : Int32) (M : qM), G M → Sm l_X12_sumOf M0 M → 0 ≤ a1.toInt ∧ a1.toInt ≤ 192 → 0 ≤ a2.toInt ∧ a2.toInt ≤ 7 → 0 ≤ a4.toInt ∧ a4.toInt ≤ 12 → 12 - a4.toInt < (m : Int) → qT (f_X12_sumOf_5 n m a1 a2 a3 a4 M) (po_X12_sumOf oa1 oa2 M0) := by
  intro m
  induction m with
  | zero =>
    intro a1 a2 a3 a4 M hG hS i0 i1 i2 i5
    exfalso; omega
  | succ m ih =>
    intro a1 a2 a3 a4 M hG hS i0 i1 i2 i5
    show qT (b_X12_sumOf_5 n (f_X12_sumOf_5 n m) a1 a2 a3 a4 M) _
    unfold b_X12_sumOf_5
    refine T_le l_12 rfl (fun hq3_ => ?_) (fun hq3_ => ?_)
    · exact T_ret ⟨hG, hS⟩
    · refine T_qc (t_X12_at hn a2 a4 M hG (i_rng (lo := 0) (hi := 7) rfl (by omega) (by omega)) (i_rng (lo := 0) (hi := 11) rfl (by omega) (by omega))) ?_
      rintro rv4 mv5 ⟨hq6_, hq7_, gq8_, kq9_⟩
      have hq10_ := kq9_.nil
      subst hq10_
      refine T_qg (i_add rfl rfl (by omega) (by omega)) (by omega) (by omega) ?_
      have hq11_ := i_full (a3)
      have hq12_ := i_full (M 78 ((a1 + rv4).toNatClampNeg))
      refine T_ql rfl ?_
      intro xv13 hq14_
      refine T_ql (i_add rfl l_1 (by omega) (by omega)) ?_
      intro xv15 hq16_
      exact ih a1 a2 xv13 xv15 M hG hS (i_rng (lo := 0) (hi := 192) rfl (by omega) (by omega)) (i_rng (lo := 0) (hi := 7) rfl (by omega) (by omega)) (i_rng (lo := 0) (hi := 12) rfl (by omega) (by omega)) (by omega)
theorem t_X12_sumOf {n : Nat} (hn : 200000 ≤ n) (a1 a2 : Int32) (M : qM) (hG : G M) (pa1 : 0 ≤ a1.toInt ∧ a1.toInt ≤ 192) (pa2 : 0 ≤ a2.toInt ∧ a2.toInt ≤ 7) : qT (f_X12_sumOf n a1 a2 M) (po_X12_sumOf a1 a2 M) := by
  have hS : Sm l_X12_sumOf M M := Sm.rf
  unfold f_X12_sumOf
  exact (t_X12_sumOf_5 hn) n a1 a2 (0 : Int32) (0 : Int32) M hG hS (i_rng (lo := 0) (hi := 192) rfl (by omega) (by omega)) (i_rng (lo := 0) (hi := 7) rfl (by omega) (by omega)) (i_rng (lo := 0) (hi := 12) l_0 (by omega) (by omega)) (by have e2 : ((0 : Int32)).toInt = _ := l_0; have e3 : ((0 : Int32)).toInt = _ := l_0; omega)
