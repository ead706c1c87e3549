abbrev l_X9_mustEnd : List Bx := [(1, 2, 4, 5)]
abbrev po_X9_mustEnd (M : qM) (v : Int32) (M' : qM) : Prop := (0 ≤ v.toInt ∧ v.toInt ≤ 1) ∧ G M' ∧ Sm l_X9_mustEnd M M'
theorem t_X9_mustEnd {n : Nat} (hn : 200000 ≤ n) (M : qM) (hG : G M) : qT (f_X9_mustEnd n  M) (po_X9_mustEnd  M) := by
  have hS : Sm l_X9_mustEnd M M := Sm.rf
  unfold f_X9_mustEnd
  have hq1_ := r_1_2 hG
  have hq2_ := r_1_3 hG
  refine T_le rfl rfl (fun hq3_ => ?_) (fun hq3_ => ?_)
  · exact T_ret ⟨(i_rng (lo := 0) (hi := 1) l_1 (by omega) (by omega)), hG, hS⟩
  · refine T_qc (t_X9_fails hn (1 : Int32) (M 1 3) M hG (i_rng (lo := 1) (hi := 6) l_1 (by omega) (by omega)) (i_rng (lo := 0) (hi := 240) rfl (by omega) (by omega))) ?_
    rintro rv4 mv5 ⟨hq6_, gq7_, kq8_⟩
    have kq9_ := Sm.call hS kq8_ rfl
    have hq10_ : (mv5 1 3).toInt = (M 1 3).toInt := by rw [kq8_ 1 3 (by decide)]
    have hq11_ : (mv5 1 2).toInt = (M 1 2).toInt := by rw [kq8_ 1 2 (by decide)]
    refine T_eq rfl l_0 (fun hq12_ => ?_) (fun hq12_ => ?_)
    · exact T_ret ⟨(i_rng (lo := 0) (hi := 1) l_0 (by omega) (by omega)), gq7_, kq9_⟩
    · exfalso; omega
abbrev l_X4_read : List Bx := [(1, 2, 2, 5), (37, 53, 0, 0)]
abbrev po_X4_read (a1 : Int32) (M : qM) (v : Int32) (M' : qM) : Prop := G M' ∧ Sm l_X4_read M M'
theorem t_X4_read_17 {n : Nat} (hn : 200000 ≤ n) {r : Nat} (hr : q_isLaw r) {oa1 : Int32} {M0 : qM} : ∀ (m : Nat) (a2 : Int32) (M : qM), G M → Sm l_X4_read M0 M → 0 ≤ a2.toInt ∧ a2.toInt ≤ 17 → ((M 1 3).toInt ≤ (M 1 2).toInt ∧ (M r 6).toInt ≤ (M 1 3).toInt) → 17 - a2.toInt < (m : Int) → qT (f_X4_read_17 n r m a2 M) (po_X4_read oa1 M0) := by
  intro m
  induction m with
  | zero =>
    intro a2 M hG hS i0 hE i4
    have hq2_ := r_1_3 hG
    have hq3_ := r_1_2 hG
    have hq4_ := rw_0_6 hr hG
    exfalso; omega
  | succ m ih =>
    intro a2 M hG hS i0 hE i4
    show qT (b_X4_read_17 n r (f_X4_read_17 n r m) a2 M) _
    unfold b_X4_read_17
    have hq2_ := r_1_3 hG
    have hq3_ := r_1_2 hG
    have hq4_ := rw_0_6 hr hG
    refine T_lt l_16 rfl (fun hq5_ => ?_) (fun hq5_ => ?_)
    · exact T_ret ⟨hG, hS⟩
    · refine T_qc (t_X4_readClause hn hr  M hG (by omega)) ?_
      rintro rv6 mv7 ⟨hq8_, hq9_, gq10_, kq11_⟩
      have kq12_ := Sm.call hS kq11_ rfl
      have hq13_ : (mv7 1 2).toInt = (M 1 2).toInt := by rw [kq11_ 1 2 (by decide)]
      have hq14_ := r_1_3 gq10_
      have hq15_ := rw_0_6 hr gq10_
      have hq16_ := r_1_2 gq10_
      refine T_eq rfl l_0 (fun hq17_ => ?_) (fun hq17_ => ?_)
      · exact T_ret ⟨gq10_, kq12_⟩
      · have hq20_ := (show ((59 : Int32)).toInt = _ from l_59)
        refine T_qc (t_X9_takes hn (59 : Int32) mv7 gq10_ (i_rng (lo := 0) (hi := 255) l_59 (by omega) (by omega))) ?_
        rintro rv18 mv19 ⟨hq21_, hq22_, gq23_, kq24_⟩
        have kq25_ := Sm.call kq12_ kq24_ rfl
        have hq26_ : (mv19 r 6).toInt = (mv7 r 6).toInt := by rw [kq24_ r 6 (outl (lawin hr).1 rfl)]
        have hq27_ : (mv19 1 2).toInt = (mv7 1 2).toInt := by rw [kq24_ 1 2 (by decide)]
        have hq28_ := r_1_3 gq23_
        refine T_eq rfl l_0 (fun hq29_ => ?_) (fun hq29_ => ?_)
        · refine T_qc (t_X9_mustEnd hn  mv19 gq23_ ) ?_
          rintro rv30 mv31 ⟨hq32_, gq33_, kq34_⟩
          have kq35_ := Sm.call kq25_ kq34_ rfl
          have hq36_ : (mv31 r 6).toInt = (mv19 r 6).toInt := by rw [kq34_ r 6 (outl (lawin hr).1 rfl)]
          have hq37_ : (mv31 1 2).toInt = (mv19 1 2).toInt := by rw [kq34_ 1 2 (by decide)]
          have hq38_ : (mv31 1 3).toInt = (mv19 1 3).toInt := by rw [kq34_ 1 3 (by decide)]
          refine T_eq rfl l_0 (fun hq39_ => ?_) (fun hq39_ => ?_)
          · exact T_ret ⟨gq33_, kq35_⟩
          · have hq40_ := rw_0_7 hr gq33_
            exact T_ret ⟨gq33_, kq35_⟩
        · refine T_ql (i_add rfl l_1 (by omega) (by omega)) ?_
          intro xv41 hq42_
          have hq43_ := r_1_2 gq23_
          have hq44_ := rw_0_6 hr gq23_
          exact ih xv41 mv19 gq23_ kq25_ (i_rng (lo := 0) (hi := 17) rfl (by omega) (by omega)) (by omega) (by omega)
theorem t_X4_read {n : Nat} (hn : 200000 ≤ n) {r : Nat} (hr : q_isLaw r) (a1 : Int32) (M : qM) (hG : G M) (pa1 : 1 ≤ a1.toInt ∧ a1.toInt ≤ 240) : qT (f_X4_read n r a1 M) (po_X4_read a1 M) := by
  have hS : Sm l_X4_read M M := Sm.rf
  unfold f_X4_read
  refine T_qc (t_X3_clear hn hr  M hG ) ?_
  rintro rv45 mv46 ⟨hq47_, hq48_, gq49_, kq50_⟩
  have kq51_ := Sm.call hS kq50_ rfl
  have hq52_ := rw_0_6 hr gq49_
  refine T_qc (t_X9_openText hn a1 mv46 gq49_ (i_rng (lo := 1) (hi := 240) rfl (by omega) (by omega))) ?_
  rintro rv53 mv54 ⟨hq55_, hq56_, gq57_, kq58_⟩
  have kq59_ := Sm.call kq51_ kq58_ rfl
  have hq60_ : (mv54 r 6).toInt = (mv46 r 6).toInt := by rw [kq58_ r 6 (outl (lawin hr).1 rfl)]
  have hq61_ := r_1_3 gq57_
  have hq62_ := r_1_2 gq57_
  have hq63_ := rw_0_6 hr gq57_
  exact (t_X4_read_17 hn hr) n (0 : Int32) mv54 gq57_ kq59_ (i_rng (lo := 0) (hi := 17) l_0 (by omega) (by omega)) (by have e0 : ((0 : Int32)).toInt = _ := l_0; omega) (by have e0 : ((0 : Int32)).toInt = _ := l_0; omega)
abbrev l_X9_clear : List Bx := [(1, 2, 1, 2)]
abbrev po_X9_clear (M : qM) (v : Int32) (M' : qM) : Prop := (0 ≤ v.toInt ∧ v.toInt ≤ 0) ∧ ((M' 1 1).toInt = 0) ∧ G M' ∧ Sm l_X9_clear M M'
theorem t_X9_clear {n : Nat} (hn : 200000 ≤ n) (M : qM) (hG : G M) : qT (f_X9_clear n  M) (po_X9_clear  M) := by
  have hS : Sm l_X9_clear M M := Sm.rf
  unfold f_X9_clear
  refine T_mu hG hS (i_rng (lo := 0) (hi := 260) l_0 (by omega) (by omega)) (nw_1 _) (i := 0) rfl ⟨by decide, by decide, Or.inr ⟨by decide, by decide⟩⟩ ?_
  intro mv1 hq2_ gq3_ kq4_
  have hq5_ : (mv1 1 1).toInt = 0 := by rw [hq2_, mu_at]; exact l_0
  exact T_ret ⟨(i_rng (lo := 0) (hi := 0) l_0 (by omega) (by omega)), (by have e9 : (0 : Int32).toInt = _ := l_0; omega), gq3_, kq4_⟩
abbrev l_X12_here : List Bx := []
abbrev po_X12_here (M : qM) (v : Int32) (M' : qM) : Prop := ((-1) ≤ v.toInt ∧ v.toInt ≤ 255) ∧ ((v.toInt = -1 ∧ (M 77 10).toInt ≤ (M 77 9).toInt) ∨ ((M 77 9).toInt < (M 77 10).toInt ∧ v.toInt = ((M 84 (M 77 9).toNatClampNeg) &&& (255 : Int32)).toInt)) ∧ G M' ∧ Sm l_X12_here M M'
theorem t_X12_here {n : Nat} (hn : 200000 ≤ n) (M : qM) (hG : G M) : qT (f_X12_here n  M) (po_X12_here  M) := by
  have hS : Sm l_X12_here M M := Sm.rf
  unfold f_X12_here
  have hq1_ := r_77_9 hG
  have hq2_ := r_77_10 hG
  refine T_le rfl rfl (fun hq3_ => ?_) (fun hq3_ => ?_)
  · exact T_ret ⟨(i_rng (lo := (-1)) (hi := 255) l_m1 (by omega) (by omega)), (by have e9 : ((-1 : Int32)).toInt = _ := l_m1; omega), hG, hS⟩
  · refine T_qg rfl (by omega) (by omega) ?_
    have hq4_ := r_84 hG ((M 77 9).toNatClampNeg)
    have hq5_ := i_and (a := M 84 ((M 77 9).toNatClampNeg)) (b := (255 : Int32)) l_255 (by omega)
    exact T_ret ⟨(i_rng (lo := (-1)) (hi := 255) rfl (by omega) (by omega)), (by have e9 : ((M 84 ((M 77 9).toNatClampNeg)) &&& (255 : Int32)).toInt = _ := rfl; omega), hG, hS⟩
abbrev l_X12_isClause : List Bx := []
abbrev po_X12_isClause (a0 : Int32) (M : qM) (v : Int32) (M' : qM) : Prop := (0 ≤ v.toInt ∧ v.toInt ≤ 1) ∧ (v.toInt = 0 ∨ 0 ≤ a0.toInt) ∧ G M' ∧ Sm l_X12_isClause M M'
theorem t_X12_isClause {n : Nat} (hn : 200000 ≤ n) (a0 : Int32) (M : qM) (hG : G M) : qT (f_X12_isClause n a0 M) (po_X12_isClause a0 M) := by
  have hS : Sm l_X12_isClause M M := Sm.rf
  unfold f_X12_isClause
  refine T_eq rfl l_97 (fun hq1_ => ?_) (fun hq1_ => ?_)
  · exact T_ret ⟨(i_rng (lo := 0) (hi := 1) l_1 (by omega) (by omega)), (by have e9 : ((1 : Int32)).toInt = _ := l_1; omega), hG, hS⟩
  · refine T_eq rfl l_118 (fun hq2_ => ?_) (fun hq2_ => ?_)
    · exact T_ret ⟨(i_rng (lo := 0) (hi := 1) l_1 (by omega) (by omega)), (by have e9 : ((1 : Int32)).toInt = _ := l_1; omega), hG, hS⟩
    · refine T_eq rfl l_102 (fun hq3_ => ?_) (fun hq3_ => ?_)
      · exact T_ret ⟨(i_rng (lo := 0) (hi := 1) l_1 (by omega) (by omega)), (by have e9 : ((1 : Int32)).toInt = _ := l_1; omega), hG, hS⟩
      · refine T_eq rfl l_99 (fun hq4_ => ?_) (fun hq4_ => ?_)
        · exact T_ret ⟨(i_rng (lo := 0) (hi := 1) l_1 (by omega) (by omega)), (by have e9 : ((1 : Int32)).toInt = _ := l_1; omega), hG, hS⟩
        · exact T_ret ⟨(i_rng (lo := 0) (hi := 1) l_0 (by omega) (by omega)), (by have e9 : ((0 : Int32)).toInt = _ := l_0; omega), hG, hS⟩
abbrev l_X12_wrongAt : List Bx := [(77, 78, 11, 12)]
abbrev po_X12_wrongAt (a1 a2 : Int32) (M : qM) (v : Int32) (M' : qM) : Prop := (0 ≤ v.toInt ∧ v.toInt ≤ 0) ∧ G M' ∧ Sm l_X12_wrongAt M M'
theorem t_X12_wrongAt {n : Nat} (hn : 200000 ≤ n) (a1 a2 : Int32) (M : qM) (hG : G M) (pa1 : 1 ≤ a1.toInt ∧ a1.toInt ≤ 6) : qT (f_X12_wrongAt n a1 a2 M) (po_X12_wrongAt a1 a2 M) := by
  have hS : Sm l_X12_wrongAt M M := Sm.rf
  unfold f_X12_wrongAt
  have hq2_ := i_full (a2)
  refine T_mu hG hS (rn_77_11 _) nw_77_11 (i := 0) rfl ⟨by decide, by decide, Or.inr ⟨by decide, by decide⟩⟩ ?_
  intro mv1 hq3_ gq4_ kq5_
  have hq6_ : (mv1 77 11).toInt = (((-1000 : Int32) * a1) - a2).toInt := by rw [hq3_, mu_at]
  exact T_ret ⟨(i_rng (lo := 0) (hi := 0) l_0 (by omega) (by omega)), gq4_, kq5_⟩
abbrev l_X12_isDigit : List Bx := []
abbrev po_X12_isDigit (M : qM) (v : Int32) (M' : qM) : Prop := (0 ≤ v.toInt ∧ v.toInt ≤ 1) ∧ ((v.toInt ≠ 0 ∧ ((M 77 9).toInt < (M 77 10).toInt ∧ 48 ≤ ((M 84 (M 77 9).toNatClampNeg) &&& (255 : Int32)).toInt ∧ ((M 84 (M 77 9).toNatClampNeg) &&& (255 : Int32)).toInt ≤ 57)) ∨ (v.toInt = 0 ∧ ¬ ((M 77 9).toInt < (M 77 10).toInt ∧ 48 ≤ ((M 84 (M 77 9).toNatClampNeg) &&& (255 : Int32)).toInt ∧ ((M 84 (M 77 9).toNatClampNeg) &&& (255 : Int32)).toInt ≤ 57))) ∧ G M' ∧ Sm l_X12_isDigit M M'
theorem t_X12_isDigit {n : Nat} (hn : 200000 ≤ n) (M : qM) (hG : G M) : qT (f_X12_isDigit n  M) (po_X12_isDigit  M) := by
  have hS : Sm l_X12_isDigit M M := Sm.rf
  unfold f_X12_isDigit
  have hq1_ := r_77_9 hG
  have hq2_ := r_77_10 hG
  refine T_qc (t_X12_here hn  M hG ) ?_
  rintro rv3 mv4 ⟨hq5_, hq6_, gq7_, kq8_⟩
  have hq9_ := kq8_.nil
  subst hq9_
  refine T_lt rfl l_48 (fun hq10_ => ?_) (fun hq10_ => ?_)
  · exact T_ret ⟨(i_rng (lo := 0) (hi := 1) l_0 (by omega) (by omega)), (by have e9 : ((0 : Int32)).toInt = _ := l_0; omega), hG, hS⟩
  · refine T_qc (t_X12_here hn  M hG ) ?_
    rintro rv11 mv12 ⟨hq13_, hq14_, gq15_, kq16_⟩
    have hq17_ := kq16_.nil
    subst hq17_
    refine T_lt l_57 rfl (fun hq18_ => ?_) (fun hq18_ => ?_)
    · exact T_ret ⟨(i_rng (lo := 0) (hi := 1) l_0 (by omega) (by omega)), (by have e9 : ((0 : Int32)).toInt = _ := l_0; omega), hG, hS⟩
    · exact T_ret ⟨(i_rng (lo := 0) (hi := 1) l_1 (by omega) (by omega)), (by have e9 : ((1 : Int32)).toInt = _ := l_1; omega), hG, hS⟩
abbrev l_X12_factOf : List Bx := []
abbrev po_X12_factOf (a0 : Int32) (M : qM) (v : Int32) (M' : qM) : Prop := ((-1) ≤ v.toInt ∧ v.toInt ≤ 11) ∧ (v.toInt = -1 ∨ 0 ≤ a0.toInt) ∧ G M' ∧ Sm l_X12_factOf M M'
theorem t_X12_factOf {n : Nat} (hn : 200000 ≤ n) (a0 : Int32) (M : qM) (hG : G M) : qT (f_X12_factOf n a0 M) (po_X12_factOf a0 M) := by
  have hS : Sm l_X12_factOf M M := Sm.rf
  unfold f_X12_factOf
  refine T_sw rfl l_100 (fun hq1_ => ?_) (fun hq1_ => ?_)
  · exact T_ret ⟨(i_rng (lo := (-1)) (hi := 11) l_6 (by omega) (by omega)), (by have e9 : ((6 : Int32)).toInt = _ := l_6; omega), hG, hS⟩
  refine T_sw rfl l_101 (fun hq2_ => ?_) (fun hq2_ => ?_)
  · exact T_ret ⟨(i_rng (lo := (-1)) (hi := 11) l_m1 (by omega) (by omega)), (by have e9 : ((-1 : Int32)).toInt = _ := l_m1; omega), hG, hS⟩
  refine T_sw rfl l_102 (fun hq3_ => ?_) (fun hq3_ => ?_)
  · exact T_ret ⟨(i_rng (lo := (-1)) (hi := 11) l_m1 (by omega) (by omega)), (by have e9 : ((-1 : Int32)).toInt = _ := l_m1; omega), hG, hS⟩
  refine T_sw rfl l_103 (fun hq4_ => ?_) (fun hq4_ => ?_)
  · exact T_ret ⟨(i_rng (lo := (-1)) (hi := 11) l_m1 (by omega) (by omega)), (by have e9 : ((-1 : Int32)).toInt = _ := l_m1; omega), hG, hS⟩
  refine T_sw rfl l_104 (fun hq5_ => ?_) (fun hq5_ => ?_)
  · exact T_ret ⟨(i_rng (lo := (-1)) (hi := 11) l_1 (by omega) (by omega)), (by have e9 : ((1 : Int32)).toInt = _ := l_1; omega), hG, hS⟩
  refine T_sw rfl l_105 (fun hq6_ => ?_) (fun hq6_ => ?_)
  · exact T_ret ⟨(i_rng (lo := (-1)) (hi := 11) l_m1 (by omega) (by omega)), (by have e9 : ((-1 : Int32)).toInt = _ := l_m1; omega), hG, hS⟩
  refine T_sw rfl l_106 (fun hq7_ => ?_) (fun hq7_ => ?_)
  · exact T_ret ⟨(i_rng (lo := (-1)) (hi := 11) l_3 (by omega) (by omega)), (by have e9 : ((3 : Int32)).toInt = _ := l_3; omega), hG, hS⟩
  refine T_sw rfl l_107 (fun hq8_ => ?_) (fun hq8_ => ?_)
  · exact T_ret ⟨(i_rng (lo := (-1)) (hi := 11) l_0 (by omega) (by omega)), (by have e9 : ((0 : Int32)).toInt = _ := l_0; omega), hG, hS⟩
  refine T_sw rfl l_108 (fun hq9_ => ?_) (fun hq9_ => ?_)
  · exact T_ret ⟨(i_rng (lo := (-1)) (hi := 11) l_m1 (by omega) (by omega)), (by have e9 : ((-1 : Int32)).toInt = _ := l_m1; omega), hG, hS⟩
  refine T_sw rfl l_109 (fun hq10_ => ?_) (fun hq10_ => ?_)
  · exact T_ret ⟨(i_rng (lo := (-1)) (hi := 11) l_5 (by omega) (by omega)), (by have e9 : ((5 : Int32)).toInt = _ := l_5; omega), hG, hS⟩
  refine T_sw rfl l_110 (fun hq11_ => ?_) (fun hq11_ => ?_)
  · exact T_ret ⟨(i_rng (lo := (-1)) (hi := 11) l_9 (by omega) (by omega)), (by have e9 : ((9 : Int32)).toInt = _ := l_9; omega), hG, hS⟩
  refine T_sw rfl l_111 (fun hq12_ => ?_) (fun hq12_ => ?_)
  · exact T_ret ⟨(i_rng (lo := (-1)) (hi := 11) l_10 (by omega) (by omega)), (by have e9 : ((10 : Int32)).toInt = _ := l_10; omega), hG, hS⟩
  refine T_sw rfl l_112 (fun hq13_ => ?_) (fun hq13_ => ?_)
  · exact T_ret ⟨(i_rng (lo := (-1)) (hi := 11) l_7 (by omega) (by omega)), (by have e9 : ((7 : Int32)).toInt = _ := l_7; omega), hG, hS⟩
  refine T_sw rfl l_113 (fun hq14_ => ?_) (fun hq14_ => ?_)
  · exact T_ret ⟨(i_rng (lo := (-1)) (hi := 11) l_8 (by omega) (by omega)), (by have e9 : ((8 : Int32)).toInt = _ := l_8; omega), hG, hS⟩
  refine T_sw rfl l_114 (fun hq15_ => ?_) (fun hq15_ => ?_)
  · exact T_ret ⟨(i_rng (lo := (-1)) (hi := 11) l_m1 (by omega) (by omega)), (by have e9 : ((-1 : Int32)).toInt = _ := l_m1; omega), hG, hS⟩
  refine T_sw rfl l_115 (fun hq16_ => ?_) (fun hq16_ => ?_)
  · exact T_ret ⟨(i_rng (lo := (-1)) (hi := 11) l_m1 (by omega) (by omega)), (by have e9 : ((-1 : Int32)).toInt = _ := l_m1; omega), hG, hS⟩
  refine T_sw rfl l_116 (fun hq17_ => ?_) (fun hq17_ => ?_)
  · exact T_ret ⟨(i_rng (lo := (-1)) (hi := 11) l_m1 (by omega) (by omega)), (by have e9 : ((-1 : Int32)).toInt = _ := l_m1; omega), hG, hS⟩
  refine T_sw rfl l_117 (fun hq18_ => ?_) (fun hq18_ => ?_)
  · exact T_ret ⟨(i_rng (lo := (-1)) (hi := 11) l_m1 (by omega) (by omega)), (by have e9 : ((-1 : Int32)).toInt = _ := l_m1; omega), hG, hS⟩
  refine T_sw rfl l_118 (fun hq19_ => ?_) (fun hq19_ => ?_)
  · exact T_ret ⟨(i_rng (lo := (-1)) (hi := 11) l_m1 (by omega) (by omega)), (by have e9 : ((-1 : Int32)).toInt = _ := l_m1; omega), hG, hS⟩
  refine T_sw rfl l_119 (fun hq20_ => ?_) (fun hq20_ => ?_)
  · exact T_ret ⟨(i_rng (lo := (-1)) (hi := 11) l_11 (by omega) (by omega)), (by have e9 : ((11 : Int32)).toInt = _ := l_11; omega), hG, hS⟩
  refine T_sw rfl l_120 (fun hq21_ => ?_) (fun hq21_ => ?_)
  · exact T_ret ⟨(i_rng (lo := (-1)) (hi := 11) l_2 (by omega) (by omega)), (by have e9 : ((2 : Int32)).toInt = _ := l_2; omega), hG, hS⟩
  refine T_sw rfl l_121 (fun hq22_ => ?_) (fun hq22_ => ?_)
  · exact T_ret ⟨(i_rng (lo := (-1)) (hi := 11) l_4 (by omega) (by omega)), (by have e9 : ((4 : Int32)).toInt = _ := l_4; omega), hG, hS⟩
  refine T_sw0 ?_
  exact T_ret ⟨(i_rng (lo := (-1)) (hi := 11) l_m1 (by omega) (by omega)), (by have e9 : ((-1 : Int32)).toInt = _ := l_m1; omega), hG, hS⟩
abbrev l_X12_readsNumber : List Bx := [(77, 78, 9, 10), (77, 78, 11, 13)]
abbrev po_X12_readsNumber (M : qM) (v : Int32) (M' : qM) : Prop := (0 ≤ v.toInt ∧ v.toInt ≤ 1) ∧ (v.toInt = 0 ∨ ((M 77 9).toInt + 1 ≤ (M' 77 9).toInt ∧ (M' 77 9).toInt ≤ (M' 77 10).toInt ∧ 0 ≤ (M' 77 12).toInt ∧ (M' 77 12).toInt ≤ 99999)) ∧ G M' ∧ Sm l_X12_readsNumber M M'
theorem t_X12_readsNumber_10 {n : Nat} (hn : 200000 ≤ n) {M0 : qM} : ∀ (m : Nat) (a1 : Int32) (M : qM), G M → Sm l_X12_readsNumber M0 M → 0 ≤ a1.toInt ∧ a1.toInt ≤ 240 → ((M0 77 9).toInt = a1.toInt ∧ (M 77 9).toInt ≤ (M 77 10).toInt ∧ (((M 77 9).toInt = a1.toInt + 0 ∧ 0 ≤ (M 77 12).toInt ∧ (M 77 12).toInt ≤ 0 ∧ ((M 77 9).toInt < (M 77 10).toInt ∧ 48 ≤ ((M 84 (M 77 9).toNatClampNeg) &&& (255 : Int32)).toInt ∧ ((M 84 (M 77 9).toNatClampNeg) &&& (255 : Int32)).toInt ≤ 57)) ∨ ((M 77 9).toInt = a1.toInt + 1 ∧ 0 ≤ (M 77 12).toInt ∧ (M 77 12).toInt ≤ 9) ∨ ((M 77 9).toInt = a1.toInt + 2 ∧ 0 ≤ (M 77 12).toInt ∧ (M 77 12).toInt ≤ 99) ∨ ((M 77 9).toInt = a1.toInt + 3 ∧ 0 ≤ (M 77 12).toInt ∧ (M 77 12).toInt ≤ 999) ∨ ((M 77 9).toInt = a1.toInt + 4 ∧ 0 ≤ (M 77 12).toInt ∧ (M 77 12).toInt ≤ 9999) ∨ ((M 77 9).toInt = a1.toInt + 5 ∧ 0 ≤ (M 77 12).toInt ∧ (M 77 12).toInt ≤ 99999))) → 240 - (M 77 9).toInt < (m : Int) → qT (f_X12_readsNumber_10 n m a1 M) (po_X12_readsNumber  M0) := by
  intro m
  induction m with
  | zero =>
    intro a1 M hG hS i0 hE i4
    have hq1_ := r_77_9 hG
    have hq2_ := r_77_10 hG
    exfalso; omega
  | succ m ih =>
    intro a1 M hG hS i0 hE i4
    show qT (b_X12_readsNumber_10 n (f_X12_readsNumber_10 n m) a1 M) _
    unfold b_X12_readsNumber_10
    have hq1_ := r_77_9 hG
    have hq2_ := r_77_10 hG
    refine T_qc (t_X12_isDigit hn  M hG ) ?_
    rintro rv3 mv4 ⟨hq5_, hq6_, gq7_, kq8_⟩
    have hq9_ := kq8_.nil
    subst hq9_
    refine T_eq rfl l_0 (fun hq10_ => ?_) (fun hq10_ => ?_)
    · exact T_ret ⟨(i_rng (lo := 0) (hi := 1) l_1 (by omega) (by omega)), (by have e9 : ((1 : Int32)).toInt = _ := l_1; omega), hG, hS⟩
    · refine T_eq rfl (i_add rfl l_5 (by omega) (by omega)) (fun hq11_ => ?_) (fun hq11_ => ?_)
      · refine T_qc (t_X12_wrongAt hn (2 : Int32) (M 77 9) M hG (i_rng (lo := 1) (hi := 6) l_2 (by omega) (by omega))) ?_
        rintro rv12 mv13 ⟨hq14_, gq15_, kq16_⟩
        have kq17_ := Sm.call hS kq16_ rfl
        have hq18_ : (mv13 77 9).toInt = (M 77 9).toInt := by rw [kq16_ 77 9 (by decide)]
        have hq19_ : (mv13 77 10).toInt = (M 77 10).toInt := by rw [kq16_ 77 10 (by decide)]
        have hq20_ : (mv13 77 12).toInt = (M 77 12).toInt := by rw [kq16_ 77 12 (by decide)]
        refine T_qb rfl (by omega) (by omega) ?_
        exact T_ret ⟨(i_rng (lo := 0) (hi := 1) rfl (by omega) (by omega)), (by have e9 : (rv12).toInt = _ := rfl; omega), gq15_, kq17_⟩
      · refine T_qc (t_X12_here hn  M hG ) ?_
        rintro rv21 mv22 ⟨hq23_, hq24_, gq25_, kq26_⟩
        have hq27_ := kq26_.nil
        subst hq27_
        refine T_mu hG hS (rn_77_12 _) nw_77_12 (i := 1) rfl ⟨by decide, by decide, Or.inr ⟨by decide, by decide⟩⟩ ?_
        intro mv28 hq29_ gq30_ kq31_
        have hq32_ : (mv28 77 9).toInt = (M 77 9).toInt := by rw [hq29_, mu_ne (Or.inr (by decide))]
        have hq33_ : (mv28 77 10).toInt = (M 77 10).toInt := by rw [hq29_, mu_ne (Or.inr (by decide))]
        have hq34_ : (mv28 77 12).toInt = (((10 * (M 77 12).toInt) + rv21.toInt) - 48) := by rw [hq29_, mu_at]; exact (i_sub (i_add (i_mul l_10 rfl (by omega) (by omega)) rfl (by omega) (by omega)) l_48 (by omega) (by omega))
        have hq36_ := r_77_9 gq30_
        refine T_mu gq30_ kq31_ (i_rng (lo := 0) (hi := 240) (i_add rfl l_1 (by omega) (by omega)) (by omega) (by omega)) nw_77_9 (i := 0) rfl ⟨by decide, by decide, Or.inr ⟨by decide, by decide⟩⟩ ?_
        intro mv35 hq37_ gq38_ kq39_
        have hq40_ : (mv35 77 10).toInt = (mv28 77 10).toInt := by rw [hq37_, mu_ne (Or.inr (by decide))]
        have hq41_ : (mv35 77 12).toInt = (mv28 77 12).toInt := by rw [hq37_, mu_ne (Or.inr (by decide))]
        have hq42_ : (mv35 77 9).toInt = ((mv28 77 9).toInt + 1) := by rw [hq37_, mu_at]; exact (i_add rfl l_1 (by omega) (by omega))
        have hq43_ := r_77_9 gq38_
        have hq44_ := r_77_10 gq38_
        exact ih a1 mv35 gq38_ kq39_ (i_rng (lo := 0) (hi := 240) rfl (by omega) (by omega)) (by first | omega | (have q1_ : mv35 84 = M 84 := (by rw [hq37_, mu_nc (by decide)]; rw [hq29_, mu_nc (by decide)]); have q2_ : mv35 77 9 = M 77 9 := (by rw [hq37_, mu_ne (Or.inr (by decide))]; rw [hq29_, mu_ne (Or.inr (by decide))]); have q3_ : mv35 77 10 = M 77 10 := (by rw [hq37_, mu_ne (Or.inr (by decide))]; rw [hq29_, mu_ne (Or.inr (by decide))]); rw [q1_, q2_, q3_]; omega)) (by omega)
theorem t_X12_readsNumber {n : Nat} (hn : 200000 ≤ n) (M : qM) (hG : G M) (pe : ((M 77 9).toInt < (M 77 10).toInt ∧ 48 ≤ ((M 84 (M 77 9).toNatClampNeg) &&& (255 : Int32)).toInt ∧ ((M 84 (M 77 9).toNatClampNeg) &&& (255 : Int32)).toInt ≤ 57)) : qT (f_X12_readsNumber n  M) (po_X12_readsNumber  M) := by
  have hS : Sm l_X12_readsNumber M M := Sm.rf
  unfold f_X12_readsNumber
  have hq45_ := r_77_9 hG
  have hq46_ := r_77_10 hG
  refine T_ql rfl ?_
  intro xv47 hq48_
  refine T_mu hG hS (rn_77_12 _) nw_77_12 (i := 1) rfl ⟨by decide, by decide, Or.inr ⟨by decide, by decide⟩⟩ ?_
  intro mv49 hq50_ gq51_ kq52_
  have hq53_ : (mv49 77 9).toInt = (M 77 9).toInt := by rw [hq50_, mu_ne (Or.inr (by decide))]
  have hq54_ : (mv49 77 10).toInt = (M 77 10).toInt := by rw [hq50_, mu_ne (Or.inr (by decide))]
  have hq55_ : (mv49 77 12).toInt = 0 := by rw [hq50_, mu_at]; exact l_0
  have hq56_ := r_77_9 gq51_
  have hq57_ := r_77_10 gq51_
  exact (t_X12_readsNumber_10 hn) n xv47 mv49 gq51_ kq52_ (i_rng (lo := 0) (hi := 240) rfl (by omega) (by omega)) (by first | omega | (have q1_ : mv49 84 = M 84 := (by rw [hq50_, mu_nc (by decide)]); have q2_ : mv49 77 9 = M 77 9 := (by rw [hq50_, mu_ne (Or.inr (by decide))]); have q3_ : mv49 77 10 = M 77 10 := (by rw [hq50_, mu_ne (Or.inr (by decide))]); rw [q1_, q2_, q3_]; omega)) (by omega)
abbrev l_X12_sumSign : List Bx := []
abbrev po_X12_sumSign (a0 : Int32) (M : qM) (v : Int32) (M' : qM) : Prop := ((-1) ≤ v.toInt ∧ v.toInt ≤ 6) ∧ (v.toInt = -1 ∨ (2 ≤ v.toInt ∧ 0 ≤ a0.toInt)) ∧ G M' ∧ Sm l_X12_sumSign M M'
theorem t_X12_sumSign {n : Nat} (hn : 200000 ≤ n) (a0 : Int32) (M : qM) (hG : G M) : qT (f_X12_sumSign n a0 M) (po_X12_sumSign a0 M) := by
  have hS : Sm l_X12_sumSign M M := Sm.rf
  unfold f_X12_sumSign
  refine T_eq rfl l_43 (fun hq1_ => ?_) (fun hq1_ => ?_)
  · exact T_ret ⟨(i_rng (lo := (-1)) (hi := 6) l_2 (by omega) (by omega)), (by have e9 : ((2 : Int32)).toInt = _ := l_2; omega), hG, hS⟩
  · refine T_eq rfl l_45 (fun hq2_ => ?_) (fun hq2_ => ?_)
    · exact T_ret ⟨(i_rng (lo := (-1)) (hi := 6) l_3 (by omega) (by omega)), (by have e9 : ((3 : Int32)).toInt = _ := l_3; omega), hG, hS⟩
    · refine T_eq rfl l_42 (fun hq3_ => ?_) (fun hq3_ => ?_)
      · exact T_ret ⟨(i_rng (lo := (-1)) (hi := 6) l_4 (by omega) (by omega)), (by have e9 : ((4 : Int32)).toInt = _ := l_4; omega), hG, hS⟩
      · refine T_eq rfl l_47 (fun hq4_ => ?_) (fun hq4_ => ?_)
        · exact T_ret ⟨(i_rng (lo := (-1)) (hi := 6) l_5 (by omega) (by omega)), (by have e9 : ((5 : Int32)).toInt = _ := l_5; omega), hG, hS⟩
        · refine T_eq rfl l_37 (fun hq5_ => ?_) (fun hq5_ => ?_)
          · exact T_ret ⟨(i_rng (lo := (-1)) (hi := 6) l_6 (by omega) (by omega)), (by have e9 : ((6 : Int32)).toInt = _ := l_6; omega), hG, hS⟩
          · exact T_ret ⟨(i_rng (lo := (-1)) (hi := 6) l_m1 (by omega) (by omega)), (by have e9 : ((-1 : Int32)).toInt = _ := l_m1; omega), hG, hS⟩
abbrev l_X12_takes : List Bx := [(77, 78, 9, 10), (77, 78, 11, 12)]
abbrev po_X12_takes (a1 : Int32) (M : qM) (v : Int32) (M' : qM) : Prop := (0 ≤ v.toInt ∧ v.toInt ≤ 1) ∧ ((v.toInt = 0 ∧ (M' 77 9).toInt = (M 77 9).toInt) ∨ (v.toInt ≠ 0 ∧ (M' 77 9).toInt = (M 77 9).toInt + 1 ∧ (M 77 9).toInt < (M 77 10).toInt)) ∧ G M' ∧ Sm l_X12_takes M M'
theorem t_X12_takes {n : Nat} (hn : 200000 ≤ n) (a1 : Int32) (M : qM) (hG : G M) (pa1 : 44 ≤ a1.toInt ∧ a1.toInt ≤ 59) : qT (f_X12_takes n a1 M) (po_X12_takes a1 M) := by
  have hS : Sm l_X12_takes M M := Sm.rf
  unfold f_X12_takes
  have hq1_ := r_77_9 hG
  have hq2_ := r_77_10 hG
  refine T_qc (t_X12_here hn  M hG ) ?_
  rintro rv3 mv4 ⟨hq5_, hq6_, gq7_, kq8_⟩
  have hq9_ := kq8_.nil
  subst hq9_
  refine T_eq rfl rfl (fun hq10_ => ?_) (fun hq10_ => ?_)
  · refine T_mu hG hS (i_rng (lo := 0) (hi := 240) (i_add rfl l_1 (by omega) (by omega)) (by omega) (by omega)) nw_77_9 (i := 0) rfl ⟨by decide, by decide, Or.inr ⟨by decide, by decide⟩⟩ ?_
    intro mv11 hq12_ gq13_ kq14_
    have hq15_ : (mv11 77 10).toInt = (M 77 10).toInt := by rw [hq12_, mu_ne (Or.inr (by decide))]
    have hq16_ : (mv11 77 9).toInt = ((M 77 9).toInt + 1) := by rw [hq12_, mu_at]; exact (i_add rfl l_1 (by omega) (by omega))
    exact T_ret ⟨(i_rng (lo := 0) (hi := 1) l_1 (by omega) (by omega)), (by have e9 : ((1 : Int32)).toInt = _ := l_1; omega), gq13_, kq14_⟩
  · refine T_qc (t_X12_wrongAt hn (1 : Int32) (M 77 9) M hG (i_rng (lo := 1) (hi := 6) l_1 (by omega) (by omega))) ?_
    rintro rv17 mv18 ⟨hq19_, gq20_, kq21_⟩
    have kq22_ := Sm.call hS kq21_ rfl
    have hq23_ : (mv18 77 9).toInt = (M 77 9).toInt := by rw [kq21_ 77 9 (by decide)]
    have hq24_ : (mv18 77 10).toInt = (M 77 10).toInt := by rw [kq21_ 77 10 (by decide)]
    refine T_qb rfl (by omega) (by omega) ?_
    exact T_ret ⟨(i_rng (lo := 0) (hi := 1) rfl (by omega) (by omega)), (by have e9 : (rv17).toInt = _ := rfl; omega), gq20_, kq22_⟩
abbrev l_X10_knows_c7 : List Bx := []
abbrev po_X10_knows_c7 (a1 : Int32) (M : qM) (v : Int32) (M' : qM) : Prop := (0 ≤ v.toInt ∧ v.toInt ≤ 1) ∧ ((v.toInt = 1 ∧ (0 ≤ a1.toInt ∧ a1.toInt ≤ 7 ∧ (((M 7 8) >>> (a1 &&& 31)) &&& (1 : Int32)).toInt = 1)) ∨ (v.toInt = 0 ∧ ¬ (0 ≤ a1.toInt ∧ a1.toInt ≤ 7 ∧ (((M 7 8) >>> (a1 &&& 31)) &&& (1 : Int32)).toInt = 1))) ∧ G M' ∧ Sm l_X10_knows_c7 M M'
theorem t_X10_knows_c7 {n : Nat} (hn : 200000 ≤ n) (a1 : Int32) (M : qM) (hG : G M) : qT (f_X10_knows n 7 a1 M) (po_X10_knows_c7 a1 M) := by
  have hS : Sm l_X10_knows_c7 M M := Sm.rf
  unfold f_X10_knows
  try simp only [Nat.reduceAdd]
  refine T_lt rfl l_0 (fun hq1_ => ?_) (fun hq1_ => ?_)
  · exact T_ret ⟨(i_rng (lo := 0) (hi := 1) l_0 (by omega) (by omega)), (by have e9 : ((0 : Int32)).toInt = _ := l_0; omega), hG, hS⟩
  · refine T_le l_8 rfl (fun hq2_ => ?_) (fun hq2_ => ?_)
    · exact T_ret ⟨(i_rng (lo := 0) (hi := 1) l_0 (by omega) (by omega)), (by have e9 : ((0 : Int32)).toInt = _ := l_0; omega), hG, hS⟩
    · have hq3_ := i_and (a := (M 7 8) >>> (a1 &&& 31)) (b := (1 : Int32)) l_1 (by omega)
      refine T_eq rfl l_1 (fun hq4_ => ?_) (fun hq4_ => ?_)
      · exact T_ret ⟨(i_rng (lo := 0) (hi := 1) l_1 (by omega) (by omega)), (by have e9 : ((1 : Int32)).toInt = _ := l_1; omega), hG, hS⟩
      · exact T_ret ⟨(i_rng (lo := 0) (hi := 1) l_0 (by omega) (by omega)), (by have e9 : ((0 : Int32)).toInt = _ := l_0; omega), hG, hS⟩
abbrev l_X6_addStep : List Bx := [(53, 54, 3, 4), (54, 56, 0, 0)]
abbrev po_X6_addStep (a1 a2 : Int32) (M : qM) (v : Int32) (M' : qM) : Prop := (0 ≤ v.toInt ∧ v.toInt ≤ 1) ∧ G M' ∧ Sm l_X6_addStep M M'
theorem t_X6_addStep {n : Nat} (hn : 200000 ≤ n) (a1 a2 : Int32) (M : qM) (hG : G M) : qT (f_X6_addStep n a1 a2 M) (po_X6_addStep a1 a2 M) := by
  have hS : Sm l_X6_addStep M M := Sm.rf
  unfold f_X6_addStep
  have hq1_ := r_53_3 hG
  refine T_lt rfl l_40 (fun hq2_ => ?_) (fun hq2_ => ?_)
  · refine T_qg rfl (by omega) (by omega) ?_
    refine T_mu hG hS (rn_54 _ _) (nw_54 _) (i := 1) rfl ⟨by decide, by decide, Or.inl rfl⟩ ?_
    intro mv3 hq4_ gq5_ kq6_
    have hq7_ : (mv3 53 3).toInt = (M 53 3).toInt := by rw [hq4_, mu_ne (Or.inl (by decide))]
    have hq8_ : (mv3 54 ((M 53 3).toNatClampNeg)).toInt = a1.toInt := by rw [hq4_, mu_at]
    have hq9_ := r_53_3 gq5_
    refine T_qg rfl (by omega) (by omega) ?_
    refine T_mu gq5_ kq6_ (rn_55 _ _) (nw_55 _) (i := 1) rfl ⟨by decide, by decide, Or.inl rfl⟩ ?_
    intro mv10 hq11_ gq12_ kq13_
    have hq14_ : (mv10 53 3).toInt = (mv3 53 3).toInt := by rw [hq11_, mu_ne (Or.inl (by decide))]
    have hq15_ : (mv10 54 ((M 53 3).toNatClampNeg)).toInt = (mv3 54 ((M 53 3).toNatClampNeg)).toInt := by rw [hq11_, mu_ne (Or.inl (by decide))]
    have hq16_ : (mv10 55 ((mv3 53 3).toNatClampNeg)).toInt = a2.toInt := by rw [hq11_, mu_at]
    have hq18_ := r_53_3 gq12_
    refine T_mu gq12_ kq13_ (i_rng (lo := 0) (hi := 40) (i_add rfl l_1 (by omega) (by omega)) (by omega) (by omega)) (nw_53 _) (i := 0) rfl ⟨by decide, by decide, Or.inr ⟨by decide, by decide⟩⟩ ?_
    intro mv17 hq19_ gq20_ kq21_
    have hq22_ : (mv17 54 ((M 53 3).toNatClampNeg)).toInt = (mv10 54 ((M 53 3).toNatClampNeg)).toInt := by rw [hq19_, mu_ne (Or.inl (by decide))]
    have hq23_ : (mv17 55 ((mv3 53 3).toNatClampNeg)).toInt = (mv10 55 ((mv3 53 3).toNatClampNeg)).toInt := by rw [hq19_, mu_ne (Or.inl (by decide))]
    have hq24_ : (mv17 53 3).toInt = ((mv10 53 3).toInt + 1) := by rw [hq19_, mu_at]; exact (i_add rfl l_1 (by omega) (by omega))
    exact T_ret ⟨(i_rng (lo := 0) (hi := 1) l_1 (by omega) (by omega)), gq20_, kq21_⟩
  · exact T_ret ⟨(i_rng (lo := 0) (hi := 1) l_0 (by omega) (by omega)), hG, hS⟩
