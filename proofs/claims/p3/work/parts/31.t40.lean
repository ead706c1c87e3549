abbrev l_X12_count : List Bx := []
abbrev po_X12_count (a1 : Int32) (M : qM) (v : Int32) (M' : qM) : Prop := G M' ∧ Sm l_X12_count M M'
theorem t_X12_count {n : Nat} (hn : 200000 ≤ n) (a1 : Int32) (M : qM) (hG : G M) : qT (f_X12_count n a1 M) (po_X12_count a1 M) := by
  have hS : Sm l_X12_count M M := Sm.rf
  unfold f_X12_count
  refine T_sw rfl l_0 (fun hq1_ => ?_) (fun hq1_ => ?_)
  · exact T_ret ⟨hG, hS⟩
  refine T_sw rfl l_1 (fun hq2_ => ?_) (fun hq2_ => ?_)
  · exact T_ret ⟨hG, hS⟩
  refine T_sw rfl l_2 (fun hq3_ => ?_) (fun hq3_ => ?_)
  · exact T_ret ⟨hG, hS⟩
  refine T_sw rfl l_3 (fun hq4_ => ?_) (fun hq4_ => ?_)
  · have hq5_ := r_77_17 hG
    exact T_ret ⟨hG, hS⟩
  refine T_sw rfl l_4 (fun hq6_ => ?_) (fun hq6_ => ?_)
  · have hq7_ := r_77_8 hG
    exact T_ret ⟨hG, hS⟩
  refine T_sw0 ?_
  have hq10_ := (show ((10 : Int32)).toInt = _ from l_10)
  have hq11_ := (show ((21 : Int32)).toInt = _ from l_21)
  refine T_qc (t_X12_in hn a1 (10 : Int32) (21 : Int32) M hG (i_rng (lo := 0) (hi := 70) l_10 (by omega) (by omega)) (i_rng (lo := 0) (hi := 99999) l_21 (by omega) (by omega))) ?_
  rintro rv8 mv9 ⟨hq12_, hq13_, gq14_, kq15_⟩
  have hq16_ := kq15_.nil
  subst hq16_
  refine T_eq rfl l_0 (fun hq17_ => ?_) (fun hq17_ => ?_)
  · have hq20_ := (show ((30 : Int32)).toInt = _ from l_30)
    have hq21_ := (show ((41 : Int32)).toInt = _ from l_41)
    refine T_qc (t_X12_in hn a1 (30 : Int32) (41 : Int32) M hG (i_rng (lo := 0) (hi := 70) l_30 (by omega) (by omega)) (i_rng (lo := 0) (hi := 99999) l_41 (by omega) (by omega))) ?_
    rintro rv18 mv19 ⟨hq22_, hq23_, gq24_, kq25_⟩
    have hq26_ := kq25_.nil
    subst hq26_
    refine T_eq rfl l_0 (fun hq27_ => ?_) (fun hq27_ => ?_)
    · have hq30_ := (show ((50 : Int32)).toInt = _ from l_50)
      have hq31_ := (show ((61 : Int32)).toInt = _ from l_61)
      refine T_qc (t_X12_in hn a1 (50 : Int32) (61 : Int32) M hG (i_rng (lo := 0) (hi := 70) l_50 (by omega) (by omega)) (i_rng (lo := 0) (hi := 99999) l_61 (by omega) (by omega))) ?_
      rintro rv28 mv29 ⟨hq32_, hq33_, gq34_, kq35_⟩
      have hq36_ := kq35_.nil
      subst hq36_
      refine T_eq rfl l_0 (fun hq37_ => ?_) (fun hq37_ => ?_)
      · have hq40_ := (show ((70 : Int32)).toInt = _ from l_70)
        have hq41_ := (show ((109 : Int32)).toInt = _ from l_109)
        refine T_qc (t_X12_in hn a1 (70 : Int32) (109 : Int32) M hG (i_rng (lo := 0) (hi := 70) l_70 (by omega) (by omega)) (i_rng (lo := 0) (hi := 99999) l_109 (by omega) (by omega))) ?_
        rintro rv38 mv39 ⟨hq42_, hq43_, gq44_, kq45_⟩
        have hq46_ := kq45_.nil
        subst hq46_
        refine T_eq rfl l_0 (fun hq47_ => ?_) (fun hq47_ => ?_)
        · exact T_ret ⟨hG, hS⟩
        · have hq50_ := (show (a1 - ((a1 / (10 : Int32)) * (10 : Int32))).toInt = _ from (i_sub rfl (i_mul (i_div rfl l_10 (by omega) (by omega)) l_10 (by omega) (by omega)) (by omega) (by omega)))
          refine T_qc (t_X12_isPerson hn (a1 - ((a1 / (10 : Int32)) * (10 : Int32))) M hG ) ?_
          rintro rv48 mv49 ⟨hq51_, hq52_, gq53_, kq54_⟩
          have hq55_ := kq54_.nil
          subst hq55_
          refine T_eq rfl l_0 (fun hq56_ => ?_) (fun hq56_ => ?_)
          · exact T_ret ⟨hG, hS⟩
          · refine T_sw (i_div rfl l_10 (by omega) (by omega)) l_7 (fun hq57_ => ?_) (fun hq57_ => ?_)
            · refine T_qg (i_sub (i_add l_288 rfl (by omega) (by omega)) l_70 (by omega) (by omega)) (by omega) (by omega) ?_
              exact T_ret ⟨hG, hS⟩
            refine T_sw (i_div rfl l_10 (by omega) (by omega)) l_8 (fun hq58_ => ?_) (fun hq58_ => ?_)
            · refine T_qg (i_sub (i_add l_296 rfl (by omega) (by omega)) l_80 (by omega) (by omega)) (by omega) (by omega) ?_
              refine T_qg (i_sub (i_add l_304 rfl (by omega) (by omega)) l_80 (by omega) (by omega)) (by omega) (by omega) ?_
              have hq59_ := i_full (M 78 ((((296 : Int32) + a1) - (80 : Int32)).toNatClampNeg))
              have hq60_ := i_full (M 78 ((((304 : Int32) + a1) - (80 : Int32)).toNatClampNeg))
              exact T_ret ⟨hG, hS⟩
            refine T_sw (i_div rfl l_10 (by omega) (by omega)) l_9 (fun hq61_ => ?_) (fun hq61_ => ?_)
            · refine T_qc (t_X12_sumOf hn (0 : Int32) (a1 - (90 : Int32)) M hG (i_rng (lo := 0) (hi := 192) l_0 (by omega) (by omega)) (i_rng (lo := 0) (hi := 7) (i_sub rfl l_90 (by omega) (by omega)) (by omega) (by omega))) ?_
              rintro rv62 mv63 ⟨gq64_, kq65_⟩
              have hq66_ := kq65_.nil
              subst hq66_
              exact T_ret ⟨hG, hS⟩
            refine T_sw0 ?_
            refine T_qc (t_X12_sumOf hn (192 : Int32) (a1 - (100 : Int32)) M hG (i_rng (lo := 0) (hi := 192) l_192 (by omega) (by omega)) (i_rng (lo := 0) (hi := 7) (i_sub rfl l_100 (by omega) (by omega)) (by omega) (by omega))) ?_
            rintro rv67 mv68 ⟨gq69_, kq70_⟩
            have hq71_ := kq70_.nil
            subst hq71_
            exact T_ret ⟨hG, hS⟩
      · have hq74_ := (show (a1 - (50 : Int32)).toInt = _ from (i_sub rfl l_50 (by omega) (by omega)))
        refine T_qc (t_X12_isKind hn (a1 - (50 : Int32)) M hG ) ?_
        rintro rv72 mv73 ⟨hq75_, hq76_, gq77_, kq78_⟩
        have hq79_ := kq78_.nil
        subst hq79_
        refine T_eq rfl l_0 (fun hq80_ => ?_) (fun hq80_ => ?_)
        · exact T_ret ⟨hG, hS⟩
        · refine T_qg (i_sub rfl l_50 (by omega) (by omega)) (by omega) (by omega) ?_
          exact T_ret ⟨hG, hS⟩
    · have hq83_ := (show (a1 - (30 : Int32)).toInt = _ from (i_sub rfl l_30 (by omega) (by omega)))
      refine T_qc (t_X12_isKind hn (a1 - (30 : Int32)) M hG ) ?_
      rintro rv81 mv82 ⟨hq84_, hq85_, gq86_, kq87_⟩
      have hq88_ := kq87_.nil
      subst hq88_
      refine T_eq rfl l_0 (fun hq89_ => ?_) (fun hq89_ => ?_)
      · exact T_ret ⟨hG, hS⟩
      · refine T_qg (i_sub rfl l_30 (by omega) (by omega)) (by omega) (by omega) ?_
        exact T_ret ⟨hG, hS⟩
  · have hq92_ := (show (a1 - (10 : Int32)).toInt = _ from (i_sub rfl l_10 (by omega) (by omega)))
    refine T_qc (t_X12_isKind hn (a1 - (10 : Int32)) M hG ) ?_
    rintro rv90 mv91 ⟨hq93_, hq94_, gq95_, kq96_⟩
    have hq97_ := kq96_.nil
    subst hq97_
    refine T_eq rfl l_0 (fun hq98_ => ?_) (fun hq98_ => ?_)
    · exact T_ret ⟨hG, hS⟩
    · refine T_qg (i_sub rfl l_10 (by omega) (by omega)) (by omega) (by omega) ?_
      exact T_ret ⟨hG, hS⟩
