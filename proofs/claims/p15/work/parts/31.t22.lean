abbrev l_X12_has : List Bx := [(78, 79, 0, 954), (79, 80, 0, 954), (96, 98, 0, 0)]
abbrev po_X12_has (a1 a2 a3 : Int32) (M : qM) (v : Int32) (M' : qM) : Prop := ((M' 78 313).toInt = (M 78 313).toInt ∧ (M' 78 312).toInt = (M 78 312).toInt) ∧ G M' ∧ Sm l_X12_has M M'
theorem t_X12_has {n : Nat} (hn : 200000 ≤ n) (a1 a2 a3 : Int32) (M : qM) (hG : G M) : qT (f_X12_has n a1 a2 a3 M) (po_X12_has a1 a2 a3 M) := by
  have hS : Sm l_X12_has M M := Sm.rf
  unfold f_X12_has
  refine T_qc (t_X12_isPerson hn a1 M hG ) ?_
  rintro rv1 mv2 ⟨hq3_, hq4_, gq5_, kq6_⟩
  have hq7_ := kq6_.nil
  subst hq7_
  refine T_eq rfl l_0 (fun hq8_ => ?_) (fun hq8_ => ?_)
  · exact T_ret ⟨(by have e9 : ((-1 : Int32)).toInt = _ := l_m1; omega), hG, hS⟩
  · refine T_qc (t_X12_isKind hn a2 M hG ) ?_
    rintro rv9 mv10 ⟨hq11_, hq12_, gq13_, kq14_⟩
    have hq15_ := kq14_.nil
    subst hq15_
    refine T_eq rfl l_0 (fun hq16_ => ?_) (fun hq16_ => ?_)
    · exact T_ret ⟨(by have e9 : ((-1 : Int32)).toInt = _ := l_m1; omega), hG, hS⟩
    · have hq19_ := (show ((0 : Int32)).toInt = _ from l_0)
      have hq20_ := (show ((5 : Int32)).toInt = _ from l_5)
      refine T_qc (t_X12_in hn a3 (0 : Int32) (5 : Int32) M hG (i_rng (lo := 0) (hi := 70) l_0 (by omega) (by omega)) (i_rng (lo := 0) (hi := 99999) l_5 (by omega) (by omega))) ?_
      rintro rv17 mv18 ⟨hq21_, hq22_, gq23_, kq24_⟩
      have hq25_ := kq24_.nil
      subst hq25_
      refine T_eq rfl l_0 (fun hq26_ => ?_) (fun hq26_ => ?_)
      · exact T_ret ⟨(by have e9 : ((-1 : Int32)).toInt = _ := l_m1; omega), hG, hS⟩
      · refine T_qc (t_X12_at hn a1 a2 M hG (i_rng (lo := 0) (hi := 7) rfl (by omega) (by omega)) (i_rng (lo := 0) (hi := 11) rfl (by omega) (by omega))) ?_
        rintro rv27 mv28 ⟨hq29_, hq30_, gq31_, kq32_⟩
        have hq33_ := kq32_.nil
        subst hq33_
        refine T_eq rfl l_0 (fun hq34_ => ?_) (fun hq34_ => ?_)
        · refine T_qg (i_add l_0 rfl (by omega) (by omega)) (by omega) (by omega) ?_
          exact T_ret ⟨(by have e9 : (M 78 (((0 : Int32) + rv27).toNatClampNeg)).toInt = _ := rfl; omega), hG, hS⟩
        · refine T_eq rfl l_1 (fun hq35_ => ?_) (fun hq35_ => ?_)
          · refine T_qg (i_add l_192 rfl (by omega) (by omega)) (by omega) (by omega) ?_
            exact T_ret ⟨(by have e9 : (M 78 (((192 : Int32) + rv27).toNatClampNeg)).toInt = _ := rfl; omega), hG, hS⟩
          · refine T_eq rfl l_2 (fun hq36_ => ?_) (fun hq36_ => ?_)
            · refine T_qg (i_add l_96 rfl (by omega) (by omega)) (by omega) (by omega) ?_
              exact T_ret ⟨(by have e9 : (M 78 (((96 : Int32) + rv27).toNatClampNeg)).toInt = _ := rfl; omega), hG, hS⟩
            · refine T_qc (t_X12_copies_c78_79 hn  M hG ) ?_
              rintro rv37 mv38 ⟨hq39_, hq40_, gq41_, kq42_⟩
              have kq43_ := Sm.call hS kq42_ rfl
              have hq44_ : (mv38 78 313).toInt = (M 78 313).toInt := by rw [kq42_ 78 313 (by decide)]
              have hq45_ : (mv38 78 312).toInt = (M 78 312).toInt := by rw [kq42_ 78 312 (by decide)]
              refine T_qc (t_X12_forgets hn a1 a2 mv38 gq41_ (i_rng (lo := 0) (hi := 7) rfl (by omega) (by omega)) (i_rng (lo := 0) (hi := 11) rfl (by omega) (by omega))) ?_
              rintro rv46 mv47 ⟨hq48_, gq49_, kq50_⟩
              have kq51_ := Sm.call kq43_ kq50_ rfl
              have hq52_ : (mv47 78 313).toInt = (mv38 78 313).toInt := by rw [kq50_ 78 313 (by decide)]
              have hq53_ : (mv47 78 312).toInt = (mv38 78 312).toInt := by rw [kq50_ 78 312 (by decide)]
              have hq54_ : (mv47 79 312).toInt = (mv38 79 312).toInt := by rw [kq50_ 79 312 (by decide)]
              have hq55_ : (mv47 79 313).toInt = (mv38 79 313).toInt := by rw [kq50_ 79 313 (by decide)]
              refine T_qc (t_X12_oldOnes hn a1 a2 mv47 gq49_ (i_rng (lo := 0) (hi := 7) rfl (by omega) (by omega)) (i_rng (lo := 0) (hi := 11) rfl (by omega) (by omega))) ?_
              rintro rv56 mv57 ⟨gq58_, kq59_⟩
              have kq60_ := Sm.call kq51_ kq59_ rfl
              have hq61_ : (mv57 78 313).toInt = (mv47 78 313).toInt := by rw [kq59_ 78 313 (by decide)]
              have hq62_ : (mv57 78 312).toInt = (mv47 78 312).toInt := by rw [kq59_ 78 312 (by decide)]
              have hq63_ : (mv57 79 312).toInt = (mv47 79 312).toInt := by rw [kq59_ 79 312 (by decide)]
              have hq64_ : (mv57 79 313).toInt = (mv47 79 313).toInt := by rw [kq59_ 79 313 (by decide)]
              refine T_qc (t_X12_voidFor hn a1 a2 (8 : Int32) mv57 gq58_ (i_rng (lo := 0) (hi := 7) rfl (by omega) (by omega)) (i_rng (lo := 0) (hi := 11) rfl (by omega) (by omega)) (i_rng (lo := 0) (hi := 8) l_8 (by omega) (by omega))) ?_
              rintro rv65 mv66 ⟨hq67_, gq68_, kq69_⟩
              have kq70_ := Sm.call kq60_ kq69_ rfl
              have hq71_ : (mv66 78 313).toInt = (mv57 78 313).toInt := by rw [kq69_ 78 313 (by decide)]
              have hq72_ : (mv66 78 312).toInt = (mv57 78 312).toInt := by rw [kq69_ 78 312 (by decide)]
              have hq73_ : (mv66 79 312).toInt = (mv57 79 312).toInt := by rw [kq69_ 79 312 (by decide)]
              have hq74_ : (mv66 79 313).toInt = (mv57 79 313).toInt := by rw [kq69_ 79 313 (by decide)]
              refine T_lt rfl rfl (fun hq75_ => ?_) (fun hq75_ => ?_)
              · unfold f_X12_has_136
                unfold f_X12_has_137
                refine T_qc (t_X12_copies_c79_78 hn  mv66 gq68_ ) ?_
                rintro rv76 mv77 ⟨hq78_, hq79_, gq80_, kq81_⟩
                have kq82_ := Sm.call kq70_ kq81_ rfl
                have hq83_ : (mv77 79 312).toInt = (mv66 79 312).toInt := by rw [kq81_ 79 312 (by decide)]
                have hq84_ : (mv77 79 313).toInt = (mv66 79 313).toInt := by rw [kq81_ 79 313 (by decide)]
                refine T_eq rfl l_3 (fun hq85_ => ?_) (fun hq85_ => ?_)
                · exact T_ret ⟨(by have e9 : (rv56).toInt = _ := rfl; omega), gq80_, kq82_⟩
                · refine T_eq rfl l_4 (fun hq86_ => ?_) (fun hq86_ => ?_)
                  · exact T_ret ⟨(by have e9 : (rv65).toInt = _ := rfl; omega), gq80_, kq82_⟩
                  · refine T_eq l_0 l_0 (fun hq87_ => ?_) (fun hq87_ => ?_)
                    · exact T_ret ⟨(by have e9 : ((0 : Int32)).toInt = _ := l_0; omega), gq80_, kq82_⟩
                    · exfalso; omega
              · refine T_qc (t_X12_hasNeeds hn a1 a2 mv66 gq68_ (i_rng (lo := 0) (hi := 7) rfl (by omega) (by omega)) (i_rng (lo := 0) (hi := 11) rfl (by omega) (by omega))) ?_
                rintro rv88 mv89 ⟨hq90_, gq91_, kq92_⟩
                have hq93_ := kq92_.nil
                subst hq93_
                refine T_eq rfl l_0 (fun hq94_ => ?_) (fun hq94_ => ?_)
                · unfold f_X12_has_136
                  unfold f_X12_has_137
                  refine T_qc (t_X12_copies_c79_78 hn  mv66 gq68_ ) ?_
                  rintro rv95 mv96 ⟨hq97_, hq98_, gq99_, kq100_⟩
                  have kq101_ := Sm.call kq70_ kq100_ rfl
                  have hq102_ : (mv96 79 312).toInt = (mv66 79 312).toInt := by rw [kq100_ 79 312 (by decide)]
                  have hq103_ : (mv96 79 313).toInt = (mv66 79 313).toInt := by rw [kq100_ 79 313 (by decide)]
                  refine T_eq rfl l_3 (fun hq104_ => ?_) (fun hq104_ => ?_)
                  · exact T_ret ⟨(by have e9 : (rv56).toInt = _ := rfl; omega), gq99_, kq101_⟩
                  · refine T_eq rfl l_4 (fun hq105_ => ?_) (fun hq105_ => ?_)
                    · exact T_ret ⟨(by have e9 : (rv65).toInt = _ := rfl; omega), gq99_, kq101_⟩
                    · refine T_eq l_0 l_0 (fun hq106_ => ?_) (fun hq106_ => ?_)
                      · exact T_ret ⟨(by have e9 : ((0 : Int32)).toInt = _ := l_0; omega), gq99_, kq101_⟩
                      · exfalso; omega
                · unfold f_X12_has_137
                  refine T_qc (t_X12_copies_c79_78 hn  mv66 gq68_ ) ?_
                  rintro rv107 mv108 ⟨hq109_, hq110_, gq111_, kq112_⟩
                  have kq113_ := Sm.call kq70_ kq112_ rfl
                  have hq114_ : (mv108 79 312).toInt = (mv66 79 312).toInt := by rw [kq112_ 79 312 (by decide)]
                  have hq115_ : (mv108 79 313).toInt = (mv66 79 313).toInt := by rw [kq112_ 79 313 (by decide)]
                  refine T_eq rfl l_3 (fun hq116_ => ?_) (fun hq116_ => ?_)
                  · exact T_ret ⟨(by have e9 : (rv56).toInt = _ := rfl; omega), gq111_, kq113_⟩
                  · refine T_eq rfl l_4 (fun hq117_ => ?_) (fun hq117_ => ?_)
                    · exact T_ret ⟨(by have e9 : (rv65).toInt = _ := rfl; omega), gq111_, kq113_⟩
                    · refine T_eq l_1 l_0 (fun hq118_ => ?_) (fun hq118_ => ?_)
                      · exfalso; omega
                      · exact T_ret ⟨(by have e9 : ((1 : Int32)).toInt = _ := l_1; omega), gq111_, kq113_⟩
abbrev l_X1_findsAlike : List Bx := [(34, 35, 4, 5), (35, 37, 0, 0)]
abbrev po_X1_findsAlike (a1 a2 a3 : Int32) (M : qM) (v : Int32) (M' : qM) : Prop := (0 ≤ v.toInt ∧ v.toInt ≤ 1) ∧ G M' ∧ Sm l_X1_findsAlike M M'
theorem t_X1_findsAlike {n : Nat} (hn : 200000 ≤ n) {j : Nat} (hj : q_isLaw j) (a1 a2 a3 : Int32) (M : qM) (hG : G M) (pa1 : 0 ≤ a1.toInt ∧ a1.toInt ≤ 11) (pa2 : 0 ≤ a2.toInt ∧ a2.toInt ≤ 11) : qT (f_X1_findsAlike n j a1 a2 a3 M) (po_X1_findsAlike a1 a2 a3 M) := by
  have hS : Sm l_X1_findsAlike M M := Sm.rf
  unfold f_X1_findsAlike
  refine T_eq rfl rfl (fun hq1_ => ?_) (fun hq1_ => ?_)
  · exact T_ret ⟨(i_rng (lo := 0) (hi := 1) l_1 (by omega) (by omega)), hG, hS⟩
  · refine T_qg rfl (by omega) (by omega) ?_
    refine T_qg rfl (by omega) (by omega) ?_
    refine T_qc (t_X1_tellDeed hn a1 (M 4 a1.toNatClampNeg) (M 5 a1.toNatClampNeg) a3 M hG (i_rng (lo := 0) (hi := 12) rfl (by omega) (by omega))) ?_
    rintro rv2 mv3 ⟨hq4_, gq5_, kq6_⟩
    have kq7_ := Sm.call hS kq6_ rfl
    refine T_qc (t_X1_isAlike hn hj a2 mv3 gq5_ (i_rng (lo := 0) (hi := 11) rfl (by omega) (by omega))) ?_
    rintro rv8 mv9 ⟨hq10_, gq11_, kq12_⟩
    have kq13_ := Sm.call kq7_ kq12_ rfl
    refine T_qb rfl (by omega) (by omega) ?_
    exact T_ret ⟨(i_rng (lo := 0) (hi := 1) rfl (by omega) (by omega)), gq11_, kq13_⟩
abbrev l_X11_alike : List Bx := [(34, 35, 4, 5), (35, 37, 0, 0)]
abbrev po_X11_alike (a1 a2 : Int32) (M : qM) (v : Int32) (M' : qM) : Prop := ((-1) ≤ v.toInt ∧ v.toInt ≤ 1) ∧ G M' ∧ Sm l_X11_alike M M'
theorem t_X11_alike {n : Nat} (hn : 200000 ≤ n) {j : Nat} (hj : q_isLaw j) (a1 a2 : Int32) (M : qM) (hG : G M) : qT (f_X11_alike n j a1 a2 M) (po_X11_alike a1 a2 M) := by
  have hS : Sm l_X11_alike M M := Sm.rf
  unfold f_X11_alike
  refine T_qc (t_X2_knows hn a1 M hG ) ?_
  rintro rv1 mv2 ⟨hq3_, hq4_, gq5_, kq6_⟩
  have hq7_ := kq6_.nil
  subst hq7_
  refine T_eq rfl l_0 (fun hq8_ => ?_) (fun hq8_ => ?_)
  · exact T_ret ⟨(i_rng (lo := (-1)) (hi := 1) l_m1 (by omega) (by omega)), hG, hS⟩
  · refine T_qc (t_X2_knows hn a2 M hG ) ?_
    rintro rv9 mv10 ⟨hq11_, hq12_, gq13_, kq14_⟩
    have hq15_ := kq14_.nil
    subst hq15_
    refine T_eq rfl l_0 (fun hq16_ => ?_) (fun hq16_ => ?_)
    · exact T_ret ⟨(i_rng (lo := (-1)) (hi := 1) l_m1 (by omega) (by omega)), hG, hS⟩
    · refine T_qc (t_X1_findsAlike hn hj a1 a2 (M 7 9) M hG (i_rng (lo := 0) (hi := 11) rfl (by omega) (by omega)) (i_rng (lo := 0) (hi := 11) rfl (by omega) (by omega))) ?_
      rintro rv17 mv18 ⟨hq19_, gq20_, kq21_⟩
      have kq22_ := Sm.call hS kq21_ rfl
      refine T_eq rfl l_0 (fun hq23_ => ?_) (fun hq23_ => ?_)
      · exact T_ret ⟨(i_rng (lo := (-1)) (hi := 1) l_0 (by omega) (by omega)), gq20_, kq22_⟩
      · exact T_ret ⟨(i_rng (lo := (-1)) (hi := 1) l_1 (by omega) (by omega)), gq20_, kq22_⟩
abbrev l_X12_alike : List Bx := [(96, 98, 0, 0)]
abbrev po_X12_alike (a1 a2 : Int32) (M : qM) (v : Int32) (M' : qM) : Prop := ((-1) ≤ v.toInt ∧ v.toInt ≤ 1) ∧ G M' ∧ Sm l_X12_alike M M'
theorem t_X12_alike {n : Nat} (hn : 200000 ≤ n) (a1 a2 : Int32) (M : qM) (hG : G M) : qT (f_X12_alike n a1 a2 M) (po_X12_alike a1 a2 M) := by
  have hS : Sm l_X12_alike M M := Sm.rf
  unfold f_X12_alike
  refine T_qc (t_X12_isKind hn a1 M hG ) ?_
  rintro rv1 mv2 ⟨hq3_, hq4_, gq5_, kq6_⟩
  have hq7_ := kq6_.nil
  subst hq7_
  refine T_eq rfl l_0 (fun hq8_ => ?_) (fun hq8_ => ?_)
  · exact T_ret ⟨(i_rng (lo := (-1)) (hi := 1) l_m1 (by omega) (by omega)), hG, hS⟩
  · refine T_qc (t_X12_isKind hn a2 M hG ) ?_
    rintro rv9 mv10 ⟨hq11_, hq12_, gq13_, kq14_⟩
    have hq15_ := kq14_.nil
    subst hq15_
    refine T_eq rfl l_0 (fun hq16_ => ?_) (fun hq16_ => ?_)
    · exact T_ret ⟨(i_rng (lo := (-1)) (hi := 1) l_m1 (by omega) (by omega)), hG, hS⟩
    · refine T_qc (t_X12_isLike hn a1 a2 M hG (i_rng (lo := 0) (hi := 12) rfl (by omega) (by omega)) (i_rng (lo := 0) (hi := 11) rfl (by omega) (by omega))) ?_
      rintro rv17 mv18 ⟨hq19_, gq20_, kq21_⟩
      have kq22_ := Sm.call hS kq21_ rfl
      refine T_eq rfl l_0 (fun hq23_ => ?_) (fun hq23_ => ?_)
      · exact T_ret ⟨(i_rng (lo := (-1)) (hi := 1) l_0 (by omega) (by omega)), gq20_, kq22_⟩
      · exact T_ret ⟨(i_rng (lo := (-1)) (hi := 1) l_1 (by omega) (by omega)), gq20_, kq22_⟩
abbrev l_X11_cost : List Bx := [(34, 35, 4, 5), (35, 37, 0, 0)]
abbrev po_X11_cost (a1 a2 a3 : Int32) (M : qM) (v : Int32) (M' : qM) : Prop := ((-1) ≤ v.toInt ∧ v.toInt ≤ 999) ∧ G M' ∧ Sm l_X11_cost M M'
theorem t_X11_cost {n : Nat} (hn : 200000 ≤ n) {j : Nat} (hj : q_isLaw j) (a1 a2 a3 : Int32) (M : qM) (hG : G M) : qT (f_X11_cost n j a1 a2 a3 M) (po_X11_cost a1 a2 a3 M) := by
  have hS : Sm l_X11_cost M M := Sm.rf
  unfold f_X11_cost
  refine T_qc (t_X11_canDeal hn a1 a2 a3 M hG ) ?_
  rintro rv1 mv2 ⟨hq3_, hq4_, gq5_, kq6_⟩
  have hq7_ := kq6_.nil
  subst hq7_
  refine T_eq rfl l_0 (fun hq8_ => ?_) (fun hq8_ => ?_)
  · exact T_ret ⟨(i_rng (lo := (-1)) (hi := 999) l_m1 (by omega) (by omega)), hG, hS⟩
  · refine T_qc (t_X0_price_c7 hn hj a1 a2 a3 M hG (i_rng (lo := 0) (hi := 7) rfl (by omega) (by omega)) (i_rng (lo := 0) (hi := 11) rfl (by omega) (by omega)) (i_rng (lo := 0) (hi := 7) rfl (by omega) (by omega))) ?_
    rintro rv9 mv10 ⟨hq11_, gq12_, kq13_⟩
    have kq14_ := Sm.call hS kq13_ rfl
    exact T_ret ⟨(i_rng (lo := (-1)) (hi := 999) rfl (by omega) (by omega)), gq12_, kq14_⟩
abbrev l_X12_cost : List Bx := [(96, 98, 0, 0)]
abbrev po_X12_cost (a1 a2 a3 : Int32) (M : qM) (v : Int32) (M' : qM) : Prop := ((-1) ≤ v.toInt ∧ v.toInt ≤ 999) ∧ G M' ∧ Sm l_X12_cost M M'
theorem t_X12_cost {n : Nat} (hn : 200000 ≤ n) (a1 a2 a3 : Int32) (M : qM) (hG : G M) : qT (f_X12_cost n a1 a2 a3 M) (po_X12_cost a1 a2 a3 M) := by
  have hS : Sm l_X12_cost M M := Sm.rf
  unfold f_X12_cost
  refine T_qc (t_X12_isPerson hn a1 M hG ) ?_
  rintro rv1 mv2 ⟨hq3_, hq4_, gq5_, kq6_⟩
  have hq7_ := kq6_.nil
  subst hq7_
  refine T_eq rfl l_0 (fun hq8_ => ?_) (fun hq8_ => ?_)
  · exact T_ret ⟨(i_rng (lo := (-1)) (hi := 999) l_m1 (by omega) (by omega)), hG, hS⟩
  · refine T_qc (t_X12_isKind hn a2 M hG ) ?_
    rintro rv9 mv10 ⟨hq11_, hq12_, gq13_, kq14_⟩
    have hq15_ := kq14_.nil
    subst hq15_
    refine T_eq rfl l_0 (fun hq16_ => ?_) (fun hq16_ => ?_)
    · exact T_ret ⟨(i_rng (lo := (-1)) (hi := 999) l_m1 (by omega) (by omega)), hG, hS⟩
    · refine T_qc (t_X12_isPerson hn a3 M hG ) ?_
      rintro rv17 mv18 ⟨hq19_, hq20_, gq21_, kq22_⟩
      have hq23_ := kq22_.nil
      subst hq23_
      refine T_eq rfl l_0 (fun hq24_ => ?_) (fun hq24_ => ?_)
      · exact T_ret ⟨(i_rng (lo := (-1)) (hi := 999) l_m1 (by omega) (by omega)), hG, hS⟩
      · refine T_eq rfl rfl (fun hq25_ => ?_) (fun hq25_ => ?_)
        · exact T_ret ⟨(i_rng (lo := (-1)) (hi := 999) l_m1 (by omega) (by omega)), hG, hS⟩
        · refine T_qc (t_X12_costOf hn a1 a2 a3 M hG (i_rng (lo := 0) (hi := 7) rfl (by omega) (by omega)) (i_rng (lo := 0) (hi := 11) rfl (by omega) (by omega)) (i_rng (lo := 0) (hi := 7) rfl (by omega) (by omega))) ?_
          rintro rv26 mv27 ⟨hq28_, gq29_, kq30_⟩
          have kq31_ := Sm.call hS kq30_ rfl
          exact T_ret ⟨(i_rng (lo := (-1)) (hi := 999) rfl (by omega) (by omega)), gq29_, kq31_⟩
abbrev l_X11_canChoose : List Bx := []
abbrev po_X11_canChoose (a1 a2 a3 : Int32) (M : qM) (v : Int32) (M' : qM) : Prop := (0 ≤ v.toInt ∧ v.toInt ≤ 1) ∧ (v.toInt = 0 ∨ (0 ≤ a1.toInt ∧ a1.toInt ≤ 7 ∧ 0 ≤ a3.toInt ∧ a3.toInt ≤ 11)) ∧ G M' ∧ Sm l_X11_canChoose M M'
theorem t_X11_canChoose {n : Nat} (hn : 200000 ≤ n) (a1 a2 a3 : Int32) (M : qM) (hG : G M) : qT (f_X11_canChoose n a1 a2 a3 M) (po_X11_canChoose a1 a2 a3 M) := by
  have hS : Sm l_X11_canChoose M M := Sm.rf
  unfold f_X11_canChoose
  refine T_qc (t_J6_bitCount_0f7a4 hn a2 M hG ) ?_
  rintro rv1 mv2 ⟨hq3_, gq4_, kq5_⟩
  have hq6_ := kq5_.nil
  subst hq6_
  refine T_qc (t_X10_knows_c7 hn a1 M hG ) ?_
  rintro rv7 mv8 ⟨hq9_, hq10_, gq11_, kq12_⟩
  have hq13_ := kq12_.nil
  subst hq13_
  refine T_eq rfl l_0 (fun hq14_ => ?_) (fun hq14_ => ?_)
  · exact T_ret ⟨(i_rng (lo := 0) (hi := 1) l_0 (by omega) (by omega)), (by have e9 : ((0 : Int32)).toInt = _ := l_0; omega), hG, hS⟩
  · refine T_qc (t_X2_knowsAll hn a2 M hG ) ?_
    rintro rv15 mv16 ⟨hq17_, gq18_, kq19_⟩
    have hq20_ := kq19_.nil
    subst hq20_
    refine T_eq rfl l_0 (fun hq21_ => ?_) (fun hq21_ => ?_)
    · exact T_ret ⟨(i_rng (lo := 0) (hi := 1) l_0 (by omega) (by omega)), (by have e9 : ((0 : Int32)).toInt = _ := l_0; omega), hG, hS⟩
    · refine T_lt rfl l_1 (fun hq22_ => ?_) (fun hq22_ => ?_)
      · exact T_ret ⟨(i_rng (lo := 0) (hi := 1) l_0 (by omega) (by omega)), (by have e9 : ((0 : Int32)).toInt = _ := l_0; omega), hG, hS⟩
      · refine T_lt l_4 rfl (fun hq23_ => ?_) (fun hq23_ => ?_)
        · exact T_ret ⟨(i_rng (lo := 0) (hi := 1) l_0 (by omega) (by omega)), (by have e9 : ((0 : Int32)).toInt = _ := l_0; omega), hG, hS⟩
        · refine T_qc (t_X2_knows hn a3 M hG ) ?_
          rintro rv24 mv25 ⟨hq26_, hq27_, gq28_, kq29_⟩
          have hq30_ := kq29_.nil
          subst hq30_
          refine T_eq rfl l_0 (fun hq31_ => ?_) (fun hq31_ => ?_)
          · exact T_ret ⟨(i_rng (lo := 0) (hi := 1) l_0 (by omega) (by omega)), (by have e9 : ((0 : Int32)).toInt = _ := l_0; omega), hG, hS⟩
          · have hq32_ := i_and (a := a2 >>> (a3 &&& 31)) (b := (1 : Int32)) l_1 (by omega)
            refine T_eq rfl l_1 (fun hq33_ => ?_) (fun hq33_ => ?_)
            · exact T_ret ⟨(i_rng (lo := 0) (hi := 1) l_1 (by omega) (by omega)), (by have e9 : ((1 : Int32)).toInt = _ := l_1; omega), hG, hS⟩
            · exact T_ret ⟨(i_rng (lo := 0) (hi := 1) l_0 (by omega) (by omega)), (by have e9 : ((0 : Int32)).toInt = _ := l_0; omega), hG, hS⟩
abbrev l_J7_fill_53178_c63_8192 : List Bx := [(63, 64, 0, 0)]
abbrev po_J7_fill_53178_c63_8192 (a1 : Int32) (M : qM) (v : Int32) (M' : qM) : Prop := (0 ≤ v.toInt ∧ v.toInt ≤ 0) ∧ G M' ∧ Sm l_J7_fill_53178_c63_8192 M M'
theorem t_J7_fill_53178_c63_8192_5 {n : Nat} (hn : 200000 ≤ n) {oa1 : Int32} {M0 : qM} : ∀ (m : Nat) (a1 a2 a3 : Int32) (M : qM), G M → Sm l_J7_fill_53178_c63_8192 M0 M → (-1) ≤ a1.toInt ∧ a1.toInt ≤ (-1) → 0 ≤ a2.toInt ∧ a2.toInt ≤ 8192 → 8192 ≤ a3.toInt ∧ a3.toInt ≤ 8192 → 8192 - a2.toInt < (m : Int) → qT (f_J7_fill_53178_5 n 63 8192 m a1 a2 a3 M) (po_J7_fill_53178_c63_8192 oa1 M0) := by
  intro m
  induction m with
  | zero =>
    intro a1 a2 a3 M hG hS i0 i1 i2 i5
    exfalso; omega
  | succ m ih =>
    intro a1 a2 a3 M hG hS i0 i1 i2 i5
    show qT (b_J7_fill_53178_5 n 63 8192 (f_J7_fill_53178_5 n 63 8192 m) a1 a2 a3 M) _
    unfold b_J7_fill_53178_5
    try simp only [Nat.reduceAdd]
    refine T_le rfl rfl (fun hq2_ => ?_) (fun hq2_ => ?_)
    · exact T_ret ⟨(i_rng (lo := 0) (hi := 0) l_0 (by omega) (by omega)), hG, hS⟩
    · refine T_qg rfl (by omega) (by omega) ?_
      refine T_mu hG hS (rn_63 _ _) (nw_63 _) (i := 0) rfl ⟨by decide, by decide, Or.inl rfl⟩ ?_
      intro mv3 hq4_ gq5_ kq6_
      have hq7_ : (mv3 63 a2.toNatClampNeg).toInt = a1.toInt := by rw [hq4_, mu_at]
      refine T_ql (i_add rfl l_1 (by omega) (by omega)) ?_
      intro xv8 hq9_
      exact ih a1 xv8 a3 mv3 gq5_ kq6_ (i_rng (lo := (-1)) (hi := (-1)) rfl (by omega) (by omega)) (i_rng (lo := 0) (hi := 8192) rfl (by omega) (by omega)) (i_rng (lo := 8192) (hi := 8192) rfl (by omega) (by omega)) (by omega)
theorem t_J7_fill_53178_c63_8192 {n : Nat} (hn : 200000 ≤ n) (a1 : Int32) (M : qM) (hG : G M) (pa1 : (-1) ≤ a1.toInt ∧ a1.toInt ≤ (-1)) : qT (f_J7_fill_53178 n 63 8192 a1 M) (po_J7_fill_53178_c63_8192 a1 M) := by
  have hS : Sm l_J7_fill_53178_c63_8192 M M := Sm.rf
  unfold f_J7_fill_53178
  try simp only [Nat.reduceAdd]
  refine T_ql (show (Int32.ofNat 8192).toInt = 8192 from by decide) ?_
  intro xv10 hq11_
  exact (t_J7_fill_53178_c63_8192_5 hn) n a1 (0 : Int32) xv10 M hG hS (i_rng (lo := (-1)) (hi := (-1)) rfl (by omega) (by omega)) (i_rng (lo := 0) (hi := 8192) l_0 (by omega) (by omega)) (i_rng (lo := 8192) (hi := 8192) rfl (by omega) (by omega)) (by have e1 : ((0 : Int32)).toInt = _ := l_0; omega)
abbrev l_X7_toPlaces : List Bx := []
abbrev po_X7_toPlaces (a1 : Int32) (M : qM) (v : Int32) (M' : qM) : Prop := G M' ∧ Sm l_X7_toPlaces M M'
theorem t_X7_toPlaces_4 {n : Nat} (hn : 200000 ≤ n) {oa1 : Int32} {M0 : qM} : ∀ (m : Nat) (a1 a2 a3 : Int32) (M : qM), G M → Sm l_X7_toPlaces M0 M → 0 ≤ a3.toInt ∧ a3.toInt ≤ 4 → 4 - a3.toInt < (m : Int) → qT (f_X7_toPlaces_4 n m a1 a2 a3 M) (po_X7_toPlaces oa1 M0) := by
  intro m
  induction m with
  | zero =>
    intro a1 a2 a3 M hG hS i0 i3
    exfalso; omega
  | succ m ih =>
    intro a1 a2 a3 M hG hS i0 i3
    show qT (b_X7_toPlaces_4 n (f_X7_toPlaces_4 n m) a1 a2 a3 M) _
    unfold b_X7_toPlaces_4
    have hq3_ := r_56_10 hG
    refine T_le rfl rfl (fun hq4_ => ?_) (fun hq4_ => ?_)
    · exact T_ret ⟨hG, hS⟩
    · refine T_qg rfl (by omega) (by omega) ?_
      refine T_ql rfl ?_
      intro xv5 hq6_
      refine T_ql (i_add rfl l_1 (by omega) (by omega)) ?_
      intro xv7 hq8_
      exact ih a1 xv5 xv7 M hG hS (i_rng (lo := 0) (hi := 4) rfl (by omega) (by omega)) (by omega)
theorem t_X7_toPlaces {n : Nat} (hn : 200000 ≤ n) (a1 : Int32) (M : qM) (hG : G M) : qT (f_X7_toPlaces n a1 M) (po_X7_toPlaces a1 M) := by
  have hS : Sm l_X7_toPlaces M M := Sm.rf
  unfold f_X7_toPlaces
  exact (t_X7_toPlaces_4 hn) n a1 (0 : Int32) (0 : Int32) M hG hS (i_rng (lo := 0) (hi := 4) l_0 (by omega) (by omega)) (by have e1 : ((0 : Int32)).toInt = _ := l_0; have e2 : ((0 : Int32)).toInt = _ := l_0; omega)
abbrev l_X7_lackedPlaces_c7 : List Bx := []
abbrev po_X7_lackedPlaces_c7 (a2 a3 : Int32) (M : qM) (v : Int32) (M' : qM) : Prop := G M' ∧ Sm l_X7_lackedPlaces_c7 M M'
theorem t_X7_lackedPlaces_c7_6 {n : Nat} (hn : 200000 ≤ n) {oa2 oa3 : Int32} {M0 : qM} : ∀ (m : Nat) (a2 a3 a4 a5 : Int32) (M : qM), G M → Sm l_X7_lackedPlaces_c7 M0 M → 0 ≤ a2.toInt ∧ a2.toInt ≤ 7 → 0 ≤ a5.toInt ∧ a5.toInt ≤ 12 → 12 - a5.toInt < (m : Int) → qT (f_X7_lackedPlaces_6 n 7 m a2 a3 a4 a5 M) (po_X7_lackedPlaces_c7 oa2 oa3 M0) := by
  intro m
  induction m with
  | zero =>
    intro a2 a3 a4 a5 M hG hS i0 i1 i4
    exfalso; omega
  | succ m ih =>
    intro a2 a3 a4 a5 M hG hS i0 i1 i4
    show qT (b_X7_lackedPlaces_6 n 7 (f_X7_lackedPlaces_6 n 7 m) a2 a3 a4 a5 M) _
    unfold b_X7_lackedPlaces_6
    try simp only [Nat.reduceAdd]
    refine T_le l_12 rfl (fun hq4_ => ?_) (fun hq4_ => ?_)
    · exact T_ret ⟨hG, hS⟩
    · have hq7_ := i_shl1 (c := 11) (k := a5) (by decide) rfl (by omega) (by omega)
      have hq8_ := i_and (a := a3) (b := (1 : Int32) <<< (a5 &&& 31)) rfl (by omega)
      refine T_qc (t_X10_hasCounted_c7 hn a2 (a3 &&& ((1 : Int32) <<< (a5 &&& 31))) M hG (i_rng (lo := 0) (hi := 7) rfl (by omega) (by omega))) ?_
      rintro rv5 mv6 ⟨hq9_, gq10_, kq11_⟩
      have hq12_ := kq11_.nil
      subst hq12_
      refine T_eq rfl l_0 (fun hq13_ => ?_) (fun hq13_ => ?_)
      · refine T_qc (t_X7_toPlaces hn ((1 : Int32) <<< (a5 &&& 31)) M hG ) ?_
        rintro rv14 mv15 ⟨gq16_, kq17_⟩
        have hq18_ := kq17_.nil
        subst hq18_
        refine T_eq rfl l_0 (fun hq19_ => ?_) (fun hq19_ => ?_)
        · exact T_ret ⟨hG, hS⟩
        · refine T_ql rfl ?_
          intro xv20 hq21_
          refine T_ql (i_add rfl l_1 (by omega) (by omega)) ?_
          intro xv22 hq23_
          exact ih a2 a3 xv20 xv22 M hG hS (i_rng (lo := 0) (hi := 7) rfl (by omega) (by omega)) (i_rng (lo := 0) (hi := 12) rfl (by omega) (by omega)) (by omega)
      · refine T_ql (i_add rfl l_1 (by omega) (by omega)) ?_
        intro xv24 hq25_
        exact ih a2 a3 a4 xv24 M hG hS (i_rng (lo := 0) (hi := 7) rfl (by omega) (by omega)) (i_rng (lo := 0) (hi := 12) rfl (by omega) (by omega)) (by omega)
theorem t_X7_lackedPlaces_c7 {n : Nat} (hn : 200000 ≤ n) (a2 a3 : Int32) (M : qM) (hG : G M) (pa2 : 0 ≤ a2.toInt ∧ a2.toInt ≤ 7) : qT (f_X7_lackedPlaces n 7 a2 a3 M) (po_X7_lackedPlaces_c7 a2 a3 M) := by
  have hS : Sm l_X7_lackedPlaces_c7 M M := Sm.rf
  unfold f_X7_lackedPlaces
  try simp only [Nat.reduceAdd]
  exact (t_X7_lackedPlaces_c7_6 hn) n a2 a3 (0 : Int32) (0 : Int32) M hG hS (i_rng (lo := 0) (hi := 7) rfl (by omega) (by omega)) (i_rng (lo := 0) (hi := 12) l_0 (by omega) (by omega)) (by have e2 : ((0 : Int32)).toInt = _ := l_0; have e3 : ((0 : Int32)).toInt = _ := l_0; omega)
abbrev l_X7_askVoids_c7 : List Bx := [(34, 35, 4, 5), (35, 37, 0, 0), (62, 63, 0, 0)]
abbrev po_X7_askVoids_c7 (a2 a3 : Int32) (M : qM) (v : Int32) (M' : qM) : Prop := (0 ≤ v.toInt ∧ v.toInt ≤ 0) ∧ G M' ∧ Sm l_X7_askVoids_c7 M M'
theorem t_X7_askVoids_c7_61 {n : Nat} (hn : 200000 ≤ n) {j : Nat} (hj : q_isLaw j) {oa2 oa3 : Int32} {M0 : qM} : ∀ (m : Nat) (a2 a3 a5 a6 a7 : Int32) (M : qM), G M → Sm l_X7_askVoids_c7 M0 M → 0 ≤ a2.toInt ∧ a2.toInt ≤ 7 → 0 ≤ a3.toInt ∧ a3.toInt ≤ 3 → 0 ≤ a5.toInt ∧ a5.toInt ≤ 95 → 0 ≤ a7.toInt ∧ a7.toInt ≤ 4 → 4 - a7.toInt < (m : Int) → qT (f_X7_askVoids_61 n 7 j m a2 a3 a5 a6 a7 M) (po_X7_askVoids_c7 oa2 oa3 M0) := by
  intro m
  induction m with
  | zero =>
    intro a2 a3 a5 a6 a7 M hG hS i0 i1 i2 i3 i6
    exfalso; omega
  | succ m ih =>
    intro a2 a3 a5 a6 a7 M hG hS i0 i1 i2 i3 i6
    show qT (b_X7_askVoids_61 n 7 j (f_X7_askVoids_61 n 7 j m) a2 a3 a5 a6 a7 M) _
    unfold b_X7_askVoids_61
    try simp only [Nat.reduceAdd]
    refine T_lt l_3 rfl (fun hq2_ => ?_) (fun hq2_ => ?_)
    · exact T_ret ⟨(i_rng (lo := 0) (hi := 0) l_0 (by omega) (by omega)), hG, hS⟩
    · refine T_qg rfl (by omega) (by omega) ?_
      refine T_qg rfl (by omega) (by omega) ?_
      have hq5_ := i_full (M 9 a5.toNatClampNeg)
      have hq6_ := i_full (a6)
      refine T_qc (t_X1_tellTry hn a2 (8 : Int32) ((M 9 a5.toNatClampNeg) + a7) (a6 + a7) (M 11 a5.toNatClampNeg) M hG (i_rng (lo := 0) (hi := 7) rfl (by omega) (by omega)) (i_rng (lo := 0) (hi := 8) l_8 (by omega) (by omega))) ?_
      rintro rv3 mv4 ⟨hq7_, gq8_, kq9_⟩
      have kq10_ := Sm.call hS kq9_ rfl
      refine T_qc (t_X1_voidTries hn hj  mv4 gq8_ ) ?_
      rintro rv11 mv12 ⟨hq13_, gq14_, kq15_⟩
      have kq16_ := Sm.call kq10_ kq15_ rfl
      refine T_qg (i_add (i_mul rfl l_4 (by omega) (by omega)) rfl (by omega) (by omega)) (by omega) (by omega) ?_
      refine T_mu gq14_ kq16_ (rn_62 _ _) (nw_62 _) (i := 2) rfl ⟨by decide, by decide, Or.inl rfl⟩ ?_
      intro mv17 hq18_ gq19_ kq20_
      have hq21_ : (mv17 62 (((a3 * (4 : Int32)) + a7).toNatClampNeg)).toInt = rv11.toInt := by rw [hq18_, mu_at]
      refine T_ql (i_add rfl l_1 (by omega) (by omega)) ?_
      intro xv22 hq23_
      exact ih a2 a3 a5 a6 xv22 mv17 gq19_ kq20_ (i_rng (lo := 0) (hi := 7) rfl (by omega) (by omega)) (i_rng (lo := 0) (hi := 3) rfl (by omega) (by omega)) (i_rng (lo := 0) (hi := 95) rfl (by omega) (by omega)) (i_rng (lo := 0) (hi := 4) rfl (by omega) (by omega)) (by omega)
theorem t_X7_askVoids_c7 {n : Nat} (hn : 200000 ≤ n) {j : Nat} (hj : q_isLaw j) (a2 a3 : Int32) (M : qM) (hG : G M) (pa2 : 0 ≤ a2.toInt ∧ a2.toInt ≤ 7) (pa3 : 0 ≤ a3.toInt ∧ a3.toInt ≤ 3) : qT (f_X7_askVoids n 7 j a2 a3 M) (po_X7_askVoids_c7 a2 a3 M) := by
  have hS : Sm l_X7_askVoids_c7 M M := Sm.rf
  unfold f_X7_askVoids
  try simp only [Nat.reduceAdd]
  refine T_qg rfl (by omega) (by omega) ?_
  have hq24_ := r_57 hG a3.toNatClampNeg
  refine T_ql rfl ?_
  intro xv25 hq26_
  refine T_ql (i_add (i_mul rfl l_12 (by omega) (by omega)) rfl (by omega) (by omega)) ?_
  intro xv27 hq28_
  refine T_qc (t_X10_triesByAll_c7 hn xv25 M hG (i_rng (lo := 0) (hi := 11) rfl (by omega) (by omega))) ?_
  rintro rv29 mv30 ⟨gq31_, kq32_⟩
  have hq33_ := kq32_.nil
  subst hq33_
  refine T_qg rfl (by omega) (by omega) ?_
  refine T_qg rfl (by omega) (by omega) ?_
  refine T_qc (t_X1_tellDeed hn xv25 (M 4 xv25.toNatClampNeg) (M 5 xv25.toNatClampNeg) (M 7 9) M hG (i_rng (lo := 0) (hi := 12) rfl (by omega) (by omega))) ?_
  rintro rv34 mv35 ⟨hq36_, gq37_, kq38_⟩
  have kq39_ := Sm.call hS kq38_ rfl
  exact (t_X7_askVoids_c7_61 hn hj) n a2 a3 xv27 rv29 (0 : Int32) mv35 gq37_ kq39_ (i_rng (lo := 0) (hi := 7) rfl (by omega) (by omega)) (i_rng (lo := 0) (hi := 3) rfl (by omega) (by omega)) (i_rng (lo := 0) (hi := 95) rfl (by omega) (by omega)) (i_rng (lo := 0) (hi := 4) l_0 (by omega) (by omega)) (by have e4 : ((0 : Int32)).toInt = _ := l_0; omega)
