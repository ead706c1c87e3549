abbrev l_X11_court : List Bx := []
abbrev po_X11_court (a1 a2 a3 a4 a5 a6 : Int32) (M : qM) (v : Int32) (M' : qM) : Prop := ((-1) ≤ v.toInt ∧ v.toInt ≤ 63) ∧ G M' ∧ Sm l_X11_court M M'
theorem t_X11_court {n : Nat} (hn : 200000 ≤ n) (a1 a2 a3 a4 a5 a6 : Int32) (M : qM) (hG : G M) : qT (f_X11_court n a1 a2 a3 a4 a5 a6 M) (po_X11_court a1 a2 a3 a4 a5 a6 M) := by
  have hS : Sm l_X11_court M M := Sm.rf
  unfold f_X11_court
  refine T_lt rfl l_1 (fun hq1_ => ?_) (fun hq1_ => ?_)
  · exact T_ret ⟨(i_rng (lo := (-1)) (hi := 63) l_m1 (by omega) (by omega)), hG, hS⟩
  · refine T_lt l_9 rfl (fun hq2_ => ?_) (fun hq2_ => ?_)
    · exact T_ret ⟨(i_rng (lo := (-1)) (hi := 63) l_m1 (by omega) (by omega)), hG, hS⟩
    · refine T_lt rfl l_0 (fun hq3_ => ?_) (fun hq3_ => ?_)
      · exact T_ret ⟨(i_rng (lo := (-1)) (hi := 63) l_m1 (by omega) (by omega)), hG, hS⟩
      · refine T_lt rfl rfl (fun hq4_ => ?_) (fun hq4_ => ?_)
        · exact T_ret ⟨(i_rng (lo := (-1)) (hi := 63) l_m1 (by omega) (by omega)), hG, hS⟩
        · refine T_lt rfl l_0 (fun hq5_ => ?_) (fun hq5_ => ?_)
          · exact T_ret ⟨(i_rng (lo := (-1)) (hi := 63) l_m1 (by omega) (by omega)), hG, hS⟩
          · refine T_le rfl l_2 (fun hq6_ => ?_) (fun hq6_ => ?_)
            · have hq7_ := i_shl1 (c := 9) (k := a1) (by decide) rfl (by omega) (by omega)
              refine T_ql (i_sub rfl l_1 (by omega) (by omega)) ?_
              intro xv8 hq9_
              refine T_eq rfl l_0 (fun hq10_ => ?_) (fun hq10_ => ?_)
              · refine T_eq rfl l_0 (fun hq11_ => ?_) (fun hq11_ => ?_)
                · refine T_eq rfl l_0 (fun hq12_ => ?_) (fun hq12_ => ?_)
                  · refine T_qc (t_J6_bitCount_0f7a4 hn a2 M hG ) ?_
                    rintro rv13 mv14 ⟨hq15_, gq16_, kq17_⟩
                    have hq18_ := kq17_.nil
                    subst hq18_
                    refine T_lt rfl rfl (fun hq19_ => ?_) (fun hq19_ => ?_)
                    · unfold f_X11_court_122
                      refine T_eq rfl l_0 (fun hq20_ => ?_) (fun hq20_ => ?_)
                      · refine T_qc (t_J6_bitCount_0f7a4 hn a2 M hG ) ?_
                        rintro rv21 mv22 ⟨hq23_, gq24_, kq25_⟩
                        have hq26_ := kq25_.nil
                        subst hq26_
                        exact T_ret ⟨(i_rng (lo := (-1)) (hi := 63) rfl (by omega) (by omega)), hG, hS⟩
                      · refine T_eq rfl l_1 (fun hq27_ => ?_) (fun hq27_ => ?_)
                        · refine T_qc (t_J6_bitCount_0f7a4 hn a2 M hG ) ?_
                          rintro rv28 mv29 ⟨hq30_, gq31_, kq32_⟩
                          have hq33_ := kq32_.nil
                          subst hq33_
                          refine T_le (i_mul l_2 rfl (by omega) (by omega)) rfl (fun hq34_ => ?_) (fun hq34_ => ?_)
                          · exact T_ret ⟨(i_rng (lo := (-1)) (hi := 63) l_0 (by omega) (by omega)), hG, hS⟩
                          · exact T_ret ⟨(i_rng (lo := (-1)) (hi := 63) l_1 (by omega) (by omega)), hG, hS⟩
                        · refine T_qc (t_J6_bitCount_0f7a4 hn (a2 ^^^ a2) M hG ) ?_
                          rintro rv35 mv36 ⟨hq37_, gq38_, kq39_⟩
                          have hq40_ := kq39_.nil
                          subst hq40_
                          exact T_ret ⟨(i_rng (lo := (-1)) (hi := 63) rfl (by omega) (by omega)), hG, hS⟩
                    · refine T_lt (i_mul l_2 rfl (by omega) (by omega)) rfl (fun hq41_ => ?_) (fun hq41_ => ?_)
                      · unfold f_X11_court_106
                        have hq42_ := i_andl (a := xv8) (b := a2 ^^^ (-1 : Int32)) rfl (by omega)
                        have hq43_ := i_and (a := a3) (b := xv8 &&& (a2 ^^^ (-1 : Int32))) rfl (by omega)
                        refine T_ql rfl ?_
                        intro xv44 hq45_
                        unfold f_X11_court_122
                        refine T_eq rfl l_0 (fun hq46_ => ?_) (fun hq46_ => ?_)
                        · refine T_qc (t_J6_bitCount_0f7a4 hn xv44 M hG ) ?_
                          rintro rv47 mv48 ⟨hq49_, gq50_, kq51_⟩
                          have hq52_ := kq51_.nil
                          subst hq52_
                          exact T_ret ⟨(i_rng (lo := (-1)) (hi := 63) rfl (by omega) (by omega)), hG, hS⟩
                        · refine T_eq rfl l_1 (fun hq53_ => ?_) (fun hq53_ => ?_)
                          · refine T_qc (t_J6_bitCount_0f7a4 hn xv44 M hG ) ?_
                            rintro rv54 mv55 ⟨hq56_, gq57_, kq58_⟩
                            have hq59_ := kq58_.nil
                            subst hq59_
                            refine T_le (i_mul l_2 rfl (by omega) (by omega)) rfl (fun hq60_ => ?_) (fun hq60_ => ?_)
                            · exact T_ret ⟨(i_rng (lo := (-1)) (hi := 63) l_0 (by omega) (by omega)), hG, hS⟩
                            · exact T_ret ⟨(i_rng (lo := (-1)) (hi := 63) l_1 (by omega) (by omega)), hG, hS⟩
                          · refine T_qc (t_J6_bitCount_0f7a4 hn (a2 ^^^ xv44) M hG ) ?_
                            rintro rv61 mv62 ⟨hq63_, gq64_, kq65_⟩
                            have hq66_ := kq65_.nil
                            subst hq66_
                            exact T_ret ⟨(i_rng (lo := (-1)) (hi := 63) rfl (by omega) (by omega)), hG, hS⟩
                      · unfold f_X11_court_106
                        refine T_ql rfl ?_
                        intro xv67 hq68_
                        unfold f_X11_court_122
                        refine T_eq rfl l_0 (fun hq69_ => ?_) (fun hq69_ => ?_)
                        · refine T_qc (t_J6_bitCount_0f7a4 hn xv67 M hG ) ?_
                          rintro rv70 mv71 ⟨hq72_, gq73_, kq74_⟩
                          have hq75_ := kq74_.nil
                          subst hq75_
                          exact T_ret ⟨(i_rng (lo := (-1)) (hi := 63) rfl (by omega) (by omega)), hG, hS⟩
                        · refine T_eq rfl l_1 (fun hq76_ => ?_) (fun hq76_ => ?_)
                          · refine T_qc (t_J6_bitCount_0f7a4 hn xv67 M hG ) ?_
                            rintro rv77 mv78 ⟨hq79_, gq80_, kq81_⟩
                            have hq82_ := kq81_.nil
                            subst hq82_
                            refine T_le (i_mul l_2 rfl (by omega) (by omega)) rfl (fun hq83_ => ?_) (fun hq83_ => ?_)
                            · exact T_ret ⟨(i_rng (lo := (-1)) (hi := 63) l_0 (by omega) (by omega)), hG, hS⟩
                            · exact T_ret ⟨(i_rng (lo := (-1)) (hi := 63) l_1 (by omega) (by omega)), hG, hS⟩
                          · refine T_qc (t_J6_bitCount_0f7a4 hn (a2 ^^^ xv67) M hG ) ?_
                            rintro rv84 mv85 ⟨hq86_, gq87_, kq88_⟩
                            have hq89_ := kq88_.nil
                            subst hq89_
                            exact T_ret ⟨(i_rng (lo := (-1)) (hi := 63) rfl (by omega) (by omega)), hG, hS⟩
                  · exact T_ret ⟨(i_rng (lo := (-1)) (hi := 63) l_m1 (by omega) (by omega)), hG, hS⟩
                · exact T_ret ⟨(i_rng (lo := (-1)) (hi := 63) l_m1 (by omega) (by omega)), hG, hS⟩
              · exact T_ret ⟨(i_rng (lo := (-1)) (hi := 63) l_m1 (by omega) (by omega)), hG, hS⟩
            · exact T_ret ⟨(i_rng (lo := (-1)) (hi := 63) l_m1 (by omega) (by omega)), hG, hS⟩
abbrev l_X12_court : List Bx := []
abbrev po_X12_court (a1 a2 a3 a4 a5 a6 : Int32) (M : qM) (v : Int32) (M' : qM) : Prop := ((-1) ≤ v.toInt ∧ v.toInt ≤ 12) ∧ G M' ∧ Sm l_X12_court M M'
theorem t_X12_court_99 {n : Nat} (hn : 200000 ≤ n) {oa1 oa2 oa3 oa4 oa5 oa6 : Int32} {M0 : qM} : ∀ (m : Nat) (a1 a2 a3 a4 a5 a6 a7 a8 a9 a10 : Int32) (M : qM), G M → Sm l_X12_court M0 M → 1 ≤ a1.toInt ∧ a1.toInt ≤ 9 → 0 ≤ a2.toInt ∧ a2.toInt ≤ 511 → 0 ≤ a3.toInt ∧ a3.toInt ≤ 511 → 0 ≤ a4.toInt ∧ a4.toInt ≤ 511 → 0 ≤ a5.toInt ∧ a5.toInt ≤ 9 → 0 ≤ a6.toInt ∧ a6.toInt ≤ 2 → 0 ≤ a7.toInt ∧ a7.toInt ≤ 12 → 0 ≤ a8.toInt ∧ a8.toInt ≤ 1 → 0 ≤ a10.toInt ∧ a10.toInt ≤ 9 → 9 - a10.toInt < (m : Int) → qT (f_X12_court_99 n m a1 a2 a3 a4 a5 a6 a7 a8 a9 a10 M) (po_X12_court oa1 oa2 oa3 oa4 oa5 oa6 M0) := by
  intro m
  induction m with
  | zero =>
    intro a1 a2 a3 a4 a5 a6 a7 a8 a9 a10 M hG hS i0 i1 i2 i3 i4 i5 i6 i7 i8 i11
    exfalso; omega
  | succ m ih =>
    intro a1 a2 a3 a4 a5 a6 a7 a8 a9 a10 M hG hS i0 i1 i2 i3 i4 i5 i6 i7 i8 i11
    show qT (b_X12_court_99 n (f_X12_court_99 n m) a1 a2 a3 a4 a5 a6 a7 a8 a9 a10 M) _
    unfold b_X12_court_99
    refine T_le rfl rfl (fun hq10_ => ?_) (fun hq10_ => ?_)
    · refine T_eq rfl l_0 (fun hq11_ => ?_) (fun hq11_ => ?_)
      · refine T_qc (t_X12_bits hn a9 M hG ) ?_
        rintro rv12 mv13 ⟨hq14_, hq15_, gq16_, kq17_⟩
        have hq18_ := kq17_.nil
        subst hq18_
        exact T_ret ⟨(i_rng (lo := (-1)) (hi := 12) rfl (by omega) (by omega)), hG, hS⟩
      · refine T_eq rfl l_1 (fun hq19_ => ?_) (fun hq19_ => ?_)
        · refine T_qc (t_X12_bits hn a9 M hG ) ?_
          rintro rv20 mv21 ⟨hq22_, hq23_, gq24_, kq25_⟩
          have hq26_ := kq25_.nil
          subst hq26_
          refine T_le (i_mul l_2 rfl (by omega) (by omega)) rfl (fun hq27_ => ?_) (fun hq27_ => ?_)
          · exact T_ret ⟨(i_rng (lo := (-1)) (hi := 12) l_0 (by omega) (by omega)), hG, hS⟩
          · exact T_ret ⟨(i_rng (lo := (-1)) (hi := 12) l_1 (by omega) (by omega)), hG, hS⟩
        · refine T_qc (t_X12_bits hn (a9 ^^^ a2) M hG ) ?_
          rintro rv28 mv29 ⟨hq30_, hq31_, gq32_, kq33_⟩
          have hq34_ := kq33_.nil
          subst hq34_
          exact T_ret ⟨(i_rng (lo := (-1)) (hi := 12) rfl (by omega) (by omega)), hG, hS⟩
    · refine T_qc (t_X12_has0 hn a2 a10 M hG (i_rng (lo := 0) (hi := 11) rfl (by omega) (by omega))) ?_
      rintro rv35 mv36 ⟨hq37_, hq38_, gq39_, kq40_⟩
      have hq41_ := kq40_.nil
      subst hq41_
      refine T_lt rfl rfl (fun hq42_ => ?_) (fun hq42_ => ?_)
      · unfold f_X12_court_140
        refine T_eq rfl l_0 (fun hq43_ => ?_) (fun hq43_ => ?_)
        · refine T_ql (i_add rfl l_1 (by omega) (by omega)) ?_
          intro xv44 hq45_
          exact ih a1 a2 a3 a4 a5 a6 a7 a8 a9 xv44 M hG hS (i_rng (lo := 1) (hi := 9) rfl (by omega) (by omega)) (i_rng (lo := 0) (hi := 511) rfl (by omega) (by omega)) (i_rng (lo := 0) (hi := 511) rfl (by omega) (by omega)) (i_rng (lo := 0) (hi := 511) rfl (by omega) (by omega)) (i_rng (lo := 0) (hi := 9) rfl (by omega) (by omega)) (i_rng (lo := 0) (hi := 2) rfl (by omega) (by omega)) (i_rng (lo := 0) (hi := 12) rfl (by omega) (by omega)) (i_rng (lo := 0) (hi := 1) rfl (by omega) (by omega)) (i_rng (lo := 0) (hi := 9) rfl (by omega) (by omega)) (by omega)
        · have hq46_ := i_shl1 (c := 8) (k := a10) (by decide) rfl (by omega) (by omega)
          refine T_ql rfl ?_
          intro xv47 hq48_
          refine T_ql (i_add rfl l_1 (by omega) (by omega)) ?_
          intro xv49 hq50_
          exact ih a1 a2 a3 a4 a5 a6 a7 a8 xv47 xv49 M hG hS (i_rng (lo := 1) (hi := 9) rfl (by omega) (by omega)) (i_rng (lo := 0) (hi := 511) rfl (by omega) (by omega)) (i_rng (lo := 0) (hi := 511) rfl (by omega) (by omega)) (i_rng (lo := 0) (hi := 511) rfl (by omega) (by omega)) (i_rng (lo := 0) (hi := 9) rfl (by omega) (by omega)) (i_rng (lo := 0) (hi := 2) rfl (by omega) (by omega)) (i_rng (lo := 0) (hi := 12) rfl (by omega) (by omega)) (i_rng (lo := 0) (hi := 1) rfl (by omega) (by omega)) (i_rng (lo := 0) (hi := 9) rfl (by omega) (by omega)) (by omega)
      · refine T_eq rfl rfl (fun hq51_ => ?_) (fun hq51_ => ?_)
        · unfold f_X12_court_133
          refine T_qc (t_X12_has0 hn a3 a10 M hG (i_rng (lo := 0) (hi := 11) rfl (by omega) (by omega))) ?_
          rintro rv52 mv53 ⟨hq54_, hq55_, gq56_, kq57_⟩
          have hq58_ := kq57_.nil
          subst hq58_
          unfold f_X12_court_140
          refine T_eq rfl l_0 (fun hq59_ => ?_) (fun hq59_ => ?_)
          · refine T_ql (i_add rfl l_1 (by omega) (by omega)) ?_
            intro xv60 hq61_
            exact ih a1 a2 a3 a4 a5 a6 a7 a8 a9 xv60 M hG hS (i_rng (lo := 1) (hi := 9) rfl (by omega) (by omega)) (i_rng (lo := 0) (hi := 511) rfl (by omega) (by omega)) (i_rng (lo := 0) (hi := 511) rfl (by omega) (by omega)) (i_rng (lo := 0) (hi := 511) rfl (by omega) (by omega)) (i_rng (lo := 0) (hi := 9) rfl (by omega) (by omega)) (i_rng (lo := 0) (hi := 2) rfl (by omega) (by omega)) (i_rng (lo := 0) (hi := 12) rfl (by omega) (by omega)) (i_rng (lo := 0) (hi := 1) rfl (by omega) (by omega)) (i_rng (lo := 0) (hi := 9) rfl (by omega) (by omega)) (by omega)
          · have hq62_ := i_shl1 (c := 8) (k := a10) (by decide) rfl (by omega) (by omega)
            refine T_ql rfl ?_
            intro xv63 hq64_
            refine T_ql (i_add rfl l_1 (by omega) (by omega)) ?_
            intro xv65 hq66_
            exact ih a1 a2 a3 a4 a5 a6 a7 a8 xv63 xv65 M hG hS (i_rng (lo := 1) (hi := 9) rfl (by omega) (by omega)) (i_rng (lo := 0) (hi := 511) rfl (by omega) (by omega)) (i_rng (lo := 0) (hi := 511) rfl (by omega) (by omega)) (i_rng (lo := 0) (hi := 511) rfl (by omega) (by omega)) (i_rng (lo := 0) (hi := 9) rfl (by omega) (by omega)) (i_rng (lo := 0) (hi := 2) rfl (by omega) (by omega)) (i_rng (lo := 0) (hi := 12) rfl (by omega) (by omega)) (i_rng (lo := 0) (hi := 1) rfl (by omega) (by omega)) (i_rng (lo := 0) (hi := 9) rfl (by omega) (by omega)) (by omega)
        · unfold f_X12_court_133
          refine T_qc (t_X12_has0 hn a4 a10 M hG (i_rng (lo := 0) (hi := 11) rfl (by omega) (by omega))) ?_
          rintro rv67 mv68 ⟨hq69_, hq70_, gq71_, kq72_⟩
          have hq73_ := kq72_.nil
          subst hq73_
          unfold f_X12_court_140
          refine T_eq rfl l_0 (fun hq74_ => ?_) (fun hq74_ => ?_)
          · refine T_ql (i_add rfl l_1 (by omega) (by omega)) ?_
            intro xv75 hq76_
            exact ih a1 a2 a3 a4 a5 a6 a7 a8 a9 xv75 M hG hS (i_rng (lo := 1) (hi := 9) rfl (by omega) (by omega)) (i_rng (lo := 0) (hi := 511) rfl (by omega) (by omega)) (i_rng (lo := 0) (hi := 511) rfl (by omega) (by omega)) (i_rng (lo := 0) (hi := 511) rfl (by omega) (by omega)) (i_rng (lo := 0) (hi := 9) rfl (by omega) (by omega)) (i_rng (lo := 0) (hi := 2) rfl (by omega) (by omega)) (i_rng (lo := 0) (hi := 12) rfl (by omega) (by omega)) (i_rng (lo := 0) (hi := 1) rfl (by omega) (by omega)) (i_rng (lo := 0) (hi := 9) rfl (by omega) (by omega)) (by omega)
          · have hq77_ := i_shl1 (c := 8) (k := a10) (by decide) rfl (by omega) (by omega)
            refine T_ql rfl ?_
            intro xv78 hq79_
            refine T_ql (i_add rfl l_1 (by omega) (by omega)) ?_
            intro xv80 hq81_
            exact ih a1 a2 a3 a4 a5 a6 a7 a8 xv78 xv80 M hG hS (i_rng (lo := 1) (hi := 9) rfl (by omega) (by omega)) (i_rng (lo := 0) (hi := 511) rfl (by omega) (by omega)) (i_rng (lo := 0) (hi := 511) rfl (by omega) (by omega)) (i_rng (lo := 0) (hi := 511) rfl (by omega) (by omega)) (i_rng (lo := 0) (hi := 9) rfl (by omega) (by omega)) (i_rng (lo := 0) (hi := 2) rfl (by omega) (by omega)) (i_rng (lo := 0) (hi := 12) rfl (by omega) (by omega)) (i_rng (lo := 0) (hi := 1) rfl (by omega) (by omega)) (i_rng (lo := 0) (hi := 9) rfl (by omega) (by omega)) (by omega)
theorem t_X12_court {n : Nat} (hn : 200000 ≤ n) (a1 a2 a3 a4 a5 a6 : Int32) (M : qM) (hG : G M) : qT (f_X12_court n a1 a2 a3 a4 a5 a6 M) (po_X12_court a1 a2 a3 a4 a5 a6 M) := by
  have hS : Sm l_X12_court M M := Sm.rf
  unfold f_X12_court
  have hq84_ := (show ((1 : Int32)).toInt = _ from l_1)
  have hq85_ := (show ((9 : Int32)).toInt = _ from l_9)
  refine T_qc (t_X12_in hn a1 (1 : Int32) (9 : Int32) M hG (i_rng (lo := 0) (hi := 70) l_1 (by omega) (by omega)) (i_rng (lo := 0) (hi := 99999) l_9 (by omega) (by omega))) ?_
  rintro rv82 mv83 ⟨hq86_, hq87_, gq88_, kq89_⟩
  have hq90_ := kq89_.nil
  subst hq90_
  refine T_eq rfl l_0 (fun hq91_ => ?_) (fun hq91_ => ?_)
  · exact T_ret ⟨(i_rng (lo := (-1)) (hi := 12) l_m1 (by omega) (by omega)), hG, hS⟩
  · have hq94_ := (show ((0 : Int32)).toInt = _ from l_0)
    have hq95_ := i_shl1 (c := 9) (k := a1) (by decide) rfl (by omega) (by omega)
    have hq96_ := (show (((1 : Int32) <<< (a1 &&& 31)) - (1 : Int32)).toInt = _ from (i_sub rfl l_1 (by omega) (by omega)))
    refine T_qc (t_X12_in hn a2 (0 : Int32) (((1 : Int32) <<< (a1 &&& 31)) - (1 : Int32)) M hG (i_rng (lo := 0) (hi := 70) l_0 (by omega) (by omega)) (i_rng (lo := 0) (hi := 99999) (i_sub rfl l_1 (by omega) (by omega)) (by omega) (by omega))) ?_
    rintro rv92 mv93 ⟨hq97_, hq98_, gq99_, kq100_⟩
    have hq101_ := kq100_.nil
    subst hq101_
    refine T_eq rfl l_0 (fun hq102_ => ?_) (fun hq102_ => ?_)
    · exact T_ret ⟨(i_rng (lo := (-1)) (hi := 12) l_m1 (by omega) (by omega)), hG, hS⟩
    · refine T_qc (t_X12_in hn a3 (0 : Int32) (((1 : Int32) <<< (a1 &&& 31)) - (1 : Int32)) M hG (i_rng (lo := 0) (hi := 70) l_0 (by omega) (by omega)) (i_rng (lo := 0) (hi := 99999) (i_sub rfl l_1 (by omega) (by omega)) (by omega) (by omega))) ?_
      rintro rv103 mv104 ⟨hq105_, hq106_, gq107_, kq108_⟩
      have hq109_ := kq108_.nil
      subst hq109_
      refine T_eq rfl l_0 (fun hq110_ => ?_) (fun hq110_ => ?_)
      · exact T_ret ⟨(i_rng (lo := (-1)) (hi := 12) l_m1 (by omega) (by omega)), hG, hS⟩
      · refine T_qc (t_X12_in hn a4 (0 : Int32) (((1 : Int32) <<< (a1 &&& 31)) - (1 : Int32)) M hG (i_rng (lo := 0) (hi := 70) l_0 (by omega) (by omega)) (i_rng (lo := 0) (hi := 99999) (i_sub rfl l_1 (by omega) (by omega)) (by omega) (by omega))) ?_
        rintro rv111 mv112 ⟨hq113_, hq114_, gq115_, kq116_⟩
        have hq117_ := kq116_.nil
        subst hq117_
        refine T_eq rfl l_0 (fun hq118_ => ?_) (fun hq118_ => ?_)
        · exact T_ret ⟨(i_rng (lo := (-1)) (hi := 12) l_m1 (by omega) (by omega)), hG, hS⟩
        · refine T_qc (t_X12_in hn a5 (0 : Int32) a1 M hG (i_rng (lo := 0) (hi := 70) l_0 (by omega) (by omega)) (i_rng (lo := 0) (hi := 99999) rfl (by omega) (by omega))) ?_
          rintro rv119 mv120 ⟨hq121_, hq122_, gq123_, kq124_⟩
          have hq125_ := kq124_.nil
          subst hq125_
          refine T_eq rfl l_0 (fun hq126_ => ?_) (fun hq126_ => ?_)
          · exact T_ret ⟨(i_rng (lo := (-1)) (hi := 12) l_m1 (by omega) (by omega)), hG, hS⟩
          · have hq129_ := (show ((2 : Int32)).toInt = _ from l_2)
            refine T_qc (t_X12_in hn a6 (0 : Int32) (2 : Int32) M hG (i_rng (lo := 0) (hi := 70) l_0 (by omega) (by omega)) (i_rng (lo := 0) (hi := 99999) l_2 (by omega) (by omega))) ?_
            rintro rv127 mv128 ⟨hq130_, hq131_, gq132_, kq133_⟩
            have hq134_ := kq133_.nil
            subst hq134_
            refine T_eq rfl l_0 (fun hq135_ => ?_) (fun hq135_ => ?_)
            · exact T_ret ⟨(i_rng (lo := (-1)) (hi := 12) l_m1 (by omega) (by omega)), hG, hS⟩
            · refine T_qc (t_X12_bits hn a2 M hG ) ?_
              rintro rv136 mv137 ⟨hq138_, hq139_, gq140_, kq141_⟩
              have hq142_ := kq141_.nil
              subst hq142_
              refine T_lt (i_mul l_2 rfl (by omega) (by omega)) rfl (fun hq143_ => ?_) (fun hq143_ => ?_)
              · unfold f_X12_court_91
                exact (t_X12_court_99 hn) n a1 a2 a3 a4 a5 a6 rv136 (0 : Int32) (0 : Int32) (0 : Int32) M hG hS (i_rng (lo := 1) (hi := 9) rfl (by omega) (by omega)) (i_rng (lo := 0) (hi := 511) rfl (by omega) (by omega)) (i_rng (lo := 0) (hi := 511) rfl (by omega) (by omega)) (i_rng (lo := 0) (hi := 511) rfl (by omega) (by omega)) (i_rng (lo := 0) (hi := 9) rfl (by omega) (by omega)) (i_rng (lo := 0) (hi := 2) rfl (by omega) (by omega)) (i_rng (lo := 0) (hi := 12) rfl (by omega) (by omega)) (i_rng (lo := 0) (hi := 1) l_0 (by omega) (by omega)) (i_rng (lo := 0) (hi := 9) l_0 (by omega) (by omega)) (by have e7 : ((0 : Int32)).toInt = _ := l_0; have e8 : ((0 : Int32)).toInt = _ := l_0; have e9 : ((0 : Int32)).toInt = _ := l_0; omega)
              · unfold f_X12_court_91
                exact (t_X12_court_99 hn) n a1 a2 a3 a4 a5 a6 rv136 (1 : Int32) (0 : Int32) (0 : Int32) M hG hS (i_rng (lo := 1) (hi := 9) rfl (by omega) (by omega)) (i_rng (lo := 0) (hi := 511) rfl (by omega) (by omega)) (i_rng (lo := 0) (hi := 511) rfl (by omega) (by omega)) (i_rng (lo := 0) (hi := 511) rfl (by omega) (by omega)) (i_rng (lo := 0) (hi := 9) rfl (by omega) (by omega)) (i_rng (lo := 0) (hi := 2) rfl (by omega) (by omega)) (i_rng (lo := 0) (hi := 12) rfl (by omega) (by omega)) (i_rng (lo := 0) (hi := 1) l_1 (by omega) (by omega)) (i_rng (lo := 0) (hi := 9) l_0 (by omega) (by omega)) (by have e7 : ((1 : Int32)).toInt = _ := l_1; have e8 : ((0 : Int32)).toInt = _ := l_0; have e9 : ((0 : Int32)).toInt = _ := l_0; omega)
abbrev l_X10_copy_c16_7 : List Bx := [(16, 17, 8, 10), (17, 25, 0, 0)]
abbrev po_X10_copy_c16_7 (M : qM) (v : Int32) (M' : qM) : Prop := (0 ≤ v.toInt ∧ v.toInt ≤ 0) ∧ ((M' 16 9).toInt = (M 7 9).toInt ∧ (M' 16 8).toInt = (M 7 8).toInt) ∧ G M' ∧ Sm l_X10_copy_c16_7 M M'
theorem t_X10_copy_c16_7 {n : Nat} (hn : 200000 ≤ n) (M : qM) (hG : G M) : qT (f_X10_copy n 16 7  M) (po_X10_copy_c16_7  M) := by
  have hS : Sm l_X10_copy_c16_7 M M := Sm.rf
  unfold f_X10_copy
  try simp only [Nat.reduceAdd]
  refine T_qcp l_0 l_0 l_8 (by omega) (by omega) (by omega) (by omega) (by omega) ?_
  refine T_mr hG hS (fun s => rn_17 s _) nw_17 (i := 1) rfl (fun s => ⟨by decide, by decide, Or.inl rfl⟩) ?_
  intro mv1 hq2_ gq3_ kq4_
  have hq5_ : (mv1 7 9).toInt = (M 7 9).toInt := by rw [hq2_]; show ((if 7 = 17 then _ else M 7) 9).toInt = _; rw [if_neg (by decide)]
  have hq6_ : (mv1 7 8).toInt = (M 7 8).toInt := by rw [hq2_]; show ((if 7 = 17 then _ else M 7) 8).toInt = _; rw [if_neg (by decide)]
  refine T_qcp l_0 l_0 l_96 (by omega) (by omega) (by omega) (by omega) (by omega) ?_
  refine T_mr gq3_ kq4_ (fun s => rn_18 s _) nw_18 (i := 1) rfl (fun s => ⟨by decide, by decide, Or.inl rfl⟩) ?_
  intro mv7 hq8_ gq9_ kq10_
  have hq11_ : (mv7 7 9).toInt = (mv1 7 9).toInt := by rw [hq8_]; show ((if 7 = 18 then _ else mv1 7) 9).toInt = _; rw [if_neg (by decide)]
  have hq12_ : (mv7 7 8).toInt = (mv1 7 8).toInt := by rw [hq8_]; show ((if 7 = 18 then _ else mv1 7) 8).toInt = _; rw [if_neg (by decide)]
  refine T_qcp l_0 l_0 l_96 (by omega) (by omega) (by omega) (by omega) (by omega) ?_
  refine T_mr gq9_ kq10_ (fun s => rn_19 s _) nw_19 (i := 1) rfl (fun s => ⟨by decide, by decide, Or.inl rfl⟩) ?_
  intro mv13 hq14_ gq15_ kq16_
  have hq17_ : (mv13 7 9).toInt = (mv7 7 9).toInt := by rw [hq14_]; show ((if 7 = 19 then _ else mv7 7) 9).toInt = _; rw [if_neg (by decide)]
  have hq18_ : (mv13 7 8).toInt = (mv7 7 8).toInt := by rw [hq14_]; show ((if 7 = 19 then _ else mv7 7) 8).toInt = _; rw [if_neg (by decide)]
  refine T_qcp l_0 l_0 l_96 (by omega) (by omega) (by omega) (by omega) (by omega) ?_
  refine T_mr gq15_ kq16_ (fun s => rn_20 s _) nw_20 (i := 1) rfl (fun s => ⟨by decide, by decide, Or.inl rfl⟩) ?_
  intro mv19 hq20_ gq21_ kq22_
  have hq23_ : (mv19 7 9).toInt = (mv13 7 9).toInt := by rw [hq20_]; show ((if 7 = 20 then _ else mv13 7) 9).toInt = _; rw [if_neg (by decide)]
  have hq24_ : (mv19 7 8).toInt = (mv13 7 8).toInt := by rw [hq20_]; show ((if 7 = 20 then _ else mv13 7) 8).toInt = _; rw [if_neg (by decide)]
  refine T_qcp l_0 l_0 l_320 (by omega) (by omega) (by omega) (by omega) (by omega) ?_
  refine T_mr gq21_ kq22_ (fun s => rn_21 s _) nw_21 (i := 1) rfl (fun s => ⟨by decide, by decide, Or.inl rfl⟩) ?_
  intro mv25 hq26_ gq27_ kq28_
  have hq29_ : (mv25 7 9).toInt = (mv19 7 9).toInt := by rw [hq26_]; show ((if 7 = 21 then _ else mv19 7) 9).toInt = _; rw [if_neg (by decide)]
  have hq30_ : (mv25 7 8).toInt = (mv19 7 8).toInt := by rw [hq26_]; show ((if 7 = 21 then _ else mv19 7) 8).toInt = _; rw [if_neg (by decide)]
  refine T_qcp l_0 l_0 l_320 (by omega) (by omega) (by omega) (by omega) (by omega) ?_
  refine T_mr gq27_ kq28_ (fun s => rn_22 s _) nw_22 (i := 1) rfl (fun s => ⟨by decide, by decide, Or.inl rfl⟩) ?_
  intro mv31 hq32_ gq33_ kq34_
  have hq35_ : (mv31 7 9).toInt = (mv25 7 9).toInt := by rw [hq32_]; show ((if 7 = 22 then _ else mv25 7) 9).toInt = _; rw [if_neg (by decide)]
  have hq36_ : (mv31 7 8).toInt = (mv25 7 8).toInt := by rw [hq32_]; show ((if 7 = 22 then _ else mv25 7) 8).toInt = _; rw [if_neg (by decide)]
  refine T_qcp l_0 l_0 l_8 (by omega) (by omega) (by omega) (by omega) (by omega) ?_
  refine T_mr gq33_ kq34_ (va_in (r_14 gq33_) (r_23 gq33_)) nw_23 (i := 1) rfl (fun s => ⟨by decide, by decide, Or.inl rfl⟩) ?_
  intro mv37 hq38_ gq39_ kq40_
  have hq41_ : (mv37 7 9).toInt = (mv31 7 9).toInt := by rw [hq38_]; show ((if 7 = 23 then _ else mv31 7) 9).toInt = _; rw [if_neg (by decide)]
  have hq42_ : (mv37 7 8).toInt = (mv31 7 8).toInt := by rw [hq38_]; show ((if 7 = 23 then _ else mv31 7) 8).toInt = _; rw [if_neg (by decide)]
  refine T_qcp l_0 l_0 l_8 (by omega) (by omega) (by omega) (by omega) (by omega) ?_
  refine T_mr gq39_ kq40_ (va_in (r_15 gq39_) (r_24 gq39_)) nw_24 (i := 1) rfl (fun s => ⟨by decide, by decide, Or.inl rfl⟩) ?_
  intro mv43 hq44_ gq45_ kq46_
  have hq47_ : (mv43 7 9).toInt = (mv37 7 9).toInt := by rw [hq44_]; show ((if 7 = 24 then _ else mv37 7) 9).toInt = _; rw [if_neg (by decide)]
  have hq48_ : (mv43 7 8).toInt = (mv37 7 8).toInt := by rw [hq44_]; show ((if 7 = 24 then _ else mv37 7) 8).toInt = _; rw [if_neg (by decide)]
  refine T_mu gq45_ kq46_ (rn_16_8 _) (nw_16 _) (i := 0) rfl ⟨by decide, by decide, Or.inr ⟨by decide, by decide⟩⟩ ?_
  intro mv49 hq50_ gq51_ kq52_
  have hq53_ : (mv49 7 9).toInt = (mv43 7 9).toInt := by rw [hq50_, mu_ne (Or.inl (by decide))]
  have hq54_ : (mv49 7 8).toInt = (mv43 7 8).toInt := by rw [hq50_, mu_ne (Or.inl (by decide))]
  have hq55_ : (mv49 16 8).toInt = (mv43 7 8).toInt := by rw [hq50_, mu_at]
  refine T_mu gq51_ kq52_ (rn_16_9 _) (nw_16 _) (i := 0) rfl ⟨by decide, by decide, Or.inr ⟨by decide, by decide⟩⟩ ?_
  intro mv56 hq57_ gq58_ kq59_
  have hq60_ : (mv56 7 9).toInt = (mv49 7 9).toInt := by rw [hq57_, mu_ne (Or.inl (by decide))]
  have hq61_ : (mv56 7 8).toInt = (mv49 7 8).toInt := by rw [hq57_, mu_ne (Or.inl (by decide))]
  have hq62_ : (mv56 16 8).toInt = (mv49 16 8).toInt := by rw [hq57_, mu_ne (Or.inr (by decide))]
  have hq63_ : (mv56 16 9).toInt = (mv49 7 9).toInt := by rw [hq57_, mu_at]
  exact T_ret ⟨(i_rng (lo := 0) (hi := 0) l_0 (by omega) (by omega)), (by have e9 : (0 : Int32).toInt = _ := l_0; omega), gq58_, kq59_⟩
abbrev l_X11_keep : List Bx := [(0, 1, 12, 13), (16, 17, 8, 10), (17, 25, 0, 0)]
abbrev po_X11_keep (M : qM) (v : Int32) (M' : qM) : Prop := (v.toInt = (M 7 9).toInt ∧ (M' 0 12).toInt = 1 ∧ (M' 16 9).toInt = (M 7 9).toInt ∧ (M' 16 8).toInt = (M 7 8).toInt) ∧ G M' ∧ Sm l_X11_keep M M'
theorem t_X11_keep {n : Nat} (hn : 200000 ≤ n) (M : qM) (hG : G M) : qT (f_X11_keep n  M) (po_X11_keep  M) := by
  have hS : Sm l_X11_keep M M := Sm.rf
  unfold f_X11_keep
  refine T_qc (t_X10_copy_c16_7 hn  M hG ) ?_
  rintro rv1 mv2 ⟨hq3_, hq4_, gq5_, kq6_⟩
  have kq7_ := Sm.call hS kq6_ rfl
  have hq8_ : (mv2 7 9).toInt = (M 7 9).toInt := by rw [kq6_ 7 9 (by decide)]
  have hq9_ : (mv2 7 8).toInt = (M 7 8).toInt := by rw [kq6_ 7 8 (by decide)]
  refine T_mu gq5_ kq7_ (rn_0_12 _) (nw_0 _) (i := 0) rfl ⟨by decide, by decide, Or.inr ⟨by decide, by decide⟩⟩ ?_
  intro mv10 hq11_ gq12_ kq13_
  have hq14_ : (mv10 7 9).toInt = (mv2 7 9).toInt := by rw [hq11_, mu_ne (Or.inl (by decide))]
  have hq15_ : (mv10 7 8).toInt = (mv2 7 8).toInt := by rw [hq11_, mu_ne (Or.inl (by decide))]
  have hq16_ : (mv10 16 9).toInt = (mv2 16 9).toInt := by rw [hq11_, mu_ne (Or.inl (by decide))]
  have hq17_ : (mv10 16 8).toInt = (mv2 16 8).toInt := by rw [hq11_, mu_ne (Or.inl (by decide))]
  have hq18_ : (mv10 0 12).toInt = 1 := by rw [hq11_, mu_at]; exact l_1
  exact T_ret ⟨(by have e9 : (mv10 7 9).toInt = _ := rfl; omega), gq12_, kq13_⟩

abbrev l_X12_copies_c78_80 : List Bx := [(80, 81, 0, 954)]
abbrev po_X12_copies_c78_80 (M : qM) (v : Int32) (M' : qM) : Prop := (0 ≤ v.toInt ∧ v.toInt ≤ 0) ∧ ((M' 80 312).toInt = (M 78 312).toInt ∧ (M' 80 313).toInt = (M 78 313).toInt) ∧ G M' ∧ Sm l_X12_copies_c78_80 M M'
theorem t_X12_copies_c78_80_2 {n : Nat} (hn : 200000 ≤ n) {M0 : qM} : ∀ (m : Nat) (a2 : Int32) (M : qM), G M → Sm l_X12_copies_c78_80 M0 M → 0 ≤ a2.toInt ∧ a2.toInt ≤ 954 → ((a2.toInt ≤ 312 ∨ (M 80 312).toInt = (M0 78 312).toInt) ∧ (a2.toInt ≤ 313 ∨ (M 80 313).toInt = (M0 78 313).toInt) ∧ (M 78 312).toInt = (M0 78 312).toInt ∧ (M 78 313).toInt = (M0 78 313).toInt) → 954 - a2.toInt < (m : Int) → qT (f_X12_copies_2 n 78 80 m a2 M) (po_X12_copies_c78_80  M0) := by
  intro m
  induction m with
  | zero =>
    intro a2 M hG hS i0 hE i4
    exfalso; omega
  | succ m ih =>
    intro a2 M hG hS i0 hE i4
    show qT (b_X12_copies_2 n 78 80 (f_X12_copies_2 n 78 80 m) a2 M) _
    unfold b_X12_copies_2
    try simp only [Nat.reduceAdd]
    refine T_le l_954 rfl (fun hq2_ => ?_) (fun hq2_ => ?_)
    · exact T_ret ⟨(i_rng (lo := 0) (hi := 0) l_0 (by omega) (by omega)), (by have e9 : (0 : Int32).toInt = _ := l_0; omega), hG, hS⟩
    · refine T_qg rfl (by omega) (by omega) ?_
      refine T_qg rfl (by omega) (by omega) ?_
      refine T_mu hG hS (cp78 (by decide) (by decide) hG) (nw_80 _) (i := 0) rfl ⟨by decide, by decide, Or.inr ⟨(show 0 ≤ _ by rw [tnc]; omega), (show _ < 954 by rw [tnc]; omega)⟩⟩ ?_
      intro mv3 hq4_ gq5_ kq6_
      have hq7_ : (mv3 80 a2.toNatClampNeg).toInt = (M 78 a2.toNatClampNeg).toInt := by rw [hq4_, mu_at]
      refine T_ql (i_add rfl l_1 (by omega) (by omega)) ?_
      intro xv8 hq9_
      exact ih xv8 mv3 gq5_ kq6_ (i_rng (lo := 0) (hi := 954) rfl (by omega) (by omega)) (by first | exact ⟨cp_step (k := 312) hq4_ (by omega) (by omega) hE.2.2.1 hE.1, cp_step (k := 313) hq4_ (by omega) (by omega) hE.2.2.2 hE.2.1, (by rw [hq4_, mu_ne (Or.inl (by decide))]; exact hE.2.2.1), (by rw [hq4_, mu_ne (Or.inl (by decide))]; exact hE.2.2.2)⟩ | omega) (by omega)
theorem t_X12_copies_c78_80 {n : Nat} (hn : 200000 ≤ n) (M : qM) (hG : G M) : qT (f_X12_copies n 78 80  M) (po_X12_copies_c78_80  M) := by
  have hS : Sm l_X12_copies_c78_80 M M := Sm.rf
  unfold f_X12_copies
  try simp only [Nat.reduceAdd]
  exact (t_X12_copies_c78_80_2 hn) n (0 : Int32) M hG hS (i_rng (lo := 0) (hi := 954) l_0 (by omega) (by omega)) (by have e0 : ((0 : Int32)).toInt = _ := l_0; first | exact ⟨cp_step (k := 312) rfl (by omega) (by omega) hE.2.2.1 hE.1, cp_step (k := 313) rfl (by omega) (by omega) hE.2.2.2 hE.2.1, (by rw [rfl, mu_ne (Or.inl (by decide))]; exact hE.2.2.1), (by rw [rfl, mu_ne (Or.inl (by decide))]; exact hE.2.2.2)⟩ | omega) (by have e0 : ((0 : Int32)).toInt = _ := l_0; omega)
abbrev l_X12_keep : List Bx := [(77, 78, 67, 68), (80, 81, 0, 954)]
abbrev po_X12_keep (M : qM) (v : Int32) (M' : qM) : Prop := (v.toInt = (M 78 313).toInt ∧ (M' 77 67).toInt = 1 ∧ (M' 80 313).toInt = (M 78 313).toInt ∧ (M' 80 312).toInt = (M 78 312).toInt) ∧ G M' ∧ Sm l_X12_keep M M'
theorem t_X12_keep {n : Nat} (hn : 200000 ≤ n) (M : qM) (hG : G M) : qT (f_X12_keep n  M) (po_X12_keep  M) := by
  have hS : Sm l_X12_keep M M := Sm.rf
  unfold f_X12_keep
  refine T_mu hG hS (rn_77_67 _) nw_77_67 (i := 0) rfl ⟨by decide, by decide, Or.inr ⟨by decide, by decide⟩⟩ ?_
  intro mv1 hq2_ gq3_ kq4_
  have hq5_ : (mv1 78 313).toInt = (M 78 313).toInt := by rw [hq2_, mu_ne (Or.inl (by decide))]
  have hq6_ : (mv1 78 312).toInt = (M 78 312).toInt := by rw [hq2_, mu_ne (Or.inl (by decide))]
  have hq7_ : (mv1 77 67).toInt = 1 := by rw [hq2_, mu_at]; exact l_1
  refine T_qc (t_X12_copies_c78_80 hn  mv1 gq3_ ) ?_
  rintro rv8 mv9 ⟨hq10_, hq11_, gq12_, kq13_⟩
  have kq14_ := Sm.call kq4_ kq13_ rfl
  have hq15_ : (mv9 78 313).toInt = (mv1 78 313).toInt := by rw [kq13_ 78 313 (by decide)]
  have hq16_ : (mv9 78 312).toInt = (mv1 78 312).toInt := by rw [kq13_ 78 312 (by decide)]
  have hq17_ : (mv9 77 67).toInt = (mv1 77 67).toInt := by rw [kq13_ 77 67 (by decide)]
  exact T_ret ⟨(by have e9 : (mv9 78 313).toInt = _ := rfl; omega), gq12_, kq14_⟩
abbrev l_X10_copy_c7_16 : List Bx := [(7, 8, 8, 10), (8, 16, 0, 0)]
abbrev po_X10_copy_c7_16 (M : qM) (v : Int32) (M' : qM) : Prop := (0 ≤ v.toInt ∧ v.toInt ≤ 0) ∧ ((M' 7 9).toInt = (M 16 9).toInt ∧ (M' 7 8).toInt = (M 16 8).toInt) ∧ G M' ∧ Sm l_X10_copy_c7_16 M M'
theorem t_X10_copy_c7_16 {n : Nat} (hn : 200000 ≤ n) (M : qM) (hG : G M) : qT (f_X10_copy n 7 16  M) (po_X10_copy_c7_16  M) := by
  have hS : Sm l_X10_copy_c7_16 M M := Sm.rf
  unfold f_X10_copy
  try simp only [Nat.reduceAdd]
  refine T_qcp l_0 l_0 l_8 (by omega) (by omega) (by omega) (by omega) (by omega) ?_
  refine T_mr hG hS (fun s => rn_8 s _) nw_8 (i := 1) rfl (fun s => ⟨by decide, by decide, Or.inl rfl⟩) ?_
  intro mv1 hq2_ gq3_ kq4_
  have hq5_ : (mv1 16 9).toInt = (M 16 9).toInt := by rw [hq2_]; show ((if 16 = 8 then _ else M 16) 9).toInt = _; rw [if_neg (by decide)]
  have hq6_ : (mv1 16 8).toInt = (M 16 8).toInt := by rw [hq2_]; show ((if 16 = 8 then _ else M 16) 8).toInt = _; rw [if_neg (by decide)]
  refine T_qcp l_0 l_0 l_96 (by omega) (by omega) (by omega) (by omega) (by omega) ?_
  refine T_mr gq3_ kq4_ (fun s => rn_9 s _) nw_9 (i := 1) rfl (fun s => ⟨by decide, by decide, Or.inl rfl⟩) ?_
  intro mv7 hq8_ gq9_ kq10_
  have hq11_ : (mv7 16 9).toInt = (mv1 16 9).toInt := by rw [hq8_]; show ((if 16 = 9 then _ else mv1 16) 9).toInt = _; rw [if_neg (by decide)]
  have hq12_ : (mv7 16 8).toInt = (mv1 16 8).toInt := by rw [hq8_]; show ((if 16 = 9 then _ else mv1 16) 8).toInt = _; rw [if_neg (by decide)]
  refine T_qcp l_0 l_0 l_96 (by omega) (by omega) (by omega) (by omega) (by omega) ?_
  refine T_mr gq9_ kq10_ (fun s => rn_10 s _) nw_10 (i := 1) rfl (fun s => ⟨by decide, by decide, Or.inl rfl⟩) ?_
  intro mv13 hq14_ gq15_ kq16_
  have hq17_ : (mv13 16 9).toInt = (mv7 16 9).toInt := by rw [hq14_]; show ((if 16 = 10 then _ else mv7 16) 9).toInt = _; rw [if_neg (by decide)]
  have hq18_ : (mv13 16 8).toInt = (mv7 16 8).toInt := by rw [hq14_]; show ((if 16 = 10 then _ else mv7 16) 8).toInt = _; rw [if_neg (by decide)]
  refine T_qcp l_0 l_0 l_96 (by omega) (by omega) (by omega) (by omega) (by omega) ?_
  refine T_mr gq15_ kq16_ (fun s => rn_11 s _) nw_11 (i := 1) rfl (fun s => ⟨by decide, by decide, Or.inl rfl⟩) ?_
  intro mv19 hq20_ gq21_ kq22_
  have hq23_ : (mv19 16 9).toInt = (mv13 16 9).toInt := by rw [hq20_]; show ((if 16 = 11 then _ else mv13 16) 9).toInt = _; rw [if_neg (by decide)]
  have hq24_ : (mv19 16 8).toInt = (mv13 16 8).toInt := by rw [hq20_]; show ((if 16 = 11 then _ else mv13 16) 8).toInt = _; rw [if_neg (by decide)]
  refine T_qcp l_0 l_0 l_320 (by omega) (by omega) (by omega) (by omega) (by omega) ?_
  refine T_mr gq21_ kq22_ (fun s => rn_12 s _) nw_12 (i := 1) rfl (fun s => ⟨by decide, by decide, Or.inl rfl⟩) ?_
  intro mv25 hq26_ gq27_ kq28_
  have hq29_ : (mv25 16 9).toInt = (mv19 16 9).toInt := by rw [hq26_]; show ((if 16 = 12 then _ else mv19 16) 9).toInt = _; rw [if_neg (by decide)]
  have hq30_ : (mv25 16 8).toInt = (mv19 16 8).toInt := by rw [hq26_]; show ((if 16 = 12 then _ else mv19 16) 8).toInt = _; rw [if_neg (by decide)]
  refine T_qcp l_0 l_0 l_320 (by omega) (by omega) (by omega) (by omega) (by omega) ?_
  refine T_mr gq27_ kq28_ (fun s => rn_13 s _) nw_13 (i := 1) rfl (fun s => ⟨by decide, by decide, Or.inl rfl⟩) ?_
  intro mv31 hq32_ gq33_ kq34_
  have hq35_ : (mv31 16 9).toInt = (mv25 16 9).toInt := by rw [hq32_]; show ((if 16 = 13 then _ else mv25 16) 9).toInt = _; rw [if_neg (by decide)]
  have hq36_ : (mv31 16 8).toInt = (mv25 16 8).toInt := by rw [hq32_]; show ((if 16 = 13 then _ else mv25 16) 8).toInt = _; rw [if_neg (by decide)]
  refine T_qcp l_0 l_0 l_8 (by omega) (by omega) (by omega) (by omega) (by omega) ?_
  refine T_mr gq33_ kq34_ (va_in (r_23 gq33_) (r_14 gq33_)) nw_14 (i := 1) rfl (fun s => ⟨by decide, by decide, Or.inl rfl⟩) ?_
  intro mv37 hq38_ gq39_ kq40_
  have hq41_ : (mv37 16 9).toInt = (mv31 16 9).toInt := by rw [hq38_]; show ((if 16 = 14 then _ else mv31 16) 9).toInt = _; rw [if_neg (by decide)]
  have hq42_ : (mv37 16 8).toInt = (mv31 16 8).toInt := by rw [hq38_]; show ((if 16 = 14 then _ else mv31 16) 8).toInt = _; rw [if_neg (by decide)]
  refine T_qcp l_0 l_0 l_8 (by omega) (by omega) (by omega) (by omega) (by omega) ?_
  refine T_mr gq39_ kq40_ (va_in (r_24 gq39_) (r_15 gq39_)) nw_15 (i := 1) rfl (fun s => ⟨by decide, by decide, Or.inl rfl⟩) ?_
  intro mv43 hq44_ gq45_ kq46_
  have hq47_ : (mv43 16 9).toInt = (mv37 16 9).toInt := by rw [hq44_]; show ((if 16 = 15 then _ else mv37 16) 9).toInt = _; rw [if_neg (by decide)]
  have hq48_ : (mv43 16 8).toInt = (mv37 16 8).toInt := by rw [hq44_]; show ((if 16 = 15 then _ else mv37 16) 8).toInt = _; rw [if_neg (by decide)]
  refine T_mu gq45_ kq46_ (rn_7_8 _) (nw_7 _) (i := 0) rfl ⟨by decide, by decide, Or.inr ⟨by decide, by decide⟩⟩ ?_
  intro mv49 hq50_ gq51_ kq52_
  have hq53_ : (mv49 16 9).toInt = (mv43 16 9).toInt := by rw [hq50_, mu_ne (Or.inl (by decide))]
  have hq54_ : (mv49 16 8).toInt = (mv43 16 8).toInt := by rw [hq50_, mu_ne (Or.inl (by decide))]
  have hq55_ : (mv49 7 8).toInt = (mv43 16 8).toInt := by rw [hq50_, mu_at]
  refine T_mu gq51_ kq52_ (rn_7_9 _) (nw_7 _) (i := 0) rfl ⟨by decide, by decide, Or.inr ⟨by decide, by decide⟩⟩ ?_
  intro mv56 hq57_ gq58_ kq59_
  have hq60_ : (mv56 16 9).toInt = (mv49 16 9).toInt := by rw [hq57_, mu_ne (Or.inl (by decide))]
  have hq61_ : (mv56 16 8).toInt = (mv49 16 8).toInt := by rw [hq57_, mu_ne (Or.inl (by decide))]
  have hq62_ : (mv56 7 8).toInt = (mv49 7 8).toInt := by rw [hq57_, mu_ne (Or.inr (by decide))]
  have hq63_ : (mv56 7 9).toInt = (mv49 16 9).toInt := by rw [hq57_, mu_at]
  exact T_ret ⟨(i_rng (lo := 0) (hi := 0) l_0 (by omega) (by omega)), (by have e9 : (0 : Int32).toInt = _ := l_0; omega), gq58_, kq59_⟩
abbrev l_X11_undo : List Bx := [(7, 8, 8, 10), (8, 16, 0, 0)]
abbrev po_X11_undo (M : qM) (v : Int32) (M' : qM) : Prop := (0 ≤ v.toInt ∧ v.toInt ≤ 1) ∧ ((v.toInt = 0 ∧ (M 0 12).toInt = 0 ∧ (M' 7 9).toInt = (M 7 9).toInt ∧ (M' 7 8).toInt = (M 7 8).toInt) ∨ (v.toInt = 1 ∧ (M 0 12).toInt ≠ 0 ∧ (M' 7 9).toInt = (M 16 9).toInt ∧ (M' 7 8).toInt = (M 16 8).toInt)) ∧ G M' ∧ Sm l_X11_undo M M'
theorem t_X11_undo {n : Nat} (hn : 200000 ≤ n) (M : qM) (hG : G M) : qT (f_X11_undo n  M) (po_X11_undo  M) := by
  have hS : Sm l_X11_undo M M := Sm.rf
  unfold f_X11_undo
  refine T_eq rfl l_0 (fun hq1_ => ?_) (fun hq1_ => ?_)
  · exact T_ret ⟨(i_rng (lo := 0) (hi := 1) l_0 (by omega) (by omega)), (by have e9 : ((0 : Int32)).toInt = _ := l_0; omega), hG, hS⟩
  · refine T_qc (t_X10_copy_c7_16 hn  M hG ) ?_
    rintro rv2 mv3 ⟨hq4_, hq5_, gq6_, kq7_⟩
    have kq8_ := Sm.call hS kq7_ rfl
    have hq9_ : (mv3 0 12).toInt = (M 0 12).toInt := by rw [kq7_ 0 12 (by decide)]
    have hq10_ : (mv3 16 9).toInt = (M 16 9).toInt := by rw [kq7_ 16 9 (by decide)]
    have hq11_ : (mv3 16 8).toInt = (M 16 8).toInt := by rw [kq7_ 16 8 (by decide)]
    exact T_ret ⟨(i_rng (lo := 0) (hi := 1) l_1 (by omega) (by omega)), (by have e9 : ((1 : Int32)).toInt = _ := l_1; omega), gq6_, kq8_⟩
abbrev l_X12_copies_c80_78 : List Bx := [(78, 79, 0, 954)]
abbrev po_X12_copies_c80_78 (M : qM) (v : Int32) (M' : qM) : Prop := (0 ≤ v.toInt ∧ v.toInt ≤ 0) ∧ ((M' 78 312).toInt = (M 80 312).toInt ∧ (M' 78 313).toInt = (M 80 313).toInt) ∧ G M' ∧ Sm l_X12_copies_c80_78 M M'
theorem t_X12_copies_c80_78_2 {n : Nat} (hn : 200000 ≤ n) {M0 : qM} : ∀ (m : Nat) (a2 : Int32) (M : qM), G M → Sm l_X12_copies_c80_78 M0 M → 0 ≤ a2.toInt ∧ a2.toInt ≤ 954 → ((a2.toInt ≤ 312 ∨ (M 78 312).toInt = (M0 80 312).toInt) ∧ (a2.toInt ≤ 313 ∨ (M 78 313).toInt = (M0 80 313).toInt) ∧ (M 80 312).toInt = (M0 80 312).toInt ∧ (M 80 313).toInt = (M0 80 313).toInt) → 954 - a2.toInt < (m : Int) → qT (f_X12_copies_2 n 80 78 m a2 M) (po_X12_copies_c80_78  M0) := by
  intro m
  induction m with
  | zero =>
    intro a2 M hG hS i0 hE i4
    exfalso; omega
  | succ m ih =>
    intro a2 M hG hS i0 hE i4
    show qT (b_X12_copies_2 n 80 78 (f_X12_copies_2 n 80 78 m) a2 M) _
    unfold b_X12_copies_2
    try simp only [Nat.reduceAdd]
    refine T_le l_954 rfl (fun hq2_ => ?_) (fun hq2_ => ?_)
    · exact T_ret ⟨(i_rng (lo := 0) (hi := 0) l_0 (by omega) (by omega)), (by have e9 : (0 : Int32).toInt = _ := l_0; omega), hG, hS⟩
    · refine T_qg rfl (by omega) (by omega) ?_
      refine T_qg rfl (by omega) (by omega) ?_
      refine T_mu hG hS (cp78 (by decide) (by decide) hG) (nw_78 _) (i := 0) rfl ⟨by decide, by decide, Or.inr ⟨(show 0 ≤ _ by rw [tnc]; omega), (show _ < 954 by rw [tnc]; omega)⟩⟩ ?_
      intro mv3 hq4_ gq5_ kq6_
      have hq7_ : (mv3 78 a2.toNatClampNeg).toInt = (M 80 a2.toNatClampNeg).toInt := by rw [hq4_, mu_at]
      refine T_ql (i_add rfl l_1 (by omega) (by omega)) ?_
      intro xv8 hq9_
      exact ih xv8 mv3 gq5_ kq6_ (i_rng (lo := 0) (hi := 954) rfl (by omega) (by omega)) (by first | exact ⟨cp_step (k := 312) hq4_ (by omega) (by omega) hE.2.2.1 hE.1, cp_step (k := 313) hq4_ (by omega) (by omega) hE.2.2.2 hE.2.1, (by rw [hq4_, mu_ne (Or.inl (by decide))]; exact hE.2.2.1), (by rw [hq4_, mu_ne (Or.inl (by decide))]; exact hE.2.2.2)⟩ | omega) (by omega)
theorem t_X12_copies_c80_78 {n : Nat} (hn : 200000 ≤ n) (M : qM) (hG : G M) : qT (f_X12_copies n 80 78  M) (po_X12_copies_c80_78  M) := by
  have hS : Sm l_X12_copies_c80_78 M M := Sm.rf
  unfold f_X12_copies
  try simp only [Nat.reduceAdd]
  exact (t_X12_copies_c80_78_2 hn) n (0 : Int32) M hG hS (i_rng (lo := 0) (hi := 954) l_0 (by omega) (by omega)) (by have e0 : ((0 : Int32)).toInt = _ := l_0; first | exact ⟨cp_step (k := 312) rfl (by omega) (by omega) hE.2.2.1 hE.1, cp_step (k := 313) rfl (by omega) (by omega) hE.2.2.2 hE.2.1, (by rw [rfl, mu_ne (Or.inl (by decide))]; exact hE.2.2.1), (by rw [rfl, mu_ne (Or.inl (by decide))]; exact hE.2.2.2)⟩ | omega) (by have e0 : ((0 : Int32)).toInt = _ := l_0; omega)
abbrev l_X12_undo : List Bx := [(78, 79, 0, 954)]
abbrev po_X12_undo (M : qM) (v : Int32) (M' : qM) : Prop := (0 ≤ v.toInt ∧ v.toInt ≤ 1) ∧ ((v.toInt = 0 ∧ (M 77 67).toInt = 0 ∧ (M' 78 313).toInt = (M 78 313).toInt ∧ (M' 78 312).toInt = (M 78 312).toInt) ∨ (v.toInt = 1 ∧ (M 77 67).toInt ≠ 0 ∧ (M' 78 313).toInt = (M 80 313).toInt ∧ (M' 78 312).toInt = (M 80 312).toInt)) ∧ G M' ∧ Sm l_X12_undo M M'
theorem t_X12_undo {n : Nat} (hn : 200000 ≤ n) (M : qM) (hG : G M) : qT (f_X12_undo n  M) (po_X12_undo  M) := by
  have hS : Sm l_X12_undo M M := Sm.rf
  unfold f_X12_undo
  refine T_eq rfl l_0 (fun hq1_ => ?_) (fun hq1_ => ?_)
  · exact T_ret ⟨(i_rng (lo := 0) (hi := 1) l_0 (by omega) (by omega)), (by have e9 : ((0 : Int32)).toInt = _ := l_0; omega), hG, hS⟩
  · refine T_qc (t_X12_copies_c80_78 hn  M hG ) ?_
    rintro rv2 mv3 ⟨hq4_, hq5_, gq6_, kq7_⟩
    have kq8_ := Sm.call hS kq7_ rfl
    have hq9_ : (mv3 77 67).toInt = (M 77 67).toInt := by rw [kq7_ 77 67 (by decide)]
    have hq10_ : (mv3 80 313).toInt = (M 80 313).toInt := by rw [kq7_ 80 313 (by decide)]
    have hq11_ : (mv3 80 312).toInt = (M 80 312).toInt := by rw [kq7_ 80 312 (by decide)]
    exact T_ret ⟨(i_rng (lo := 0) (hi := 1) l_1 (by omega) (by omega)), (by have e9 : ((1 : Int32)).toInt = _ := l_1; omega), gq6_, kq8_⟩
abbrev l_X9_word : List Bx := []
abbrev po_X9_word (a1 : Int32) (M : qM) (v : Int32) (M' : qM) : Prop := G M' ∧ Sm l_X9_word M M'
theorem t_X9_word {n : Nat} (hn : 200000 ≤ n) (a1 : Int32) (M : qM) (hG : G M) (pa1 : 0 ≤ a1.toInt ∧ a1.toInt ≤ 44) : qT (f_X9_word n a1 M) (po_X9_word a1 M) := by
  have hS : Sm l_X9_word M M := Sm.rf
  unfold f_X9_word
  refine T_qc (t_X9_at hn a1 M hG (i_rng (lo := 0) (hi := 47) rfl (by omega) (by omega))) ?_
  rintro rv1 mv2 ⟨hq3_, gq4_, kq5_⟩
  have hq6_ := kq5_.nil
  subst hq6_
  refine T_qc (t_X9_at hn (a1 + (1 : Int32)) M hG (i_rng (lo := 0) (hi := 47) (i_add rfl l_1 (by omega) (by omega)) (by omega) (by omega))) ?_
  rintro rv7 mv8 ⟨hq9_, gq10_, kq11_⟩
  have hq12_ := kq11_.nil
  subst hq12_
  refine T_qc (t_X9_at hn (a1 + (2 : Int32)) M hG (i_rng (lo := 0) (hi := 47) (i_add rfl l_2 (by omega) (by omega)) (by omega) (by omega))) ?_
  rintro rv13 mv14 ⟨hq15_, gq16_, kq17_⟩
  have hq18_ := kq17_.nil
  subst hq18_
  refine T_qc (t_X9_at hn (a1 + (3 : Int32)) M hG (i_rng (lo := 0) (hi := 47) (i_add rfl l_3 (by omega) (by omega)) (by omega) (by omega))) ?_
  rintro rv19 mv20 ⟨hq21_, gq22_, kq23_⟩
  have hq24_ := kq23_.nil
  subst hq24_
  exact T_ret ⟨hG, hS⟩
abbrev l_X11_check : List Bx := [(1, 2, 1, 2)]
abbrev po_X11_check (a1 a2 : Int32) (M : qM) (v : Int32) (M' : qM) : Prop := ((-2) ≤ v.toInt ∧ v.toInt ≤ 11) ∧ (((0 ≤ a1.toInt ∧ a1.toInt ≤ 7 ∧ (((M 7 8) >>> (a1 &&& 31)) &&& (1 : Int32)).toInt = 1 ∧ 0 ≤ a2.toInt ∧ a2.toInt ≤ 12 ∧ 4 * a2.toInt ≤ (M 1 1).toInt) ∧ (M' 1 1).toInt = 0) ∨ (¬ (0 ≤ a1.toInt ∧ a1.toInt ≤ 7 ∧ (((M 7 8) >>> (a1 &&& 31)) &&& (1 : Int32)).toInt = 1 ∧ 0 ≤ a2.toInt ∧ a2.toInt ≤ 12 ∧ 4 * a2.toInt ≤ (M 1 1).toInt) ∧ (M' 1 1).toInt = (M 1 1).toInt)) ∧ G M' ∧ Sm l_X11_check M M'
theorem t_X11_check_44 {n : Nat} (hn : 200000 ≤ n) {oa1 oa2 : Int32} {M0 : qM} : ∀ (m : Nat) (a1 a3 a4 : Int32) (M : qM), G M → Sm l_X11_check M0 M → 0 ≤ a1.toInt ∧ a1.toInt ≤ 7 → (-1) ≤ a3.toInt ∧ a3.toInt ≤ 11 → (-1) ≤ a4.toInt ∧ a4.toInt ≤ 11 → ((0 ≤ oa1.toInt ∧ oa1.toInt ≤ 7 ∧ (((M0 7 8) >>> (oa1 &&& 31)) &&& (1 : Int32)).toInt = 1 ∧ 0 ≤ oa2.toInt ∧ oa2.toInt ≤ 12 ∧ 4 * oa2.toInt ≤ (M0 1 1).toInt)) → a4.toInt - (-1) < (m : Int) → qT (f_X11_check_44 n m a1 a3 a4 M) (po_X11_check oa1 oa2 M0) := by
  intro m
  induction m with
  | zero =>
    intro a1 a3 a4 M hG hS i0 i1 i2 hE i6
    exfalso; omega
  | succ m ih =>
    intro a1 a3 a4 M hG hS i0 i1 i2 hE i6
    show qT (b_X11_check_44 n (f_X11_check_44 n m) a1 a3 a4 M) _
    unfold b_X11_check_44
    refine T_lt rfl l_0 (fun hq3_ => ?_) (fun hq3_ => ?_)
    · refine T_qc (t_X9_clear hn  M hG ) ?_
      rintro rv4 mv5 ⟨hq6_, hq7_, gq8_, kq9_⟩
      have kq10_ := Sm.call hS kq9_ rfl
      have hq11_ := r_1_1 gq8_
      exact T_ret ⟨(i_rng (lo := (-2)) (hi := 11) rfl (by omega) (by omega)), (by have e9 : (a3).toInt = _ := rfl; omega), gq8_, kq10_⟩
    · refine T_qc (t_X9_word hn ((4 : Int32) * a4) M hG (i_rng (lo := 0) (hi := 44) (i_mul l_4 rfl (by omega) (by omega)) (by omega) (by omega))) ?_
      rintro rv12 mv13 ⟨gq14_, kq15_⟩
      have hq16_ := kq15_.nil
      subst hq16_
      refine T_qg (i_add (i_mul rfl l_12 (by omega) (by omega)) rfl (by omega) (by omega)) (by omega) (by omega) ?_
      refine T_eq rfl rfl (fun hq17_ => ?_) (fun hq17_ => ?_)
      · refine T_ql (i_add rfl l_m1 (by omega) (by omega)) ?_
        intro xv18 hq19_
        exact ih a1 a3 xv18 M hG hS (i_rng (lo := 0) (hi := 7) rfl (by omega) (by omega)) (i_rng (lo := (-1)) (hi := 11) rfl (by omega) (by omega)) (i_rng (lo := (-1)) (hi := 11) rfl (by omega) (by omega)) (by omega) (by omega)
      · refine T_ql (i_add rfl l_m1 (by omega) (by omega)) ?_
        intro xv20 hq21_
        exact ih a1 a4 xv20 M hG hS (i_rng (lo := 0) (hi := 7) rfl (by omega) (by omega)) (i_rng (lo := (-1)) (hi := 11) rfl (by omega) (by omega)) (i_rng (lo := (-1)) (hi := 11) rfl (by omega) (by omega)) (by omega) (by omega)
theorem t_X11_check {n : Nat} (hn : 200000 ≤ n) (a1 a2 : Int32) (M : qM) (hG : G M) : qT (f_X11_check n a1 a2 M) (po_X11_check a1 a2 M) := by
  have hS : Sm l_X11_check M M := Sm.rf
  unfold f_X11_check
  have hq22_ := r_1_1 hG
  refine T_qc (t_X10_knows_c7 hn a1 M hG ) ?_
  rintro rv23 mv24 ⟨hq25_, hq26_, gq27_, kq28_⟩
  have hq29_ := kq28_.nil
  subst hq29_
  refine T_eq rfl l_0 (fun hq30_ => ?_) (fun hq30_ => ?_)
  · exact T_ret ⟨(i_rng (lo := (-2)) (hi := 11) l_m2 (by omega) (by omega)), (by have e9 : ((-2 : Int32)).toInt = _ := l_m2; omega), hG, hS⟩
  · refine T_lt rfl l_0 (fun hq31_ => ?_) (fun hq31_ => ?_)
    · exact T_ret ⟨(i_rng (lo := (-2)) (hi := 11) l_m2 (by omega) (by omega)), (by have e9 : ((-2 : Int32)).toInt = _ := l_m2; omega), hG, hS⟩
    · refine T_lt l_12 rfl (fun hq32_ => ?_) (fun hq32_ => ?_)
      · exact T_ret ⟨(i_rng (lo := (-2)) (hi := 11) l_m2 (by omega) (by omega)), (by have e9 : ((-2 : Int32)).toInt = _ := l_m2; omega), hG, hS⟩
      · refine T_le (i_mul l_4 rfl (by omega) (by omega)) rfl (fun hq33_ => ?_) (fun hq33_ => ?_)
        · refine T_ql (i_sub rfl l_1 (by omega) (by omega)) ?_
          intro xv34 hq35_
          exact (t_X11_check_44 hn) n a1 (-1 : Int32) xv34 M hG hS (i_rng (lo := 0) (hi := 7) rfl (by omega) (by omega)) (i_rng (lo := (-1)) (hi := 11) l_m1 (by omega) (by omega)) (i_rng (lo := (-1)) (hi := 11) rfl (by omega) (by omega)) (by have e1 : ((-1 : Int32)).toInt = _ := l_m1; omega) (by have e1 : ((-1 : Int32)).toInt = _ := l_m1; omega)
        · exact T_ret ⟨(i_rng (lo := (-2)) (hi := 11) l_m2 (by omega) (by omega)), (by have e9 : ((-2 : Int32)).toInt = _ := l_m2; omega), hG, hS⟩
abbrev l_X12_tapeNumber : List Bx := []
abbrev po_X12_tapeNumber (a1 : Int32) (M : qM) (v : Int32) (M' : qM) : Prop := G M' ∧ Sm l_X12_tapeNumber M M'
theorem t_X12_tapeNumber_6 {n : Nat} (hn : 200000 ≤ n) {oa1 : Int32} {M0 : qM} : ∀ (m : Nat) (a1 a2 a3 : Int32) (M : qM), G M → Sm l_X12_tapeNumber M0 M → 0 ≤ a1.toInt ∧ a1.toInt ≤ 11 → 0 ≤ a3.toInt ∧ a3.toInt ≤ 48 → 48 - a3.toInt < (m : Int) → qT (f_X12_tapeNumber_6 n m a1 a2 a3 M) (po_X12_tapeNumber oa1 M0) := by
  intro m
  induction m with
  | zero =>
    intro a1 a2 a3 M hG hS i0 i1 i4
    exfalso; omega
  | succ m ih =>
    intro a1 a2 a3 M hG hS i0 i1 i4
    show qT (b_X12_tapeNumber_6 n (f_X12_tapeNumber_6 n m) a1 a2 a3 M) _
    unfold b_X12_tapeNumber_6
    refine T_le (i_add (i_mul l_4 rfl (by omega) (by omega)) l_4 (by omega) (by omega)) rfl (fun hq3_ => ?_) (fun hq3_ => ?_)
    · exact T_ret ⟨hG, hS⟩
    · refine T_qg rfl (by omega) (by omega) ?_
      have hq4_ := r_84 hG a3.toNatClampNeg
      have hq5_ := i_and (a := M 84 a3.toNatClampNeg) (b := (255 : Int32)) l_255 (by omega)
      refine T_ql rfl ?_
      intro xv6 hq7_
      refine T_ql (i_add rfl l_1 (by omega) (by omega)) ?_
      intro xv8 hq9_
      exact ih a1 xv6 xv8 M hG hS (i_rng (lo := 0) (hi := 11) rfl (by omega) (by omega)) (i_rng (lo := 0) (hi := 48) rfl (by omega) (by omega)) (by omega)
theorem t_X12_tapeNumber {n : Nat} (hn : 200000 ≤ n) (a1 : Int32) (M : qM) (hG : G M) (pa1 : 0 ≤ a1.toInt ∧ a1.toInt ≤ 11) : qT (f_X12_tapeNumber n a1 M) (po_X12_tapeNumber a1 M) := by
  have hS : Sm l_X12_tapeNumber M M := Sm.rf
  unfold f_X12_tapeNumber
  refine T_ql (i_mul l_4 rfl (by omega) (by omega)) ?_
  intro xv10 hq11_
  exact (t_X12_tapeNumber_6 hn) n a1 (0 : Int32) xv10 M hG hS (i_rng (lo := 0) (hi := 11) rfl (by omega) (by omega)) (i_rng (lo := 0) (hi := 48) rfl (by omega) (by omega)) (by have e1 : ((0 : Int32)).toInt = _ := l_0; omega)
abbrev l_X12_check : List Bx := [(77, 78, 8, 9)]
abbrev po_X12_check (a1 a2 : Int32) (M : qM) (v : Int32) (M' : qM) : Prop := ((-2) ≤ v.toInt ∧ v.toInt ≤ 11) ∧ (((0 ≤ a1.toInt ∧ a1.toInt ≤ 7 ∧ (((M 78 312) >>> (a1 &&& 31)) &&& (1 : Int32)).toInt = 1 ∧ 0 ≤ a2.toInt ∧ a2.toInt ≤ 12 ∧ 4 * a2.toInt ≤ (M 77 8).toInt) ∧ (M' 77 8).toInt = 0) ∨ (¬ (0 ≤ a1.toInt ∧ a1.toInt ≤ 7 ∧ (((M 78 312) >>> (a1 &&& 31)) &&& (1 : Int32)).toInt = 1 ∧ 0 ≤ a2.toInt ∧ a2.toInt ≤ 12 ∧ 4 * a2.toInt ≤ (M 77 8).toInt) ∧ (M' 77 8).toInt = (M 77 8).toInt)) ∧ G M' ∧ Sm l_X12_check M M'
theorem t_X12_check_38 {n : Nat} (hn : 200000 ≤ n) {oa1 oa2 : Int32} {M0 : qM} : ∀ (m : Nat) (a1 a2 a3 : Int32) (M : qM), G M → Sm l_X12_check M0 M → 0 ≤ a1.toInt ∧ a1.toInt ≤ 7 → 0 ≤ a2.toInt ∧ a2.toInt ≤ 12 → 0 ≤ a3.toInt ∧ a3.toInt ≤ 12 → ((0 ≤ oa1.toInt ∧ oa1.toInt ≤ 7 ∧ (((M0 78 312) >>> (oa1 &&& 31)) &&& (1 : Int32)).toInt = 1 ∧ 0 ≤ oa2.toInt ∧ oa2.toInt ≤ 12 ∧ 4 * oa2.toInt ≤ (M0 77 8).toInt) ∧ (M 77 8).toInt = 0) → 12 - a3.toInt < (m : Int) → qT (f_X12_check_38 n m a1 a2 a3 M) (po_X12_check oa1 oa2 M0) := by
  intro m
  induction m with
  | zero =>
    intro a1 a2 a3 M hG hS i0 i1 i2 hE i6
    have hq2_ := r_77_8 hG
    exfalso; omega
  | succ m ih =>
    intro a1 a2 a3 M hG hS i0 i1 i2 hE i6
    show qT (b_X12_check_38 n (f_X12_check_38 n m) a1 a2 a3 M) _
    unfold b_X12_check_38
    have hq2_ := r_77_8 hG
    refine T_le rfl rfl (fun hq3_ => ?_) (fun hq3_ => ?_)
    · exact T_ret ⟨(i_rng (lo := (-2)) (hi := 11) l_m1 (by omega) (by omega)), (by have e9 : ((-1 : Int32)).toInt = _ := l_m1; omega), hG, hS⟩
    · refine T_qc (t_X12_tapeNumber hn a3 M hG (i_rng (lo := 0) (hi := 11) rfl (by omega) (by omega))) ?_
      rintro rv4 mv5 ⟨gq6_, kq7_⟩
      have hq8_ := kq7_.nil
      subst hq8_
      refine T_qc (t_X12_at hn a1 a3 M hG (i_rng (lo := 0) (hi := 7) rfl (by omega) (by omega)) (i_rng (lo := 0) (hi := 11) rfl (by omega) (by omega))) ?_
      rintro rv9 mv10 ⟨hq11_, hq12_, gq13_, kq14_⟩
      have hq15_ := kq14_.nil
      subst hq15_
      refine T_qg (i_add l_0 rfl (by omega) (by omega)) (by omega) (by omega) ?_
      refine T_eq rfl rfl (fun hq16_ => ?_) (fun hq16_ => ?_)
      · refine T_ql (i_add rfl l_1 (by omega) (by omega)) ?_
        intro xv17 hq18_
        exact ih a1 a2 xv17 M hG hS (i_rng (lo := 0) (hi := 7) rfl (by omega) (by omega)) (i_rng (lo := 0) (hi := 12) rfl (by omega) (by omega)) (i_rng (lo := 0) (hi := 12) rfl (by omega) (by omega)) (by omega) (by omega)
      · exact T_ret ⟨(i_rng (lo := (-2)) (hi := 11) rfl (by omega) (by omega)), (by have e9 : (a3).toInt = _ := rfl; omega), hG, hS⟩
theorem t_X12_check {n : Nat} (hn : 200000 ≤ n) (a1 a2 : Int32) (M : qM) (hG : G M) : qT (f_X12_check n a1 a2 M) (po_X12_check a1 a2 M) := by
  have hS : Sm l_X12_check M M := Sm.rf
  unfold f_X12_check
  have hq19_ := r_77_8 hG
  refine T_qc (t_X12_isPerson hn a1 M hG ) ?_
  rintro rv20 mv21 ⟨hq22_, hq23_, gq24_, kq25_⟩
  have hq26_ := kq25_.nil
  subst hq26_
  refine T_eq rfl l_0 (fun hq27_ => ?_) (fun hq27_ => ?_)
  · exact T_ret ⟨(i_rng (lo := (-2)) (hi := 11) l_m2 (by omega) (by omega)), (by have e9 : ((-2 : Int32)).toInt = _ := l_m2; omega), hG, hS⟩
  · have hq30_ := (show ((0 : Int32)).toInt = _ from l_0)
    have hq31_ := (show ((12 : Int32)).toInt = _ from l_12)
    refine T_qc (t_X12_in hn a2 (0 : Int32) (12 : Int32) M hG (i_rng (lo := 0) (hi := 70) l_0 (by omega) (by omega)) (i_rng (lo := 0) (hi := 99999) l_12 (by omega) (by omega))) ?_
    rintro rv28 mv29 ⟨hq32_, hq33_, gq34_, kq35_⟩
    have hq36_ := kq35_.nil
    subst hq36_
    refine T_eq rfl l_0 (fun hq37_ => ?_) (fun hq37_ => ?_)
    · exact T_ret ⟨(i_rng (lo := (-2)) (hi := 11) l_m2 (by omega) (by omega)), (by have e9 : ((-2 : Int32)).toInt = _ := l_m2; omega), hG, hS⟩
    · refine T_le rfl (i_div rfl l_4 (by omega) (by omega)) (fun hq38_ => ?_) (fun hq38_ => ?_)
      · refine T_mu hG hS (i_rng (lo := 0) (hi := 260) l_0 (by omega) (by omega)) nw_77_8 (i := 0) rfl ⟨by decide, by decide, Or.inr ⟨by decide, by decide⟩⟩ ?_
        intro mv39 hq40_ gq41_ kq42_
        have hq43_ : (mv39 77 8).toInt = 0 := by rw [hq40_, mu_at]; exact l_0
        have hq44_ := r_77_8 gq41_
        exact (t_X12_check_38 hn) n a1 a2 (0 : Int32) mv39 gq41_ kq42_ (i_rng (lo := 0) (hi := 7) rfl (by omega) (by omega)) (i_rng (lo := 0) (hi := 12) rfl (by omega) (by omega)) (i_rng (lo := 0) (hi := 12) l_0 (by omega) (by omega)) (by have e2 : ((0 : Int32)).toInt = _ := l_0; omega) (by have e2 : ((0 : Int32)).toInt = _ := l_0; omega)
      · exact T_ret ⟨(i_rng (lo := (-2)) (hi := 11) l_m2 (by omega) (by omega)), (by have e9 : ((-2 : Int32)).toInt = _ := l_m2; omega), hG, hS⟩
abbrev l_X10_sumOf_c7_11 : List Bx := []
abbrev po_X10_sumOf_c7_11 (a2 : Int32) (M : qM) (v : Int32) (M' : qM) : Prop := G M' ∧ Sm l_X10_sumOf_c7_11 M M'
theorem t_X10_sumOf_c7_11_5 {n : Nat} (hn : 200000 ≤ n) {oa2 : Int32} {M0 : qM} : ∀ (m : Nat) (a2 a3 a4 : Int32) (M : qM), G M → Sm l_X10_sumOf_c7_11 M0 M → 0 ≤ a2.toInt ∧ a2.toInt ≤ 7 → 0 ≤ a4.toInt ∧ a4.toInt ≤ 12 → 12 - a4.toInt < (m : Int) → qT (f_X10_sumOf_5 n 7 11 m a2 a3 a4 M) (po_X10_sumOf_c7_11 oa2 M0) := by
  intro m
  induction m with
  | zero =>
    intro a2 a3 a4 M hG hS i0 i1 i4
    exfalso; omega
  | succ m ih =>
    intro a2 a3 a4 M hG hS i0 i1 i4
    show qT (b_X10_sumOf_5 n 7 11 (f_X10_sumOf_5 n 7 11 m) a2 a3 a4 M) _
    unfold b_X10_sumOf_5
    try simp only [Nat.reduceAdd]
    refine T_le l_12 rfl (fun hq3_ => ?_) (fun hq3_ => ?_)
    · exact T_ret ⟨hG, hS⟩
    · refine T_qg (i_add (i_mul rfl l_12 (by omega) (by omega)) rfl (by omega) (by omega)) (by omega) (by omega) ?_
      have hq4_ := i_full (a3)
      have hq5_ := i_full (M 11 (((a2 * (12 : Int32)) + a4).toNatClampNeg))
      refine T_ql rfl ?_
      intro xv6 hq7_
      refine T_ql (i_add rfl l_1 (by omega) (by omega)) ?_
      intro xv8 hq9_
      exact ih a2 xv6 xv8 M hG hS (i_rng (lo := 0) (hi := 7) rfl (by omega) (by omega)) (i_rng (lo := 0) (hi := 12) rfl (by omega) (by omega)) (by omega)
theorem t_X10_sumOf_c7_11 {n : Nat} (hn : 200000 ≤ n) (a2 : Int32) (M : qM) (hG : G M) (pa2 : 0 ≤ a2.toInt ∧ a2.toInt ≤ 7) : qT (f_X10_sumOf n 7 11 a2 M) (po_X10_sumOf_c7_11 a2 M) := by
  have hS : Sm l_X10_sumOf_c7_11 M M := Sm.rf
  unfold f_X10_sumOf
  try simp only [Nat.reduceAdd]
  exact (t_X10_sumOf_c7_11_5 hn) n a2 (0 : Int32) (0 : Int32) M hG hS (i_rng (lo := 0) (hi := 7) rfl (by omega) (by omega)) (i_rng (lo := 0) (hi := 12) l_0 (by omega) (by omega)) (by have e1 : ((0 : Int32)).toInt = _ := l_0; have e2 : ((0 : Int32)).toInt = _ := l_0; omega)

abbrev l_X10_sumOf_c7_9 : List Bx := []
abbrev po_X10_sumOf_c7_9 (a2 : Int32) (M : qM) (v : Int32) (M' : qM) : Prop := G M' ∧ Sm l_X10_sumOf_c7_9 M M'
theorem t_X10_sumOf_c7_9_5 {n : Nat} (hn : 200000 ≤ n) {oa2 : Int32} {M0 : qM} : ∀ (m : Nat) (a2 a3 a4 : Int32) (M : qM), G M → Sm l_X10_sumOf_c7_9 M0 M → 0 ≤ a2.toInt ∧ a2.toInt ≤ 7 → 0 ≤ a4.toInt ∧ a4.toInt ≤ 12 → 12 - a4.toInt < (m : Int) → qT (f_X10_sumOf_5 n 7 9 m a2 a3 a4 M) (po_X10_sumOf_c7_9 oa2 M0) := by
  intro m
  induction m with
  | zero =>
    intro a2 a3 a4 M hG hS i0 i1 i4
    exfalso; omega
  | succ m ih =>
    intro a2 a3 a4 M hG hS i0 i1 i4
    show qT (b_X10_sumOf_5 n 7 9 (f_X10_sumOf_5 n 7 9 m) a2 a3 a4 M) _
    unfold b_X10_sumOf_5
    try simp only [Nat.reduceAdd]
    refine T_le l_12 rfl (fun hq3_ => ?_) (fun hq3_ => ?_)
    · exact T_ret ⟨hG, hS⟩
    · refine T_qg (i_add (i_mul rfl l_12 (by omega) (by omega)) rfl (by omega) (by omega)) (by omega) (by omega) ?_
      have hq4_ := i_full (a3)
      have hq5_ := i_full (M 9 (((a2 * (12 : Int32)) + a4).toNatClampNeg))
      refine T_ql rfl ?_
      intro xv6 hq7_
      refine T_ql (i_add rfl l_1 (by omega) (by omega)) ?_
      intro xv8 hq9_
      exact ih a2 xv6 xv8 M hG hS (i_rng (lo := 0) (hi := 7) rfl (by omega) (by omega)) (i_rng (lo := 0) (hi := 12) rfl (by omega) (by omega)) (by omega)
theorem t_X10_sumOf_c7_9 {n : Nat} (hn : 200000 ≤ n) (a2 : Int32) (M : qM) (hG : G M) (pa2 : 0 ≤ a2.toInt ∧ a2.toInt ≤ 7) : qT (f_X10_sumOf n 7 9 a2 M) (po_X10_sumOf_c7_9 a2 M) := by
  have hS : Sm l_X10_sumOf_c7_9 M M := Sm.rf
  unfold f_X10_sumOf
  try simp only [Nat.reduceAdd]
  exact (t_X10_sumOf_c7_9_5 hn) n a2 (0 : Int32) (0 : Int32) M hG hS (i_rng (lo := 0) (hi := 7) rfl (by omega) (by omega)) (i_rng (lo := 0) (hi := 12) l_0 (by omega) (by omega)) (by have e1 : ((0 : Int32)).toInt = _ := l_0; have e2 : ((0 : Int32)).toInt = _ := l_0; omega)
abbrev l_X10_stepsLeft_c7 : List Bx := []
abbrev po_X10_stepsLeft_c7 (a1 : Int32) (M : qM) (v : Int32) (M' : qM) : Prop := ((-40) ≤ v.toInt ∧ v.toInt ≤ 40) ∧ G M' ∧ Sm l_X10_stepsLeft_c7 M M'
theorem t_X10_stepsLeft_c7 {n : Nat} (hn : 200000 ≤ n) (a1 : Int32) (M : qM) (hG : G M) (pa1 : 0 ≤ a1.toInt ∧ a1.toInt ≤ 7) : qT (f_X10_stepsLeft n 7 a1 M) (po_X10_stepsLeft_c7 a1 M) := by
  have hS : Sm l_X10_stepsLeft_c7 M M := Sm.rf
  unfold f_X10_stepsLeft
  try simp only [Nat.reduceAdd]
  refine T_qg rfl (by omega) (by omega) ?_
  refine T_qg rfl (by omega) (by omega) ?_
  have hq1_ := r_14 hG a1.toNatClampNeg
  have hq2_ := r_15 hG a1.toNatClampNeg
  exact T_ret ⟨(i_rng (lo := (-40)) (hi := 40) (i_sub rfl rfl (by omega) (by omega)) (by omega) (by omega)), hG, hS⟩
abbrev l_X11_countOfPerson : List Bx := []
abbrev po_X11_countOfPerson (a1 : Int32) (M : qM) (v : Int32) (M' : qM) : Prop := G M' ∧ Sm l_X11_countOfPerson M M'
theorem t_X11_countOfPerson {n : Nat} (hn : 200000 ≤ n) (a1 : Int32) (M : qM) (hG : G M) (pa1 : 70 ≤ a1.toInt ∧ a1.toInt ≤ 2147483647) : qT (f_X11_countOfPerson n a1 M) (po_X11_countOfPerson a1 M) := by
  have hS : Sm l_X11_countOfPerson M M := Sm.rf
  unfold f_X11_countOfPerson
  have hq3_ := i_full (a1)
  have hq4_ := (show (a1 - (70 : Int32)).toInt = _ from (i_sub rfl l_70 (by omega) (by omega)))
  refine T_qc (t_X10_knows_c7 hn (a1 - (70 : Int32)) M hG ) ?_
  rintro rv1 mv2 ⟨hq5_, hq6_, gq7_, kq8_⟩
  have hq9_ := kq8_.nil
  subst hq9_
  refine T_eq rfl l_0 (fun hq10_ => ?_) (fun hq10_ => ?_)
  · have hq13_ := (show (a1 - (80 : Int32)).toInt = _ from (i_sub rfl l_80 (by omega) (by omega)))
    refine T_qc (t_X10_knows_c7 hn (a1 - (80 : Int32)) M hG ) ?_
    rintro rv11 mv12 ⟨hq14_, hq15_, gq16_, kq17_⟩
    have hq18_ := kq17_.nil
    subst hq18_
    refine T_eq rfl l_0 (fun hq19_ => ?_) (fun hq19_ => ?_)
    · have hq22_ := (show (a1 - (90 : Int32)).toInt = _ from (i_sub rfl l_90 (by omega) (by omega)))
      refine T_qc (t_X10_knows_c7 hn (a1 - (90 : Int32)) M hG ) ?_
      rintro rv20 mv21 ⟨hq23_, hq24_, gq25_, kq26_⟩
      have hq27_ := kq26_.nil
      subst hq27_
      refine T_eq rfl l_0 (fun hq28_ => ?_) (fun hq28_ => ?_)
      · have hq31_ := (show (a1 - (100 : Int32)).toInt = _ from (i_sub rfl l_100 (by omega) (by omega)))
        refine T_qc (t_X10_knows_c7 hn (a1 - (100 : Int32)) M hG ) ?_
        rintro rv29 mv30 ⟨hq32_, hq33_, gq34_, kq35_⟩
        have hq36_ := kq35_.nil
        subst hq36_
        refine T_eq rfl l_0 (fun hq37_ => ?_) (fun hq37_ => ?_)
        · exact T_ret ⟨hG, hS⟩
        · refine T_qc (t_X10_sumOf_c7_11 hn (a1 - (100 : Int32)) M hG (i_rng (lo := 0) (hi := 7) (i_sub rfl l_100 (by omega) (by omega)) (by omega) (by omega))) ?_
          rintro rv38 mv39 ⟨gq40_, kq41_⟩
          have hq42_ := kq41_.nil
          subst hq42_
          exact T_ret ⟨hG, hS⟩
      · refine T_qc (t_X10_sumOf_c7_9 hn (a1 - (90 : Int32)) M hG (i_rng (lo := 0) (hi := 7) (i_sub rfl l_90 (by omega) (by omega)) (by omega) (by omega))) ?_
        rintro rv43 mv44 ⟨gq45_, kq46_⟩
        have hq47_ := kq46_.nil
        subst hq47_
        exact T_ret ⟨hG, hS⟩
    · refine T_qc (t_X10_stepsLeft_c7 hn (a1 - (80 : Int32)) M hG (i_rng (lo := 0) (hi := 7) (i_sub rfl l_80 (by omega) (by omega)) (by omega) (by omega))) ?_
      rintro rv48 mv49 ⟨hq50_, gq51_, kq52_⟩
      have hq53_ := kq52_.nil
      subst hq53_
      exact T_ret ⟨hG, hS⟩
  · refine T_qg (i_sub rfl l_70 (by omega) (by omega)) (by omega) (by omega) ?_
    exact T_ret ⟨hG, hS⟩
abbrev l_X11_countOfKind : List Bx := []
abbrev po_X11_countOfKind (a1 : Int32) (M : qM) (v : Int32) (M' : qM) : Prop := G M' ∧ Sm l_X11_countOfKind M M'
theorem t_X11_countOfKind {n : Nat} (hn : 200000 ≤ n) (a1 : Int32) (M : qM) (hG : G M) (pa1 : (-2147483648) ≤ a1.toInt ∧ a1.toInt ≤ 69) : qT (f_X11_countOfKind n a1 M) (po_X11_countOfKind a1 M) := by
  have hS : Sm l_X11_countOfKind M M := Sm.rf
  unfold f_X11_countOfKind
  have hq3_ := i_full (a1)
  refine T_qc (t_X2_knows hn (a1 - (10 : Int32)) M hG ) ?_
  rintro rv1 mv2 ⟨hq4_, hq5_, gq6_, kq7_⟩
  have hq8_ := kq7_.nil
  subst hq8_
  refine T_eq rfl l_0 (fun hq9_ => ?_) (fun hq9_ => ?_)
  · refine T_qc (t_X2_knows hn (a1 - (30 : Int32)) M hG ) ?_
    rintro rv10 mv11 ⟨hq12_, hq13_, gq14_, kq15_⟩
    have hq16_ := kq15_.nil
    subst hq16_
    refine T_eq rfl l_0 (fun hq17_ => ?_) (fun hq17_ => ?_)
    · refine T_qc (t_X2_knows hn (a1 - (50 : Int32)) M hG ) ?_
      rintro rv18 mv19 ⟨hq20_, hq21_, gq22_, kq23_⟩
      have hq24_ := kq23_.nil
      subst hq24_
      refine T_eq rfl l_0 (fun hq25_ => ?_) (fun hq25_ => ?_)
      · exact T_ret ⟨hG, hS⟩
      · refine T_qg rfl (by omega) (by omega) ?_
        exact T_ret ⟨hG, hS⟩
    · refine T_qg rfl (by omega) (by omega) ?_
      exact T_ret ⟨hG, hS⟩
  · refine T_qg rfl (by omega) (by omega) ?_
    exact T_ret ⟨hG, hS⟩
abbrev l_X11_count : List Bx := []
abbrev po_X11_count (a1 : Int32) (M : qM) (v : Int32) (M' : qM) : Prop := G M' ∧ Sm l_X11_count M M'
theorem t_X11_count {n : Nat} (hn : 200000 ≤ n) {j : Nat} (hj : q_isLaw j) (a1 : Int32) (M : qM) (hG : G M) : qT (f_X11_count n j a1 M) (po_X11_count a1 M) := by
  have hS : Sm l_X11_count M M := Sm.rf
  unfold f_X11_count
  refine T_sw rfl l_0 (fun hq1_ => ?_) (fun hq1_ => ?_)
  · exact T_ret ⟨hG, hS⟩
  refine T_sw rfl l_1 (fun hq2_ => ?_) (fun hq2_ => ?_)
  · exact T_ret ⟨hG, hS⟩
  refine T_sw rfl l_2 (fun hq3_ => ?_) (fun hq3_ => ?_)
  · exact T_ret ⟨hG, hS⟩
  refine T_sw rfl l_3 (fun hq4_ => ?_) (fun hq4_ => ?_)
  · have hq5_ := rw_0_7 hj hG
    exact T_ret ⟨hG, hS⟩
  refine T_sw rfl l_4 (fun hq6_ => ?_) (fun hq6_ => ?_)
  · have hq7_ := r_1_1 hG
    exact T_ret ⟨hG, hS⟩
  refine T_sw0 ?_
  refine T_le l_70 rfl (fun hq8_ => ?_) (fun hq8_ => ?_)
  · have hq11_ := i_full (a1)
    refine T_qc (t_X11_countOfPerson hn a1 M hG (i_rng (lo := 70) (hi := 2147483647) rfl (by omega) (by omega))) ?_
    rintro rv9 mv10 ⟨gq12_, kq13_⟩
    have hq14_ := kq13_.nil
    subst hq14_
    exact T_ret ⟨hG, hS⟩
  · have hq17_ := i_full (a1)
    refine T_qc (t_X11_countOfKind hn a1 M hG (i_rng (lo := (-2147483648)) (hi := 69) rfl (by omega) (by omega))) ?_
    rintro rv15 mv16 ⟨gq18_, kq19_⟩
    have hq20_ := kq19_.nil
    subst hq20_
    exact T_ret ⟨hG, hS⟩
abbrev l_X12_sumOf : List Bx := []
abbrev po_X12_sumOf (a1 a2 : Int32) (M : qM) (v : Int32) (M' : qM) : Prop := G M' ∧ Sm l_X12_sumOf M M'
theorem t_X12_sumOf_5 {n : Nat} (hn : 200000 ≤ n) {oa1 oa2 : Int32} {M0 : qM} : ∀ (m : Nat) (a1 a2 a3 a4 : Int32) (M : qM), G M → Sm l_X12_sumOf M0 M → 0 ≤ a1.toInt ∧ a1.toInt ≤ 192 → 0 ≤ a2.toInt ∧ a2.toInt ≤ 7 → 0 ≤ a4.toInt ∧ a4.toInt ≤ 12 → 12 - a4.toInt < (m : Int) → qT (f_X12_sumOf_5 n m a1 a2 a3 a4 M) (po_X12_sumOf oa1 oa2 M0) := by
  intro m
  induction m with
  | zero =>
    intro a1 a2 a3 a4 M hG hS i0 i1 i2 i5
    exfalso; omega
  | succ m ih =>
    intro a1 a2 a3 a4 M hG hS i0 i1 i2 i5
    show qT (b_X12_sumOf_5 n (f_X12_sumOf_5 n m) a1 a2 a3 a4 M) _
    unfold b_X12_sumOf_5
    refine T_le l_12 rfl (fun hq3_ => ?_) (fun hq3_ => ?_)
    · exact T_ret ⟨hG, hS⟩
    · refine T_qc (t_X12_at hn a2 a4 M hG (i_rng (lo := 0) (hi := 7) rfl (by omega) (by omega)) (i_rng (lo := 0) (hi := 11) rfl (by omega) (by omega))) ?_
      rintro rv4 mv5 ⟨hq6_, hq7_, gq8_, kq9_⟩
      have hq10_ := kq9_.nil
      subst hq10_
      refine T_qg (i_add rfl rfl (by omega) (by omega)) (by omega) (by omega) ?_
      have hq11_ := i_full (a3)
      have hq12_ := i_full (M 78 ((a1 + rv4).toNatClampNeg))
      refine T_ql rfl ?_
      intro xv13 hq14_
      refine T_ql (i_add rfl l_1 (by omega) (by omega)) ?_
      intro xv15 hq16_
      exact ih a1 a2 xv13 xv15 M hG hS (i_rng (lo := 0) (hi := 192) rfl (by omega) (by omega)) (i_rng (lo := 0) (hi := 7) rfl (by omega) (by omega)) (i_rng (lo := 0) (hi := 12) rfl (by omega) (by omega)) (by omega)
theorem t_X12_sumOf {n : Nat} (hn : 200000 ≤ n) (a1 a2 : Int32) (M : qM) (hG : G M) (pa1 : 0 ≤ a1.toInt ∧ a1.toInt ≤ 192) (pa2 : 0 ≤ a2.toInt ∧ a2.toInt ≤ 7) : qT (f_X12_sumOf n a1 a2 M) (po_X12_sumOf a1 a2 M) := by
  have hS : Sm l_X12_sumOf M M := Sm.rf
  unfold f_X12_sumOf
  exact (t_X12_sumOf_5 hn) n a1 a2 (0 : Int32) (0 : Int32) M hG hS (i_rng (lo := 0) (hi := 192) rfl (by omega) (by omega)) (i_rng (lo := 0) (hi := 7) rfl (by omega) (by omega)) (i_rng (lo := 0) (hi := 12) l_0 (by omega) (by omega)) (by have e2 : ((0 : Int32)).toInt = _ := l_0; have e3 : ((0 : Int32)).toInt = _ := l_0; omega)
abbrev l_X12_count : List Bx := []
abbrev po_X12_count (a1 : Int32) (M : qM) (v : Int32) (M' : qM) : Prop := G M' ∧ Sm l_X12_count M M'
theorem t_X12_count {n : Nat} (hn : 200000 ≤ n) (a1 : Int32) (M : qM) (hG : G M) : qT (f_X12_count n a1 M) (po_X12_count a1 M) := by
  have hS : Sm l_X12_count M M := Sm.rf
  unfold f_X12_count
  refine T_sw rfl l_0 (fun hq1_ => ?_) (fun hq1_ => ?_)
  · exact T_ret ⟨hG, hS⟩
  refine T_sw rfl l_1 (fun hq2_ => ?_) (fun hq2_ => ?_)
  · exact T_ret ⟨hG, hS⟩
  refine T_sw rfl l_2 (fun hq3_ => ?_) (fun hq3_ => ?_)
  · exact T_ret ⟨hG, hS⟩
  refine T_sw rfl l_3 (fun hq4_ => ?_) (fun hq4_ => ?_)
  · have hq5_ := r_77_17 hG
    exact T_ret ⟨hG, hS⟩
  refine T_sw rfl l_4 (fun hq6_ => ?_) (fun hq6_ => ?_)
  · have hq7_ := r_77_8 hG
    exact T_ret ⟨hG, hS⟩
  refine T_sw0 ?_
  have hq10_ := (show ((10 : Int32)).toInt = _ from l_10)
  have hq11_ := (show ((21 : Int32)).toInt = _ from l_21)
  refine T_qc (t_X12_in hn a1 (10 : Int32) (21 : Int32) M hG (i_rng (lo := 0) (hi := 70) l_10 (by omega) (by omega)) (i_rng (lo := 0) (hi := 99999) l_21 (by omega) (by omega))) ?_
  rintro rv8 mv9 ⟨hq12_, hq13_, gq14_, kq15_⟩
  have hq16_ := kq15_.nil
  subst hq16_
  refine T_eq rfl l_0 (fun hq17_ => ?_) (fun hq17_ => ?_)
  · have hq20_ := (show ((30 : Int32)).toInt = _ from l_30)
    have hq21_ := (show ((41 : Int32)).toInt = _ from l_41)
    refine T_qc (t_X12_in hn a1 (30 : Int32) (41 : Int32) M hG (i_rng (lo := 0) (hi := 70) l_30 (by omega) (by omega)) (i_rng (lo := 0) (hi := 99999) l_41 (by omega) (by omega))) ?_
    rintro rv18 mv19 ⟨hq22_, hq23_, gq24_, kq25_⟩
    have hq26_ := kq25_.nil
    subst hq26_
    refine T_eq rfl l_0 (fun hq27_ => ?_) (fun hq27_ => ?_)
    · have hq30_ := (show ((50 : Int32)).toInt = _ from l_50)
      have hq31_ := (show ((61 : Int32)).toInt = _ from l_61)
      refine T_qc (t_X12_in hn a1 (50 : Int32) (61 : Int32) M hG (i_rng (lo := 0) (hi := 70) l_50 (by omega) (by omega)) (i_rng (lo := 0) (hi := 99999) l_61 (by omega) (by omega))) ?_
      rintro rv28 mv29 ⟨hq32_, hq33_, gq34_, kq35_⟩
      have hq36_ := kq35_.nil
      subst hq36_
      refine T_eq rfl l_0 (fun hq37_ => ?_) (fun hq37_ => ?_)
      · have hq40_ := (show ((70 : Int32)).toInt = _ from l_70)
        have hq41_ := (show ((109 : Int32)).toInt = _ from l_109)
        refine T_qc (t_X12_in hn a1 (70 : Int32) (109 : Int32) M hG (i_rng (lo := 0) (hi := 70) l_70 (by omega) (by omega)) (i_rng (lo := 0) (hi := 99999) l_109 (by omega) (by omega))) ?_
        rintro rv38 mv39 ⟨hq42_, hq43_, gq44_, kq45_⟩
        have hq46_ := kq45_.nil
        subst hq46_
        refine T_eq rfl l_0 (fun hq47_ => ?_) (fun hq47_ => ?_)
        · exact T_ret ⟨hG, hS⟩
        · have hq50_ := (show (a1 - ((a1 / (10 : Int32)) * (10 : Int32))).toInt = _ from (i_sub rfl (i_mul (i_div rfl l_10 (by omega) (by omega)) l_10 (by omega) (by omega)) (by omega) (by omega)))
          refine T_qc (t_X12_isPerson hn (a1 - ((a1 / (10 : Int32)) * (10 : Int32))) M hG ) ?_
          rintro rv48 mv49 ⟨hq51_, hq52_, gq53_, kq54_⟩
          have hq55_ := kq54_.nil
          subst hq55_
          refine T_eq rfl l_0 (fun hq56_ => ?_) (fun hq56_ => ?_)
          · exact T_ret ⟨hG, hS⟩
          · refine T_sw (i_div rfl l_10 (by omega) (by omega)) l_7 (fun hq57_ => ?_) (fun hq57_ => ?_)
            · refine T_qg (i_sub (i_add l_288 rfl (by omega) (by omega)) l_70 (by omega) (by omega)) (by omega) (by omega) ?_
              exact T_ret ⟨hG, hS⟩
            refine T_sw (i_div rfl l_10 (by omega) (by omega)) l_8 (fun hq58_ => ?_) (fun hq58_ => ?_)
            · refine T_qg (i_sub (i_add l_296 rfl (by omega) (by omega)) l_80 (by omega) (by omega)) (by omega) (by omega) ?_
              refine T_qg (i_sub (i_add l_304 rfl (by omega) (by omega)) l_80 (by omega) (by omega)) (by omega) (by omega) ?_
              have hq59_ := i_full (M 78 ((((296 : Int32) + a1) - (80 : Int32)).toNatClampNeg))
              have hq60_ := i_full (M 78 ((((304 : Int32) + a1) - (80 : Int32)).toNatClampNeg))
              exact T_ret ⟨hG, hS⟩
            refine T_sw (i_div rfl l_10 (by omega) (by omega)) l_9 (fun hq61_ => ?_) (fun hq61_ => ?_)
            · refine T_qc (t_X12_sumOf hn (0 : Int32) (a1 - (90 : Int32)) M hG (i_rng (lo := 0) (hi := 192) l_0 (by omega) (by omega)) (i_rng (lo := 0) (hi := 7) (i_sub rfl l_90 (by omega) (by omega)) (by omega) (by omega))) ?_
              rintro rv62 mv63 ⟨gq64_, kq65_⟩
              have hq66_ := kq65_.nil
              subst hq66_
              exact T_ret ⟨hG, hS⟩
            refine T_sw0 ?_
            refine T_qc (t_X12_sumOf hn (192 : Int32) (a1 - (100 : Int32)) M hG (i_rng (lo := 0) (hi := 192) l_192 (by omega) (by omega)) (i_rng (lo := 0) (hi := 7) (i_sub rfl l_100 (by omega) (by omega)) (by omega) (by omega))) ?_
            rintro rv67 mv68 ⟨gq69_, kq70_⟩
            have hq71_ := kq70_.nil
            subst hq71_
            exact T_ret ⟨hG, hS⟩
      · have hq74_ := (show (a1 - (50 : Int32)).toInt = _ from (i_sub rfl l_50 (by omega) (by omega)))
        refine T_qc (t_X12_isKind hn (a1 - (50 : Int32)) M hG ) ?_
        rintro rv72 mv73 ⟨hq75_, hq76_, gq77_, kq78_⟩
        have hq79_ := kq78_.nil
        subst hq79_
        refine T_eq rfl l_0 (fun hq80_ => ?_) (fun hq80_ => ?_)
        · exact T_ret ⟨hG, hS⟩
        · refine T_qg (i_sub rfl l_50 (by omega) (by omega)) (by omega) (by omega) ?_
          exact T_ret ⟨hG, hS⟩
    · have hq83_ := (show (a1 - (30 : Int32)).toInt = _ from (i_sub rfl l_30 (by omega) (by omega)))
      refine T_qc (t_X12_isKind hn (a1 - (30 : Int32)) M hG ) ?_
      rintro rv81 mv82 ⟨hq84_, hq85_, gq86_, kq87_⟩
      have hq88_ := kq87_.nil
      subst hq88_
      refine T_eq rfl l_0 (fun hq89_ => ?_) (fun hq89_ => ?_)
      · exact T_ret ⟨hG, hS⟩
      · refine T_qg (i_sub rfl l_30 (by omega) (by omega)) (by omega) (by omega) ?_
        exact T_ret ⟨hG, hS⟩
  · have hq92_ := (show (a1 - (10 : Int32)).toInt = _ from (i_sub rfl l_10 (by omega) (by omega)))
    refine T_qc (t_X12_isKind hn (a1 - (10 : Int32)) M hG ) ?_
    rintro rv90 mv91 ⟨hq93_, hq94_, gq95_, kq96_⟩
    have hq97_ := kq96_.nil
    subst hq97_
    refine T_eq rfl l_0 (fun hq98_ => ?_) (fun hq98_ => ?_)
    · exact T_ret ⟨hG, hS⟩
    · refine T_qg (i_sub rfl l_10 (by omega) (by omega)) (by omega) (by omega) ?_
      exact T_ret ⟨hG, hS⟩

