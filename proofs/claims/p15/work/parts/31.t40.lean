abbrev l_X11_court : List Bx := []
abbrev po_X11_court (a1 a2 a3 a4 a5 a6 : Int32) (M : qM) (v : Int32) (M' : qM) : Prop := ((-1) ≤ v.toInt ∧ v.toInt ≤ 63) ∧ G M' ∧ Sm l_X11_court M M'
theorem t_X11_court {n : Nat} (hn : 200000 ≤ n) (a1 a2 a3 a4 a5 a6 : Int32) (M : qM) (hG : G M) : qT (f_X11_court n a1 a2 a3 a4 a5 a6 M) (po_X11_court a1 a2 a3 a4 a5 a6 M) := by
  have hS : Sm l_X11_court M M := Sm.rf
  unfold f_X11_court
  refine T_lt rfl l_1 (fun hq1_ => ?_) (fun hq1_ => ?_)
  · exact T_ret ⟨(i_rng (lo := (-1)) (hi := 63) l_m1 (by omega) (by omega)), hG, hS⟩
  · refine T_lt l_9 rfl (fun hq2_ => ?_) (fun hq2_ => ?_)
    · exact T_ret ⟨(i_rng (lo := (-1)) (hi := 63) l_m1 (by omega) (by omega)), hG, hS⟩
    · refine T_lt rfl l_0 (fun hq3_ => ?_) (fun hq3_ => ?_)
      · exact T_ret ⟨(i_rng (lo := (-1)) (hi := 63) l_m1 (by omega) (by omega)), hG, hS⟩
      · refine T_lt rfl rfl (fun hq4_ => ?_) (fun hq4_ => ?_)
        · exact T_ret ⟨(i_rng (lo := (-1)) (hi := 63) l_m1 (by omega) (by omega)), hG, hS⟩
        · refine T_lt rfl l_0 (fun hq5_ => ?_) (fun hq5_ => ?_)
          · exact T_ret ⟨(i_rng (lo := (-1)) (hi := 63) l_m1 (by omega) (by omega)), hG, hS⟩
          · refine T_le rfl l_2 (fun hq6_ => ?_) (fun hq6_ => ?_)
            · have hq7_ := i_shl1 (c := 9) (k := a1) (by decide) rfl (by omega) (by omega)
              refine T_ql (i_sub rfl l_1 (by omega) (by omega)) ?_
              intro xv8 hq9_
              refine T_eq rfl l_0 (fun hq10_ => ?_) (fun hq10_ => ?_)
              · refine T_eq rfl l_0 (fun hq11_ => ?_) (fun hq11_ => ?_)
                · refine T_eq rfl l_0 (fun hq12_ => ?_) (fun hq12_ => ?_)
                  · refine T_qc (t_J6_bitCount_0f7a4 hn a2 M hG ) ?_
                    rintro rv13 mv14 ⟨hq15_, gq16_, kq17_⟩
                    have hq18_ := kq17_.nil
                    subst hq18_
                    refine T_lt rfl rfl (fun hq19_ => ?_) (fun hq19_ => ?_)
                    · unfold f_X11_court_122
                      refine T_eq rfl l_0 (fun hq20_ => ?_) (fun hq20_ => ?_)
                      · refine T_qc (t_J6_bitCount_0f7a4 hn a2 M hG ) ?_
                        rintro rv21 mv22 ⟨hq23_, gq24_, kq25_⟩
                        have hq26_ := kq25_.nil
                        subst hq26_
                        exact T_ret ⟨(i_rng (lo := (-1)) (hi := 63) rfl (by omega) (by omega)), hG, hS⟩
                      · refine T_eq rfl l_1 (fun hq27_ => ?_) (fun hq27_ => ?_)
                        · refine T_qc (t_J6_bitCount_0f7a4 hn a2 M hG ) ?_
                          rintro rv28 mv29 ⟨hq30_, gq31_, kq32_⟩
                          have hq33_ := kq32_.nil
                          subst hq33_
                          refine T_le (i_mul l_2 rfl (by omega) (by omega)) rfl (fun hq34_ => ?_) (fun hq34_ => ?_)
                          · exact T_ret ⟨(i_rng (lo := (-1)) (hi := 63) l_0 (by omega) (by omega)), hG, hS⟩
                          · exact T_ret ⟨(i_rng (lo := (-1)) (hi := 63) l_1 (by omega) (by omega)), hG, hS⟩
                        · refine T_qc (t_J6_bitCount_0f7a4 hn (a2 ^^^ a2) M hG ) ?_
                          rintro rv35 mv36 ⟨hq37_, gq38_, kq39_⟩
                          have hq40_ := kq39_.nil
                          subst hq40_
                          exact T_ret ⟨(i_rng (lo := (-1)) (hi := 63) rfl (by omega) (by omega)), hG, hS⟩
                    · refine T_lt (i_mul l_2 rfl (by omega) (by omega)) rfl (fun hq41_ => ?_) (fun hq41_ => ?_)
                      · unfold f_X11_court_106
                        have hq42_ := i_andl (a := xv8) (b := a2 ^^^ (-1 : Int32)) rfl (by omega)
                        have hq43_ := i_and (a := a3) (b := xv8 &&& (a2 ^^^ (-1 : Int32))) rfl (by omega)
                        refine T_ql rfl ?_
                        intro xv44 hq45_
                        unfold f_X11_court_122
                        refine T_eq rfl l_0 (fun hq46_ => ?_) (fun hq46_ => ?_)
                        · refine T_qc (t_J6_bitCount_0f7a4 hn xv44 M hG ) ?_
                          rintro rv47 mv48 ⟨hq49_, gq50_, kq51_⟩
                          have hq52_ := kq51_.nil
                          subst hq52_
                          exact T_ret ⟨(i_rng (lo := (-1)) (hi := 63) rfl (by omega) (by omega)), hG, hS⟩
                        · refine T_eq rfl l_1 (fun hq53_ => ?_) (fun hq53_ => ?_)
                          · refine T_qc (t_J6_bitCount_0f7a4 hn xv44 M hG ) ?_
                            rintro rv54 mv55 ⟨hq56_, gq57_, kq58_⟩
                            have hq59_ := kq58_.nil
                            subst hq59_
                            refine T_le (i_mul l_2 rfl (by omega) (by omega)) rfl (fun hq60_ => ?_) (fun hq60_ => ?_)
                            · exact T_ret ⟨(i_rng (lo := (-1)) (hi := 63) l_0 (by omega) (by omega)), hG, hS⟩
                            · exact T_ret ⟨(i_rng (lo := (-1)) (hi := 63) l_1 (by omega) (by omega)), hG, hS⟩
                          · refine T_qc (t_J6_bitCount_0f7a4 hn (a2 ^^^ xv44) M hG ) ?_
                            rintro rv61 mv62 ⟨hq63_, gq64_, kq65_⟩
                            have hq66_ := kq65_.nil
                            subst hq66_
                            exact T_ret ⟨(i_rng (lo := (-1)) (hi := 63) rfl (by omega) (by omega)), hG, hS⟩
                      · unfold f_X11_court_106
                        refine T_ql rfl ?_
                        intro xv67 hq68_
                        unfold f_X11_court_122
                        refine T_eq rfl l_0 (fun hq69_ => ?_) (fun hq69_ => ?_)
                        · refine T_qc (t_J6_bitCount_0f7a4 hn xv67 M hG ) ?_
                          rintro rv70 mv71 ⟨hq72_, gq73_, kq74_⟩
                          have hq75_ := kq74_.nil
                          subst hq75_
                          exact T_ret ⟨(i_rng (lo := (-1)) (hi := 63) rfl (by omega) (by omega)), hG, hS⟩
                        · refine T_eq rfl l_1 (fun hq76_ => ?_) (fun hq76_ => ?_)
                          · refine T_qc (t_J6_bitCount_0f7a4 hn xv67 M hG ) ?_
                            rintro rv77 mv78 ⟨hq79_, gq80_, kq81_⟩
                            have hq82_ := kq81_.nil
                            subst hq82_
                            refine T_le (i_mul l_2 rfl (by omega) (by omega)) rfl (fun hq83_ => ?_) (fun hq83_ => ?_)
                            · exact T_ret ⟨(i_rng (lo := (-1)) (hi := 63) l_0 (by omega) (by omega)), hG, hS⟩
                            · exact T_ret ⟨(i_rng (lo := (-1)) (hi := 63) l_1 (by omega) (by omega)), hG, hS⟩
                          · refine T_qc (t_J6_bitCount_0f7a4 hn (a2 ^^^ xv67) M hG ) ?_
                            rintro rv84 mv85 ⟨hq86_, gq87_, kq88_⟩
                            have hq89_ := kq88_.nil
                            subst hq89_
                            exact T_ret ⟨(i_rng (lo := (-1)) (hi := 63) rfl (by omega) (by omega)), hG, hS⟩
                  · exact T_ret ⟨(i_rng (lo := (-1)) (hi := 63) l_m1 (by omega) (by omega)), hG, hS⟩
                · exact T_ret ⟨(i_rng (lo := (-1)) (hi := 63) l_m1 (by omega) (by omega)), hG, hS⟩
              · exact T_ret ⟨(i_rng (lo := (-1)) (hi := 63) l_m1 (by omega) (by omega)), hG, hS⟩
            · exact T_ret ⟨(i_rng (lo := (-1)) (hi := 63) l_m1 (by omega) (by omega)), hG, hS⟩
abbrev l_X12_court : List Bx := []
abbrev po_X12_court (a1 a2 a3 a4 a5 a6 : Int32) (M : qM) (v : Int32) (M' : qM) : Prop := ((-1) ≤ v.toInt ∧ v.toInt ≤ 12) ∧ G M' ∧ Sm l_X12_court M M'
theorem t_X12_court_99 {n : Nat} (hn : 200000 ≤ n) {oa1 oa2 oa3 oa4 oa5 oa6 : Int32} {M0 : qM} : ∀ (m : Nat) (a1 a2 a3 a4 a5 a6 a7 a8 a9 a10 : Int32) (M : qM), G M → Sm l_X12_court M0 M → 1 ≤ a1.toInt ∧ a1.toInt ≤ 9 → 0 ≤ a2.toInt ∧ a2.toInt ≤ 511 → 0 ≤ a3.toInt ∧ a3.toInt ≤ 511 → 0 ≤ a4.toInt ∧ a4.toInt ≤ 511 → 0 ≤ a5.toInt ∧ a5.toInt ≤ 9 → 0 ≤ a6.toInt ∧ a6.toInt ≤ 2 → 0 ≤ a7.toInt ∧ a7.toInt ≤ 12 → 0 ≤ a8.toInt ∧ a8.toInt ≤ 1 → 0 ≤ a10.toInt ∧ a10.toInt ≤ 9 → 9 - a10.toInt < (m : Int) → qT (f_X12_court_99 n m a1 a2 a3 a4 a5 a6 a7 a8 a9 a10 M) (po_X12_court oa1 oa2 oa3 oa4 oa5 oa6 M0) := by
  intro m
  induction m with
  | zero =>
    intro a1 a2 a3 a4 a5 a6 a7 a8 a9 a10 M hG hS i0 i1 i2 i3 i4 i5 i6 i7 i8 i11
    exfalso; omega
  | succ m ih =>
    intro a1 a2 a3 a4 a5 a6 a7 a8 a9 a10 M hG hS i0 i1 i2 i3 i4 i5 i6 i7 i8 i11
    show qT (b_X12_court_99 n (f_X12_court_99 n m) a1 a2 a3 a4 a5 a6 a7 a8 a9 a10 M) _
    unfold b_X12_court_99
    refine T_le rfl rfl (fun hq10_ => ?_) (fun hq10_ => ?_)
    · refine T_eq rfl l_0 (fun hq11_ => ?_) (fun hq11_ => ?_)
      · refine T_qc (t_X12_bits hn a9 M hG ) ?_
        rintro rv12 mv13 ⟨hq14_, hq15_, gq16_, kq17_⟩
        have hq18_ := kq17_.nil
        subst hq18_
        exact T_ret ⟨(i_rng (lo := (-1)) (hi := 12) rfl (by omega) (by omega)), hG, hS⟩
      · refine T_eq rfl l_1 (fun hq19_ => ?_) (fun hq19_ => ?_)
        · refine T_qc (t_X12_bits hn a9 M hG ) ?_
          rintro rv20 mv21 ⟨hq22_, hq23_, gq24_, kq25_⟩
          have hq26_ := kq25_.nil
          subst hq26_
          refine T_le (i_mul l_2 rfl (by omega) (by omega)) rfl (fun hq27_ => ?_) (fun hq27_ => ?_)
          · exact T_ret ⟨(i_rng (lo := (-1)) (hi := 12) l_0 (by omega) (by omega)), hG, hS⟩
          · exact T_ret ⟨(i_rng (lo := (-1)) (hi := 12) l_1 (by omega) (by omega)), hG, hS⟩
        · refine T_qc (t_X12_bits hn (a9 ^^^ a2) M hG ) ?_
          rintro rv28 mv29 ⟨hq30_, hq31_, gq32_, kq33_⟩
          have hq34_ := kq33_.nil
          subst hq34_
          exact T_ret ⟨(i_rng (lo := (-1)) (hi := 12) rfl (by omega) (by omega)), hG, hS⟩
    · refine T_qc (t_X12_has0 hn a2 a10 M hG (i_rng (lo := 0) (hi := 11) rfl (by omega) (by omega))) ?_
      rintro rv35 mv36 ⟨hq37_, hq38_, gq39_, kq40_⟩
      have hq41_ := kq40_.nil
      subst hq41_
      refine T_lt rfl rfl (fun hq42_ => ?_) (fun hq42_ => ?_)
      · unfold f_X12_court_140
        refine T_eq rfl l_0 (fun hq43_ => ?_) (fun hq43_ => ?_)
        · refine T_ql (i_add rfl l_1 (by omega) (by omega)) ?_
          intro xv44 hq45_
          exact ih a1 a2 a3 a4 a5 a6 a7 a8 a9 xv44 M hG hS (i_rng (lo := 1) (hi := 9) rfl (by omega) (by omega)) (i_rng (lo := 0) (hi := 511) rfl (by omega) (by omega)) (i_rng (lo := 0) (hi := 511) rfl (by omega) (by omega)) (i_rng (lo := 0) (hi := 511) rfl (by omega) (by omega)) (i_rng (lo := 0) (hi := 9) rfl (by omega) (by omega)) (i_rng (lo := 0) (hi := 2) rfl (by omega) (by omega)) (i_rng (lo := 0) (hi := 12) rfl (by omega) (by omega)) (i_rng (lo := 0) (hi := 1) rfl (by omega) (by omega)) (i_rng (lo := 0) (hi := 9) rfl (by omega) (by omega)) (by omega)
        · have hq46_ := i_shl1 (c := 8) (k := a10) (by decide) rfl (by omega) (by omega)
          refine T_ql rfl ?_
          intro xv47 hq48_
          refine T_ql (i_add rfl l_1 (by omega) (by omega)) ?_
          intro xv49 hq50_
          exact ih a1 a2 a3 a4 a5 a6 a7 a8 xv47 xv49 M hG hS (i_rng (lo := 1) (hi := 9) rfl (by omega) (by omega)) (i_rng (lo := 0) (hi := 511) rfl (by omega) (by omega)) (i_rng (lo := 0) (hi := 511) rfl (by omega) (by omega)) (i_rng (lo := 0) (hi := 511) rfl (by omega) (by omega)) (i_rng (lo := 0) (hi := 9) rfl (by omega) (by omega)) (i_rng (lo := 0) (hi := 2) rfl (by omega) (by omega)) (i_rng (lo := 0) (hi := 12) rfl (by omega) (by omega)) (i_rng (lo := 0) (hi := 1) rfl (by omega) (by omega)) (i_rng (lo := 0) (hi := 9) rfl (by omega) (by omega)) (by omega)
      · refine T_eq rfl rfl (fun hq51_ => ?_) (fun hq51_ => ?_)
        · unfold f_X12_court_133
          refine T_qc (t_X12_has0 hn a3 a10 M hG (i_rng (lo := 0) (hi := 11) rfl (by omega) (by omega))) ?_
          rintro rv52 mv53 ⟨hq54_, hq55_, gq56_, kq57_⟩
          have hq58_ := kq57_.nil
          subst hq58_
          unfold f_X12_court_140
          refine T_eq rfl l_0 (fun hq59_ => ?_) (fun hq59_ => ?_)
          · refine T_ql (i_add rfl l_1 (by omega) (by omega)) ?_
            intro xv60 hq61_
            exact ih a1 a2 a3 a4 a5 a6 a7 a8 a9 xv60 M hG hS (i_rng (lo := 1) (hi := 9) rfl (by omega) (by omega)) (i_rng (lo := 0) (hi := 511) rfl (by omega) (by omega)) (i_rng (lo := 0) (hi := 511) rfl (by omega) (by omega)) (i_rng (lo := 0) (hi := 511) rfl (by omega) (by omega)) (i_rng (lo := 0) (hi := 9) rfl (by omega) (by omega)) (i_rng (lo := 0) (hi := 2) rfl (by omega) (by omega)) (i_rng (lo := 0) (hi := 12) rfl (by omega) (by omega)) (i_rng (lo := 0) (hi := 1) rfl (by omega) (by omega)) (i_rng (lo := 0) (hi := 9) rfl (by omega) (by omega)) (by omega)
          · have hq62_ := i_shl1 (c := 8) (k := a10) (by decide) rfl (by omega) (by omega)
            refine T_ql rfl ?_
            intro xv63 hq64_
            refine T_ql (i_add rfl l_1 (by omega) (by omega)) ?_
            intro xv65 hq66_
            exact ih a1 a2 a3 a4 a5 a6 a7 a8 xv63 xv65 M hG hS (i_rng (lo := 1) (hi := 9) rfl (by omega) (by omega)) (i_rng (lo := 0) (hi := 511) rfl (by omega) (by omega)) (i_rng (lo := 0) (hi := 511) rfl (by omega) (by omega)) (i_rng (lo := 0) (hi := 511) rfl (by omega) (by omega)) (i_rng (lo := 0) (hi := 9) rfl (by omega) (by omega)) (i_rng (lo := 0) (hi := 2) rfl (by omega) (by omega)) (i_rng (lo := 0) (hi := 12) rfl (by omega) (by omega)) (i_rng (lo := 0) (hi := 1) rfl (by omega) (by omega)) (i_rng (lo := 0) (hi := 9) rfl (by omega) (by omega)) (by omega)
        · unfold f_X12_court_133
          refine T_qc (t_X12_has0 hn a4 a10 M hG (i_rng (lo := 0) (hi := 11) rfl (by omega) (by omega))) ?_
          rintro rv67 mv68 ⟨hq69_, hq70_, gq71_, kq72_⟩
          have hq73_ := kq72_.nil
          subst hq73_
          unfold f_X12_court_140
          refine T_eq rfl l_0 (fun hq74_ => ?_) (fun hq74_ => ?_)
          · refine T_ql (i_add rfl l_1 (by omega) (by omega)) ?_
            intro xv75 hq76_
            exact ih a1 a2 a3 a4 a5 a6 a7 a8 a9 xv75 M hG hS (i_rng (lo := 1) (hi := 9) rfl (by omega) (by omega)) (i_rng (lo := 0) (hi := 511) rfl (by omega) (by omega)) (i_rng (lo := 0) (hi := 511) rfl (by omega) (by omega)) (i_rng (lo := 0) (hi := 511) rfl (by omega) (by omega)) (i_rng (lo := 0) (hi := 9) rfl (by omega) (by omega)) (i_rng (lo := 0) (hi := 2) rfl (by omega) (by omega)) (i_rng (lo := 0) (hi := 12) rfl (by omega) (by omega)) (i_rng (lo := 0) (hi := 1) rfl (by omega) (by omega)) (i_rng (lo := 0) (hi := 9) rfl (by omega) (by omega)) (by omega)
          · have hq77_ := i_shl1 (c := 8) (k := a10) (by decide) rfl (by omega) (by omega)
            refine T_ql rfl ?_
            intro xv78 hq79_
            refine T_ql (i_add rfl l_1 (by omega) (by omega)) ?_
            intro xv80 hq81_
            exact ih a1 a2 a3 a4 a5 a6 a7 a8 xv78 xv80 M hG hS (i_rng (lo := 1) (hi := 9) rfl (by omega) (by omega)) (i_rng (lo := 0) (hi := 511) rfl (by omega) (by omega)) (i_rng (lo := 0) (hi := 511) rfl (by omega) (by omega)) (i_rng (lo := 0) (hi := 511) rfl (by omega) (by omega)) (i_rng (lo := 0) (hi := 9) rfl (by omega) (by omega)) (i_rng (lo := 0) (hi := 2) rfl (by omega) (by omega)) (i_rng (lo := 0) (hi := 12) rfl (by omega) (by omega)) (i_rng (lo := 0) (hi := 1) rfl (by omega) (by omega)) (i_rng (lo := 0) (hi := 9) rfl (by omega) (by omega)) (by omega)
theorem t_X12_court {n : Nat} (hn : 200000 ≤ n) (a1 a2 a3 a4 a5 a6 : Int32) (M : qM) (hG : G M) : qT (f_X12_court n a1 a2 a3 a4 a5 a6 M) (po_X12_court a1 a2 a3 a4 a5 a6 M) := by
  have hS : Sm l_X12_court M M := Sm.rf
  unfold f_X12_court
  have hq84_ := (show ((1 : Int32)).toInt = _ from l_1)
  have hq85_ := (show ((9 : Int32)).toInt = _ from l_9)
  refine T_qc (t_X12_in hn a1 (1 : Int32) (9 : Int32) M hG (i_rng (lo := 0) (hi := 70) l_1 (by omega) (by omega)) (i_rng (lo := 0) (hi := 99999) l_9 (by omega) (by omega))) ?_
  rintro rv82 mv83 ⟨hq86_, hq87_, gq88_, kq89_⟩
  have hq90_ := kq89_.nil
  subst hq90_
  refine T_eq rfl l_0 (fun hq91_ => ?_) (fun hq91_ => ?_)
  · exact T_ret ⟨(i_rng (lo := (-1)) (hi := 12) l_m1 (by omega) (by omega)), hG, hS⟩
  · have hq94_ := (show ((0 : Int32)).toInt = _ from l_0)
    have hq95_ := i_shl1 (c := 9) (k := a1) (by decide) rfl (by omega) (by omega)
    have hq96_ := (show (((1 : Int32) <<< (a1 &&& 31)) - (1 : Int32)).toInt = _ from (i_sub rfl l_1 (by omega) (by omega)))
    refine T_qc (t_X12_in hn a2 (0 : Int32) (((1 : Int32) <<< (a1 &&& 31)) - (1 : Int32)) M hG (i_rng (lo := 0) (hi := 70) l_0 (by omega) (by omega)) (i_rng (lo := 0) (hi := 99999) (i_sub rfl l_1 (by omega) (by omega)) (by omega) (by omega))) ?_
    rintro rv92 mv93 ⟨hq97_, hq98_, gq99_, kq100_⟩
    have hq101_ := kq100_.nil
    subst hq101_
    refine T_eq rfl l_0 (fun hq102_ => ?_) (fun hq102_ => ?_)
    · exact T_ret ⟨(i_rng (lo := (-1)) (hi := 12) l_m1 (by omega) (by omega)), hG, hS⟩
    · refine T_qc (t_X12_in hn a3 (0 : Int32) (((1 : Int32) <<< (a1 &&& 31)) - (1 : Int32)) M hG (i_rng (lo := 0) (hi := 70) l_0 (by omega) (by omega)) (i_rng (lo := 0) (hi := 99999) (i_sub rfl l_1 (by omega) (by omega)) (by omega) (by omega))) ?_
      rintro rv103 mv104 ⟨hq105_, hq106_, gq107_, kq108_⟩
      have hq109_ := kq108_.nil
      subst hq109_
      refine T_eq rfl l_0 (fun hq110_ => ?_) (fun hq110_ => ?_)
      · exact T_ret ⟨(i_rng (lo := (-1)) (hi := 12) l_m1 (by omega) (by omega)), hG, hS⟩
      · refine T_qc (t_X12_in hn a4 (0 : Int32) (((1 : Int32) <<< (a1 &&& 31)) - (1 : Int32)) M hG (i_rng (lo := 0) (hi := 70) l_0 (by omega) (by omega)) (i_rng (lo := 0) (hi := 99999) (i_sub rfl l_1 (by omega) (by omega)) (by omega) (by omega))) ?_
        rintro rv111 mv112 ⟨hq113_, hq114_, gq115_, kq116_⟩
        have hq117_ := kq116_.nil
        subst hq117_
        refine T_eq rfl l_0 (fun hq118_ => ?_) (fun hq118_ => ?_)
        · exact T_ret ⟨(i_rng (lo := (-1)) (hi := 12) l_m1 (by omega) (by omega)), hG, hS⟩
        · refine T_qc (t_X12_in hn a5 (0 : Int32) a1 M hG (i_rng (lo := 0) (hi := 70) l_0 (by omega) (by omega)) (i_rng (lo := 0) (hi := 99999) rfl (by omega) (by omega))) ?_
          rintro rv119 mv120 ⟨hq121_, hq122_, gq123_, kq124_⟩
          have hq125_ := kq124_.nil
          subst hq125_
          refine T_eq rfl l_0 (fun hq126_ => ?_) (fun hq126_ => ?_)
          · exact T_ret ⟨(i_rng (lo := (-1)) (hi := 12) l_m1 (by omega) (by omega)), hG, hS⟩
          · have hq129_ := (show ((2 : Int32)).toInt = _ from l_2)
            refine T_qc (t_X12_in hn a6 (0 : Int32) (2 : Int32) M hG (i_rng (lo := 0) (hi := 70) l_0 (by omega) (by omega)) (i_rng (lo := 0) (hi := 99999) l_2 (by omega) (by omega))) ?_
            rintro rv127 mv128 ⟨hq130_, hq131_, gq132_, kq133_⟩
            have hq134_ := kq133_.nil
            subst hq134_
            refine T_eq rfl l_0 (fun hq135_ => ?_) (fun hq135_ => ?_)
            · exact T_ret ⟨(i_rng (lo := (-1)) (hi := 12) l_m1 (by omega) (by omega)), hG, hS⟩
            · refine T_qc (t_X12_bits hn a2 M hG ) ?_
              rintro rv136 mv137 ⟨hq138_, hq139_, gq140_, kq141_⟩
              have hq142_ := kq141_.nil
              subst hq142_
              refine T_lt (i_mul l_2 rfl (by omega) (by omega)) rfl (fun hq143_ => ?_) (fun hq143_ => ?_)
              · unfold f_X12_court_91
                exact (t_X12_court_99 hn) n a1 a2 a3 a4 a5 a6 rv136 (0 : Int32) (0 : Int32) (0 : Int32) M hG hS (i_rng (lo := 1) (hi := 9) rfl (by omega) (by omega)) (i_rng (lo := 0) (hi := 511) rfl (by omega) (by omega)) (i_rng (lo := 0) (hi := 511) rfl (by omega) (by omega)) (i_rng (lo := 0) (hi := 511) rfl (by omega) (by omega)) (i_rng (lo := 0) (hi := 9) rfl (by omega) (by omega)) (i_rng (lo := 0) (hi := 2) rfl (by omega) (by omega)) (i_rng (lo := 0) (hi := 12) rfl (by omega) (by omega)) (i_rng (lo := 0) (hi := 1) l_0 (by omega) (by omega)) (i_rng (lo := 0) (hi := 9) l_0 (by omega) (by omega)) (by have e7 : ((0 : Int32)).toInt = _ := l_0; have e8 : ((0 : Int32)).toInt = _ := l_0; have e9 : ((0 : Int32)).toInt = _ := l_0; omega)
              · unfold f_X12_court_91
                exact (t_X12_court_99 hn) n a1 a2 a3 a4 a5 a6 rv136 (1 : Int32) (0 : Int32) (0 : Int32) M hG hS (i_rng (lo := 1) (hi := 9) rfl (by omega) (by omega)) (i_rng (lo := 0) (hi := 511) rfl (by omega) (by omega)) (i_rng (lo := 0) (hi := 511) rfl (by omega) (by omega)) (i_rng (lo := 0) (hi := 511) rfl (by omega) (by omega)) (i_rng (lo := 0) (hi := 9) rfl (by omega) (by omega)) (i_rng (lo := 0) (hi := 2) rfl (by omega) (by omega)) (i_rng (lo := 0) (hi := 12) rfl (by omega) (by omega)) (i_rng (lo := 0) (hi := 1) l_1 (by omega) (by omega)) (i_rng (lo := 0) (hi := 9) l_0 (by omega) (by omega)) (by have e7 : ((1 : Int32)).toInt = _ := l_1; have e8 : ((0 : Int32)).toInt = _ := l_0; have e9 : ((0 : Int32)).toInt = _ := l_0; omega)
abbrev l_X10_copy_c16_7 : List Bx := [(16, 17, 8, 10), (17, 25, 0, 0)]
abbrev po_X10_copy_c16_7 (M : qM) (v : Int32) (M' : qM) : Prop := (0 ≤ v.toInt ∧ v.toInt ≤ 0) ∧ ((M' 16 9).toInt = (M 7 9).toInt ∧ (M' 16 8).toInt = (M 7 8).toInt) ∧ G M' ∧ Sm l_X10_copy_c16_7 M M'
theorem t_X10_copy_c16_7 {n : Nat} (hn : 200000 ≤ n) (M : qM) (hG : G M) : qT (f_X10_copy n 16 7  M) (po_X10_copy_c16_7  M) := by
  have hS : Sm l_X10_copy_c16_7 M M := Sm.rf
  unfold f_X10_copy
  try simp only [Nat.reduceAdd]
  refine T_qcp l_0 l_0 l_8 (by omega) (by omega) (by omega) (by omega) (by omega) ?_
  refine T_mr hG hS (fun s => rn_17 s _) nw_17 (i := 1) rfl (fun s => ⟨by decide, by decide, Or.inl rfl⟩) ?_
  intro mv1 hq2_ gq3_ kq4_
  have hq5_ : (mv1 7 9).toInt = (M 7 9).toInt := by rw [hq2_]; show ((if 7 = 17 then _ else M 7) 9).toInt = _; rw [if_neg (by decide)]
  have hq6_ : (mv1 7 8).toInt = (M 7 8).toInt := by rw [hq2_]; show ((if 7 = 17 then _ else M 7) 8).toInt = _; rw [if_neg (by decide)]
  refine T_qcp l_0 l_0 l_96 (by omega) (by omega) (by omega) (by omega) (by omega) ?_
  refine T_mr gq3_ kq4_ (fun s => rn_18 s _) nw_18 (i := 1) rfl (fun s => ⟨by decide, by decide, Or.inl rfl⟩) ?_
  intro mv7 hq8_ gq9_ kq10_
  have hq11_ : (mv7 7 9).toInt = (mv1 7 9).toInt := by rw [hq8_]; show ((if 7 = 18 then _ else mv1 7) 9).toInt = _; rw [if_neg (by decide)]
  have hq12_ : (mv7 7 8).toInt = (mv1 7 8).toInt := by rw [hq8_]; show ((if 7 = 18 then _ else mv1 7) 8).toInt = _; rw [if_neg (by decide)]
  refine T_qcp l_0 l_0 l_96 (by omega) (by omega) (by omega) (by omega) (by omega) ?_
  refine T_mr gq9_ kq10_ (fun s => rn_19 s _) nw_19 (i := 1) rfl (fun s => ⟨by decide, by decide, Or.inl rfl⟩) ?_
  intro mv13 hq14_ gq15_ kq16_
  have hq17_ : (mv13 7 9).toInt = (mv7 7 9).toInt := by rw [hq14_]; show ((if 7 = 19 then _ else mv7 7) 9).toInt = _; rw [if_neg (by decide)]
  have hq18_ : (mv13 7 8).toInt = (mv7 7 8).toInt := by rw [hq14_]; show ((if 7 = 19 then _ else mv7 7) 8).toInt = _; rw [if_neg (by decide)]
  refine T_qcp l_0 l_0 l_96 (by omega) (by omega) (by omega) (by omega) (by omega) ?_
  refine T_mr gq15_ kq16_ (fun s => rn_20 s _) nw_20 (i := 1) rfl (fun s => ⟨by decide, by decide, Or.inl rfl⟩) ?_
  intro mv19 hq20_ gq21_ kq22_
  have hq23_ : (mv19 7 9).toInt = (mv13 7 9).toInt := by rw [hq20_]; show ((if 7 = 20 then _ else mv13 7) 9).toInt = _; rw [if_neg (by decide)]
  have hq24_ : (mv19 7 8).toInt = (mv13 7 8).toInt := by rw [hq20_]; show ((if 7 = 20 then _ else mv13 7) 8).toInt = _; rw [if_neg (by decide)]
  refine T_qcp l_0 l_0 l_320 (by omega) (by omega) (by omega) (by omega) (by omega) ?_
  refine T_mr gq21_ kq22_ (fun s => rn_21 s _) nw_21 (i := 1) rfl (fun s => ⟨by decide, by decide, Or.inl rfl⟩) ?_
  intro mv25 hq26_ gq27_ kq28_
  have hq29_ : (mv25 7 9).toInt = (mv19 7 9).toInt := by rw [hq26_]; show ((if 7 = 21 then _ else mv19 7) 9).toInt = _; rw [if_neg (by decide)]
  have hq30_ : (mv25 7 8).toInt = (mv19 7 8).toInt := by rw [hq26_]; show ((if 7 = 21 then _ else mv19 7) 8).toInt = _; rw [if_neg (by decide)]
  refine T_qcp l_0 l_0 l_320 (by omega) (by omega) (by omega) (by omega) (by omega) ?_
  refine T_mr gq27_ kq28_ (fun s => rn_22 s _) nw_22 (i := 1) rfl (fun s => ⟨by decide, by decide, Or.inl rfl⟩) ?_
  intro mv31 hq32_ gq33_ kq34_
  have hq35_ : (mv31 7 9).toInt = (mv25 7 9).toInt := by rw [hq32_]; show ((if 7 = 22 then _ else mv25 7) 9).toInt = _; rw [if_neg (by decide)]
  have hq36_ : (mv31 7 8).toInt = (mv25 7 8).toInt := by rw [hq32_]; show ((if 7 = 22 then _ else mv25 7) 8).toInt = _; rw [if_neg (by decide)]
  refine T_qcp l_0 l_0 l_8 (by omega) (by omega) (by omega) (by omega) (by omega) ?_
  refine T_mr gq33_ kq34_ (va_in (r_14 gq33_) (r_23 gq33_)) nw_23 (i := 1) rfl (fun s => ⟨by decide, by decide, Or.inl rfl⟩) ?_
  intro mv37 hq38_ gq39_ kq40_
  have hq41_ : (mv37 7 9).toInt = (mv31 7 9).toInt := by rw [hq38_]; show ((if 7 = 23 then _ else mv31 7) 9).toInt = _; rw [if_neg (by decide)]
  have hq42_ : (mv37 7 8).toInt = (mv31 7 8).toInt := by rw [hq38_]; show ((if 7 = 23 then _ else mv31 7) 8).toInt = _; rw [if_neg (by decide)]
  refine T_qcp l_0 l_0 l_8 (by omega) (by omega) (by omega) (by omega) (by omega) ?_
  refine T_mr gq39_ kq40_ (va_in (r_15 gq39_) (r_24 gq39_)) nw_24 (i := 1) rfl (fun s => ⟨by decide, by decide, Or.inl rfl⟩) ?_
  intro mv43 hq44_ gq45_ kq46_
  have hq47_ : (mv43 7 9).toInt = (mv37 7 9).toInt := by rw [hq44_]; show ((if 7 = 24 then _ else mv37 7) 9).toInt = _; rw [if_neg (by decide)]
  have hq48_ : (mv43 7 8).toInt = (mv37 7 8).toInt := by rw [hq44_]; show ((if 7 = 24 then _ else mv37 7) 8).toInt = _; rw [if_neg (by decide)]
  refine T_mu gq45_ kq46_ (rn_16_8 _) (nw_16 _) (i := 0) rfl ⟨by decide, by decide, Or.inr ⟨by decide, by decide⟩⟩ ?_
  intro mv49 hq50_ gq51_ kq52_
  have hq53_ : (mv49 7 9).toInt = (mv43 7 9).toInt := by rw [hq50_, mu_ne (Or.inl (by decide))]
  have hq54_ : (mv49 7 8).toInt = (mv43 7 8).toInt := by rw [hq50_, mu_ne (Or.inl (by decide))]
  have hq55_ : (mv49 16 8).toInt = (mv43 7 8).toInt := by rw [hq50_, mu_at]
  refine T_mu gq51_ kq52_ (rn_16_9 _) (nw_16 _) (i := 0) rfl ⟨by decide, by decide, Or.inr ⟨by decide, by decide⟩⟩ ?_
  intro mv56 hq57_ gq58_ kq59_
  have hq60_ : (mv56 7 9).toInt = (mv49 7 9).toInt := by rw [hq57_, mu_ne (Or.inl (by decide))]
  have hq61_ : (mv56 7 8).toInt = (mv49 7 8).toInt := by rw [hq57_, mu_ne (Or.inl (by decide))]
  have hq62_ : (mv56 16 8).toInt = (mv49 16 8).toInt := by rw [hq57_, mu_ne (Or.inr (by decide))]
  have hq63_ : (mv56 16 9).toInt = (mv49 7 9).toInt := by rw [hq57_, mu_at]
  exact T_ret ⟨(i_rng (lo := 0) (hi := 0) l_0 (by omega) (by omega)), (by have e9 : (0 : Int32).toInt = _ := l_0; omega), gq58_, kq59_⟩
abbrev l_X11_keep : List Bx := [(0, 1, 12, 13), (16, 17, 8, 10), (17, 25, 0, 0)]
abbrev po_X11_keep (M : qM) (v : Int32) (M' : qM) : Prop := (v.toInt = (M 7 9).toInt ∧ (M' 0 12).toInt = 1 ∧ (M' 16 9).toInt = (M 7 9).toInt ∧ (M' 16 8).toInt = (M 7 8).toInt) ∧ G M' ∧ Sm l_X11_keep M M'
theorem t_X11_keep {n : Nat} (hn : 200000 ≤ n) (M : qM) (hG : G M) : qT (f_X11_keep n  M) (po_X11_keep  M) := by
  have hS : Sm l_X11_keep M M := Sm.rf
  unfold f_X11_keep
  refine T_qc (t_X10_copy_c16_7 hn  M hG ) ?_
  rintro rv1 mv2 ⟨hq3_, hq4_, gq5_, kq6_⟩
  have kq7_ := Sm.call hS kq6_ rfl
  have hq8_ : (mv2 7 9).toInt = (M 7 9).toInt := by rw [kq6_ 7 9 (by decide)]
  have hq9_ : (mv2 7 8).toInt = (M 7 8).toInt := by rw [kq6_ 7 8 (by decide)]
  refine T_mu gq5_ kq7_ (rn_0_12 _) (nw_0 _) (i := 0) rfl ⟨by decide, by decide, Or.inr ⟨by decide, by decide⟩⟩ ?_
  intro mv10 hq11_ gq12_ kq13_
  have hq14_ : (mv10 7 9).toInt = (mv2 7 9).toInt := by rw [hq11_, mu_ne (Or.inl (by decide))]
  have hq15_ : (mv10 7 8).toInt = (mv2 7 8).toInt := by rw [hq11_, mu_ne (Or.inl (by decide))]
  have hq16_ : (mv10 16 9).toInt = (mv2 16 9).toInt := by rw [hq11_, mu_ne (Or.inl (by decide))]
  have hq17_ : (mv10 16 8).toInt = (mv2 16 8).toInt := by rw [hq11_, mu_ne (Or.inl (by decide))]
  have hq18_ : (mv10 0 12).toInt = 1 := by rw [hq11_, mu_at]; exact l_1
  exact T_ret ⟨(by have e9 : (mv10 7 9).toInt = _ := rfl; omega), gq12_, kq13_⟩
