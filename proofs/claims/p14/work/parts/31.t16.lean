abbrev l_X12_buys : List Bx := [(78, 79, 0, 192), (78, 79, 288, 296), (96, 98, 0, 0)]
abbrev po_X12_buys (a1 a2 a3 : Int32) (M : qM) (v : Int32) (M' : qM) : Prop := ((-3) ≤ v.toInt ∧ v.toInt ≤ 999) ∧ G M' ∧ Sm l_X12_buys M M'
theorem t_X12_buys {n : Nat} (hn : 200000 ≤ n) (a1 a2 a3 : Int32) (M : qM) (hG : G M) : qT (f_X12_buys n a1 a2 a3 M) (po_X12_buys a1 a2 a3 M) := by
  have hS : Sm l_X12_buys M M := Sm.rf
  unfold f_X12_buys
  refine T_qc (t_X12_isPerson hn a1 M hG ) ?_
  rintro rv1 mv2 ⟨hq3_, hq4_, gq5_, kq6_⟩
  have hq7_ := kq6_.nil
  subst hq7_
  refine T_eq rfl l_0 (fun hq8_ => ?_) (fun hq8_ => ?_)
  · exact T_ret ⟨(i_rng (lo := (-3)) (hi := 999) l_m1 (by omega) (by omega)), hG, hS⟩
  · refine T_qc (t_X12_isKind hn a2 M hG ) ?_
    rintro rv9 mv10 ⟨hq11_, hq12_, gq13_, kq14_⟩
    have hq15_ := kq14_.nil
    subst hq15_
    refine T_eq rfl l_0 (fun hq16_ => ?_) (fun hq16_ => ?_)
    · exact T_ret ⟨(i_rng (lo := (-3)) (hi := 999) l_m1 (by omega) (by omega)), hG, hS⟩
    · refine T_qc (t_X12_isPerson hn a3 M hG ) ?_
      rintro rv17 mv18 ⟨hq19_, hq20_, gq21_, kq22_⟩
      have hq23_ := kq22_.nil
      subst hq23_
      refine T_eq rfl l_0 (fun hq24_ => ?_) (fun hq24_ => ?_)
      · exact T_ret ⟨(i_rng (lo := (-3)) (hi := 999) l_m1 (by omega) (by omega)), hG, hS⟩
      · refine T_eq rfl rfl (fun hq25_ => ?_) (fun hq25_ => ?_)
        · exact T_ret ⟨(i_rng (lo := (-3)) (hi := 999) l_m1 (by omega) (by omega)), hG, hS⟩
        · refine T_qc (t_X12_at hn a3 a2 M hG (i_rng (lo := 0) (hi := 7) rfl (by omega) (by omega)) (i_rng (lo := 0) (hi := 11) rfl (by omega) (by omega))) ?_
          rintro rv26 mv27 ⟨hq28_, hq29_, gq30_, kq31_⟩
          have hq32_ := kq31_.nil
          subst hq32_
          refine T_qc (t_X12_at hn a1 a2 M hG (i_rng (lo := 0) (hi := 7) rfl (by omega) (by omega)) (i_rng (lo := 0) (hi := 11) rfl (by omega) (by omega))) ?_
          rintro rv33 mv34 ⟨hq35_, hq36_, gq37_, kq38_⟩
          have hq39_ := kq38_.nil
          subst hq39_
          refine T_qg (i_add l_0 rfl (by omega) (by omega)) (by omega) (by omega) ?_
          refine T_eq rfl l_0 (fun hq40_ => ?_) (fun hq40_ => ?_)
          · exact T_ret ⟨(i_rng (lo := (-3)) (hi := 999) l_m3 (by omega) (by omega)), hG, hS⟩
          · refine T_qc (t_X12_costOf hn a1 a2 a3 M hG (i_rng (lo := 0) (hi := 7) rfl (by omega) (by omega)) (i_rng (lo := 0) (hi := 11) rfl (by omega) (by omega)) (i_rng (lo := 0) (hi := 7) rfl (by omega) (by omega))) ?_
            rintro rv41 mv42 ⟨hq43_, gq44_, kq45_⟩
            have kq46_ := Sm.call hS kq45_ rfl
            have hq47_ : (mv42 78 (((0 : Int32) + rv26).toNatClampNeg)).toInt = (M 78 (((0 : Int32) + rv26).toNatClampNeg)).toInt := by rw [kq45_ 78 _ (out78 (lo := 0) (hi := 96) rfl (by rw [tnc, (i_add l_0 rfl (by omega) (by omega))]; omega) (by rw [tnc, (i_add l_0 rfl (by omega) (by omega))]; omega))]
            refine T_qg (i_add l_288 rfl (by omega) (by omega)) (by omega) (by omega) ?_
            refine T_le rfl rfl (fun hq48_ => ?_) (fun hq48_ => ?_)
            · refine T_qg (i_add l_288 rfl (by omega) (by omega)) (by omega) (by omega) ?_
              refine T_qg (i_add l_288 rfl (by omega) (by omega)) (by omega) (by omega) ?_
              have hq50_ := i_full (mv42 78 (((288 : Int32) + a1).toNatClampNeg))
              refine T_mu gq44_ kq46_ (ro78 (by decide) (by rw [tnc, (i_add l_288 rfl (by omega) (by omega))]; omega)) (nw_78 _) (i := 1) rfl ⟨by decide, by decide, Or.inr ⟨(show 288 ≤ _ by rw [tnc, (i_add l_288 rfl (by omega) (by omega))]; omega), (show _ < 296 by rw [tnc, (i_add l_288 rfl (by omega) (by omega))]; omega)⟩⟩ ?_
              intro mv49 hq51_ gq52_ kq53_
              have hq54_ : (mv49 78 (((288 : Int32) + a1).toNatClampNeg)).toInt = ((mv42 78 (((288 : Int32) + a1).toNatClampNeg)).toInt - rv41.toInt) := by rw [hq51_, mu_at]; exact (i_sub rfl rfl (by omega) (by omega))
              refine T_qg (i_add l_288 rfl (by omega) (by omega)) (by omega) (by omega) ?_
              have hq57_ := i_full (mv49 78 (((288 : Int32) + a3).toNatClampNeg))
              refine T_qc (t_X12_min hn (99999 : Int32) ((mv49 78 (((288 : Int32) + a3).toNatClampNeg)) + rv41) mv49 gq52_ (i_rng (lo := (-2147483648)) (hi := 1000000000) l_99999 (by omega) (by omega))) ?_
              rintro rv55 mv56 ⟨hq58_, gq59_, kq60_⟩
              have hq61_ := kq60_.nil
              subst hq61_
              refine T_qg (i_add l_288 rfl (by omega) (by omega)) (by omega) (by omega) ?_
              refine T_mu gq52_ kq53_ (ro78 (by decide) (by rw [tnc, (i_add l_288 rfl (by omega) (by omega))]; omega)) (nw_78 _) (i := 1) rfl ⟨by decide, by decide, Or.inr ⟨(show 288 ≤ _ by rw [tnc, (i_add l_288 rfl (by omega) (by omega))]; omega), (show _ < 296 by rw [tnc, (i_add l_288 rfl (by omega) (by omega))]; omega)⟩⟩ ?_
              intro mv62 hq63_ gq64_ kq65_
              have hq66_ : (mv62 78 (((288 : Int32) + a3).toNatClampNeg)).toInt = rv55.toInt := by rw [hq63_, mu_at]
              refine T_qg (i_add l_0 rfl (by omega) (by omega)) (by omega) (by omega) ?_
              refine T_qg (i_add l_0 rfl (by omega) (by omega)) (by omega) (by omega) ?_
              have hq68_ := i_full (mv62 78 (((0 : Int32) + rv26).toNatClampNeg))
              refine T_mu gq64_ kq65_ (ro78 (by decide) (by rw [tnc, (i_add l_0 rfl (by omega) (by omega))]; omega)) (nw_78 _) (i := 0) rfl ⟨by decide, by decide, Or.inr ⟨(show 0 ≤ _ by rw [tnc, (i_add l_0 rfl (by omega) (by omega))]; omega), (show _ < 192 by rw [tnc, (i_add l_0 rfl (by omega) (by omega))]; omega)⟩⟩ ?_
              intro mv67 hq69_ gq70_ kq71_
              have hq72_ : (mv67 78 (((0 : Int32) + rv26).toNatClampNeg)).toInt = ((mv62 78 (((0 : Int32) + rv26).toNatClampNeg)) - (1 : Int32)).toInt := by rw [hq69_, mu_at]
              refine T_qg (i_add l_0 rfl (by omega) (by omega)) (by omega) (by omega) ?_
              refine T_eq rfl l_0 (fun hq73_ => ?_) (fun hq73_ => ?_)
              · refine T_qg (i_add l_96 rfl (by omega) (by omega)) (by omega) (by omega) ?_
                refine T_mu gq70_ kq71_ (ro78 (by decide) (by rw [tnc, (i_add l_96 rfl (by omega) (by omega))]; omega)) (nw_78 _) (i := 0) rfl ⟨by decide, by decide, Or.inr ⟨(show 0 ≤ _ by rw [tnc, (i_add l_96 rfl (by omega) (by omega))]; omega), (show _ < 192 by rw [tnc, (i_add l_96 rfl (by omega) (by omega))]; omega)⟩⟩ ?_
                intro mv74 hq75_ gq76_ kq77_
                have hq78_ : (mv74 78 (((96 : Int32) + rv26).toNatClampNeg)).toInt = (-2) := by rw [hq75_, mu_at]; exact l_m2
                unfold f_X12_buys_182
                refine T_qg (i_add l_0 rfl (by omega) (by omega)) (by omega) (by omega) ?_
                have hq81_ := i_full (mv74 78 (((0 : Int32) + rv33).toNatClampNeg))
                refine T_qc (t_X12_min hn (999 : Int32) ((mv74 78 (((0 : Int32) + rv33).toNatClampNeg)) + (1 : Int32)) mv74 gq76_ (i_rng (lo := (-2147483648)) (hi := 1000000000) l_999 (by omega) (by omega))) ?_
                rintro rv79 mv80 ⟨hq82_, gq83_, kq84_⟩
                have hq85_ := kq84_.nil
                subst hq85_
                refine T_qg (i_add l_0 rfl (by omega) (by omega)) (by omega) (by omega) ?_
                refine T_mu gq76_ kq77_ (ro78 (by decide) (by rw [tnc, (i_add l_0 rfl (by omega) (by omega))]; omega)) (nw_78 _) (i := 0) rfl ⟨by decide, by decide, Or.inr ⟨(show 0 ≤ _ by rw [tnc, (i_add l_0 rfl (by omega) (by omega))]; omega), (show _ < 192 by rw [tnc, (i_add l_0 rfl (by omega) (by omega))]; omega)⟩⟩ ?_
                intro mv86 hq87_ gq88_ kq89_
                have hq90_ : (mv86 78 (((0 : Int32) + rv33).toNatClampNeg)).toInt = rv79.toInt := by rw [hq87_, mu_at]
                refine T_qg (i_add l_96 rfl (by omega) (by omega)) (by omega) (by omega) ?_
                refine T_mu gq88_ kq89_ (ro78 (by decide) (by rw [tnc, (i_add l_96 rfl (by omega) (by omega))]; omega)) (nw_78 _) (i := 0) rfl ⟨by decide, by decide, Or.inr ⟨(show 0 ≤ _ by rw [tnc, (i_add l_96 rfl (by omega) (by omega))]; omega), (show _ < 192 by rw [tnc, (i_add l_96 rfl (by omega) (by omega))]; omega)⟩⟩ ?_
                intro mv91 hq92_ gq93_ kq94_
                have hq95_ : (mv91 78 (((96 : Int32) + rv33).toNatClampNeg)).toInt = (mv86 78 313).toInt := by rw [hq92_, mu_at]
                exact T_ret ⟨(i_rng (lo := (-3)) (hi := 999) rfl (by omega) (by omega)), gq93_, kq94_⟩
              · unfold f_X12_buys_182
                refine T_qg (i_add l_0 rfl (by omega) (by omega)) (by omega) (by omega) ?_
                have hq98_ := i_full (mv67 78 (((0 : Int32) + rv33).toNatClampNeg))
                refine T_qc (t_X12_min hn (999 : Int32) ((mv67 78 (((0 : Int32) + rv33).toNatClampNeg)) + (1 : Int32)) mv67 gq70_ (i_rng (lo := (-2147483648)) (hi := 1000000000) l_999 (by omega) (by omega))) ?_
                rintro rv96 mv97 ⟨hq99_, gq100_, kq101_⟩
                have hq102_ := kq101_.nil
                subst hq102_
                refine T_qg (i_add l_0 rfl (by omega) (by omega)) (by omega) (by omega) ?_
                refine T_mu gq70_ kq71_ (ro78 (by decide) (by rw [tnc, (i_add l_0 rfl (by omega) (by omega))]; omega)) (nw_78 _) (i := 0) rfl ⟨by decide, by decide, Or.inr ⟨(show 0 ≤ _ by rw [tnc, (i_add l_0 rfl (by omega) (by omega))]; omega), (show _ < 192 by rw [tnc, (i_add l_0 rfl (by omega) (by omega))]; omega)⟩⟩ ?_
                intro mv103 hq104_ gq105_ kq106_
                have hq107_ : (mv103 78 (((0 : Int32) + rv33).toNatClampNeg)).toInt = rv96.toInt := by rw [hq104_, mu_at]
                refine T_qg (i_add l_96 rfl (by omega) (by omega)) (by omega) (by omega) ?_
                refine T_mu gq105_ kq106_ (ro78 (by decide) (by rw [tnc, (i_add l_96 rfl (by omega) (by omega))]; omega)) (nw_78 _) (i := 0) rfl ⟨by decide, by decide, Or.inr ⟨(show 0 ≤ _ by rw [tnc, (i_add l_96 rfl (by omega) (by omega))]; omega), (show _ < 192 by rw [tnc, (i_add l_96 rfl (by omega) (by omega))]; omega)⟩⟩ ?_
                intro mv108 hq109_ gq110_ kq111_
                have hq112_ : (mv108 78 (((96 : Int32) + rv33).toNatClampNeg)).toInt = (mv103 78 313).toInt := by rw [hq109_, mu_at]
                exact T_ret ⟨(i_rng (lo := (-3)) (hi := 999) rfl (by omega) (by omega)), gq110_, kq111_⟩
            · exact T_ret ⟨(i_rng (lo := (-3)) (hi := 999) l_m2 (by omega) (by omega)), gq44_, kq46_⟩
abbrev l_X0_noteOutcome : List Bx := [(44, 45, 5, 6), (44, 45, 7, 10)]
abbrev po_X0_noteOutcome (a1 a2 a3 a4 : Int32) (M : qM) (v : Int32) (M' : qM) : Prop := (0 ≤ v.toInt ∧ v.toInt ≤ 0) ∧ G M' ∧ Sm l_X0_noteOutcome M M'
theorem t_X0_noteOutcome {n : Nat} (hn : 200000 ≤ n) (a1 a2 a3 a4 : Int32) (M : qM) (hG : G M) (pa2 : 0 ≤ a2.toInt ∧ a2.toInt ≤ 7) (pa3 : 0 ≤ a3.toInt ∧ a3.toInt ≤ 11) (pa4 : (-2) ≤ a4.toInt ∧ a4.toInt ≤ 1) : qT (f_X0_noteOutcome n a1 a2 a3 a4 M) (po_X0_noteOutcome a1 a2 a3 a4 M) := by
  have hS : Sm l_X0_noteOutcome M M := Sm.rf
  unfold f_X0_noteOutcome
  refine T_eq rfl l_1 (fun hq1_ => ?_) (fun hq1_ => ?_)
  · have hq3_ := i_full (M 44 5)
    refine T_mu hG hS (rn_44_5 _) (nw_44 _) (i := 0) rfl ⟨by decide, by decide, Or.inr ⟨by decide, by decide⟩⟩ ?_
    intro mv2 hq4_ gq5_ kq6_
    have hq7_ : (mv2 44 5).toInt = ((M 44 5) + (1 : Int32)).toInt := by rw [hq4_, mu_at]
    unfold f_X0_noteOutcome_16
    refine T_eq rfl l_m2 (fun hq8_ => ?_) (fun hq8_ => ?_)
    · exfalso; omega
    · exact T_ret ⟨(i_rng (lo := 0) (hi := 0) l_0 (by omega) (by omega)), gq5_, kq6_⟩
  · unfold f_X0_noteOutcome_16
    refine T_eq rfl l_m2 (fun hq9_ => ?_) (fun hq9_ => ?_)
    · refine T_eq rfl l_m2 (fun hq10_ => ?_) (fun hq10_ => ?_)
      · refine T_mu hG hS (rn_44_7 _) (nw_44 _) (i := 1) rfl ⟨by decide, by decide, Or.inr ⟨by decide, by decide⟩⟩ ?_
        intro mv11 hq12_ gq13_ kq14_
        have hq15_ : (mv11 44 7).toInt = a1.toInt := by rw [hq12_, mu_at]
        refine T_mu gq13_ kq14_ (rn_44_8 _) (nw_44 _) (i := 1) rfl ⟨by decide, by decide, Or.inr ⟨by decide, by decide⟩⟩ ?_
        intro mv16 hq17_ gq18_ kq19_
        have hq20_ : (mv16 44 7).toInt = (mv11 44 7).toInt := by rw [hq17_, mu_ne (Or.inr (by decide))]
        have hq21_ : (mv16 44 8).toInt = a2.toInt := by rw [hq17_, mu_at]
        refine T_mu gq18_ kq19_ (rn_44_9 _) (nw_44 _) (i := 1) rfl ⟨by decide, by decide, Or.inr ⟨by decide, by decide⟩⟩ ?_
        intro mv22 hq23_ gq24_ kq25_
        have hq26_ : (mv22 44 7).toInt = (mv16 44 7).toInt := by rw [hq23_, mu_ne (Or.inr (by decide))]
        have hq27_ : (mv22 44 8).toInt = (mv16 44 8).toInt := by rw [hq23_, mu_ne (Or.inr (by decide))]
        have hq28_ : (mv22 44 9).toInt = a3.toInt := by rw [hq23_, mu_at]
        exact T_ret ⟨(i_rng (lo := 0) (hi := 0) l_0 (by omega) (by omega)), gq24_, kq25_⟩
      · exact T_ret ⟨(i_rng (lo := 0) (hi := 0) l_0 (by omega) (by omega)), hG, hS⟩
    · exact T_ret ⟨(i_rng (lo := 0) (hi := 0) l_0 (by omega) (by omega)), hG, hS⟩
abbrev l_X0_doSteps_c7 : List Bx := [(9, 12, 0, 0), (15, 16, 0, 0), (34, 35, 4, 5), (35, 37, 0, 0), (44, 45, 2, 10)]
abbrev po_X0_doSteps_c7 (a2 : Int32) (M : qM) (v : Int32) (M' : qM) : Prop := (0 ≤ v.toInt ∧ v.toInt ≤ 0) ∧ G M' ∧ Sm l_X0_doSteps_c7 M M'
theorem t_X0_doSteps_c7_11 {n : Nat} (hn : 200000 ≤ n) {j : Nat} (hj : q_isLaw j) {oa2 : Int32} {M0 : qM} : ∀ (m : Nat) (a2 a3 a4 : Int32) (M : qM), G M → Sm l_X0_doSteps_c7 M0 M → 0 ≤ a2.toInt ∧ a2.toInt ≤ 7 → 0 ≤ a4.toInt ∧ a4.toInt ≤ 40 → 40 - a4.toInt < (m : Int) → qT (f_X0_doSteps_11 n 7 j m a2 a3 a4 M) (po_X0_doSteps_c7 oa2 M0) := by
  intro m
  induction m with
  | zero =>
    intro a2 a3 a4 M hG hS i0 i1 i4
    exfalso; omega
  | succ m ih =>
    intro a2 a3 a4 M hG hS i0 i1 i4
    show qT (b_X0_doSteps_11 n 7 j (f_X0_doSteps_11 n 7 j m) a2 a3 a4 M) _
    unfold b_X0_doSteps_11
    try simp only [Nat.reduceAdd]
    refine T_qg rfl (by omega) (by omega) ?_
    have hq10_ := r_14 hG a2.toNatClampNeg
    refine T_le rfl rfl (fun hq11_ => ?_) (fun hq11_ => ?_)
    · exact T_ret ⟨(i_rng (lo := 0) (hi := 0) l_0 (by omega) (by omega)), hG, hS⟩
    · refine T_qg (i_add (i_mul rfl l_40 (by omega) (by omega)) rfl (by omega) (by omega)) (by omega) (by omega) ?_
      refine T_ql rfl ?_
      intro xv12 hq13_
      refine T_qg (i_add (i_mul rfl l_40 (by omega) (by omega)) rfl (by omega) (by omega)) (by omega) (by omega) ?_
      refine T_ql rfl ?_
      intro xv14 hq15_
      refine T_qc (t_X2_knows hn xv12 M hG ) ?_
      rintro rv16 mv17 ⟨hq18_, hq19_, gq20_, kq21_⟩
      have hq22_ := kq21_.nil
      subst hq22_
      refine T_eq rfl l_0 (fun hq23_ => ?_) (fun hq23_ => ?_)
      · unfold f_X0_doSteps_162
        try simp only [Nat.reduceAdd]
        refine T_qg rfl (by omega) (by omega) ?_
        refine T_mu hG hS (i_rng (lo := 0) (hi := 40) (i_add rfl l_1 (by omega) (by omega)) (by omega) (by omega)) (nw_15 _) (i := 1) rfl ⟨by decide, by decide, Or.inl rfl⟩ ?_
        intro mv24 hq25_ gq26_ kq27_
        have hq28_ : (mv24 14 a2.toNatClampNeg).toInt = (M 14 a2.toNatClampNeg).toInt := by rw [hq25_, mu_ne (Or.inl (by decide))]
        have hq29_ : (mv24 15 a2.toNatClampNeg).toInt = (a4.toInt + 1) := by rw [hq25_, mu_at]; exact (i_add rfl l_1 (by omega) (by omega))
        refine T_ql (i_add rfl l_1 (by omega) (by omega)) ?_
        intro xv30 hq31_
        exact ih a2 a3 xv30 mv24 gq26_ kq27_ (i_rng (lo := 0) (hi := 7) rfl (by omega) (by omega)) (i_rng (lo := 0) (hi := 40) rfl (by omega) (by omega)) (by omega)
      · refine T_eq rfl l_8 (fun hq32_ => ?_) (fun hq32_ => ?_)
        · unfold f_X0_doSteps_84
          try simp only [Nat.reduceAdd]
          refine T_qg rfl (by omega) (by omega) ?_
          refine T_le rfl rfl (fun hq33_ => ?_) (fun hq33_ => ?_)
          · refine T_qg rfl (by omega) (by omega) ?_
            have hq34_ := i_full (a3)
            have hq35_ := i_full (M 4 xv12.toNatClampNeg)
            refine T_ql rfl ?_
            intro xv36 hq37_
            refine T_qg rfl (by omega) (by omega) ?_
            have hq39_ := i_full (M 44 6)
            refine T_mu hG hS (rn_44_6 _) (nw_44 _) (i := 4) rfl ⟨by decide, by decide, Or.inr ⟨by decide, by decide⟩⟩ ?_
            intro mv38 hq40_ gq41_ kq42_
            have hq43_ : (mv38 14 a2.toNatClampNeg).toInt = (M 14 a2.toNatClampNeg).toInt := by rw [hq40_, mu_ne (Or.inl (by decide))]
            have hq44_ : (mv38 4 xv12.toNatClampNeg).toInt = (M 4 xv12.toNatClampNeg).toInt := by rw [hq40_, mu_ne (Or.inl (by decide))]
            have hq45_ : (mv38 44 6).toInt = ((M 44 6) + (M 4 xv12.toNatClampNeg)).toInt := by rw [hq40_, mu_at]
            have hq47_ := i_full (mv38 44 4)
            refine T_mu gq41_ kq42_ (rn_44_4 _) (nw_44 _) (i := 4) rfl ⟨by decide, by decide, Or.inr ⟨by decide, by decide⟩⟩ ?_
            intro mv46 hq48_ gq49_ kq50_
            have hq51_ : (mv46 14 a2.toNatClampNeg).toInt = (mv38 14 a2.toNatClampNeg).toInt := by rw [hq48_, mu_ne (Or.inl (by decide))]
            have hq52_ : (mv46 4 xv12.toNatClampNeg).toInt = (mv38 4 xv12.toNatClampNeg).toInt := by rw [hq48_, mu_ne (Or.inl (by decide))]
            have hq53_ : (mv46 44 6).toInt = (mv38 44 6).toInt := by rw [hq48_, mu_ne (Or.inr (by decide))]
            have hq54_ : (mv46 44 4).toInt = ((mv38 44 4) + (1 : Int32)).toInt := by rw [hq48_, mu_at]
            refine T_qc (t_X0_attempt_c7 hn hj a2 xv12 xv14 mv46 gq49_ (i_rng (lo := 0) (hi := 7) rfl (by omega) (by omega)) (i_rng (lo := 0) (hi := 11) rfl (by omega) (by omega)) (i_rng (lo := 0) (hi := 8) rfl (by omega) (by omega))) ?_
            rintro rv55 mv56 ⟨hq57_, gq58_, kq59_⟩
            have kq60_ := Sm.call kq50_ kq59_ rfl
            have hq61_ : (mv56 14 a2.toNatClampNeg).toInt = (mv46 14 a2.toNatClampNeg).toInt := by rw [kq59_ 14 _ (outc rfl)]
            have hq62_ : (mv56 4 xv12.toNatClampNeg).toInt = (mv46 4 xv12.toNatClampNeg).toInt := by rw [kq59_ 4 _ (outc rfl)]
            have hq63_ : (mv56 44 6).toInt = (mv46 44 6).toInt := by rw [kq59_ 44 6 (by decide)]
            have hq64_ : (mv56 44 4).toInt = (mv46 44 4).toInt := by rw [kq59_ 44 4 (by decide)]
            refine T_qc (t_X0_noteOutcome hn (mv46 7 9) a2 xv12 rv55 mv56 gq58_ (i_rng (lo := 0) (hi := 7) rfl (by omega) (by omega)) (i_rng (lo := 0) (hi := 11) rfl (by omega) (by omega)) (i_rng (lo := (-2)) (hi := 1) rfl (by omega) (by omega))) ?_
            rintro rv65 mv66 ⟨hq67_, gq68_, kq69_⟩
            have kq70_ := Sm.call kq60_ kq69_ rfl
            have hq71_ : (mv66 14 a2.toNatClampNeg).toInt = (mv56 14 a2.toNatClampNeg).toInt := by rw [kq69_ 14 _ (outc rfl)]
            have hq72_ : (mv66 4 xv12.toNatClampNeg).toInt = (mv56 4 xv12.toNatClampNeg).toInt := by rw [kq69_ 4 _ (outc rfl)]
            have hq73_ : (mv66 44 6).toInt = (mv56 44 6).toInt := by rw [kq69_ 44 6 (by decide)]
            have hq74_ : (mv66 44 4).toInt = (mv56 44 4).toInt := by rw [kq69_ 44 4 (by decide)]
            unfold f_X0_doSteps_162
            try simp only [Nat.reduceAdd]
            refine T_qg rfl (by omega) (by omega) ?_
            refine T_mu gq68_ kq70_ (i_rng (lo := 0) (hi := 40) (i_add rfl l_1 (by omega) (by omega)) (by omega) (by omega)) (nw_15 _) (i := 1) rfl ⟨by decide, by decide, Or.inl rfl⟩ ?_
            intro mv75 hq76_ gq77_ kq78_
            have hq79_ : (mv75 14 a2.toNatClampNeg).toInt = (mv66 14 a2.toNatClampNeg).toInt := by rw [hq76_, mu_ne (Or.inl (by decide))]
            have hq80_ : (mv75 4 xv12.toNatClampNeg).toInt = (mv66 4 xv12.toNatClampNeg).toInt := by rw [hq76_, mu_ne (Or.inl (by decide))]
            have hq81_ : (mv75 44 6).toInt = (mv66 44 6).toInt := by rw [hq76_, mu_ne (Or.inl (by decide))]
            have hq82_ : (mv75 44 4).toInt = (mv66 44 4).toInt := by rw [hq76_, mu_ne (Or.inl (by decide))]
            have hq83_ : (mv75 15 a2.toNatClampNeg).toInt = (a4.toInt + 1) := by rw [hq76_, mu_at]; exact (i_add rfl l_1 (by omega) (by omega))
            refine T_ql (i_add rfl l_1 (by omega) (by omega)) ?_
            intro xv84 hq85_
            exact ih a2 xv36 xv84 mv75 gq77_ kq78_ (i_rng (lo := 0) (hi := 7) rfl (by omega) (by omega)) (i_rng (lo := 0) (hi := 40) rfl (by omega) (by omega)) (by omega)
          · exact T_ret ⟨(i_rng (lo := 0) (hi := 0) l_0 (by omega) (by omega)), hG, hS⟩
        · refine T_eq rfl rfl (fun hq86_ => ?_) (fun hq86_ => ?_)
          · unfold f_X0_doSteps_162
            try simp only [Nat.reduceAdd]
            refine T_qg rfl (by omega) (by omega) ?_
            refine T_mu hG hS (i_rng (lo := 0) (hi := 40) (i_add rfl l_1 (by omega) (by omega)) (by omega) (by omega)) (nw_15 _) (i := 1) rfl ⟨by decide, by decide, Or.inl rfl⟩ ?_
            intro mv87 hq88_ gq89_ kq90_
            have hq91_ : (mv87 14 a2.toNatClampNeg).toInt = (M 14 a2.toNatClampNeg).toInt := by rw [hq88_, mu_ne (Or.inl (by decide))]
            have hq92_ : (mv87 15 a2.toNatClampNeg).toInt = (a4.toInt + 1) := by rw [hq88_, mu_at]; exact (i_add rfl l_1 (by omega) (by omega))
            refine T_ql (i_add rfl l_1 (by omega) (by omega)) ?_
            intro xv93 hq94_
            exact ih a2 a3 xv93 mv87 gq89_ kq90_ (i_rng (lo := 0) (hi := 7) rfl (by omega) (by omega)) (i_rng (lo := 0) (hi := 40) rfl (by omega) (by omega)) (by omega)
          · refine T_qc (t_X10_knows_c7 hn xv14 M hG ) ?_
            rintro rv95 mv96 ⟨hq97_, hq98_, gq99_, kq100_⟩
            have hq101_ := kq100_.nil
            subst hq101_
            refine T_eq rfl l_0 (fun hq102_ => ?_) (fun hq102_ => ?_)
            · unfold f_X0_doSteps_162
              try simp only [Nat.reduceAdd]
              refine T_qg rfl (by omega) (by omega) ?_
              refine T_mu hG hS (i_rng (lo := 0) (hi := 40) (i_add rfl l_1 (by omega) (by omega)) (by omega) (by omega)) (nw_15 _) (i := 1) rfl ⟨by decide, by decide, Or.inl rfl⟩ ?_
              intro mv103 hq104_ gq105_ kq106_
              have hq107_ : (mv103 14 a2.toNatClampNeg).toInt = (M 14 a2.toNatClampNeg).toInt := by rw [hq104_, mu_ne (Or.inl (by decide))]
              have hq108_ : (mv103 15 a2.toNatClampNeg).toInt = (a4.toInt + 1) := by rw [hq104_, mu_at]; exact (i_add rfl l_1 (by omega) (by omega))
              refine T_ql (i_add rfl l_1 (by omega) (by omega)) ?_
              intro xv109 hq110_
              exact ih a2 a3 xv109 mv103 gq105_ kq106_ (i_rng (lo := 0) (hi := 7) rfl (by omega) (by omega)) (i_rng (lo := 0) (hi := 40) rfl (by omega) (by omega)) (by omega)
            · unfold f_X0_doSteps_84
              try simp only [Nat.reduceAdd]
              refine T_qg rfl (by omega) (by omega) ?_
              refine T_le rfl rfl (fun hq111_ => ?_) (fun hq111_ => ?_)
              · refine T_qg rfl (by omega) (by omega) ?_
                have hq112_ := i_full (a3)
                have hq113_ := i_full (M 4 xv12.toNatClampNeg)
                refine T_ql rfl ?_
                intro xv114 hq115_
                refine T_qg rfl (by omega) (by omega) ?_
                have hq117_ := i_full (M 44 6)
                refine T_mu hG hS (rn_44_6 _) (nw_44 _) (i := 4) rfl ⟨by decide, by decide, Or.inr ⟨by decide, by decide⟩⟩ ?_
                intro mv116 hq118_ gq119_ kq120_
                have hq121_ : (mv116 14 a2.toNatClampNeg).toInt = (M 14 a2.toNatClampNeg).toInt := by rw [hq118_, mu_ne (Or.inl (by decide))]
                have hq122_ : (mv116 4 xv12.toNatClampNeg).toInt = (M 4 xv12.toNatClampNeg).toInt := by rw [hq118_, mu_ne (Or.inl (by decide))]
                have hq123_ : (mv116 44 6).toInt = ((M 44 6) + (M 4 xv12.toNatClampNeg)).toInt := by rw [hq118_, mu_at]
                have hq125_ := i_full (mv116 44 4)
                refine T_mu gq119_ kq120_ (rn_44_4 _) (nw_44 _) (i := 4) rfl ⟨by decide, by decide, Or.inr ⟨by decide, by decide⟩⟩ ?_
                intro mv124 hq126_ gq127_ kq128_
                have hq129_ : (mv124 14 a2.toNatClampNeg).toInt = (mv116 14 a2.toNatClampNeg).toInt := by rw [hq126_, mu_ne (Or.inl (by decide))]
                have hq130_ : (mv124 4 xv12.toNatClampNeg).toInt = (mv116 4 xv12.toNatClampNeg).toInt := by rw [hq126_, mu_ne (Or.inl (by decide))]
                have hq131_ : (mv124 44 6).toInt = (mv116 44 6).toInt := by rw [hq126_, mu_ne (Or.inr (by decide))]
                have hq132_ : (mv124 44 4).toInt = ((mv116 44 4) + (1 : Int32)).toInt := by rw [hq126_, mu_at]
                refine T_qc (t_X0_attempt_c7 hn hj a2 xv12 xv14 mv124 gq127_ (i_rng (lo := 0) (hi := 7) rfl (by omega) (by omega)) (i_rng (lo := 0) (hi := 11) rfl (by omega) (by omega)) (i_rng (lo := 0) (hi := 8) rfl (by omega) (by omega))) ?_
                rintro rv133 mv134 ⟨hq135_, gq136_, kq137_⟩
                have kq138_ := Sm.call kq128_ kq137_ rfl
                have hq139_ : (mv134 14 a2.toNatClampNeg).toInt = (mv124 14 a2.toNatClampNeg).toInt := by rw [kq137_ 14 _ (outc rfl)]
                have hq140_ : (mv134 4 xv12.toNatClampNeg).toInt = (mv124 4 xv12.toNatClampNeg).toInt := by rw [kq137_ 4 _ (outc rfl)]
                have hq141_ : (mv134 44 6).toInt = (mv124 44 6).toInt := by rw [kq137_ 44 6 (by decide)]
                have hq142_ : (mv134 44 4).toInt = (mv124 44 4).toInt := by rw [kq137_ 44 4 (by decide)]
                refine T_qc (t_X0_noteOutcome hn (mv124 7 9) a2 xv12 rv133 mv134 gq136_ (i_rng (lo := 0) (hi := 7) rfl (by omega) (by omega)) (i_rng (lo := 0) (hi := 11) rfl (by omega) (by omega)) (i_rng (lo := (-2)) (hi := 1) rfl (by omega) (by omega))) ?_
                rintro rv143 mv144 ⟨hq145_, gq146_, kq147_⟩
                have kq148_ := Sm.call kq138_ kq147_ rfl
                have hq149_ : (mv144 14 a2.toNatClampNeg).toInt = (mv134 14 a2.toNatClampNeg).toInt := by rw [kq147_ 14 _ (outc rfl)]
                have hq150_ : (mv144 4 xv12.toNatClampNeg).toInt = (mv134 4 xv12.toNatClampNeg).toInt := by rw [kq147_ 4 _ (outc rfl)]
                have hq151_ : (mv144 44 6).toInt = (mv134 44 6).toInt := by rw [kq147_ 44 6 (by decide)]
                have hq152_ : (mv144 44 4).toInt = (mv134 44 4).toInt := by rw [kq147_ 44 4 (by decide)]
                unfold f_X0_doSteps_162
                try simp only [Nat.reduceAdd]
                refine T_qg rfl (by omega) (by omega) ?_
                refine T_mu gq146_ kq148_ (i_rng (lo := 0) (hi := 40) (i_add rfl l_1 (by omega) (by omega)) (by omega) (by omega)) (nw_15 _) (i := 1) rfl ⟨by decide, by decide, Or.inl rfl⟩ ?_
                intro mv153 hq154_ gq155_ kq156_
                have hq157_ : (mv153 14 a2.toNatClampNeg).toInt = (mv144 14 a2.toNatClampNeg).toInt := by rw [hq154_, mu_ne (Or.inl (by decide))]
                have hq158_ : (mv153 4 xv12.toNatClampNeg).toInt = (mv144 4 xv12.toNatClampNeg).toInt := by rw [hq154_, mu_ne (Or.inl (by decide))]
                have hq159_ : (mv153 44 6).toInt = (mv144 44 6).toInt := by rw [hq154_, mu_ne (Or.inl (by decide))]
                have hq160_ : (mv153 44 4).toInt = (mv144 44 4).toInt := by rw [hq154_, mu_ne (Or.inl (by decide))]
                have hq161_ : (mv153 15 a2.toNatClampNeg).toInt = (a4.toInt + 1) := by rw [hq154_, mu_at]; exact (i_add rfl l_1 (by omega) (by omega))
                refine T_ql (i_add rfl l_1 (by omega) (by omega)) ?_
                intro xv162 hq163_
                exact ih a2 xv114 xv162 mv153 gq155_ kq156_ (i_rng (lo := 0) (hi := 7) rfl (by omega) (by omega)) (i_rng (lo := 0) (hi := 40) rfl (by omega) (by omega)) (by omega)
              · exact T_ret ⟨(i_rng (lo := 0) (hi := 0) l_0 (by omega) (by omega)), hG, hS⟩
theorem t_X0_doSteps_c7 {n : Nat} (hn : 200000 ≤ n) {j : Nat} (hj : q_isLaw j) (a2 : Int32) (M : qM) (hG : G M) (pa2 : 0 ≤ a2.toInt ∧ a2.toInt ≤ 7) : qT (f_X0_doSteps n 7 j a2 M) (po_X0_doSteps_c7 a2 M) := by
  have hS : Sm l_X0_doSteps_c7 M M := Sm.rf
  unfold f_X0_doSteps
  try simp only [Nat.reduceAdd]
  refine T_qg rfl (by omega) (by omega) ?_
  have hq164_ := r_15 hG a2.toNatClampNeg
  refine T_ql rfl ?_
  intro xv165 hq166_
  exact (t_X0_doSteps_c7_11 hn hj) n a2 (12 : Int32) xv165 M hG hS (i_rng (lo := 0) (hi := 7) rfl (by omega) (by omega)) (i_rng (lo := 0) (hi := 40) rfl (by omega) (by omega)) (by have e1 : ((12 : Int32)).toInt = _ := l_12; omega)

abbrev l_X0_goDays_c7 : List Bx := [(7, 8, 9, 10), (9, 12, 0, 0), (15, 16, 0, 0), (34, 35, 4, 5), (35, 37, 0, 0), (44, 45, 2, 10)]
abbrev po_X0_goDays_c7 (a2 : Int32) (M : qM) (v : Int32) (M' : qM) : Prop := (0 ≤ v.toInt ∧ v.toInt ≤ 0) ∧ (((9999 ≤ (M 7 9).toInt ∧ (M' 7 9).toInt = (M 7 9).toInt) ∨ ((M 7 9).toInt < 9999 ∧ (M 7 9).toInt + a2.toInt ≤ 9999 ∧ (M' 7 9).toInt = (M 7 9).toInt + a2.toInt) ∨ ((M 7 9).toInt < 9999 ∧ 9999 < (M 7 9).toInt + a2.toInt ∧ (M' 7 9).toInt = 9999))) ∧ G M' ∧ Sm l_X0_goDays_c7 M M'
theorem t_X0_goDays_c7_53 {n : Nat} (hn : 200000 ≤ n) {j : Nat} (hj : q_isLaw j) {oa2 : Int32} {M0 : qM} {K35 : Int32 → Int32 → qM → qR} {BK35 : Nat} (hK35 : ∀ (a2 a3 : Int32) (M : qM), G M → Sm l_X0_goDays_c7 M0 M → 1 ≤ a2.toInt ∧ a2.toInt ≤ 60 → (-2147483633) ≤ a3.toInt ∧ a3.toInt ≤ 60 → (a2.toInt = oa2.toInt ∧ a3.toInt ≤ a2.toInt ∧ ((a3.toInt = 0 ∧ (M 7 9).toInt = (M0 7 9).toInt) ∨ ((M0 7 9).toInt < 9999 ∧ (M 7 9).toInt = (M0 7 9).toInt + a3.toInt ∧ (M 7 9).toInt ≤ 9999))) → 60 - a3.toInt < (BK35 : Int) → qT (K35 a2 a3 M) (po_X0_goDays_c7 oa2 M0)) : ∀ (m : Nat) (a2 a3 a4 : Int32) (M : qM), G M → Sm l_X0_goDays_c7 M0 M → 1 ≤ a2.toInt ∧ a2.toInt ≤ 60 → (-2147483634) ≤ a3.toInt ∧ a3.toInt ≤ 59 → 0 ≤ a4.toInt ∧ a4.toInt ≤ 8 → (a2.toInt = oa2.toInt ∧ a3.toInt ≤ a2.toInt ∧ ((a3.toInt = 0 ∧ (M 7 9).toInt = (M0 7 9).toInt) ∨ ((M0 7 9).toInt < 9999 ∧ (M 7 9).toInt = (M0 7 9).toInt + a3.toInt ∧ (M 7 9).toInt ≤ 9999)) ∧ (M 7 9).toInt < 9999 ∧ a3.toInt < a2.toInt) → 60 - a3.toInt < (BK35 : Int) + 1 → 8 - a4.toInt < (m : Int) → qT (f_X0_goDays_53 n 7 j K35 m a2 a3 a4 M) (po_X0_goDays_c7 oa2 M0) := by
  intro m
  induction m with
  | zero =>
    intro a2 a3 a4 M hG hS i0 i1 i2 hE i6 i7
    exfalso; omega
  | succ m ih =>
    intro a2 a3 a4 M hG hS i0 i1 i2 hE i6 i7
    show qT (b_X0_goDays_53 n 7 j K35 (f_X0_goDays_53 n 7 j K35 m) a2 a3 a4 M) _
    unfold b_X0_goDays_53
    try simp only [Nat.reduceAdd]
    refine T_le l_8 rfl (fun hq10_ => ?_) (fun hq10_ => ?_)
    · have hq12_ := i_full (M 7 9)
      refine T_mu hG hS (rn_7_9 _) (nw_7 _) (i := 0) rfl ⟨by decide, by decide, Or.inr ⟨by decide, by decide⟩⟩ ?_
      intro mv11 hq13_ gq14_ kq15_
      have hq16_ : (mv11 7 9).toInt = ((M 7 9).toInt + 1) := by rw [hq13_, mu_at]; exact (i_add rfl l_1 (by omega) (by omega))
      refine T_ql (i_add rfl l_1 (by omega) (by omega)) ?_
      intro xv17 hq18_
      exact hK35 a2 xv17 mv11 gq14_ kq15_ (i_rng (lo := 1) (hi := 60) rfl (by omega) (by omega)) (i_rng (lo := (-2147483633)) (hi := 60) rfl (by omega) (by omega)) (by omega) (by omega)
    · refine T_qc (t_X10_knows_c7 hn a4 M hG ) ?_
      rintro rv19 mv20 ⟨hq21_, hq22_, gq23_, kq24_⟩
      have hq25_ := kq24_.nil
      subst hq25_
      refine T_eq rfl l_0 (fun hq26_ => ?_) (fun hq26_ => ?_)
      · refine T_ql (i_add rfl l_1 (by omega) (by omega)) ?_
        intro xv27 hq28_
        exact ih a2 a3 xv27 M hG hS (i_rng (lo := 1) (hi := 60) rfl (by omega) (by omega)) (i_rng (lo := (-2147483634)) (hi := 59) rfl (by omega) (by omega)) (i_rng (lo := 0) (hi := 8) rfl (by omega) (by omega)) (by omega) (by omega) (by omega)
      · refine T_qc (t_X0_doSteps_c7 hn hj a4 M hG (i_rng (lo := 0) (hi := 7) rfl (by omega) (by omega))) ?_
        rintro rv29 mv30 ⟨hq31_, gq32_, kq33_⟩
        have kq34_ := Sm.call hS kq33_ rfl
        have hq35_ : (mv30 7 9).toInt = (M 7 9).toInt := by rw [kq33_ 7 9 (by decide)]
        refine T_ql (i_add rfl l_1 (by omega) (by omega)) ?_
        intro xv36 hq37_
        exact ih a2 a3 xv36 mv30 gq32_ kq34_ (i_rng (lo := 1) (hi := 60) rfl (by omega) (by omega)) (i_rng (lo := (-2147483634)) (hi := 59) rfl (by omega) (by omega)) (i_rng (lo := 0) (hi := 8) rfl (by omega) (by omega)) (by omega) (by omega) (by omega)
theorem t_X0_goDays_c7_35 {n : Nat} (hn : 200000 ≤ n) {j : Nat} (hj : q_isLaw j) {oa2 : Int32} {M0 : qM} : ∀ (m : Nat) (a2 a3 : Int32) (M : qM), G M → Sm l_X0_goDays_c7 M0 M → 1 ≤ a2.toInt ∧ a2.toInt ≤ 60 → (-2147483633) ≤ a3.toInt ∧ a3.toInt ≤ 60 → (a2.toInt = oa2.toInt ∧ a3.toInt ≤ a2.toInt ∧ ((a3.toInt = 0 ∧ (M 7 9).toInt = (M0 7 9).toInt) ∨ ((M0 7 9).toInt < 9999 ∧ (M 7 9).toInt = (M0 7 9).toInt + a3.toInt ∧ (M 7 9).toInt ≤ 9999))) → 60 - a3.toInt < (m : Int) → qT (f_X0_goDays_35 n 7 j m a2 a3 M) (po_X0_goDays_c7 oa2 M0) := by
  intro m
  induction m with
  | zero =>
    intro a2 a3 M hG hS i0 i1 hE i5
    exfalso; omega
  | succ m ih =>
    intro a2 a3 M hG hS i0 i1 hE i5
    show qT (b_X0_goDays_35 n 7 j (f_X0_goDays_35 n 7 j m) a2 a3 M) _
    unfold b_X0_goDays_35
    try simp only [Nat.reduceAdd]
    refine T_le rfl rfl (fun hq41_ => ?_) (fun hq41_ => ?_)
    · exact T_ret ⟨(i_rng (lo := 0) (hi := 0) l_0 (by omega) (by omega)), (by have e9 : (0 : Int32).toInt = _ := l_0; omega), hG, hS⟩
    · refine T_le l_9999 rfl (fun hq42_ => ?_) (fun hq42_ => ?_)
      · exact T_ret ⟨(i_rng (lo := 0) (hi := 0) l_0 (by omega) (by omega)), (by have e9 : (0 : Int32).toInt = _ := l_0; omega), hG, hS⟩
      · exact (t_X0_goDays_c7_53 hn hj ih) n a2 a3 (0 : Int32) M hG hS (i_rng (lo := 1) (hi := 60) rfl (by omega) (by omega)) (i_rng (lo := (-2147483634)) (hi := 59) rfl (by omega) (by omega)) (i_rng (lo := 0) (hi := 8) l_0 (by omega) (by omega)) (by have e2 : ((0 : Int32)).toInt = _ := l_0; omega) (by omega) (by have e2 : ((0 : Int32)).toInt = _ := l_0; omega)
theorem t_X0_goDays_c7 {n : Nat} (hn : 200000 ≤ n) {j : Nat} (hj : q_isLaw j) (a2 : Int32) (M : qM) (hG : G M) (pa2 : 1 ≤ a2.toInt ∧ a2.toInt ≤ 60) : qT (f_X0_goDays n 7 j a2 M) (po_X0_goDays_c7 a2 M) := by
  have hS : Sm l_X0_goDays_c7 M M := Sm.rf
  unfold f_X0_goDays
  try simp only [Nat.reduceAdd]
  refine T_mu hG hS (rn_44_4 _) (nw_44 _) (i := 5) rfl ⟨by decide, by decide, Or.inr ⟨by decide, by decide⟩⟩ ?_
  intro mv43 hq44_ gq45_ kq46_
  have hq47_ : (mv43 7 9).toInt = (M 7 9).toInt := by rw [hq44_, mu_ne (Or.inl (by decide))]
  have hq48_ : (mv43 44 4).toInt = 0 := by rw [hq44_, mu_at]; exact l_0
  refine T_mu gq45_ kq46_ (rn_44_5 _) (nw_44 _) (i := 5) rfl ⟨by decide, by decide, Or.inr ⟨by decide, by decide⟩⟩ ?_
  intro mv49 hq50_ gq51_ kq52_
  have hq53_ : (mv49 7 9).toInt = (mv43 7 9).toInt := by rw [hq50_, mu_ne (Or.inl (by decide))]
  have hq54_ : (mv49 44 4).toInt = (mv43 44 4).toInt := by rw [hq50_, mu_ne (Or.inr (by decide))]
  have hq55_ : (mv49 44 5).toInt = 0 := by rw [hq50_, mu_at]; exact l_0
  refine T_mu gq51_ kq52_ (rn_44_6 _) (nw_44 _) (i := 5) rfl ⟨by decide, by decide, Or.inr ⟨by decide, by decide⟩⟩ ?_
  intro mv56 hq57_ gq58_ kq59_
  have hq60_ : (mv56 7 9).toInt = (mv49 7 9).toInt := by rw [hq57_, mu_ne (Or.inl (by decide))]
  have hq61_ : (mv56 44 4).toInt = (mv49 44 4).toInt := by rw [hq57_, mu_ne (Or.inr (by decide))]
  have hq62_ : (mv56 44 5).toInt = (mv49 44 5).toInt := by rw [hq57_, mu_ne (Or.inr (by decide))]
  have hq63_ : (mv56 44 6).toInt = 0 := by rw [hq57_, mu_at]; exact l_0
  refine T_mu gq58_ kq59_ (rn_44_7 _) (nw_44 _) (i := 5) rfl ⟨by decide, by decide, Or.inr ⟨by decide, by decide⟩⟩ ?_
  intro mv64 hq65_ gq66_ kq67_
  have hq68_ : (mv64 7 9).toInt = (mv56 7 9).toInt := by rw [hq65_, mu_ne (Or.inl (by decide))]
  have hq69_ : (mv64 44 4).toInt = (mv56 44 4).toInt := by rw [hq65_, mu_ne (Or.inr (by decide))]
  have hq70_ : (mv64 44 5).toInt = (mv56 44 5).toInt := by rw [hq65_, mu_ne (Or.inr (by decide))]
  have hq71_ : (mv64 44 6).toInt = (mv56 44 6).toInt := by rw [hq65_, mu_ne (Or.inr (by decide))]
  have hq72_ : (mv64 44 7).toInt = (-2) := by rw [hq65_, mu_at]; exact l_m2
  refine T_mu gq66_ kq67_ (rn_44_8 _) (nw_44 _) (i := 5) rfl ⟨by decide, by decide, Or.inr ⟨by decide, by decide⟩⟩ ?_
  intro mv73 hq74_ gq75_ kq76_
  have hq77_ : (mv73 7 9).toInt = (mv64 7 9).toInt := by rw [hq74_, mu_ne (Or.inl (by decide))]
  have hq78_ : (mv73 44 4).toInt = (mv64 44 4).toInt := by rw [hq74_, mu_ne (Or.inr (by decide))]
  have hq79_ : (mv73 44 5).toInt = (mv64 44 5).toInt := by rw [hq74_, mu_ne (Or.inr (by decide))]
  have hq80_ : (mv73 44 6).toInt = (mv64 44 6).toInt := by rw [hq74_, mu_ne (Or.inr (by decide))]
  have hq81_ : (mv73 44 7).toInt = (mv64 44 7).toInt := by rw [hq74_, mu_ne (Or.inr (by decide))]
  have hq82_ : (mv73 44 8).toInt = (-2) := by rw [hq74_, mu_at]; exact l_m2
  refine T_mu gq75_ kq76_ (rn_44_9 _) (nw_44 _) (i := 5) rfl ⟨by decide, by decide, Or.inr ⟨by decide, by decide⟩⟩ ?_
  intro mv83 hq84_ gq85_ kq86_
  have hq87_ : (mv83 7 9).toInt = (mv73 7 9).toInt := by rw [hq84_, mu_ne (Or.inl (by decide))]
  have hq88_ : (mv83 44 4).toInt = (mv73 44 4).toInt := by rw [hq84_, mu_ne (Or.inr (by decide))]
  have hq89_ : (mv83 44 5).toInt = (mv73 44 5).toInt := by rw [hq84_, mu_ne (Or.inr (by decide))]
  have hq90_ : (mv83 44 6).toInt = (mv73 44 6).toInt := by rw [hq84_, mu_ne (Or.inr (by decide))]
  have hq91_ : (mv83 44 7).toInt = (mv73 44 7).toInt := by rw [hq84_, mu_ne (Or.inr (by decide))]
  have hq92_ : (mv83 44 8).toInt = (mv73 44 8).toInt := by rw [hq84_, mu_ne (Or.inr (by decide))]
  have hq93_ : (mv83 44 9).toInt = (-2) := by rw [hq84_, mu_at]; exact l_m2
  exact (t_X0_goDays_c7_35 hn hj) n a2 (0 : Int32) mv83 gq85_ kq86_ (i_rng (lo := 1) (hi := 60) rfl (by omega) (by omega)) (i_rng (lo := (-2147483633)) (hi := 60) l_0 (by omega) (by omega)) (by have e1 : ((0 : Int32)).toInt = _ := l_0; omega) (by have e1 : ((0 : Int32)).toInt = _ := l_0; omega)
abbrev l_X11_days : List Bx := [(7, 8, 9, 10), (9, 12, 0, 0), (15, 16, 0, 0), (34, 35, 4, 5), (35, 37, 0, 0), (44, 45, 2, 10)]
abbrev po_X11_days (a1 : Int32) (M : qM) (v : Int32) (M' : qM) : Prop := ((¬ (1 ≤ a1.toInt ∧ a1.toInt ≤ 60) ∧ (M' 7 9).toInt = (M 7 9).toInt) ∨ (1 ≤ a1.toInt ∧ a1.toInt ≤ 60 ∧ ((9999 ≤ (M 7 9).toInt ∧ (M' 7 9).toInt = (M 7 9).toInt) ∨ ((M 7 9).toInt < 9999 ∧ (M 7 9).toInt + a1.toInt ≤ 9999 ∧ (M' 7 9).toInt = (M 7 9).toInt + a1.toInt) ∨ ((M 7 9).toInt < 9999 ∧ 9999 < (M 7 9).toInt + a1.toInt ∧ (M' 7 9).toInt = 9999)))) ∧ G M' ∧ Sm l_X11_days M M'
theorem t_X11_days {n : Nat} (hn : 200000 ≤ n) {j : Nat} (hj : q_isLaw j) (a1 : Int32) (M : qM) (hG : G M) : qT (f_X11_days n j a1 M) (po_X11_days a1 M) := by
  have hS : Sm l_X11_days M M := Sm.rf
  unfold f_X11_days
  refine T_lt rfl l_1 (fun hq1_ => ?_) (fun hq1_ => ?_)
  · exact T_ret ⟨(by have e9 : ((-1 : Int32)).toInt = _ := l_m1; omega), hG, hS⟩
  · refine T_le rfl l_60 (fun hq2_ => ?_) (fun hq2_ => ?_)
    · refine T_qc (t_X0_goDays_c7 hn hj a1 M hG (i_rng (lo := 1) (hi := 60) rfl (by omega) (by omega))) ?_
      rintro rv3 mv4 ⟨hq5_, hq6_, gq7_, kq8_⟩
      have kq9_ := Sm.call hS kq8_ rfl
      exact T_ret ⟨(by have e9 : (mv4 44 5).toInt = _ := rfl; omega), gq7_, kq9_⟩
    · exact T_ret ⟨(by have e9 : ((-1 : Int32)).toInt = _ := l_m1; omega), hG, hS⟩
abbrev l_X12_notesTry : List Bx := [(77, 78, 37, 43)]
abbrev po_X12_notesTry (a1 a2 a3 : Int32) (M : qM) (v : Int32) (M' : qM) : Prop := (0 ≤ v.toInt ∧ v.toInt ≤ 0) ∧ G M' ∧ Sm l_X12_notesTry M M'
theorem t_X12_notesTry {n : Nat} (hn : 200000 ≤ n) (a1 a2 a3 : Int32) (M : qM) (hG : G M) (pa1 : 0 ≤ a1.toInt ∧ a1.toInt ≤ 7) (pa2 : 0 ≤ a2.toInt ∧ a2.toInt ≤ 11) (pa3 : (-2) ≤ a3.toInt ∧ a3.toInt ≤ 1) : qT (f_X12_notesTry n a1 a2 a3 M) (po_X12_notesTry a1 a2 a3 M) := by
  have hS : Sm l_X12_notesTry M M := Sm.rf
  unfold f_X12_notesTry
  have hq2_ := i_full (M 77 37)
  refine T_mu hG hS (rn_77_37 _) nw_77_37 (i := 0) rfl ⟨by decide, by decide, Or.inr ⟨by decide, by decide⟩⟩ ?_
  intro mv1 hq3_ gq4_ kq5_
  have hq6_ : (mv1 77 37).toInt = ((M 77 37) + (1 : Int32)).toInt := by rw [hq3_, mu_at]
  refine T_qg rfl (by omega) (by omega) ?_
  have hq8_ := i_full (mv1 77 39)
  have hq9_ := i_full (mv1 81 a2.toNatClampNeg)
  refine T_mu gq4_ kq5_ (rn_77_39 _) nw_77_39 (i := 0) rfl ⟨by decide, by decide, Or.inr ⟨by decide, by decide⟩⟩ ?_
  intro mv7 hq10_ gq11_ kq12_
  have hq13_ : (mv7 77 37).toInt = (mv1 77 37).toInt := by rw [hq10_, mu_ne (Or.inr (by decide))]
  have hq14_ : (mv7 77 39).toInt = ((mv1 77 39) + (mv1 81 a2.toNatClampNeg)).toInt := by rw [hq10_, mu_at]
  refine T_eq rfl l_1 (fun hq15_ => ?_) (fun hq15_ => ?_)
  · unfold f_X12_notesTry_40
    have hq17_ := i_full (mv7 77 38)
    refine T_mu gq11_ kq12_ (rn_77_38 _) nw_77_38 (i := 0) rfl ⟨by decide, by decide, Or.inr ⟨by decide, by decide⟩⟩ ?_
    intro mv16 hq18_ gq19_ kq20_
    have hq21_ : (mv16 77 37).toInt = (mv7 77 37).toInt := by rw [hq18_, mu_ne (Or.inr (by decide))]
    have hq22_ : (mv16 77 39).toInt = (mv7 77 39).toInt := by rw [hq18_, mu_ne (Or.inr (by decide))]
    have hq23_ : (mv16 77 38).toInt = ((mv7 77 38) + (1 : Int32)).toInt := by rw [hq18_, mu_at]
    refine T_eq rfl l_m2 (fun hq24_ => ?_) (fun hq24_ => ?_)
    · exfalso; omega
    · exact T_ret ⟨(i_rng (lo := 0) (hi := 0) l_0 (by omega) (by omega)), gq19_, kq20_⟩
  · unfold f_X12_notesTry_40
    have hq26_ := i_full (mv7 77 38)
    refine T_mu gq11_ kq12_ (rn_77_38 _) nw_77_38 (i := 0) rfl ⟨by decide, by decide, Or.inr ⟨by decide, by decide⟩⟩ ?_
    intro mv25 hq27_ gq28_ kq29_
    have hq30_ : (mv25 77 37).toInt = (mv7 77 37).toInt := by rw [hq27_, mu_ne (Or.inr (by decide))]
    have hq31_ : (mv25 77 39).toInt = (mv7 77 39).toInt := by rw [hq27_, mu_ne (Or.inr (by decide))]
    have hq32_ : (mv25 77 38).toInt = ((mv7 77 38).toInt + 0) := by rw [hq27_, mu_at]; exact (i_add rfl l_0 (by omega) (by omega))
    refine T_eq rfl l_m2 (fun hq33_ => ?_) (fun hq33_ => ?_)
    · refine T_eq rfl l_m2 (fun hq34_ => ?_) (fun hq34_ => ?_)
      · refine T_mu gq28_ kq29_ (rn_77_40 _) nw_77_40 (i := 0) rfl ⟨by decide, by decide, Or.inr ⟨by decide, by decide⟩⟩ ?_
        intro mv35 hq36_ gq37_ kq38_
        have hq39_ : (mv35 77 37).toInt = (mv25 77 37).toInt := by rw [hq36_, mu_ne (Or.inr (by decide))]
        have hq40_ : (mv35 77 39).toInt = (mv25 77 39).toInt := by rw [hq36_, mu_ne (Or.inr (by decide))]
        have hq41_ : (mv35 77 38).toInt = (mv25 77 38).toInt := by rw [hq36_, mu_ne (Or.inr (by decide))]
        have hq42_ : (mv35 77 40).toInt = (mv25 78 313).toInt := by rw [hq36_, mu_at]
        refine T_mu gq37_ kq38_ (rn_77_41 _) nw_77_41 (i := 0) rfl ⟨by decide, by decide, Or.inr ⟨by decide, by decide⟩⟩ ?_
        intro mv43 hq44_ gq45_ kq46_
        have hq47_ : (mv43 77 37).toInt = (mv35 77 37).toInt := by rw [hq44_, mu_ne (Or.inr (by decide))]
        have hq48_ : (mv43 77 39).toInt = (mv35 77 39).toInt := by rw [hq44_, mu_ne (Or.inr (by decide))]
        have hq49_ : (mv43 77 38).toInt = (mv35 77 38).toInt := by rw [hq44_, mu_ne (Or.inr (by decide))]
        have hq50_ : (mv43 77 40).toInt = (mv35 77 40).toInt := by rw [hq44_, mu_ne (Or.inr (by decide))]
        have hq51_ : (mv43 77 41).toInt = a1.toInt := by rw [hq44_, mu_at]
        refine T_mu gq45_ kq46_ (rn_77_42 _) nw_77_42 (i := 0) rfl ⟨by decide, by decide, Or.inr ⟨by decide, by decide⟩⟩ ?_
        intro mv52 hq53_ gq54_ kq55_
        have hq56_ : (mv52 77 37).toInt = (mv43 77 37).toInt := by rw [hq53_, mu_ne (Or.inr (by decide))]
        have hq57_ : (mv52 77 39).toInt = (mv43 77 39).toInt := by rw [hq53_, mu_ne (Or.inr (by decide))]
        have hq58_ : (mv52 77 38).toInt = (mv43 77 38).toInt := by rw [hq53_, mu_ne (Or.inr (by decide))]
        have hq59_ : (mv52 77 40).toInt = (mv43 77 40).toInt := by rw [hq53_, mu_ne (Or.inr (by decide))]
        have hq60_ : (mv52 77 41).toInt = (mv43 77 41).toInt := by rw [hq53_, mu_ne (Or.inr (by decide))]
        have hq61_ : (mv52 77 42).toInt = a2.toInt := by rw [hq53_, mu_at]
        exact T_ret ⟨(i_rng (lo := 0) (hi := 0) l_0 (by omega) (by omega)), gq54_, kq55_⟩
      · exact T_ret ⟨(i_rng (lo := 0) (hi := 0) l_0 (by omega) (by omega)), gq28_, kq29_⟩
    · exact T_ret ⟨(i_rng (lo := 0) (hi := 0) l_0 (by omega) (by omega)), gq28_, kq29_⟩

abbrev l_X12_dayOf : List Bx := [(77, 78, 37, 43), (78, 79, 0, 288), (78, 79, 304, 312), (96, 98, 0, 0)]
abbrev po_X12_dayOf (a1 : Int32) (M : qM) (v : Int32) (M' : qM) : Prop := (0 ≤ v.toInt ∧ v.toInt ≤ 0) ∧ G M' ∧ Sm l_X12_dayOf M M'
theorem t_X12_dayOf_3 {n : Nat} (hn : 200000 ≤ n) {oa1 : Int32} {M0 : qM} : ∀ (m : Nat) (a1 a2 : Int32) (M : qM), G M → Sm l_X12_dayOf M0 M → 0 ≤ a1.toInt ∧ a1.toInt ≤ 7 → 40 - (M 78 ((304 : Int32) + a1).toNatClampNeg).toInt < (m : Int) → qT (f_X12_dayOf_3 n m a1 a2 M) (po_X12_dayOf oa1 M0) := by
  intro m
  induction m with
  | zero =>
    intro a1 a2 M hG hS i0 i3
    have hq1_ := r78 (c := 78) (s := (((304 : Int32) + a1).toNatClampNeg)) hG (by decide) (by rw [tnc, (i_add l_304 rfl (by omega) (by omega))]; omega) (by rw [tnc, (i_add l_304 rfl (by omega) (by omega))]; omega)
    have hq2_ := r78 (c := 78) (s := (((296 : Int32) + a1).toNatClampNeg)) hG (by decide) (by rw [tnc, (i_add l_296 rfl (by omega) (by omega))]; omega) (by rw [tnc, (i_add l_296 rfl (by omega) (by omega))]; omega)
    exfalso; omega
  | succ m ih =>
    intro a1 a2 M hG hS i0 i3
    show qT (b_X12_dayOf_3 n (f_X12_dayOf_3 n m) a1 a2 M) _
    unfold b_X12_dayOf_3
    have hq1_ := r78 (c := 78) (s := (((304 : Int32) + a1).toNatClampNeg)) hG (by decide) (by rw [tnc, (i_add l_304 rfl (by omega) (by omega))]; omega) (by rw [tnc, (i_add l_304 rfl (by omega) (by omega))]; omega)
    have hq2_ := r78 (c := 78) (s := (((296 : Int32) + a1).toNatClampNeg)) hG (by decide) (by rw [tnc, (i_add l_296 rfl (by omega) (by omega))]; omega) (by rw [tnc, (i_add l_296 rfl (by omega) (by omega))]; omega)
    refine T_qg (i_add l_304 rfl (by omega) (by omega)) (by omega) (by omega) ?_
    refine T_qg (i_add l_296 rfl (by omega) (by omega)) (by omega) (by omega) ?_
    refine T_le rfl rfl (fun hq3_ => ?_) (fun hq3_ => ?_)
    · exact T_ret ⟨(i_rng (lo := 0) (hi := 0) l_0 (by omega) (by omega)), hG, hS⟩
    · refine T_qg (i_add l_304 rfl (by omega) (by omega)) (by omega) (by omega) ?_
      refine T_ql (i_add (i_mul l_40 rfl (by omega) (by omega)) rfl (by omega) (by omega)) ?_
      intro xv4 hq5_
      refine T_qg (i_add l_314 rfl (by omega) (by omega)) (by omega) (by omega) ?_
      refine T_ql rfl ?_
      intro xv6 hq7_
      refine T_qg (i_add l_634 rfl (by omega) (by omega)) (by omega) (by omega) ?_
      refine T_ql rfl ?_
      intro xv8 hq9_
      refine T_qc (t_X12_isKind hn xv6 M hG ) ?_
      rintro rv10 mv11 ⟨hq12_, hq13_, gq14_, kq15_⟩
      have hq16_ := kq15_.nil
      subst hq16_
      refine T_eq rfl l_0 (fun hq17_ => ?_) (fun hq17_ => ?_)
      · unfold f_X12_dayOf_101
        unfold f_X12_dayOf_102
        refine T_eq l_0 l_0 (fun hq18_ => ?_) (fun hq18_ => ?_)
        · unfold f_X12_dayOf_121
          refine T_qg (i_add l_304 rfl (by omega) (by omega)) (by omega) (by omega) ?_
          refine T_qg (i_add l_304 rfl (by omega) (by omega)) (by omega) (by omega) ?_
          refine T_mu hG hS (ri78 (by decide) (i_rng (lo := 0) (hi := 40) (i_add rfl l_1 (by omega) (by omega)) (by omega) (by omega))) (nw_78 _) (i := 2) rfl ⟨by decide, by decide, Or.inr ⟨(show 304 ≤ _ by rw [tnc, (i_add l_304 rfl (by omega) (by omega))]; omega), (show _ < 312 by rw [tnc, (i_add l_304 rfl (by omega) (by omega))]; omega)⟩⟩ ?_
          intro mv19 hq20_ gq21_ kq22_
          have hq23_ : (mv19 78 (((304 : Int32) + a1).toNatClampNeg)).toInt = ((M 78 (((304 : Int32) + a1).toNatClampNeg)).toInt + 1) := by rw [hq20_, mu_at]; exact (i_add rfl l_1 (by omega) (by omega))
          refine T_eq l_0 l_0 (fun hq24_ => ?_) (fun hq24_ => ?_)
          · have hq25_ := r78 (c := 78) (s := (((304 : Int32) + a1).toNatClampNeg)) gq21_ (by decide) (by rw [tnc, (i_add l_304 rfl (by omega) (by omega))]; omega) (by rw [tnc, (i_add l_304 rfl (by omega) (by omega))]; omega)
            have hq26_ := r78 (c := 78) (s := (((296 : Int32) + a1).toNatClampNeg)) gq21_ (by decide) (by rw [tnc, (i_add l_296 rfl (by omega) (by omega))]; omega) (by rw [tnc, (i_add l_296 rfl (by omega) (by omega))]; omega)
            exact ih a1 a2 mv19 gq21_ kq22_ (i_rng (lo := 0) (hi := 7) rfl (by omega) (by omega)) (by omega)
          · exfalso; omega
        · exfalso; omega
      · refine T_eq rfl rfl (fun hq27_ => ?_) (fun hq27_ => ?_)
        · unfold f_X12_dayOf_101
          unfold f_X12_dayOf_102
          refine T_eq l_0 l_0 (fun hq28_ => ?_) (fun hq28_ => ?_)
          · unfold f_X12_dayOf_121
            refine T_qg (i_add l_304 rfl (by omega) (by omega)) (by omega) (by omega) ?_
            refine T_qg (i_add l_304 rfl (by omega) (by omega)) (by omega) (by omega) ?_
            refine T_mu hG hS (ri78 (by decide) (i_rng (lo := 0) (hi := 40) (i_add rfl l_1 (by omega) (by omega)) (by omega) (by omega))) (nw_78 _) (i := 2) rfl ⟨by decide, by decide, Or.inr ⟨(show 304 ≤ _ by rw [tnc, (i_add l_304 rfl (by omega) (by omega))]; omega), (show _ < 312 by rw [tnc, (i_add l_304 rfl (by omega) (by omega))]; omega)⟩⟩ ?_
            intro mv29 hq30_ gq31_ kq32_
            have hq33_ : (mv29 78 (((304 : Int32) + a1).toNatClampNeg)).toInt = ((M 78 (((304 : Int32) + a1).toNatClampNeg)).toInt + 1) := by rw [hq30_, mu_at]; exact (i_add rfl l_1 (by omega) (by omega))
            refine T_eq l_0 l_0 (fun hq34_ => ?_) (fun hq34_ => ?_)
            · have hq35_ := r78 (c := 78) (s := (((304 : Int32) + a1).toNatClampNeg)) gq31_ (by decide) (by rw [tnc, (i_add l_304 rfl (by omega) (by omega))]; omega) (by rw [tnc, (i_add l_304 rfl (by omega) (by omega))]; omega)
              have hq36_ := r78 (c := 78) (s := (((296 : Int32) + a1).toNatClampNeg)) gq31_ (by decide) (by rw [tnc, (i_add l_296 rfl (by omega) (by omega))]; omega) (by rw [tnc, (i_add l_296 rfl (by omega) (by omega))]; omega)
              exact ih a1 a2 mv29 gq31_ kq32_ (i_rng (lo := 0) (hi := 7) rfl (by omega) (by omega)) (by omega)
            · exfalso; omega
          · exfalso; omega
        · refine T_eq rfl l_8 (fun hq37_ => ?_) (fun hq37_ => ?_)
          · unfold f_X12_dayOf_102
            refine T_eq l_1 l_0 (fun hq38_ => ?_) (fun hq38_ => ?_)
            · exfalso; omega
            · refine T_qg rfl (by omega) (by omega) ?_
              refine T_le rfl rfl (fun hq39_ => ?_) (fun hq39_ => ?_)
              · unfold f_X12_dayOf_121
                refine T_qg (i_add l_304 rfl (by omega) (by omega)) (by omega) (by omega) ?_
                refine T_qg (i_add l_304 rfl (by omega) (by omega)) (by omega) (by omega) ?_
                refine T_mu hG hS (ri78 (by decide) (i_rng (lo := 0) (hi := 40) (i_add rfl l_1 (by omega) (by omega)) (by omega) (by omega))) (nw_78 _) (i := 2) rfl ⟨by decide, by decide, Or.inr ⟨(show 304 ≤ _ by rw [tnc, (i_add l_304 rfl (by omega) (by omega))]; omega), (show _ < 312 by rw [tnc, (i_add l_304 rfl (by omega) (by omega))]; omega)⟩⟩ ?_
                intro mv40 hq41_ gq42_ kq43_
                have hq44_ : (mv40 81 xv6.toNatClampNeg).toInt = (M 81 xv6.toNatClampNeg).toInt := by rw [hq41_, mu_ne (Or.inl (by decide))]
                have hq45_ : (mv40 78 (((304 : Int32) + a1).toNatClampNeg)).toInt = ((M 78 (((304 : Int32) + a1).toNatClampNeg)).toInt + 1) := by rw [hq41_, mu_at]; exact (i_add rfl l_1 (by omega) (by omega))
                refine T_eq l_1 l_0 (fun hq46_ => ?_) (fun hq46_ => ?_)
                · exfalso; omega
                · refine T_qg rfl (by omega) (by omega) ?_
                  have hq47_ := i_full (a2)
                  have hq48_ := i_full (mv40 81 xv6.toNatClampNeg)
                  refine T_ql rfl ?_
                  intro xv49 hq50_
                  refine T_qc (t_X12_triesNow hn a1 xv6 xv8 mv40 gq42_ (i_rng (lo := 0) (hi := 7) rfl (by omega) (by omega)) (i_rng (lo := 0) (hi := 11) rfl (by omega) (by omega)) (i_rng (lo := 0) (hi := 8) rfl (by omega) (by omega))) ?_
                  rintro rv51 mv52 ⟨hq53_, gq54_, kq55_⟩
                  have kq56_ := Sm.call kq43_ kq55_ rfl
                  have hq57_ : (mv52 81 xv6.toNatClampNeg).toInt = (mv40 81 xv6.toNatClampNeg).toInt := by rw [kq55_ 81 _ (outc rfl)]
                  have hq58_ : (mv52 78 (((304 : Int32) + a1).toNatClampNeg)).toInt = (mv40 78 (((304 : Int32) + a1).toNatClampNeg)).toInt := by rw [kq55_ 78 _ (out78 (lo := 304) (hi := 312) rfl (by rw [tnc, (i_add l_304 rfl (by omega) (by omega))]; omega) (by rw [tnc, (i_add l_304 rfl (by omega) (by omega))]; omega))]
                  refine T_qc (t_X12_notesTry hn a1 xv6 rv51 mv52 gq54_ (i_rng (lo := 0) (hi := 7) rfl (by omega) (by omega)) (i_rng (lo := 0) (hi := 11) rfl (by omega) (by omega)) (i_rng (lo := (-2)) (hi := 1) rfl (by omega) (by omega))) ?_
                  rintro rv59 mv60 ⟨hq61_, gq62_, kq63_⟩
                  have kq64_ := Sm.call kq56_ kq63_ rfl
                  have hq65_ : (mv60 81 xv6.toNatClampNeg).toInt = (mv52 81 xv6.toNatClampNeg).toInt := by rw [kq63_ 81 _ (outc rfl)]
                  have hq66_ : (mv60 78 (((304 : Int32) + a1).toNatClampNeg)).toInt = (mv52 78 (((304 : Int32) + a1).toNatClampNeg)).toInt := by rw [kq63_ 78 _ (out78 (lo := 304) (hi := 312) rfl (by rw [tnc, (i_add l_304 rfl (by omega) (by omega))]; omega) (by rw [tnc, (i_add l_304 rfl (by omega) (by omega))]; omega))]
                  have hq67_ := r78 (c := 78) (s := (((304 : Int32) + a1).toNatClampNeg)) gq62_ (by decide) (by rw [tnc, (i_add l_304 rfl (by omega) (by omega))]; omega) (by rw [tnc, (i_add l_304 rfl (by omega) (by omega))]; omega)
                  have hq68_ := r78 (c := 78) (s := (((296 : Int32) + a1).toNatClampNeg)) gq62_ (by decide) (by rw [tnc, (i_add l_296 rfl (by omega) (by omega))]; omega) (by rw [tnc, (i_add l_296 rfl (by omega) (by omega))]; omega)
                  exact ih a1 xv49 mv60 gq62_ kq64_ (i_rng (lo := 0) (hi := 7) rfl (by omega) (by omega)) (by omega)
              · exact T_ret ⟨(i_rng (lo := 0) (hi := 0) l_0 (by omega) (by omega)), hG, hS⟩
          · refine T_qc (t_X12_isPerson hn xv8 M hG ) ?_
            rintro rv69 mv70 ⟨hq71_, hq72_, gq73_, kq74_⟩
            have hq75_ := kq74_.nil
            subst hq75_
            refine T_eq rfl l_0 (fun hq76_ => ?_) (fun hq76_ => ?_)
            · unfold f_X12_dayOf_101
              unfold f_X12_dayOf_102
              refine T_eq l_0 l_0 (fun hq77_ => ?_) (fun hq77_ => ?_)
              · unfold f_X12_dayOf_121
                refine T_qg (i_add l_304 rfl (by omega) (by omega)) (by omega) (by omega) ?_
                refine T_qg (i_add l_304 rfl (by omega) (by omega)) (by omega) (by omega) ?_
                refine T_mu hG hS (ri78 (by decide) (i_rng (lo := 0) (hi := 40) (i_add rfl l_1 (by omega) (by omega)) (by omega) (by omega))) (nw_78 _) (i := 2) rfl ⟨by decide, by decide, Or.inr ⟨(show 304 ≤ _ by rw [tnc, (i_add l_304 rfl (by omega) (by omega))]; omega), (show _ < 312 by rw [tnc, (i_add l_304 rfl (by omega) (by omega))]; omega)⟩⟩ ?_
                intro mv78 hq79_ gq80_ kq81_
                have hq82_ : (mv78 78 (((304 : Int32) + a1).toNatClampNeg)).toInt = ((M 78 (((304 : Int32) + a1).toNatClampNeg)).toInt + 1) := by rw [hq79_, mu_at]; exact (i_add rfl l_1 (by omega) (by omega))
                refine T_eq l_0 l_0 (fun hq83_ => ?_) (fun hq83_ => ?_)
                · have hq84_ := r78 (c := 78) (s := (((304 : Int32) + a1).toNatClampNeg)) gq80_ (by decide) (by rw [tnc, (i_add l_304 rfl (by omega) (by omega))]; omega) (by rw [tnc, (i_add l_304 rfl (by omega) (by omega))]; omega)
                  have hq85_ := r78 (c := 78) (s := (((296 : Int32) + a1).toNatClampNeg)) gq80_ (by decide) (by rw [tnc, (i_add l_296 rfl (by omega) (by omega))]; omega) (by rw [tnc, (i_add l_296 rfl (by omega) (by omega))]; omega)
                  exact ih a1 a2 mv78 gq80_ kq81_ (i_rng (lo := 0) (hi := 7) rfl (by omega) (by omega)) (by omega)
                · exfalso; omega
              · exfalso; omega
            · unfold f_X12_dayOf_102
              refine T_eq l_1 l_0 (fun hq86_ => ?_) (fun hq86_ => ?_)
              · exfalso; omega
              · refine T_qg rfl (by omega) (by omega) ?_
                refine T_le rfl rfl (fun hq87_ => ?_) (fun hq87_ => ?_)
                · unfold f_X12_dayOf_121
                  refine T_qg (i_add l_304 rfl (by omega) (by omega)) (by omega) (by omega) ?_
                  refine T_qg (i_add l_304 rfl (by omega) (by omega)) (by omega) (by omega) ?_
                  refine T_mu hG hS (ri78 (by decide) (i_rng (lo := 0) (hi := 40) (i_add rfl l_1 (by omega) (by omega)) (by omega) (by omega))) (nw_78 _) (i := 2) rfl ⟨by decide, by decide, Or.inr ⟨(show 304 ≤ _ by rw [tnc, (i_add l_304 rfl (by omega) (by omega))]; omega), (show _ < 312 by rw [tnc, (i_add l_304 rfl (by omega) (by omega))]; omega)⟩⟩ ?_
                  intro mv88 hq89_ gq90_ kq91_
                  have hq92_ : (mv88 81 xv6.toNatClampNeg).toInt = (M 81 xv6.toNatClampNeg).toInt := by rw [hq89_, mu_ne (Or.inl (by decide))]
                  have hq93_ : (mv88 78 (((304 : Int32) + a1).toNatClampNeg)).toInt = ((M 78 (((304 : Int32) + a1).toNatClampNeg)).toInt + 1) := by rw [hq89_, mu_at]; exact (i_add rfl l_1 (by omega) (by omega))
                  refine T_eq l_1 l_0 (fun hq94_ => ?_) (fun hq94_ => ?_)
                  · exfalso; omega
                  · refine T_qg rfl (by omega) (by omega) ?_
                    have hq95_ := i_full (a2)
                    have hq96_ := i_full (mv88 81 xv6.toNatClampNeg)
                    refine T_ql rfl ?_
                    intro xv97 hq98_
                    refine T_qc (t_X12_triesNow hn a1 xv6 xv8 mv88 gq90_ (i_rng (lo := 0) (hi := 7) rfl (by omega) (by omega)) (i_rng (lo := 0) (hi := 11) rfl (by omega) (by omega)) (i_rng (lo := 0) (hi := 8) rfl (by omega) (by omega))) ?_
                    rintro rv99 mv100 ⟨hq101_, gq102_, kq103_⟩
                    have kq104_ := Sm.call kq91_ kq103_ rfl
                    have hq105_ : (mv100 81 xv6.toNatClampNeg).toInt = (mv88 81 xv6.toNatClampNeg).toInt := by rw [kq103_ 81 _ (outc rfl)]
                    have hq106_ : (mv100 78 (((304 : Int32) + a1).toNatClampNeg)).toInt = (mv88 78 (((304 : Int32) + a1).toNatClampNeg)).toInt := by rw [kq103_ 78 _ (out78 (lo := 304) (hi := 312) rfl (by rw [tnc, (i_add l_304 rfl (by omega) (by omega))]; omega) (by rw [tnc, (i_add l_304 rfl (by omega) (by omega))]; omega))]
                    refine T_qc (t_X12_notesTry hn a1 xv6 rv99 mv100 gq102_ (i_rng (lo := 0) (hi := 7) rfl (by omega) (by omega)) (i_rng (lo := 0) (hi := 11) rfl (by omega) (by omega)) (i_rng (lo := (-2)) (hi := 1) rfl (by omega) (by omega))) ?_
                    rintro rv107 mv108 ⟨hq109_, gq110_, kq111_⟩
                    have kq112_ := Sm.call kq104_ kq111_ rfl
                    have hq113_ : (mv108 81 xv6.toNatClampNeg).toInt = (mv100 81 xv6.toNatClampNeg).toInt := by rw [kq111_ 81 _ (outc rfl)]
                    have hq114_ : (mv108 78 (((304 : Int32) + a1).toNatClampNeg)).toInt = (mv100 78 (((304 : Int32) + a1).toNatClampNeg)).toInt := by rw [kq111_ 78 _ (out78 (lo := 304) (hi := 312) rfl (by rw [tnc, (i_add l_304 rfl (by omega) (by omega))]; omega) (by rw [tnc, (i_add l_304 rfl (by omega) (by omega))]; omega))]
                    have hq115_ := r78 (c := 78) (s := (((304 : Int32) + a1).toNatClampNeg)) gq110_ (by decide) (by rw [tnc, (i_add l_304 rfl (by omega) (by omega))]; omega) (by rw [tnc, (i_add l_304 rfl (by omega) (by omega))]; omega)
                    have hq116_ := r78 (c := 78) (s := (((296 : Int32) + a1).toNatClampNeg)) gq110_ (by decide) (by rw [tnc, (i_add l_296 rfl (by omega) (by omega))]; omega) (by rw [tnc, (i_add l_296 rfl (by omega) (by omega))]; omega)
                    exact ih a1 xv97 mv108 gq110_ kq112_ (i_rng (lo := 0) (hi := 7) rfl (by omega) (by omega)) (by omega)
                · exact T_ret ⟨(i_rng (lo := 0) (hi := 0) l_0 (by omega) (by omega)), hG, hS⟩
theorem t_X12_dayOf {n : Nat} (hn : 200000 ≤ n) (a1 : Int32) (M : qM) (hG : G M) (pa1 : 0 ≤ a1.toInt ∧ a1.toInt ≤ 7) : qT (f_X12_dayOf n a1 M) (po_X12_dayOf a1 M) := by
  have hS : Sm l_X12_dayOf M M := Sm.rf
  unfold f_X12_dayOf
  have hq117_ := r78 (c := 78) (s := (((304 : Int32) + a1).toNatClampNeg)) hG (by decide) (by rw [tnc, (i_add l_304 rfl (by omega) (by omega))]; omega) (by rw [tnc, (i_add l_304 rfl (by omega) (by omega))]; omega)
  have hq118_ := r78 (c := 78) (s := (((296 : Int32) + a1).toNatClampNeg)) hG (by decide) (by rw [tnc, (i_add l_296 rfl (by omega) (by omega))]; omega) (by rw [tnc, (i_add l_296 rfl (by omega) (by omega))]; omega)
  exact (t_X12_dayOf_3 hn) n a1 (12 : Int32) M hG hS (i_rng (lo := 0) (hi := 7) rfl (by omega) (by omega)) (by have e1 : ((12 : Int32)).toInt = _ := l_12; omega)
abbrev l_X12_daysGo : List Bx := [(77, 78, 37, 43), (78, 79, 0, 288), (78, 79, 304, 312), (78, 79, 313, 314), (96, 98, 0, 0)]
abbrev po_X12_daysGo (a1 : Int32) (M : qM) (v : Int32) (M' : qM) : Prop := (0 ≤ v.toInt ∧ v.toInt ≤ 0) ∧ (((9999 ≤ (M 78 313).toInt ∧ (M' 78 313).toInt = (M 78 313).toInt) ∨ ((M 78 313).toInt < 9999 ∧ (M 78 313).toInt + a1.toInt ≤ 9999 ∧ (M' 78 313).toInt = (M 78 313).toInt + a1.toInt) ∨ ((M 78 313).toInt < 9999 ∧ 9999 < (M 78 313).toInt + a1.toInt ∧ (M' 78 313).toInt = 9999))) ∧ G M' ∧ Sm l_X12_daysGo M M'
theorem t_X12_daysGo_56 {n : Nat} (hn : 200000 ≤ n) {oa1 : Int32} {M0 : qM} {K35 : Int32 → Int32 → qM → qR} {BK35 : Nat} (hK35 : ∀ (a1 a2 : Int32) (M : qM), G M → Sm l_X12_daysGo M0 M → 1 ≤ a1.toInt ∧ a1.toInt ≤ 60 → (-2147483633) ≤ a2.toInt ∧ a2.toInt ≤ 60 → (a1.toInt = oa1.toInt ∧ a2.toInt ≤ a1.toInt ∧ ((a2.toInt = 0 ∧ (M 78 313).toInt = (M0 78 313).toInt) ∨ ((M0 78 313).toInt < 9999 ∧ (M 78 313).toInt = (M0 78 313).toInt + a2.toInt ∧ (M 78 313).toInt ≤ 9999))) → 60 - a2.toInt < (BK35 : Int) → qT (K35 a1 a2 M) (po_X12_daysGo oa1 M0)) : ∀ (m : Nat) (a1 a2 a3 : Int32) (M : qM), G M → Sm l_X12_daysGo M0 M → 1 ≤ a1.toInt ∧ a1.toInt ≤ 60 → (-2147483634) ≤ a2.toInt ∧ a2.toInt ≤ 59 → 0 ≤ a3.toInt ∧ a3.toInt ≤ 8 → (a1.toInt = oa1.toInt ∧ a2.toInt ≤ a1.toInt ∧ ((a2.toInt = 0 ∧ (M 78 313).toInt = (M0 78 313).toInt) ∨ ((M0 78 313).toInt < 9999 ∧ (M 78 313).toInt = (M0 78 313).toInt + a2.toInt ∧ (M 78 313).toInt ≤ 9999)) ∧ (M 78 313).toInt < 9999 ∧ a2.toInt < a1.toInt) → 60 - a2.toInt < (BK35 : Int) + 1 → 8 - a3.toInt < (m : Int) → qT (f_X12_daysGo_56 n K35 m a1 a2 a3 M) (po_X12_daysGo oa1 M0) := by
  intro m
  induction m with
  | zero =>
    intro a1 a2 a3 M hG hS i0 i1 i2 hE i6 i7
    exfalso; omega
  | succ m ih =>
    intro a1 a2 a3 M hG hS i0 i1 i2 hE i6 i7
    show qT (b_X12_daysGo_56 n K35 (f_X12_daysGo_56 n K35 m) a1 a2 a3 M) _
    unfold b_X12_daysGo_56
    refine T_le l_8 rfl (fun hq10_ => ?_) (fun hq10_ => ?_)
    · have hq12_ := i_full (M 78 313)
      refine T_mu hG hS (ro78 (by decide) (by decide)) (nw_78 _) (i := 3) rfl ⟨by decide, by decide, Or.inr ⟨by decide, by decide⟩⟩ ?_
      intro mv11 hq13_ gq14_ kq15_
      have hq16_ : (mv11 78 313).toInt = ((M 78 313).toInt + 1) := by rw [hq13_, mu_at]; exact (i_add rfl l_1 (by omega) (by omega))
      refine T_ql (i_add rfl l_1 (by omega) (by omega)) ?_
      intro xv17 hq18_
      exact hK35 a1 xv17 mv11 gq14_ kq15_ (i_rng (lo := 1) (hi := 60) rfl (by omega) (by omega)) (i_rng (lo := (-2147483633)) (hi := 60) rfl (by omega) (by omega)) (by omega) (by omega)
    · refine T_qc (t_X12_isPerson hn a3 M hG ) ?_
      rintro rv19 mv20 ⟨hq21_, hq22_, gq23_, kq24_⟩
      have hq25_ := kq24_.nil
      subst hq25_
      refine T_eq rfl l_0 (fun hq26_ => ?_) (fun hq26_ => ?_)
      · refine T_ql (i_add rfl l_1 (by omega) (by omega)) ?_
        intro xv27 hq28_
        exact ih a1 a2 xv27 M hG hS (i_rng (lo := 1) (hi := 60) rfl (by omega) (by omega)) (i_rng (lo := (-2147483634)) (hi := 59) rfl (by omega) (by omega)) (i_rng (lo := 0) (hi := 8) rfl (by omega) (by omega)) (by omega) (by omega) (by omega)
      · refine T_qc (t_X12_dayOf hn a3 M hG (i_rng (lo := 0) (hi := 7) rfl (by omega) (by omega))) ?_
        rintro rv29 mv30 ⟨hq31_, gq32_, kq33_⟩
        have kq34_ := Sm.call hS kq33_ rfl
        have hq35_ : (mv30 78 313).toInt = (M 78 313).toInt := by rw [kq33_ 78 313 (by decide)]
        refine T_ql (i_add rfl l_1 (by omega) (by omega)) ?_
        intro xv36 hq37_
        exact ih a1 a2 xv36 mv30 gq32_ kq34_ (i_rng (lo := 1) (hi := 60) rfl (by omega) (by omega)) (i_rng (lo := (-2147483634)) (hi := 59) rfl (by omega) (by omega)) (i_rng (lo := 0) (hi := 8) rfl (by omega) (by omega)) (by omega) (by omega) (by omega)
theorem t_X12_daysGo_35 {n : Nat} (hn : 200000 ≤ n) {oa1 : Int32} {M0 : qM} : ∀ (m : Nat) (a1 a2 : Int32) (M : qM), G M → Sm l_X12_daysGo M0 M → 1 ≤ a1.toInt ∧ a1.toInt ≤ 60 → (-2147483633) ≤ a2.toInt ∧ a2.toInt ≤ 60 → (a1.toInt = oa1.toInt ∧ a2.toInt ≤ a1.toInt ∧ ((a2.toInt = 0 ∧ (M 78 313).toInt = (M0 78 313).toInt) ∨ ((M0 78 313).toInt < 9999 ∧ (M 78 313).toInt = (M0 78 313).toInt + a2.toInt ∧ (M 78 313).toInt ≤ 9999))) → 60 - a2.toInt < (m : Int) → qT (f_X12_daysGo_35 n m a1 a2 M) (po_X12_daysGo oa1 M0) := by
  intro m
  induction m with
  | zero =>
    intro a1 a2 M hG hS i0 i1 hE i5
    exfalso; omega
  | succ m ih =>
    intro a1 a2 M hG hS i0 i1 hE i5
    show qT (b_X12_daysGo_35 n (f_X12_daysGo_35 n m) a1 a2 M) _
    unfold b_X12_daysGo_35
    refine T_le rfl rfl (fun hq41_ => ?_) (fun hq41_ => ?_)
    · exact T_ret ⟨(i_rng (lo := 0) (hi := 0) l_0 (by omega) (by omega)), (by have e9 : (0 : Int32).toInt = _ := l_0; omega), hG, hS⟩
    · refine T_le l_9999 rfl (fun hq42_ => ?_) (fun hq42_ => ?_)
      · exact T_ret ⟨(i_rng (lo := 0) (hi := 0) l_0 (by omega) (by omega)), (by have e9 : (0 : Int32).toInt = _ := l_0; omega), hG, hS⟩
      · exact (t_X12_daysGo_56 hn ih) n a1 a2 (0 : Int32) M hG hS (i_rng (lo := 1) (hi := 60) rfl (by omega) (by omega)) (i_rng (lo := (-2147483634)) (hi := 59) rfl (by omega) (by omega)) (i_rng (lo := 0) (hi := 8) l_0 (by omega) (by omega)) (by have e2 : ((0 : Int32)).toInt = _ := l_0; omega) (by omega) (by have e2 : ((0 : Int32)).toInt = _ := l_0; omega)
theorem t_X12_daysGo {n : Nat} (hn : 200000 ≤ n) (a1 : Int32) (M : qM) (hG : G M) (pa1 : 1 ≤ a1.toInt ∧ a1.toInt ≤ 60) : qT (f_X12_daysGo n a1 M) (po_X12_daysGo a1 M) := by
  have hS : Sm l_X12_daysGo M M := Sm.rf
  unfold f_X12_daysGo
  refine T_mu hG hS (rn_77_37 _) nw_77_37 (i := 0) rfl ⟨by decide, by decide, Or.inr ⟨by decide, by decide⟩⟩ ?_
  intro mv43 hq44_ gq45_ kq46_
  have hq47_ : (mv43 78 313).toInt = (M 78 313).toInt := by rw [hq44_, mu_ne (Or.inl (by decide))]
  have hq48_ : (mv43 77 37).toInt = 0 := by rw [hq44_, mu_at]; exact l_0
  refine T_mu gq45_ kq46_ (rn_77_38 _) nw_77_38 (i := 0) rfl ⟨by decide, by decide, Or.inr ⟨by decide, by decide⟩⟩ ?_
  intro mv49 hq50_ gq51_ kq52_
  have hq53_ : (mv49 78 313).toInt = (mv43 78 313).toInt := by rw [hq50_, mu_ne (Or.inl (by decide))]
  have hq54_ : (mv49 77 37).toInt = (mv43 77 37).toInt := by rw [hq50_, mu_ne (Or.inr (by decide))]
  have hq55_ : (mv49 77 38).toInt = 0 := by rw [hq50_, mu_at]; exact l_0
  refine T_mu gq51_ kq52_ (rn_77_39 _) nw_77_39 (i := 0) rfl ⟨by decide, by decide, Or.inr ⟨by decide, by decide⟩⟩ ?_
  intro mv56 hq57_ gq58_ kq59_
  have hq60_ : (mv56 78 313).toInt = (mv49 78 313).toInt := by rw [hq57_, mu_ne (Or.inl (by decide))]
  have hq61_ : (mv56 77 37).toInt = (mv49 77 37).toInt := by rw [hq57_, mu_ne (Or.inr (by decide))]
  have hq62_ : (mv56 77 38).toInt = (mv49 77 38).toInt := by rw [hq57_, mu_ne (Or.inr (by decide))]
  have hq63_ : (mv56 77 39).toInt = 0 := by rw [hq57_, mu_at]; exact l_0
  refine T_mu gq58_ kq59_ (rn_77_40 _) nw_77_40 (i := 0) rfl ⟨by decide, by decide, Or.inr ⟨by decide, by decide⟩⟩ ?_
  intro mv64 hq65_ gq66_ kq67_
  have hq68_ : (mv64 78 313).toInt = (mv56 78 313).toInt := by rw [hq65_, mu_ne (Or.inl (by decide))]
  have hq69_ : (mv64 77 37).toInt = (mv56 77 37).toInt := by rw [hq65_, mu_ne (Or.inr (by decide))]
  have hq70_ : (mv64 77 38).toInt = (mv56 77 38).toInt := by rw [hq65_, mu_ne (Or.inr (by decide))]
  have hq71_ : (mv64 77 39).toInt = (mv56 77 39).toInt := by rw [hq65_, mu_ne (Or.inr (by decide))]
  have hq72_ : (mv64 77 40).toInt = (-2) := by rw [hq65_, mu_at]; exact l_m2
  refine T_mu gq66_ kq67_ (rn_77_41 _) nw_77_41 (i := 0) rfl ⟨by decide, by decide, Or.inr ⟨by decide, by decide⟩⟩ ?_
  intro mv73 hq74_ gq75_ kq76_
  have hq77_ : (mv73 78 313).toInt = (mv64 78 313).toInt := by rw [hq74_, mu_ne (Or.inl (by decide))]
  have hq78_ : (mv73 77 37).toInt = (mv64 77 37).toInt := by rw [hq74_, mu_ne (Or.inr (by decide))]
  have hq79_ : (mv73 77 38).toInt = (mv64 77 38).toInt := by rw [hq74_, mu_ne (Or.inr (by decide))]
  have hq80_ : (mv73 77 39).toInt = (mv64 77 39).toInt := by rw [hq74_, mu_ne (Or.inr (by decide))]
  have hq81_ : (mv73 77 40).toInt = (mv64 77 40).toInt := by rw [hq74_, mu_ne (Or.inr (by decide))]
  have hq82_ : (mv73 77 41).toInt = (-2) := by rw [hq74_, mu_at]; exact l_m2
  refine T_mu gq75_ kq76_ (rn_77_42 _) nw_77_42 (i := 0) rfl ⟨by decide, by decide, Or.inr ⟨by decide, by decide⟩⟩ ?_
  intro mv83 hq84_ gq85_ kq86_
  have hq87_ : (mv83 78 313).toInt = (mv73 78 313).toInt := by rw [hq84_, mu_ne (Or.inl (by decide))]
  have hq88_ : (mv83 77 37).toInt = (mv73 77 37).toInt := by rw [hq84_, mu_ne (Or.inr (by decide))]
  have hq89_ : (mv83 77 38).toInt = (mv73 77 38).toInt := by rw [hq84_, mu_ne (Or.inr (by decide))]
  have hq90_ : (mv83 77 39).toInt = (mv73 77 39).toInt := by rw [hq84_, mu_ne (Or.inr (by decide))]
  have hq91_ : (mv83 77 40).toInt = (mv73 77 40).toInt := by rw [hq84_, mu_ne (Or.inr (by decide))]
  have hq92_ : (mv83 77 41).toInt = (mv73 77 41).toInt := by rw [hq84_, mu_ne (Or.inr (by decide))]
  have hq93_ : (mv83 77 42).toInt = (-2) := by rw [hq84_, mu_at]; exact l_m2
  exact (t_X12_daysGo_35 hn) n a1 (0 : Int32) mv83 gq85_ kq86_ (i_rng (lo := 1) (hi := 60) rfl (by omega) (by omega)) (i_rng (lo := (-2147483633)) (hi := 60) l_0 (by omega) (by omega)) (by have e1 : ((0 : Int32)).toInt = _ := l_0; omega) (by have e1 : ((0 : Int32)).toInt = _ := l_0; omega)
abbrev l_X12_days : List Bx := [(77, 78, 37, 43), (78, 79, 0, 288), (78, 79, 304, 312), (78, 79, 313, 314), (96, 98, 0, 0)]
abbrev po_X12_days (a1 : Int32) (M : qM) (v : Int32) (M' : qM) : Prop := ((¬ (1 ≤ a1.toInt ∧ a1.toInt ≤ 60) ∧ (M' 78 313).toInt = (M 78 313).toInt) ∨ (1 ≤ a1.toInt ∧ a1.toInt ≤ 60 ∧ ((9999 ≤ (M 78 313).toInt ∧ (M' 78 313).toInt = (M 78 313).toInt) ∨ ((M 78 313).toInt < 9999 ∧ (M 78 313).toInt + a1.toInt ≤ 9999 ∧ (M' 78 313).toInt = (M 78 313).toInt + a1.toInt) ∨ ((M 78 313).toInt < 9999 ∧ 9999 < (M 78 313).toInt + a1.toInt ∧ (M' 78 313).toInt = 9999)))) ∧ G M' ∧ Sm l_X12_days M M'
theorem t_X12_days {n : Nat} (hn : 200000 ≤ n) (a1 : Int32) (M : qM) (hG : G M) : qT (f_X12_days n a1 M) (po_X12_days a1 M) := by
  have hS : Sm l_X12_days M M := Sm.rf
  unfold f_X12_days
  have hq3_ := (show ((1 : Int32)).toInt = _ from l_1)
  have hq4_ := (show ((60 : Int32)).toInt = _ from l_60)
  refine T_qc (t_X12_in hn a1 (1 : Int32) (60 : Int32) M hG (i_rng (lo := 0) (hi := 70) l_1 (by omega) (by omega)) (i_rng (lo := 0) (hi := 99999) l_60 (by omega) (by omega))) ?_
  rintro rv1 mv2 ⟨hq5_, hq6_, gq7_, kq8_⟩
  have hq9_ := kq8_.nil
  subst hq9_
  refine T_eq rfl l_0 (fun hq10_ => ?_) (fun hq10_ => ?_)
  · exact T_ret ⟨(by have e9 : ((-1 : Int32)).toInt = _ := l_m1; omega), hG, hS⟩
  · refine T_qc (t_X12_daysGo hn a1 M hG (i_rng (lo := 1) (hi := 60) rfl (by omega) (by omega))) ?_
    rintro rv11 mv12 ⟨hq13_, hq14_, gq15_, kq16_⟩
    have kq17_ := Sm.call hS kq16_ rfl
    exact T_ret ⟨(by have e9 : (mv12 77 38).toInt = _ := rfl; omega), gq15_, kq17_⟩

abbrev l_X10_copy_c25_7 : List Bx := [(25, 26, 8, 10), (26, 34, 0, 0)]
abbrev po_X10_copy_c25_7 (M : qM) (v : Int32) (M' : qM) : Prop := (0 ≤ v.toInt ∧ v.toInt ≤ 0) ∧ ((M' 25 9).toInt = (M 7 9).toInt ∧ (M' 25 8).toInt = (M 7 8).toInt) ∧ G M' ∧ Sm l_X10_copy_c25_7 M M'
theorem t_X10_copy_c25_7 {n : Nat} (hn : 200000 ≤ n) (M : qM) (hG : G M) : qT (f_X10_copy n 25 7  M) (po_X10_copy_c25_7  M) := by
  have hS : Sm l_X10_copy_c25_7 M M := Sm.rf
  unfold f_X10_copy
  try simp only [Nat.reduceAdd]
  refine T_qcp l_0 l_0 l_8 (by omega) (by omega) (by omega) (by omega) (by omega) ?_
  refine T_mr hG hS (fun s => rn_26 s _) nw_26 (i := 1) rfl (fun s => ⟨by decide, by decide, Or.inl rfl⟩) ?_
  intro mv1 hq2_ gq3_ kq4_
  have hq5_ : (mv1 7 9).toInt = (M 7 9).toInt := by rw [hq2_]; show ((if 7 = 26 then _ else M 7) 9).toInt = _; rw [if_neg (by decide)]
  have hq6_ : (mv1 7 8).toInt = (M 7 8).toInt := by rw [hq2_]; show ((if 7 = 26 then _ else M 7) 8).toInt = _; rw [if_neg (by decide)]
  refine T_qcp l_0 l_0 l_96 (by omega) (by omega) (by omega) (by omega) (by omega) ?_
  refine T_mr gq3_ kq4_ (fun s => rn_27 s _) nw_27 (i := 1) rfl (fun s => ⟨by decide, by decide, Or.inl rfl⟩) ?_
  intro mv7 hq8_ gq9_ kq10_
  have hq11_ : (mv7 7 9).toInt = (mv1 7 9).toInt := by rw [hq8_]; show ((if 7 = 27 then _ else mv1 7) 9).toInt = _; rw [if_neg (by decide)]
  have hq12_ : (mv7 7 8).toInt = (mv1 7 8).toInt := by rw [hq8_]; show ((if 7 = 27 then _ else mv1 7) 8).toInt = _; rw [if_neg (by decide)]
  refine T_qcp l_0 l_0 l_96 (by omega) (by omega) (by omega) (by omega) (by omega) ?_
  refine T_mr gq9_ kq10_ (fun s => rn_28 s _) nw_28 (i := 1) rfl (fun s => ⟨by decide, by decide, Or.inl rfl⟩) ?_
  intro mv13 hq14_ gq15_ kq16_
  have hq17_ : (mv13 7 9).toInt = (mv7 7 9).toInt := by rw [hq14_]; show ((if 7 = 28 then _ else mv7 7) 9).toInt = _; rw [if_neg (by decide)]
  have hq18_ : (mv13 7 8).toInt = (mv7 7 8).toInt := by rw [hq14_]; show ((if 7 = 28 then _ else mv7 7) 8).toInt = _; rw [if_neg (by decide)]
  refine T_qcp l_0 l_0 l_96 (by omega) (by omega) (by omega) (by omega) (by omega) ?_
  refine T_mr gq15_ kq16_ (fun s => rn_29 s _) nw_29 (i := 1) rfl (fun s => ⟨by decide, by decide, Or.inl rfl⟩) ?_
  intro mv19 hq20_ gq21_ kq22_
  have hq23_ : (mv19 7 9).toInt = (mv13 7 9).toInt := by rw [hq20_]; show ((if 7 = 29 then _ else mv13 7) 9).toInt = _; rw [if_neg (by decide)]
  have hq24_ : (mv19 7 8).toInt = (mv13 7 8).toInt := by rw [hq20_]; show ((if 7 = 29 then _ else mv13 7) 8).toInt = _; rw [if_neg (by decide)]
  refine T_qcp l_0 l_0 l_320 (by omega) (by omega) (by omega) (by omega) (by omega) ?_
  refine T_mr gq21_ kq22_ (fun s => rn_30 s _) nw_30 (i := 1) rfl (fun s => ⟨by decide, by decide, Or.inl rfl⟩) ?_
  intro mv25 hq26_ gq27_ kq28_
  have hq29_ : (mv25 7 9).toInt = (mv19 7 9).toInt := by rw [hq26_]; show ((if 7 = 30 then _ else mv19 7) 9).toInt = _; rw [if_neg (by decide)]
  have hq30_ : (mv25 7 8).toInt = (mv19 7 8).toInt := by rw [hq26_]; show ((if 7 = 30 then _ else mv19 7) 8).toInt = _; rw [if_neg (by decide)]
  refine T_qcp l_0 l_0 l_320 (by omega) (by omega) (by omega) (by omega) (by omega) ?_
  refine T_mr gq27_ kq28_ (fun s => rn_31 s _) nw_31 (i := 1) rfl (fun s => ⟨by decide, by decide, Or.inl rfl⟩) ?_
  intro mv31 hq32_ gq33_ kq34_
  have hq35_ : (mv31 7 9).toInt = (mv25 7 9).toInt := by rw [hq32_]; show ((if 7 = 31 then _ else mv25 7) 9).toInt = _; rw [if_neg (by decide)]
  have hq36_ : (mv31 7 8).toInt = (mv25 7 8).toInt := by rw [hq32_]; show ((if 7 = 31 then _ else mv25 7) 8).toInt = _; rw [if_neg (by decide)]
  refine T_qcp l_0 l_0 l_8 (by omega) (by omega) (by omega) (by omega) (by omega) ?_
  refine T_mr gq33_ kq34_ (va_in (r_14 gq33_) (r_32 gq33_)) nw_32 (i := 1) rfl (fun s => ⟨by decide, by decide, Or.inl rfl⟩) ?_
  intro mv37 hq38_ gq39_ kq40_
  have hq41_ : (mv37 7 9).toInt = (mv31 7 9).toInt := by rw [hq38_]; show ((if 7 = 32 then _ else mv31 7) 9).toInt = _; rw [if_neg (by decide)]
  have hq42_ : (mv37 7 8).toInt = (mv31 7 8).toInt := by rw [hq38_]; show ((if 7 = 32 then _ else mv31 7) 8).toInt = _; rw [if_neg (by decide)]
  refine T_qcp l_0 l_0 l_8 (by omega) (by omega) (by omega) (by omega) (by omega) ?_
  refine T_mr gq39_ kq40_ (va_in (r_15 gq39_) (r_33 gq39_)) nw_33 (i := 1) rfl (fun s => ⟨by decide, by decide, Or.inl rfl⟩) ?_
  intro mv43 hq44_ gq45_ kq46_
  have hq47_ : (mv43 7 9).toInt = (mv37 7 9).toInt := by rw [hq44_]; show ((if 7 = 33 then _ else mv37 7) 9).toInt = _; rw [if_neg (by decide)]
  have hq48_ : (mv43 7 8).toInt = (mv37 7 8).toInt := by rw [hq44_]; show ((if 7 = 33 then _ else mv37 7) 8).toInt = _; rw [if_neg (by decide)]
  refine T_mu gq45_ kq46_ (rn_25_8 _) (nw_25 _) (i := 0) rfl ⟨by decide, by decide, Or.inr ⟨by decide, by decide⟩⟩ ?_
  intro mv49 hq50_ gq51_ kq52_
  have hq53_ : (mv49 7 9).toInt = (mv43 7 9).toInt := by rw [hq50_, mu_ne (Or.inl (by decide))]
  have hq54_ : (mv49 7 8).toInt = (mv43 7 8).toInt := by rw [hq50_, mu_ne (Or.inl (by decide))]
  have hq55_ : (mv49 25 8).toInt = (mv43 7 8).toInt := by rw [hq50_, mu_at]
  refine T_mu gq51_ kq52_ (rn_25_9 _) (nw_25 _) (i := 0) rfl ⟨by decide, by decide, Or.inr ⟨by decide, by decide⟩⟩ ?_
  intro mv56 hq57_ gq58_ kq59_
  have hq60_ : (mv56 7 9).toInt = (mv49 7 9).toInt := by rw [hq57_, mu_ne (Or.inl (by decide))]
  have hq61_ : (mv56 7 8).toInt = (mv49 7 8).toInt := by rw [hq57_, mu_ne (Or.inl (by decide))]
  have hq62_ : (mv56 25 8).toInt = (mv49 25 8).toInt := by rw [hq57_, mu_ne (Or.inr (by decide))]
  have hq63_ : (mv56 25 9).toInt = (mv49 7 9).toInt := by rw [hq57_, mu_at]
  exact T_ret ⟨(i_rng (lo := 0) (hi := 0) l_0 (by omega) (by omega)), (by have e9 : (0 : Int32).toInt = _ := l_0; omega), gq58_, kq59_⟩
abbrev l_X10_knows_c25 : List Bx := []
abbrev po_X10_knows_c25 (a1 : Int32) (M : qM) (v : Int32) (M' : qM) : Prop := (0 ≤ v.toInt ∧ v.toInt ≤ 1) ∧ ((v.toInt = 1 ∧ (0 ≤ a1.toInt ∧ a1.toInt ≤ 7 ∧ (((M 25 8) >>> (a1 &&& 31)) &&& (1 : Int32)).toInt = 1)) ∨ (v.toInt = 0 ∧ ¬ (0 ≤ a1.toInt ∧ a1.toInt ≤ 7 ∧ (((M 25 8) >>> (a1 &&& 31)) &&& (1 : Int32)).toInt = 1))) ∧ G M' ∧ Sm l_X10_knows_c25 M M'
theorem t_X10_knows_c25 {n : Nat} (hn : 200000 ≤ n) (a1 : Int32) (M : qM) (hG : G M) : qT (f_X10_knows n 25 a1 M) (po_X10_knows_c25 a1 M) := by
  have hS : Sm l_X10_knows_c25 M M := Sm.rf
  unfold f_X10_knows
  try simp only [Nat.reduceAdd]
  refine T_lt rfl l_0 (fun hq1_ => ?_) (fun hq1_ => ?_)
  · exact T_ret ⟨(i_rng (lo := 0) (hi := 1) l_0 (by omega) (by omega)), (by have e9 : ((0 : Int32)).toInt = _ := l_0; omega), hG, hS⟩
  · refine T_le l_8 rfl (fun hq2_ => ?_) (fun hq2_ => ?_)
    · exact T_ret ⟨(i_rng (lo := 0) (hi := 1) l_0 (by omega) (by omega)), (by have e9 : ((0 : Int32)).toInt = _ := l_0; omega), hG, hS⟩
    · have hq3_ := i_and (a := (M 25 8) >>> (a1 &&& 31)) (b := (1 : Int32)) l_1 (by omega)
      refine T_eq rfl l_1 (fun hq4_ => ?_) (fun hq4_ => ?_)
      · exact T_ret ⟨(i_rng (lo := 0) (hi := 1) l_1 (by omega) (by omega)), (by have e9 : ((1 : Int32)).toInt = _ := l_1; omega), hG, hS⟩
      · exact T_ret ⟨(i_rng (lo := 0) (hi := 1) l_0 (by omega) (by omega)), (by have e9 : ((0 : Int32)).toInt = _ := l_0; omega), hG, hS⟩
abbrev l_X10_triesByAll_c25 : List Bx := []
abbrev po_X10_triesByAll_c25 (a1 : Int32) (M : qM) (v : Int32) (M' : qM) : Prop := G M' ∧ Sm l_X10_triesByAll_c25 M M'
theorem t_X10_triesByAll_c25_4 {n : Nat} (hn : 200000 ≤ n) {oa1 : Int32} {M0 : qM} : ∀ (m : Nat) (a1 a2 a3 : Int32) (M : qM), G M → Sm l_X10_triesByAll_c25 M0 M → 0 ≤ a1.toInt ∧ a1.toInt ≤ 11 → 0 ≤ a3.toInt ∧ a3.toInt ≤ 8 → 8 - a3.toInt < (m : Int) → qT (f_X10_triesByAll_4 n 25 m a1 a2 a3 M) (po_X10_triesByAll_c25 oa1 M0) := by
  intro m
  induction m with
  | zero =>
    intro a1 a2 a3 M hG hS i0 i1 i4
    exfalso; omega
  | succ m ih =>
    intro a1 a2 a3 M hG hS i0 i1 i4
    show qT (b_X10_triesByAll_4 n 25 (f_X10_triesByAll_4 n 25 m) a1 a2 a3 M) _
    unfold b_X10_triesByAll_4
    try simp only [Nat.reduceAdd]
    refine T_le l_8 rfl (fun hq3_ => ?_) (fun hq3_ => ?_)
    · exact T_ret ⟨hG, hS⟩
    · refine T_qg (i_add (i_mul rfl l_12 (by omega) (by omega)) rfl (by omega) (by omega)) (by omega) (by omega) ?_
      have hq4_ := i_full (a2)
      have hq5_ := i_full (M 27 (((a3 * (12 : Int32)) + a1).toNatClampNeg))
      refine T_ql rfl ?_
      intro xv6 hq7_
      refine T_ql (i_add rfl l_1 (by omega) (by omega)) ?_
      intro xv8 hq9_
      exact ih a1 xv6 xv8 M hG hS (i_rng (lo := 0) (hi := 11) rfl (by omega) (by omega)) (i_rng (lo := 0) (hi := 8) rfl (by omega) (by omega)) (by omega)
theorem t_X10_triesByAll_c25 {n : Nat} (hn : 200000 ≤ n) (a1 : Int32) (M : qM) (hG : G M) (pa1 : 0 ≤ a1.toInt ∧ a1.toInt ≤ 11) : qT (f_X10_triesByAll n 25 a1 M) (po_X10_triesByAll_c25 a1 M) := by
  have hS : Sm l_X10_triesByAll_c25 M M := Sm.rf
  unfold f_X10_triesByAll
  try simp only [Nat.reduceAdd]
  exact (t_X10_triesByAll_c25_4 hn) n a1 (0 : Int32) (0 : Int32) M hG hS (i_rng (lo := 0) (hi := 11) rfl (by omega) (by omega)) (i_rng (lo := 0) (hi := 8) l_0 (by omega) (by omega)) (by have e1 : ((0 : Int32)).toInt = _ := l_0; have e2 : ((0 : Int32)).toInt = _ := l_0; omega)
abbrev l_X0_tellAll_c25 : List Bx := [(35, 36, 0, 0)]
abbrev po_X0_tellAll_c25 (a2 a3 a4 : Int32) (M : qM) (v : Int32) (M' : qM) : Prop := (0 ≤ v.toInt ∧ v.toInt ≤ 0) ∧ G M' ∧ Sm l_X0_tellAll_c25 M M'
theorem t_X0_tellAll_c25 {n : Nat} (hn : 200000 ≤ n) (a2 a3 a4 : Int32) (M : qM) (hG : G M) (pa2 : 0 ≤ a2.toInt ∧ a2.toInt ≤ 7) (pa3 : 0 ≤ a3.toInt ∧ a3.toInt ≤ 11) (pa4 : 0 ≤ a4.toInt ∧ a4.toInt ≤ 8) : qT (f_X0_tellAll n 25 a2 a3 a4 M) (po_X0_tellAll_c25 a2 a3 a4 M) := by
  have hS : Sm l_X0_tellAll_c25 M M := Sm.rf
  unfold f_X0_tellAll
  try simp only [Nat.reduceAdd]
  refine T_ql (i_add (i_mul rfl l_12 (by omega) (by omega)) rfl (by omega) (by omega)) ?_
  intro xv1 hq2_
  refine T_qg rfl (by omega) (by omega) ?_
  refine T_qg rfl (by omega) (by omega) ?_
  refine T_qc (t_X1_tellDeed hn a3 (M 4 a3.toNatClampNeg) (M 5 a3.toNatClampNeg) (M 25 9) M hG (i_rng (lo := 0) (hi := 12) rfl (by omega) (by omega))) ?_
  rintro rv3 mv4 ⟨hq5_, gq6_, kq7_⟩
  have kq8_ := Sm.call hS kq7_ rfl
  refine T_qg rfl (by omega) (by omega) ?_
  refine T_qc (t_X10_triesByAll_c25 hn a3 mv4 gq6_ (i_rng (lo := 0) (hi := 11) rfl (by omega) (by omega))) ?_
  rintro rv9 mv10 ⟨gq11_, kq12_⟩
  have hq13_ := kq12_.nil
  subst hq13_
  refine T_qg rfl (by omega) (by omega) ?_
  refine T_qc (t_X1_tellTry hn a2 a4 (mv4 27 xv1.toNatClampNeg) rv9 (mv4 29 xv1.toNatClampNeg) mv4 gq6_ (i_rng (lo := 0) (hi := 7) rfl (by omega) (by omega)) (i_rng (lo := 0) (hi := 8) rfl (by omega) (by omega))) ?_
  rintro rv14 mv15 ⟨hq16_, gq17_, kq18_⟩
  have kq19_ := Sm.call kq8_ kq18_ rfl
  exact T_ret ⟨(i_rng (lo := 0) (hi := 0) l_0 (by omega) (by omega)), gq17_, kq19_⟩
abbrev l_X0_forget_c25 : List Bx := [(27, 28, 0, 0), (34, 35, 4, 5), (35, 37, 0, 0)]
abbrev po_X0_forget_c25 (a2 a3 : Int32) (M : qM) (v : Int32) (M' : qM) : Prop := (0 ≤ v.toInt ∧ v.toInt ≤ 0) ∧ G M' ∧ Sm l_X0_forget_c25 M M'
theorem t_X0_forget_c25_3 {n : Nat} (hn : 200000 ≤ n) {j : Nat} (hj : q_isLaw j) {oa2 oa3 : Int32} {M0 : qM} : ∀ (m : Nat) (a2 a3 a4 : Int32) (M : qM), G M → Sm l_X0_forget_c25 M0 M → 0 ≤ a2.toInt ∧ a2.toInt ≤ 7 → 0 ≤ a4.toInt ∧ a4.toInt ≤ 12 → 12 - a4.toInt < (m : Int) → qT (f_X0_forget_3 n 25 j m a2 a3 a4 M) (po_X0_forget_c25 oa2 oa3 M0) := by
  intro m
  induction m with
  | zero =>
    intro a2 a3 a4 M hG hS i0 i1 i4
    exfalso; omega
  | succ m ih =>
    intro a2 a3 a4 M hG hS i0 i1 i4
    show qT (b_X0_forget_3 n 25 j (f_X0_forget_3 n 25 j m) a2 a3 a4 M) _
    unfold b_X0_forget_3
    try simp only [Nat.reduceAdd]
    refine T_le l_12 rfl (fun hq7_ => ?_) (fun hq7_ => ?_)
    · exact T_ret ⟨(i_rng (lo := 0) (hi := 0) l_0 (by omega) (by omega)), hG, hS⟩
    · refine T_ql (i_add (i_mul rfl l_12 (by omega) (by omega)) rfl (by omega) (by omega)) ?_
      intro xv8 hq9_
      have hq10_ := i_and (a := a3 >>> (a4 &&& 31)) (b := (1 : Int32)) l_1 (by omega)
      refine T_eq rfl l_1 (fun hq11_ => ?_) (fun hq11_ => ?_)
      · refine T_qg rfl (by omega) (by omega) ?_
        refine T_le rfl l_0 (fun hq12_ => ?_) (fun hq12_ => ?_)
        · refine T_ql (i_add rfl l_1 (by omega) (by omega)) ?_
          intro xv13 hq14_
          exact ih a2 a3 xv13 M hG hS (i_rng (lo := 0) (hi := 7) rfl (by omega) (by omega)) (i_rng (lo := 0) (hi := 12) rfl (by omega) (by omega)) (by omega)
        · refine T_qc (t_X0_tellAll_c25 hn a2 a4 (8 : Int32) M hG (i_rng (lo := 0) (hi := 7) rfl (by omega) (by omega)) (i_rng (lo := 0) (hi := 11) rfl (by omega) (by omega)) (i_rng (lo := 0) (hi := 8) l_8 (by omega) (by omega))) ?_
          rintro rv15 mv16 ⟨hq17_, gq18_, kq19_⟩
          have kq20_ := Sm.call hS kq19_ rfl
          have hq21_ : (mv16 27 xv8.toNatClampNeg).toInt = (M 27 xv8.toNatClampNeg).toInt := by rw [kq19_ 27 _ (outc rfl)]
          refine T_qc (t_X1_amount hn hj (102 : Int32) (999 : Int32) (0 : Int32) mv16 gq18_ (i_rng (lo := 99) (hi := 118) l_102 (by omega) (by omega)) (i_rng (lo := 99) (hi := 999) l_999 (by omega) (by omega)) (i_rng (lo := 0) (hi := 1) l_0 (by omega) (by omega))) ?_
          rintro rv22 mv23 ⟨hq24_, gq25_, kq26_⟩
          have kq27_ := Sm.call kq20_ kq26_ rfl
          have hq28_ : (mv23 27 xv8.toNatClampNeg).toInt = (mv16 27 xv8.toNatClampNeg).toInt := by rw [kq26_ 27 _ (outc rfl)]
          refine T_le rfl l_0 (fun hq29_ => ?_) (fun hq29_ => ?_)
          · refine T_ql (i_add rfl l_1 (by omega) (by omega)) ?_
            intro xv30 hq31_
            exact ih a2 a3 xv30 mv23 gq25_ kq27_ (i_rng (lo := 0) (hi := 7) rfl (by omega) (by omega)) (i_rng (lo := 0) (hi := 12) rfl (by omega) (by omega)) (by omega)
          · refine T_qg rfl (by omega) (by omega) ?_
            have hq32_ := i_full (mv23 25 9)
            have hq33_ := i_full (mv23 28 xv8.toNatClampNeg)
            refine T_lt rfl rfl (fun hq34_ => ?_) (fun hq34_ => ?_)
            · refine T_ql (i_add rfl l_1 (by omega) (by omega)) ?_
              intro xv35 hq36_
              exact ih a2 a3 xv35 mv23 gq25_ kq27_ (i_rng (lo := 0) (hi := 7) rfl (by omega) (by omega)) (i_rng (lo := 0) (hi := 12) rfl (by omega) (by omega)) (by omega)
            · refine T_qg rfl (by omega) (by omega) ?_
              refine T_mu gq25_ kq27_ (rn_27 _ _) (nw_27 _) (i := 0) rfl ⟨by decide, by decide, Or.inl rfl⟩ ?_
              intro mv37 hq38_ gq39_ kq40_
              have hq41_ : (mv37 27 xv8.toNatClampNeg).toInt = 0 := by rw [hq38_, mu_at]; exact l_0
              refine T_ql (i_add rfl l_1 (by omega) (by omega)) ?_
              intro xv42 hq43_
              exact ih a2 a3 xv42 mv37 gq39_ kq40_ (i_rng (lo := 0) (hi := 7) rfl (by omega) (by omega)) (i_rng (lo := 0) (hi := 12) rfl (by omega) (by omega)) (by omega)
      · refine T_ql (i_add rfl l_1 (by omega) (by omega)) ?_
        intro xv44 hq45_
        exact ih a2 a3 xv44 M hG hS (i_rng (lo := 0) (hi := 7) rfl (by omega) (by omega)) (i_rng (lo := 0) (hi := 12) rfl (by omega) (by omega)) (by omega)
theorem t_X0_forget_c25 {n : Nat} (hn : 200000 ≤ n) {j : Nat} (hj : q_isLaw j) (a2 a3 : Int32) (M : qM) (hG : G M) (pa2 : 0 ≤ a2.toInt ∧ a2.toInt ≤ 7) : qT (f_X0_forget n 25 j a2 a3 M) (po_X0_forget_c25 a2 a3 M) := by
  have hS : Sm l_X0_forget_c25 M M := Sm.rf
  unfold f_X0_forget
  try simp only [Nat.reduceAdd]
  exact (t_X0_forget_c25_3 hn hj) n a2 a3 (0 : Int32) M hG hS (i_rng (lo := 0) (hi := 7) rfl (by omega) (by omega)) (i_rng (lo := 0) (hi := 12) l_0 (by omega) (by omega)) (by have e2 : ((0 : Int32)).toInt = _ := l_0; omega)
abbrev l_X10_triesAmong_c25 : List Bx := []
abbrev po_X10_triesAmong_c25 (a1 a2 : Int32) (M : qM) (v : Int32) (M' : qM) : Prop := G M' ∧ Sm l_X10_triesAmong_c25 M M'
theorem t_X10_triesAmong_c25_5 {n : Nat} (hn : 200000 ≤ n) {oa1 oa2 : Int32} {M0 : qM} : ∀ (m : Nat) (a1 a2 a3 a4 : Int32) (M : qM), G M → Sm l_X10_triesAmong_c25 M0 M → 0 ≤ a1.toInt ∧ a1.toInt ≤ 7 → 0 ≤ a4.toInt ∧ a4.toInt ≤ 12 → 12 - a4.toInt < (m : Int) → qT (f_X10_triesAmong_5 n 25 m a1 a2 a3 a4 M) (po_X10_triesAmong_c25 oa1 oa2 M0) := by
  intro m
  induction m with
  | zero =>
    intro a1 a2 a3 a4 M hG hS i0 i1 i4
    exfalso; omega
  | succ m ih =>
    intro a1 a2 a3 a4 M hG hS i0 i1 i4
    show qT (b_X10_triesAmong_5 n 25 (f_X10_triesAmong_5 n 25 m) a1 a2 a3 a4 M) _
    unfold b_X10_triesAmong_5
    try simp only [Nat.reduceAdd]
    refine T_le l_12 rfl (fun hq4_ => ?_) (fun hq4_ => ?_)
    · exact T_ret ⟨hG, hS⟩
    · have hq5_ := i_and (a := a2 >>> (a4 &&& 31)) (b := (1 : Int32)) l_1 (by omega)
      refine T_eq rfl l_1 (fun hq6_ => ?_) (fun hq6_ => ?_)
      · refine T_qg (i_add (i_mul rfl l_12 (by omega) (by omega)) rfl (by omega) (by omega)) (by omega) (by omega) ?_
        have hq7_ := i_full (a3)
        have hq8_ := i_full (M 27 (((a1 * (12 : Int32)) + a4).toNatClampNeg))
        refine T_ql rfl ?_
        intro xv9 hq10_
        refine T_ql (i_add rfl l_1 (by omega) (by omega)) ?_
        intro xv11 hq12_
        exact ih a1 a2 xv9 xv11 M hG hS (i_rng (lo := 0) (hi := 7) rfl (by omega) (by omega)) (i_rng (lo := 0) (hi := 12) rfl (by omega) (by omega)) (by omega)
      · refine T_ql (i_add rfl l_1 (by omega) (by omega)) ?_
        intro xv13 hq14_
        exact ih a1 a2 a3 xv13 M hG hS (i_rng (lo := 0) (hi := 7) rfl (by omega) (by omega)) (i_rng (lo := 0) (hi := 12) rfl (by omega) (by omega)) (by omega)
theorem t_X10_triesAmong_c25 {n : Nat} (hn : 200000 ≤ n) (a1 a2 : Int32) (M : qM) (hG : G M) (pa1 : 0 ≤ a1.toInt ∧ a1.toInt ≤ 7) : qT (f_X10_triesAmong n 25 a1 a2 M) (po_X10_triesAmong_c25 a1 a2 M) := by
  have hS : Sm l_X10_triesAmong_c25 M M := Sm.rf
  unfold f_X10_triesAmong
  try simp only [Nat.reduceAdd]
  exact (t_X10_triesAmong_c25_5 hn) n a1 a2 (0 : Int32) (0 : Int32) M hG hS (i_rng (lo := 0) (hi := 7) rfl (by omega) (by omega)) (i_rng (lo := 0) (hi := 12) l_0 (by omega) (by omega)) (by have e2 : ((0 : Int32)).toInt = _ := l_0; have e3 : ((0 : Int32)).toInt = _ := l_0; omega)
abbrev l_X10_addTry_c25 : List Bx := [(27, 29, 0, 0)]
abbrev po_X10_addTry_c25 (a1 a2 : Int32) (M : qM) (v : Int32) (M' : qM) : Prop := (0 ≤ v.toInt ∧ v.toInt ≤ 0) ∧ G M' ∧ Sm l_X10_addTry_c25 M M'
theorem t_X10_addTry_c25 {n : Nat} (hn : 200000 ≤ n) (a1 a2 : Int32) (M : qM) (hG : G M) (pa1 : 0 ≤ a1.toInt ∧ a1.toInt ≤ 7) (pa2 : 0 ≤ a2.toInt ∧ a2.toInt ≤ 11) : qT (f_X10_addTry n 25 a1 a2 M) (po_X10_addTry_c25 a1 a2 M) := by
  have hS : Sm l_X10_addTry_c25 M M := Sm.rf
  unfold f_X10_addTry
  try simp only [Nat.reduceAdd]
  refine T_ql (i_add (i_mul rfl l_12 (by omega) (by omega)) rfl (by omega) (by omega)) ?_
  intro xv1 hq2_
  refine T_qg rfl (by omega) (by omega) ?_
  refine T_qg rfl (by omega) (by omega) ?_
  have hq4_ := i_full (M 27 xv1.toNatClampNeg)
  have hq5_ := i_min (a := (999 : Int32)) (b := (M 27 xv1.toNatClampNeg) + (1 : Int32)) l_999 rfl
  refine T_mu hG hS (rn_27 _ _) (nw_27 _) (i := 0) rfl ⟨by decide, by decide, Or.inl rfl⟩ ?_
  intro mv3 hq6_ gq7_ kq8_
  have hq9_ : (mv3 27 xv1.toNatClampNeg).toInt = (qmin (999 : Int32) ((M 27 xv1.toNatClampNeg) + (1 : Int32))).toInt := by rw [hq6_, mu_at]
  refine T_qg rfl (by omega) (by omega) ?_
  refine T_mu gq7_ kq8_ (rn_28 _ _) (nw_28 _) (i := 0) rfl ⟨by decide, by decide, Or.inl rfl⟩ ?_
  intro mv10 hq11_ gq12_ kq13_
  have hq14_ : (mv10 27 xv1.toNatClampNeg).toInt = (mv3 27 xv1.toNatClampNeg).toInt := by rw [hq11_, mu_ne (Or.inl (by decide))]
  have hq15_ : (mv10 28 xv1.toNatClampNeg).toInt = (mv3 25 9).toInt := by rw [hq11_, mu_at]
  exact T_ret ⟨(i_rng (lo := 0) (hi := 0) l_0 (by omega) (by omega)), gq12_, kq13_⟩
abbrev l_X10_hasCounted_c25 : List Bx := []
abbrev po_X10_hasCounted_c25 (a1 a2 : Int32) (M : qM) (v : Int32) (M' : qM) : Prop := (0 ≤ v.toInt ∧ v.toInt ≤ 1) ∧ G M' ∧ Sm l_X10_hasCounted_c25 M M'
theorem t_X10_hasCounted_c25_2 {n : Nat} (hn : 200000 ≤ n) {oa1 oa2 : Int32} {M0 : qM} : ∀ (m : Nat) (a1 a2 a3 : Int32) (M : qM), G M → Sm l_X10_hasCounted_c25 M0 M → 0 ≤ a1.toInt ∧ a1.toInt ≤ 7 → 0 ≤ a3.toInt ∧ a3.toInt ≤ 12 → 12 - a3.toInt < (m : Int) → qT (f_X10_hasCounted_2 n 25 m a1 a2 a3 M) (po_X10_hasCounted_c25 oa1 oa2 M0) := by
  intro m
  induction m with
  | zero =>
    intro a1 a2 a3 M hG hS i0 i1 i4
    exfalso; omega
  | succ m ih =>
    intro a1 a2 a3 M hG hS i0 i1 i4
    show qT (b_X10_hasCounted_2 n 25 (f_X10_hasCounted_2 n 25 m) a1 a2 a3 M) _
    unfold b_X10_hasCounted_2
    try simp only [Nat.reduceAdd]
    refine T_le l_12 rfl (fun hq3_ => ?_) (fun hq3_ => ?_)
    · exact T_ret ⟨(i_rng (lo := 0) (hi := 1) l_1 (by omega) (by omega)), hG, hS⟩
    · have hq4_ := i_and (a := a2 >>> (a3 &&& 31)) (b := (1 : Int32)) l_1 (by omega)
      refine T_eq rfl l_1 (fun hq5_ => ?_) (fun hq5_ => ?_)
      · refine T_qg (i_add (i_mul rfl l_12 (by omega) (by omega)) rfl (by omega) (by omega)) (by omega) (by omega) ?_
        refine T_eq rfl l_0 (fun hq6_ => ?_) (fun hq6_ => ?_)
        · exact T_ret ⟨(i_rng (lo := 0) (hi := 1) l_0 (by omega) (by omega)), hG, hS⟩
        · refine T_ql (i_add rfl l_1 (by omega) (by omega)) ?_
          intro xv7 hq8_
          exact ih a1 a2 xv7 M hG hS (i_rng (lo := 0) (hi := 7) rfl (by omega) (by omega)) (i_rng (lo := 0) (hi := 12) rfl (by omega) (by omega)) (by omega)
      · refine T_ql (i_add rfl l_1 (by omega) (by omega)) ?_
        intro xv9 hq10_
        exact ih a1 a2 xv9 M hG hS (i_rng (lo := 0) (hi := 7) rfl (by omega) (by omega)) (i_rng (lo := 0) (hi := 12) rfl (by omega) (by omega)) (by omega)
theorem t_X10_hasCounted_c25 {n : Nat} (hn : 200000 ≤ n) (a1 a2 : Int32) (M : qM) (hG : G M) (pa1 : 0 ≤ a1.toInt ∧ a1.toInt ≤ 7) : qT (f_X10_hasCounted n 25 a1 a2 M) (po_X10_hasCounted_c25 a1 a2 M) := by
  have hS : Sm l_X10_hasCounted_c25 M M := Sm.rf
  unfold f_X10_hasCounted
  try simp only [Nat.reduceAdd]
  exact (t_X10_hasCounted_c25_2 hn) n a1 a2 (0 : Int32) M hG hS (i_rng (lo := 0) (hi := 7) rfl (by omega) (by omega)) (i_rng (lo := 0) (hi := 12) l_0 (by omega) (by omega)) (by have e2 : ((0 : Int32)).toInt = _ := l_0; omega)
abbrev l_X10_addCounted_c25 : List Bx := [(29, 30, 0, 0)]
abbrev po_X10_addCounted_c25 (a1 a2 : Int32) (M : qM) (v : Int32) (M' : qM) : Prop := (0 ≤ v.toInt ∧ v.toInt ≤ 0) ∧ G M' ∧ Sm l_X10_addCounted_c25 M M'
theorem t_X10_addCounted_c25 {n : Nat} (hn : 200000 ≤ n) (a1 a2 : Int32) (M : qM) (hG : G M) (pa1 : 0 ≤ a1.toInt ∧ a1.toInt ≤ 7) (pa2 : 0 ≤ a2.toInt ∧ a2.toInt ≤ 11) : qT (f_X10_addCounted n 25 a1 a2 M) (po_X10_addCounted_c25 a1 a2 M) := by
  have hS : Sm l_X10_addCounted_c25 M M := Sm.rf
  unfold f_X10_addCounted
  try simp only [Nat.reduceAdd]
  refine T_ql (i_add (i_mul rfl l_12 (by omega) (by omega)) rfl (by omega) (by omega)) ?_
  intro xv1 hq2_
  refine T_qg rfl (by omega) (by omega) ?_
  refine T_qg rfl (by omega) (by omega) ?_
  have hq4_ := i_full (M 29 xv1.toNatClampNeg)
  have hq5_ := i_min (a := (999 : Int32)) (b := (M 29 xv1.toNatClampNeg) + (1 : Int32)) l_999 rfl
  refine T_mu hG hS (rn_29 _ _) (nw_29 _) (i := 0) rfl ⟨by decide, by decide, Or.inl rfl⟩ ?_
  intro mv3 hq6_ gq7_ kq8_
  have hq9_ : (mv3 29 xv1.toNatClampNeg).toInt = (qmin (999 : Int32) ((M 29 xv1.toNatClampNeg) + (1 : Int32))).toInt := by rw [hq6_, mu_at]
  exact T_ret ⟨(i_rng (lo := 0) (hi := 0) l_0 (by omega) (by omega)), gq7_, kq8_⟩
abbrev l_X0_attempt_c25 : List Bx := [(27, 30, 0, 0), (34, 35, 4, 5), (35, 37, 0, 0), (44, 45, 2, 4)]
abbrev po_X0_attempt_c25 (a2 a3 a4 : Int32) (M : qM) (v : Int32) (M' : qM) : Prop := ((-2) ≤ v.toInt ∧ v.toInt ≤ 1) ∧ G M' ∧ Sm l_X0_attempt_c25 M M'
theorem t_X0_attempt_c25 {n : Nat} (hn : 200000 ≤ n) {j : Nat} (hj : q_isLaw j) (a2 a3 a4 : Int32) (M : qM) (hG : G M) (pa2 : 0 ≤ a2.toInt ∧ a2.toInt ≤ 7) (pa3 : 0 ≤ a3.toInt ∧ a3.toInt ≤ 11) (pa4 : 0 ≤ a4.toInt ∧ a4.toInt ≤ 8) : qT (f_X0_attempt n 25 j a2 a3 a4 M) (po_X0_attempt_c25 a2 a3 a4 M) := by
  have hS : Sm l_X0_attempt_c25 M M := Sm.rf
  unfold f_X0_attempt
  try simp only [Nat.reduceAdd]
  refine T_qc (t_X1_alikes hn hj a3 (M 25 9) M hG (i_rng (lo := 0) (hi := 11) rfl (by omega) (by omega))) ?_
  rintro rv1 mv2 ⟨gq3_, kq4_⟩
  have kq5_ := Sm.call hS kq4_ rfl
  refine T_qc (t_X0_forget_c25 hn hj a2 rv1 mv2 gq3_ (i_rng (lo := 0) (hi := 7) rfl (by omega) (by omega))) ?_
  rintro rv6 mv7 ⟨hq8_, gq9_, kq10_⟩
  have kq11_ := Sm.call kq5_ kq10_ rfl
  refine T_qc (t_X10_triesAmong_c25 hn a2 rv1 mv7 gq9_ (i_rng (lo := 0) (hi := 7) rfl (by omega) (by omega))) ?_
  rintro rv12 mv13 ⟨gq14_, kq15_⟩
  have hq16_ := kq15_.nil
  subst hq16_
  refine T_mu gq9_ kq11_ (rn_44_2 _) (nw_44 _) (i := 3) rfl ⟨by decide, by decide, Or.inr ⟨by decide, by decide⟩⟩ ?_
  intro mv17 hq18_ gq19_ kq20_
  have hq21_ : (mv17 44 2).toInt = rv12.toInt := by rw [hq18_, mu_at]
  refine T_qc (t_X0_tellAll_c25 hn a2 a3 a4 mv17 gq19_ (i_rng (lo := 0) (hi := 7) rfl (by omega) (by omega)) (i_rng (lo := 0) (hi := 11) rfl (by omega) (by omega)) (i_rng (lo := 0) (hi := 8) rfl (by omega) (by omega))) ?_
  rintro rv22 mv23 ⟨hq24_, gq25_, kq26_⟩
  have kq27_ := Sm.call kq20_ kq26_ rfl
  have hq28_ : (mv23 44 2).toInt = (mv17 44 2).toInt := by rw [kq26_ 44 2 (by decide)]
  refine T_qc (t_X1_voidTries hn hj  mv23 gq25_ ) ?_
  rintro rv29 mv30 ⟨hq31_, gq32_, kq33_⟩
  have kq34_ := Sm.call kq27_ kq33_ rfl
  have hq35_ : (mv30 44 2).toInt = (mv23 44 2).toInt := by rw [kq33_ 44 2 (by decide)]
  refine T_mu gq32_ kq34_ (rn_44_3 _) (nw_44 _) (i := 3) rfl ⟨by decide, by decide, Or.inr ⟨by decide, by decide⟩⟩ ?_
  intro mv36 hq37_ gq38_ kq39_
  have hq40_ : (mv36 44 2).toInt = (mv30 44 2).toInt := by rw [hq37_, mu_ne (Or.inr (by decide))]
  have hq41_ : (mv36 44 3).toInt = rv29.toInt := by rw [hq37_, mu_at]
  refine T_qc (t_X10_addTry_c25 hn a2 a3 mv36 gq38_ (i_rng (lo := 0) (hi := 7) rfl (by omega) (by omega)) (i_rng (lo := 0) (hi := 11) rfl (by omega) (by omega))) ?_
  rintro rv42 mv43 ⟨hq44_, gq45_, kq46_⟩
  have kq47_ := Sm.call kq39_ kq46_ rfl
  have hq48_ : (mv43 44 2).toInt = (mv36 44 2).toInt := by rw [kq46_ 44 2 (by decide)]
  have hq49_ : (mv43 44 3).toInt = (mv36 44 3).toInt := by rw [kq46_ 44 3 (by decide)]
  refine T_le rfl rfl (fun hq50_ => ?_) (fun hq50_ => ?_)
  · refine T_qg rfl (by omega) (by omega) ?_
    refine T_qc (t_X10_hasCounted_c25 hn a2 (mv43 6 a3.toNatClampNeg) mv43 gq45_ (i_rng (lo := 0) (hi := 7) rfl (by omega) (by omega))) ?_
    rintro rv51 mv52 ⟨hq53_, gq54_, kq55_⟩
    have hq56_ := kq55_.nil
    subst hq56_
    refine T_eq rfl l_0 (fun hq57_ => ?_) (fun hq57_ => ?_)
    · exact T_ret ⟨(i_rng (lo := (-2)) (hi := 1) l_m2 (by omega) (by omega)), gq45_, kq47_⟩
    · refine T_qc (t_X10_addCounted_c25 hn a2 a3 mv43 gq45_ (i_rng (lo := 0) (hi := 7) rfl (by omega) (by omega)) (i_rng (lo := 0) (hi := 11) rfl (by omega) (by omega))) ?_
      rintro rv58 mv59 ⟨hq60_, gq61_, kq62_⟩
      have kq63_ := Sm.call kq47_ kq62_ rfl
      have hq64_ : (mv59 44 2).toInt = (mv43 44 2).toInt := by rw [kq62_ 44 2 (by decide)]
      have hq65_ : (mv59 44 3).toInt = (mv43 44 3).toInt := by rw [kq62_ 44 3 (by decide)]
      exact T_ret ⟨(i_rng (lo := (-2)) (hi := 1) l_1 (by omega) (by omega)), gq61_, kq63_⟩
  · exact T_ret ⟨(i_rng (lo := (-2)) (hi := 1) l_0 (by omega) (by omega)), gq45_, kq47_⟩

abbrev l_X0_doSteps_c25 : List Bx := [(27, 30, 0, 0), (33, 34, 0, 0), (34, 35, 4, 5), (35, 37, 0, 0), (44, 45, 2, 10)]
abbrev po_X0_doSteps_c25 (a2 : Int32) (M : qM) (v : Int32) (M' : qM) : Prop := (0 ≤ v.toInt ∧ v.toInt ≤ 0) ∧ G M' ∧ Sm l_X0_doSteps_c25 M M'
theorem t_X0_doSteps_c25_11 {n : Nat} (hn : 200000 ≤ n) {j : Nat} (hj : q_isLaw j) {oa2 : Int32} {M0 : qM} : ∀ (m : Nat) (a2 a3 a4 : Int32) (M : qM), G M → Sm l_X0_doSteps_c25 M0 M → 0 ≤ a2.toInt ∧ a2.toInt ≤ 7 → 0 ≤ a4.toInt ∧ a4.toInt ≤ 40 → 40 - a4.toInt < (m : Int) → qT (f_X0_doSteps_11 n 25 j m a2 a3 a4 M) (po_X0_doSteps_c25 oa2 M0) := by
  intro m
  induction m with
  | zero =>
    intro a2 a3 a4 M hG hS i0 i1 i4
    exfalso; omega
  | succ m ih =>
    intro a2 a3 a4 M hG hS i0 i1 i4
    show qT (b_X0_doSteps_11 n 25 j (f_X0_doSteps_11 n 25 j m) a2 a3 a4 M) _
    unfold b_X0_doSteps_11
    try simp only [Nat.reduceAdd]
    refine T_qg rfl (by omega) (by omega) ?_
    have hq10_ := r_32 hG a2.toNatClampNeg
    refine T_le rfl rfl (fun hq11_ => ?_) (fun hq11_ => ?_)
    · exact T_ret ⟨(i_rng (lo := 0) (hi := 0) l_0 (by omega) (by omega)), hG, hS⟩
    · refine T_qg (i_add (i_mul rfl l_40 (by omega) (by omega)) rfl (by omega) (by omega)) (by omega) (by omega) ?_
      refine T_ql rfl ?_
      intro xv12 hq13_
      refine T_qg (i_add (i_mul rfl l_40 (by omega) (by omega)) rfl (by omega) (by omega)) (by omega) (by omega) ?_
      refine T_ql rfl ?_
      intro xv14 hq15_
      refine T_qc (t_X2_knows hn xv12 M hG ) ?_
      rintro rv16 mv17 ⟨hq18_, hq19_, gq20_, kq21_⟩
      have hq22_ := kq21_.nil
      subst hq22_
      refine T_eq rfl l_0 (fun hq23_ => ?_) (fun hq23_ => ?_)
      · unfold f_X0_doSteps_162
        try simp only [Nat.reduceAdd]
        refine T_qg rfl (by omega) (by omega) ?_
        refine T_mu hG hS (i_rng (lo := 0) (hi := 40) (i_add rfl l_1 (by omega) (by omega)) (by omega) (by omega)) (nw_33 _) (i := 1) rfl ⟨by decide, by decide, Or.inl rfl⟩ ?_
        intro mv24 hq25_ gq26_ kq27_
        have hq28_ : (mv24 32 a2.toNatClampNeg).toInt = (M 32 a2.toNatClampNeg).toInt := by rw [hq25_, mu_ne (Or.inl (by decide))]
        have hq29_ : (mv24 33 a2.toNatClampNeg).toInt = (a4.toInt + 1) := by rw [hq25_, mu_at]; exact (i_add rfl l_1 (by omega) (by omega))
        refine T_ql (i_add rfl l_1 (by omega) (by omega)) ?_
        intro xv30 hq31_
        exact ih a2 a3 xv30 mv24 gq26_ kq27_ (i_rng (lo := 0) (hi := 7) rfl (by omega) (by omega)) (i_rng (lo := 0) (hi := 40) rfl (by omega) (by omega)) (by omega)
      · refine T_eq rfl l_8 (fun hq32_ => ?_) (fun hq32_ => ?_)
        · unfold f_X0_doSteps_84
          try simp only [Nat.reduceAdd]
          refine T_qg rfl (by omega) (by omega) ?_
          refine T_le rfl rfl (fun hq33_ => ?_) (fun hq33_ => ?_)
          · refine T_qg rfl (by omega) (by omega) ?_
            have hq34_ := i_full (a3)
            have hq35_ := i_full (M 4 xv12.toNatClampNeg)
            refine T_ql rfl ?_
            intro xv36 hq37_
            refine T_qg rfl (by omega) (by omega) ?_
            have hq39_ := i_full (M 44 6)
            refine T_mu hG hS (rn_44_6 _) (nw_44 _) (i := 4) rfl ⟨by decide, by decide, Or.inr ⟨by decide, by decide⟩⟩ ?_
            intro mv38 hq40_ gq41_ kq42_
            have hq43_ : (mv38 32 a2.toNatClampNeg).toInt = (M 32 a2.toNatClampNeg).toInt := by rw [hq40_, mu_ne (Or.inl (by decide))]
            have hq44_ : (mv38 4 xv12.toNatClampNeg).toInt = (M 4 xv12.toNatClampNeg).toInt := by rw [hq40_, mu_ne (Or.inl (by decide))]
            have hq45_ : (mv38 44 6).toInt = ((M 44 6) + (M 4 xv12.toNatClampNeg)).toInt := by rw [hq40_, mu_at]
            have hq47_ := i_full (mv38 44 4)
            refine T_mu gq41_ kq42_ (rn_44_4 _) (nw_44 _) (i := 4) rfl ⟨by decide, by decide, Or.inr ⟨by decide, by decide⟩⟩ ?_
            intro mv46 hq48_ gq49_ kq50_
            have hq51_ : (mv46 32 a2.toNatClampNeg).toInt = (mv38 32 a2.toNatClampNeg).toInt := by rw [hq48_, mu_ne (Or.inl (by decide))]
            have hq52_ : (mv46 4 xv12.toNatClampNeg).toInt = (mv38 4 xv12.toNatClampNeg).toInt := by rw [hq48_, mu_ne (Or.inl (by decide))]
            have hq53_ : (mv46 44 6).toInt = (mv38 44 6).toInt := by rw [hq48_, mu_ne (Or.inr (by decide))]
            have hq54_ : (mv46 44 4).toInt = ((mv38 44 4) + (1 : Int32)).toInt := by rw [hq48_, mu_at]
            refine T_qc (t_X0_attempt_c25 hn hj a2 xv12 xv14 mv46 gq49_ (i_rng (lo := 0) (hi := 7) rfl (by omega) (by omega)) (i_rng (lo := 0) (hi := 11) rfl (by omega) (by omega)) (i_rng (lo := 0) (hi := 8) rfl (by omega) (by omega))) ?_
            rintro rv55 mv56 ⟨hq57_, gq58_, kq59_⟩
            have kq60_ := Sm.call kq50_ kq59_ rfl
            have hq61_ : (mv56 32 a2.toNatClampNeg).toInt = (mv46 32 a2.toNatClampNeg).toInt := by rw [kq59_ 32 _ (outc rfl)]
            have hq62_ : (mv56 4 xv12.toNatClampNeg).toInt = (mv46 4 xv12.toNatClampNeg).toInt := by rw [kq59_ 4 _ (outc rfl)]
            have hq63_ : (mv56 44 6).toInt = (mv46 44 6).toInt := by rw [kq59_ 44 6 (by decide)]
            have hq64_ : (mv56 44 4).toInt = (mv46 44 4).toInt := by rw [kq59_ 44 4 (by decide)]
            refine T_qc (t_X0_noteOutcome hn (mv46 25 9) a2 xv12 rv55 mv56 gq58_ (i_rng (lo := 0) (hi := 7) rfl (by omega) (by omega)) (i_rng (lo := 0) (hi := 11) rfl (by omega) (by omega)) (i_rng (lo := (-2)) (hi := 1) rfl (by omega) (by omega))) ?_
            rintro rv65 mv66 ⟨hq67_, gq68_, kq69_⟩
            have kq70_ := Sm.call kq60_ kq69_ rfl
            have hq71_ : (mv66 32 a2.toNatClampNeg).toInt = (mv56 32 a2.toNatClampNeg).toInt := by rw [kq69_ 32 _ (outc rfl)]
            have hq72_ : (mv66 4 xv12.toNatClampNeg).toInt = (mv56 4 xv12.toNatClampNeg).toInt := by rw [kq69_ 4 _ (outc rfl)]
            have hq73_ : (mv66 44 6).toInt = (mv56 44 6).toInt := by rw [kq69_ 44 6 (by decide)]
            have hq74_ : (mv66 44 4).toInt = (mv56 44 4).toInt := by rw [kq69_ 44 4 (by decide)]
            unfold f_X0_doSteps_162
            try simp only [Nat.reduceAdd]
            refine T_qg rfl (by omega) (by omega) ?_
            refine T_mu gq68_ kq70_ (i_rng (lo := 0) (hi := 40) (i_add rfl l_1 (by omega) (by omega)) (by omega) (by omega)) (nw_33 _) (i := 1) rfl ⟨by decide, by decide, Or.inl rfl⟩ ?_
            intro mv75 hq76_ gq77_ kq78_
            have hq79_ : (mv75 32 a2.toNatClampNeg).toInt = (mv66 32 a2.toNatClampNeg).toInt := by rw [hq76_, mu_ne (Or.inl (by decide))]
            have hq80_ : (mv75 4 xv12.toNatClampNeg).toInt = (mv66 4 xv12.toNatClampNeg).toInt := by rw [hq76_, mu_ne (Or.inl (by decide))]
            have hq81_ : (mv75 44 6).toInt = (mv66 44 6).toInt := by rw [hq76_, mu_ne (Or.inl (by decide))]
            have hq82_ : (mv75 44 4).toInt = (mv66 44 4).toInt := by rw [hq76_, mu_ne (Or.inl (by decide))]
            have hq83_ : (mv75 33 a2.toNatClampNeg).toInt = (a4.toInt + 1) := by rw [hq76_, mu_at]; exact (i_add rfl l_1 (by omega) (by omega))
            refine T_ql (i_add rfl l_1 (by omega) (by omega)) ?_
            intro xv84 hq85_
            exact ih a2 xv36 xv84 mv75 gq77_ kq78_ (i_rng (lo := 0) (hi := 7) rfl (by omega) (by omega)) (i_rng (lo := 0) (hi := 40) rfl (by omega) (by omega)) (by omega)
          · exact T_ret ⟨(i_rng (lo := 0) (hi := 0) l_0 (by omega) (by omega)), hG, hS⟩
        · refine T_eq rfl rfl (fun hq86_ => ?_) (fun hq86_ => ?_)
          · unfold f_X0_doSteps_162
            try simp only [Nat.reduceAdd]
            refine T_qg rfl (by omega) (by omega) ?_
            refine T_mu hG hS (i_rng (lo := 0) (hi := 40) (i_add rfl l_1 (by omega) (by omega)) (by omega) (by omega)) (nw_33 _) (i := 1) rfl ⟨by decide, by decide, Or.inl rfl⟩ ?_
            intro mv87 hq88_ gq89_ kq90_
            have hq91_ : (mv87 32 a2.toNatClampNeg).toInt = (M 32 a2.toNatClampNeg).toInt := by rw [hq88_, mu_ne (Or.inl (by decide))]
            have hq92_ : (mv87 33 a2.toNatClampNeg).toInt = (a4.toInt + 1) := by rw [hq88_, mu_at]; exact (i_add rfl l_1 (by omega) (by omega))
            refine T_ql (i_add rfl l_1 (by omega) (by omega)) ?_
            intro xv93 hq94_
            exact ih a2 a3 xv93 mv87 gq89_ kq90_ (i_rng (lo := 0) (hi := 7) rfl (by omega) (by omega)) (i_rng (lo := 0) (hi := 40) rfl (by omega) (by omega)) (by omega)
          · refine T_qc (t_X10_knows_c25 hn xv14 M hG ) ?_
            rintro rv95 mv96 ⟨hq97_, hq98_, gq99_, kq100_⟩
            have hq101_ := kq100_.nil
            subst hq101_
            refine T_eq rfl l_0 (fun hq102_ => ?_) (fun hq102_ => ?_)
            · unfold f_X0_doSteps_162
              try simp only [Nat.reduceAdd]
              refine T_qg rfl (by omega) (by omega) ?_
              refine T_mu hG hS (i_rng (lo := 0) (hi := 40) (i_add rfl l_1 (by omega) (by omega)) (by omega) (by omega)) (nw_33 _) (i := 1) rfl ⟨by decide, by decide, Or.inl rfl⟩ ?_
              intro mv103 hq104_ gq105_ kq106_
              have hq107_ : (mv103 32 a2.toNatClampNeg).toInt = (M 32 a2.toNatClampNeg).toInt := by rw [hq104_, mu_ne (Or.inl (by decide))]
              have hq108_ : (mv103 33 a2.toNatClampNeg).toInt = (a4.toInt + 1) := by rw [hq104_, mu_at]; exact (i_add rfl l_1 (by omega) (by omega))
              refine T_ql (i_add rfl l_1 (by omega) (by omega)) ?_
              intro xv109 hq110_
              exact ih a2 a3 xv109 mv103 gq105_ kq106_ (i_rng (lo := 0) (hi := 7) rfl (by omega) (by omega)) (i_rng (lo := 0) (hi := 40) rfl (by omega) (by omega)) (by omega)
            · unfold f_X0_doSteps_84
              try simp only [Nat.reduceAdd]
              refine T_qg rfl (by omega) (by omega) ?_
              refine T_le rfl rfl (fun hq111_ => ?_) (fun hq111_ => ?_)
              · refine T_qg rfl (by omega) (by omega) ?_
                have hq112_ := i_full (a3)
                have hq113_ := i_full (M 4 xv12.toNatClampNeg)
                refine T_ql rfl ?_
                intro xv114 hq115_
                refine T_qg rfl (by omega) (by omega) ?_
                have hq117_ := i_full (M 44 6)
                refine T_mu hG hS (rn_44_6 _) (nw_44 _) (i := 4) rfl ⟨by decide, by decide, Or.inr ⟨by decide, by decide⟩⟩ ?_
                intro mv116 hq118_ gq119_ kq120_
                have hq121_ : (mv116 32 a2.toNatClampNeg).toInt = (M 32 a2.toNatClampNeg).toInt := by rw [hq118_, mu_ne (Or.inl (by decide))]
                have hq122_ : (mv116 4 xv12.toNatClampNeg).toInt = (M 4 xv12.toNatClampNeg).toInt := by rw [hq118_, mu_ne (Or.inl (by decide))]
                have hq123_ : (mv116 44 6).toInt = ((M 44 6) + (M 4 xv12.toNatClampNeg)).toInt := by rw [hq118_, mu_at]
                have hq125_ := i_full (mv116 44 4)
                refine T_mu gq119_ kq120_ (rn_44_4 _) (nw_44 _) (i := 4) rfl ⟨by decide, by decide, Or.inr ⟨by decide, by decide⟩⟩ ?_
                intro mv124 hq126_ gq127_ kq128_
                have hq129_ : (mv124 32 a2.toNatClampNeg).toInt = (mv116 32 a2.toNatClampNeg).toInt := by rw [hq126_, mu_ne (Or.inl (by decide))]
                have hq130_ : (mv124 4 xv12.toNatClampNeg).toInt = (mv116 4 xv12.toNatClampNeg).toInt := by rw [hq126_, mu_ne (Or.inl (by decide))]
                have hq131_ : (mv124 44 6).toInt = (mv116 44 6).toInt := by rw [hq126_, mu_ne (Or.inr (by decide))]
                have hq132_ : (mv124 44 4).toInt = ((mv116 44 4) + (1 : Int32)).toInt := by rw [hq126_, mu_at]
                refine T_qc (t_X0_attempt_c25 hn hj a2 xv12 xv14 mv124 gq127_ (i_rng (lo := 0) (hi := 7) rfl (by omega) (by omega)) (i_rng (lo := 0) (hi := 11) rfl (by omega) (by omega)) (i_rng (lo := 0) (hi := 8) rfl (by omega) (by omega))) ?_
                rintro rv133 mv134 ⟨hq135_, gq136_, kq137_⟩
                have kq138_ := Sm.call kq128_ kq137_ rfl
                have hq139_ : (mv134 32 a2.toNatClampNeg).toInt = (mv124 32 a2.toNatClampNeg).toInt := by rw [kq137_ 32 _ (outc rfl)]
                have hq140_ : (mv134 4 xv12.toNatClampNeg).toInt = (mv124 4 xv12.toNatClampNeg).toInt := by rw [kq137_ 4 _ (outc rfl)]
                have hq141_ : (mv134 44 6).toInt = (mv124 44 6).toInt := by rw [kq137_ 44 6 (by decide)]
                have hq142_ : (mv134 44 4).toInt = (mv124 44 4).toInt := by rw [kq137_ 44 4 (by decide)]
                refine T_qc (t_X0_noteOutcome hn (mv124 25 9) a2 xv12 rv133 mv134 gq136_ (i_rng (lo := 0) (hi := 7) rfl (by omega) (by omega)) (i_rng (lo := 0) (hi := 11) rfl (by omega) (by omega)) (i_rng (lo := (-2)) (hi := 1) rfl (by omega) (by omega))) ?_
                rintro rv143 mv144 ⟨hq145_, gq146_, kq147_⟩
                have kq148_ := Sm.call kq138_ kq147_ rfl
                have hq149_ : (mv144 32 a2.toNatClampNeg).toInt = (mv134 32 a2.toNatClampNeg).toInt := by rw [kq147_ 32 _ (outc rfl)]
                have hq150_ : (mv144 4 xv12.toNatClampNeg).toInt = (mv134 4 xv12.toNatClampNeg).toInt := by rw [kq147_ 4 _ (outc rfl)]
                have hq151_ : (mv144 44 6).toInt = (mv134 44 6).toInt := by rw [kq147_ 44 6 (by decide)]
                have hq152_ : (mv144 44 4).toInt = (mv134 44 4).toInt := by rw [kq147_ 44 4 (by decide)]
                unfold f_X0_doSteps_162
                try simp only [Nat.reduceAdd]
                refine T_qg rfl (by omega) (by omega) ?_
                refine T_mu gq146_ kq148_ (i_rng (lo := 0) (hi := 40) (i_add rfl l_1 (by omega) (by omega)) (by omega) (by omega)) (nw_33 _) (i := 1) rfl ⟨by decide, by decide, Or.inl rfl⟩ ?_
                intro mv153 hq154_ gq155_ kq156_
                have hq157_ : (mv153 32 a2.toNatClampNeg).toInt = (mv144 32 a2.toNatClampNeg).toInt := by rw [hq154_, mu_ne (Or.inl (by decide))]
                have hq158_ : (mv153 4 xv12.toNatClampNeg).toInt = (mv144 4 xv12.toNatClampNeg).toInt := by rw [hq154_, mu_ne (Or.inl (by decide))]
                have hq159_ : (mv153 44 6).toInt = (mv144 44 6).toInt := by rw [hq154_, mu_ne (Or.inl (by decide))]
                have hq160_ : (mv153 44 4).toInt = (mv144 44 4).toInt := by rw [hq154_, mu_ne (Or.inl (by decide))]
                have hq161_ : (mv153 33 a2.toNatClampNeg).toInt = (a4.toInt + 1) := by rw [hq154_, mu_at]; exact (i_add rfl l_1 (by omega) (by omega))
                refine T_ql (i_add rfl l_1 (by omega) (by omega)) ?_
                intro xv162 hq163_
                exact ih a2 xv114 xv162 mv153 gq155_ kq156_ (i_rng (lo := 0) (hi := 7) rfl (by omega) (by omega)) (i_rng (lo := 0) (hi := 40) rfl (by omega) (by omega)) (by omega)
              · exact T_ret ⟨(i_rng (lo := 0) (hi := 0) l_0 (by omega) (by omega)), hG, hS⟩
theorem t_X0_doSteps_c25 {n : Nat} (hn : 200000 ≤ n) {j : Nat} (hj : q_isLaw j) (a2 : Int32) (M : qM) (hG : G M) (pa2 : 0 ≤ a2.toInt ∧ a2.toInt ≤ 7) : qT (f_X0_doSteps n 25 j a2 M) (po_X0_doSteps_c25 a2 M) := by
  have hS : Sm l_X0_doSteps_c25 M M := Sm.rf
  unfold f_X0_doSteps
  try simp only [Nat.reduceAdd]
  refine T_qg rfl (by omega) (by omega) ?_
  have hq164_ := r_33 hG a2.toNatClampNeg
  refine T_ql rfl ?_
  intro xv165 hq166_
  exact (t_X0_doSteps_c25_11 hn hj) n a2 (12 : Int32) xv165 M hG hS (i_rng (lo := 0) (hi := 7) rfl (by omega) (by omega)) (i_rng (lo := 0) (hi := 40) rfl (by omega) (by omega)) (by have e1 : ((12 : Int32)).toInt = _ := l_12; omega)
abbrev l_X0_goDays_c25 : List Bx := [(25, 26, 9, 10), (27, 30, 0, 0), (33, 34, 0, 0), (34, 35, 4, 5), (35, 37, 0, 0), (44, 45, 2, 10)]
abbrev po_X0_goDays_c25 (a2 : Int32) (M : qM) (v : Int32) (M' : qM) : Prop := (0 ≤ v.toInt ∧ v.toInt ≤ 0) ∧ (((9999 ≤ (M 25 9).toInt ∧ (M' 25 9).toInt = (M 25 9).toInt) ∨ ((M 25 9).toInt < 9999 ∧ (M 25 9).toInt + a2.toInt ≤ 9999 ∧ (M' 25 9).toInt = (M 25 9).toInt + a2.toInt) ∨ ((M 25 9).toInt < 9999 ∧ 9999 < (M 25 9).toInt + a2.toInt ∧ (M' 25 9).toInt = 9999))) ∧ G M' ∧ Sm l_X0_goDays_c25 M M'
theorem t_X0_goDays_c25_53 {n : Nat} (hn : 200000 ≤ n) {j : Nat} (hj : q_isLaw j) {oa2 : Int32} {M0 : qM} {K35 : Int32 → Int32 → qM → qR} {BK35 : Nat} (hK35 : ∀ (a2 a3 : Int32) (M : qM), G M → Sm l_X0_goDays_c25 M0 M → 1 ≤ a2.toInt ∧ a2.toInt ≤ 60 → (-2147483633) ≤ a3.toInt ∧ a3.toInt ≤ 60 → (a2.toInt = oa2.toInt ∧ a3.toInt ≤ a2.toInt ∧ ((a3.toInt = 0 ∧ (M 25 9).toInt = (M0 25 9).toInt) ∨ ((M0 25 9).toInt < 9999 ∧ (M 25 9).toInt = (M0 25 9).toInt + a3.toInt ∧ (M 25 9).toInt ≤ 9999))) → 60 - a3.toInt < (BK35 : Int) → qT (K35 a2 a3 M) (po_X0_goDays_c25 oa2 M0)) : ∀ (m : Nat) (a2 a3 a4 : Int32) (M : qM), G M → Sm l_X0_goDays_c25 M0 M → 1 ≤ a2.toInt ∧ a2.toInt ≤ 60 → (-2147483634) ≤ a3.toInt ∧ a3.toInt ≤ 59 → 0 ≤ a4.toInt ∧ a4.toInt ≤ 8 → (a2.toInt = oa2.toInt ∧ a3.toInt ≤ a2.toInt ∧ ((a3.toInt = 0 ∧ (M 25 9).toInt = (M0 25 9).toInt) ∨ ((M0 25 9).toInt < 9999 ∧ (M 25 9).toInt = (M0 25 9).toInt + a3.toInt ∧ (M 25 9).toInt ≤ 9999)) ∧ (M 25 9).toInt < 9999 ∧ a3.toInt < a2.toInt) → 60 - a3.toInt < (BK35 : Int) + 1 → 8 - a4.toInt < (m : Int) → qT (f_X0_goDays_53 n 25 j K35 m a2 a3 a4 M) (po_X0_goDays_c25 oa2 M0) := by
  intro m
  induction m with
  | zero =>
    intro a2 a3 a4 M hG hS i0 i1 i2 hE i6 i7
    exfalso; omega
  | succ m ih =>
    intro a2 a3 a4 M hG hS i0 i1 i2 hE i6 i7
    show qT (b_X0_goDays_53 n 25 j K35 (f_X0_goDays_53 n 25 j K35 m) a2 a3 a4 M) _
    unfold b_X0_goDays_53
    try simp only [Nat.reduceAdd]
    refine T_le l_8 rfl (fun hq10_ => ?_) (fun hq10_ => ?_)
    · have hq12_ := i_full (M 25 9)
      refine T_mu hG hS (rn_25_9 _) (nw_25 _) (i := 0) rfl ⟨by decide, by decide, Or.inr ⟨by decide, by decide⟩⟩ ?_
      intro mv11 hq13_ gq14_ kq15_
      have hq16_ : (mv11 25 9).toInt = ((M 25 9).toInt + 1) := by rw [hq13_, mu_at]; exact (i_add rfl l_1 (by omega) (by omega))
      refine T_ql (i_add rfl l_1 (by omega) (by omega)) ?_
      intro xv17 hq18_
      exact hK35 a2 xv17 mv11 gq14_ kq15_ (i_rng (lo := 1) (hi := 60) rfl (by omega) (by omega)) (i_rng (lo := (-2147483633)) (hi := 60) rfl (by omega) (by omega)) (by omega) (by omega)
    · refine T_qc (t_X10_knows_c25 hn a4 M hG ) ?_
      rintro rv19 mv20 ⟨hq21_, hq22_, gq23_, kq24_⟩
      have hq25_ := kq24_.nil
      subst hq25_
      refine T_eq rfl l_0 (fun hq26_ => ?_) (fun hq26_ => ?_)
      · refine T_ql (i_add rfl l_1 (by omega) (by omega)) ?_
        intro xv27 hq28_
        exact ih a2 a3 xv27 M hG hS (i_rng (lo := 1) (hi := 60) rfl (by omega) (by omega)) (i_rng (lo := (-2147483634)) (hi := 59) rfl (by omega) (by omega)) (i_rng (lo := 0) (hi := 8) rfl (by omega) (by omega)) (by omega) (by omega) (by omega)
      · refine T_qc (t_X0_doSteps_c25 hn hj a4 M hG (i_rng (lo := 0) (hi := 7) rfl (by omega) (by omega))) ?_
        rintro rv29 mv30 ⟨hq31_, gq32_, kq33_⟩
        have kq34_ := Sm.call hS kq33_ rfl
        have hq35_ : (mv30 25 9).toInt = (M 25 9).toInt := by rw [kq33_ 25 9 (by decide)]
        refine T_ql (i_add rfl l_1 (by omega) (by omega)) ?_
        intro xv36 hq37_
        exact ih a2 a3 xv36 mv30 gq32_ kq34_ (i_rng (lo := 1) (hi := 60) rfl (by omega) (by omega)) (i_rng (lo := (-2147483634)) (hi := 59) rfl (by omega) (by omega)) (i_rng (lo := 0) (hi := 8) rfl (by omega) (by omega)) (by omega) (by omega) (by omega)
theorem t_X0_goDays_c25_35 {n : Nat} (hn : 200000 ≤ n) {j : Nat} (hj : q_isLaw j) {oa2 : Int32} {M0 : qM} : ∀ (m : Nat) (a2 a3 : Int32) (M : qM), G M → Sm l_X0_goDays_c25 M0 M → 1 ≤ a2.toInt ∧ a2.toInt ≤ 60 → (-2147483633) ≤ a3.toInt ∧ a3.toInt ≤ 60 → (a2.toInt = oa2.toInt ∧ a3.toInt ≤ a2.toInt ∧ ((a3.toInt = 0 ∧ (M 25 9).toInt = (M0 25 9).toInt) ∨ ((M0 25 9).toInt < 9999 ∧ (M 25 9).toInt = (M0 25 9).toInt + a3.toInt ∧ (M 25 9).toInt ≤ 9999))) → 60 - a3.toInt < (m : Int) → qT (f_X0_goDays_35 n 25 j m a2 a3 M) (po_X0_goDays_c25 oa2 M0) := by
  intro m
  induction m with
  | zero =>
    intro a2 a3 M hG hS i0 i1 hE i5
    exfalso; omega
  | succ m ih =>
    intro a2 a3 M hG hS i0 i1 hE i5
    show qT (b_X0_goDays_35 n 25 j (f_X0_goDays_35 n 25 j m) a2 a3 M) _
    unfold b_X0_goDays_35
    try simp only [Nat.reduceAdd]
    refine T_le rfl rfl (fun hq41_ => ?_) (fun hq41_ => ?_)
    · exact T_ret ⟨(i_rng (lo := 0) (hi := 0) l_0 (by omega) (by omega)), (by have e9 : (0 : Int32).toInt = _ := l_0; omega), hG, hS⟩
    · refine T_le l_9999 rfl (fun hq42_ => ?_) (fun hq42_ => ?_)
      · exact T_ret ⟨(i_rng (lo := 0) (hi := 0) l_0 (by omega) (by omega)), (by have e9 : (0 : Int32).toInt = _ := l_0; omega), hG, hS⟩
      · exact (t_X0_goDays_c25_53 hn hj ih) n a2 a3 (0 : Int32) M hG hS (i_rng (lo := 1) (hi := 60) rfl (by omega) (by omega)) (i_rng (lo := (-2147483634)) (hi := 59) rfl (by omega) (by omega)) (i_rng (lo := 0) (hi := 8) l_0 (by omega) (by omega)) (by have e2 : ((0 : Int32)).toInt = _ := l_0; omega) (by omega) (by have e2 : ((0 : Int32)).toInt = _ := l_0; omega)
theorem t_X0_goDays_c25 {n : Nat} (hn : 200000 ≤ n) {j : Nat} (hj : q_isLaw j) (a2 : Int32) (M : qM) (hG : G M) (pa2 : 1 ≤ a2.toInt ∧ a2.toInt ≤ 60) : qT (f_X0_goDays n 25 j a2 M) (po_X0_goDays_c25 a2 M) := by
  have hS : Sm l_X0_goDays_c25 M M := Sm.rf
  unfold f_X0_goDays
  try simp only [Nat.reduceAdd]
  refine T_mu hG hS (rn_44_4 _) (nw_44 _) (i := 5) rfl ⟨by decide, by decide, Or.inr ⟨by decide, by decide⟩⟩ ?_
  intro mv43 hq44_ gq45_ kq46_
  have hq47_ : (mv43 25 9).toInt = (M 25 9).toInt := by rw [hq44_, mu_ne (Or.inl (by decide))]
  have hq48_ : (mv43 44 4).toInt = 0 := by rw [hq44_, mu_at]; exact l_0
  refine T_mu gq45_ kq46_ (rn_44_5 _) (nw_44 _) (i := 5) rfl ⟨by decide, by decide, Or.inr ⟨by decide, by decide⟩⟩ ?_
  intro mv49 hq50_ gq51_ kq52_
  have hq53_ : (mv49 25 9).toInt = (mv43 25 9).toInt := by rw [hq50_, mu_ne (Or.inl (by decide))]
  have hq54_ : (mv49 44 4).toInt = (mv43 44 4).toInt := by rw [hq50_, mu_ne (Or.inr (by decide))]
  have hq55_ : (mv49 44 5).toInt = 0 := by rw [hq50_, mu_at]; exact l_0
  refine T_mu gq51_ kq52_ (rn_44_6 _) (nw_44 _) (i := 5) rfl ⟨by decide, by decide, Or.inr ⟨by decide, by decide⟩⟩ ?_
  intro mv56 hq57_ gq58_ kq59_
  have hq60_ : (mv56 25 9).toInt = (mv49 25 9).toInt := by rw [hq57_, mu_ne (Or.inl (by decide))]
  have hq61_ : (mv56 44 4).toInt = (mv49 44 4).toInt := by rw [hq57_, mu_ne (Or.inr (by decide))]
  have hq62_ : (mv56 44 5).toInt = (mv49 44 5).toInt := by rw [hq57_, mu_ne (Or.inr (by decide))]
  have hq63_ : (mv56 44 6).toInt = 0 := by rw [hq57_, mu_at]; exact l_0
  refine T_mu gq58_ kq59_ (rn_44_7 _) (nw_44 _) (i := 5) rfl ⟨by decide, by decide, Or.inr ⟨by decide, by decide⟩⟩ ?_
  intro mv64 hq65_ gq66_ kq67_
  have hq68_ : (mv64 25 9).toInt = (mv56 25 9).toInt := by rw [hq65_, mu_ne (Or.inl (by decide))]
  have hq69_ : (mv64 44 4).toInt = (mv56 44 4).toInt := by rw [hq65_, mu_ne (Or.inr (by decide))]
  have hq70_ : (mv64 44 5).toInt = (mv56 44 5).toInt := by rw [hq65_, mu_ne (Or.inr (by decide))]
  have hq71_ : (mv64 44 6).toInt = (mv56 44 6).toInt := by rw [hq65_, mu_ne (Or.inr (by decide))]
  have hq72_ : (mv64 44 7).toInt = (-2) := by rw [hq65_, mu_at]; exact l_m2
  refine T_mu gq66_ kq67_ (rn_44_8 _) (nw_44 _) (i := 5) rfl ⟨by decide, by decide, Or.inr ⟨by decide, by decide⟩⟩ ?_
  intro mv73 hq74_ gq75_ kq76_
  have hq77_ : (mv73 25 9).toInt = (mv64 25 9).toInt := by rw [hq74_, mu_ne (Or.inl (by decide))]
  have hq78_ : (mv73 44 4).toInt = (mv64 44 4).toInt := by rw [hq74_, mu_ne (Or.inr (by decide))]
  have hq79_ : (mv73 44 5).toInt = (mv64 44 5).toInt := by rw [hq74_, mu_ne (Or.inr (by decide))]
  have hq80_ : (mv73 44 6).toInt = (mv64 44 6).toInt := by rw [hq74_, mu_ne (Or.inr (by decide))]
  have hq81_ : (mv73 44 7).toInt = (mv64 44 7).toInt := by rw [hq74_, mu_ne (Or.inr (by decide))]
  have hq82_ : (mv73 44 8).toInt = (-2) := by rw [hq74_, mu_at]; exact l_m2
  refine T_mu gq75_ kq76_ (rn_44_9 _) (nw_44 _) (i := 5) rfl ⟨by decide, by decide, Or.inr ⟨by decide, by decide⟩⟩ ?_
  intro mv83 hq84_ gq85_ kq86_
  have hq87_ : (mv83 25 9).toInt = (mv73 25 9).toInt := by rw [hq84_, mu_ne (Or.inl (by decide))]
  have hq88_ : (mv83 44 4).toInt = (mv73 44 4).toInt := by rw [hq84_, mu_ne (Or.inr (by decide))]
  have hq89_ : (mv83 44 5).toInt = (mv73 44 5).toInt := by rw [hq84_, mu_ne (Or.inr (by decide))]
  have hq90_ : (mv83 44 6).toInt = (mv73 44 6).toInt := by rw [hq84_, mu_ne (Or.inr (by decide))]
  have hq91_ : (mv83 44 7).toInt = (mv73 44 7).toInt := by rw [hq84_, mu_ne (Or.inr (by decide))]
  have hq92_ : (mv83 44 8).toInt = (mv73 44 8).toInt := by rw [hq84_, mu_ne (Or.inr (by decide))]
  have hq93_ : (mv83 44 9).toInt = (-2) := by rw [hq84_, mu_at]; exact l_m2
  exact (t_X0_goDays_c25_35 hn hj) n a2 (0 : Int32) mv83 gq85_ kq86_ (i_rng (lo := 1) (hi := 60) rfl (by omega) (by omega)) (i_rng (lo := (-2147483633)) (hi := 60) l_0 (by omega) (by omega)) (by have e1 : ((0 : Int32)).toInt = _ := l_0; omega) (by have e1 : ((0 : Int32)).toInt = _ := l_0; omega)
abbrev l_X0_cameOfDays : List Bx := []
abbrev po_X0_cameOfDays (a1 : Int32) (M : qM) (v : Int32) (M' : qM) : Prop := G M' ∧ Sm l_X0_cameOfDays M M'
theorem t_X0_cameOfDays {n : Nat} (hn : 200000 ≤ n) (a1 : Int32) (M : qM) (hG : G M) (pa1 : 0 ≤ a1.toInt ∧ a1.toInt ≤ 5) : qT (f_X0_cameOfDays n a1 M) (po_X0_cameOfDays a1 M) := by
  have hS : Sm l_X0_cameOfDays M M := Sm.rf
  unfold f_X0_cameOfDays
  refine T_sw rfl l_0 (fun hq1_ => ?_) (fun hq1_ => ?_)
  · exact T_ret ⟨hG, hS⟩
  refine T_sw rfl l_1 (fun hq2_ => ?_) (fun hq2_ => ?_)
  · exact T_ret ⟨hG, hS⟩
  refine T_sw rfl l_2 (fun hq3_ => ?_) (fun hq3_ => ?_)
  · exact T_ret ⟨hG, hS⟩
  refine T_sw rfl l_3 (fun hq4_ => ?_) (fun hq4_ => ?_)
  · exact T_ret ⟨hG, hS⟩
  refine T_sw rfl l_4 (fun hq5_ => ?_) (fun hq5_ => ?_)
  · exact T_ret ⟨hG, hS⟩
  refine T_sw0 ?_
  exact T_ret ⟨hG, hS⟩
abbrev l_X10_stepsLeft_c25 : List Bx := []
abbrev po_X10_stepsLeft_c25 (a1 : Int32) (M : qM) (v : Int32) (M' : qM) : Prop := ((-40) ≤ v.toInt ∧ v.toInt ≤ 40) ∧ G M' ∧ Sm l_X10_stepsLeft_c25 M M'
theorem t_X10_stepsLeft_c25 {n : Nat} (hn : 200000 ≤ n) (a1 : Int32) (M : qM) (hG : G M) (pa1 : 0 ≤ a1.toInt ∧ a1.toInt ≤ 7) : qT (f_X10_stepsLeft n 25 a1 M) (po_X10_stepsLeft_c25 a1 M) := by
  have hS : Sm l_X10_stepsLeft_c25 M M := Sm.rf
  unfold f_X10_stepsLeft
  try simp only [Nat.reduceAdd]
  refine T_qg rfl (by omega) (by omega) ?_
  refine T_qg rfl (by omega) (by omega) ?_
  have hq1_ := r_32 hG a1.toNatClampNeg
  have hq2_ := r_33 hG a1.toNatClampNeg
  exact T_ret ⟨(i_rng (lo := (-40)) (hi := 40) (i_sub rfl rfl (by omega) (by omega)) (by omega) (by omega)), hG, hS⟩

abbrev l_X11_tried : List Bx := [(25, 26, 8, 10), (26, 34, 0, 0), (34, 35, 4, 5), (35, 37, 0, 0), (44, 45, 2, 10)]
abbrev po_X11_tried (a1 a2 : Int32) (M : qM) (v : Int32) (M' : qM) : Prop := G M' ∧ Sm l_X11_tried M M'
theorem t_X11_tried {n : Nat} (hn : 200000 ≤ n) {j : Nat} (hj : q_isLaw j) (a1 a2 : Int32) (M : qM) (hG : G M) : qT (f_X11_tried n j a1 a2 M) (po_X11_tried a1 a2 M) := by
  have hS : Sm l_X11_tried M M := Sm.rf
  unfold f_X11_tried
  refine T_lt rfl l_10 (fun hq1_ => ?_) (fun hq1_ => ?_)
  · unfold f_X11_tried_24
    unfold f_X11_tried_25
    refine T_lt rfl l_1 (fun hq2_ => ?_) (fun hq2_ => ?_)
    · exact T_ret ⟨hG, hS⟩
    · refine T_lt l_60 rfl (fun hq3_ => ?_) (fun hq3_ => ?_)
      · exact T_ret ⟨hG, hS⟩
      · refine T_eq l_0 l_0 (fun hq4_ => ?_) (fun hq4_ => ?_)
        · refine T_lt rfl l_0 (fun hq5_ => ?_) (fun hq5_ => ?_)
          · exact T_ret ⟨hG, hS⟩
          · refine T_le rfl l_5 (fun hq6_ => ?_) (fun hq6_ => ?_)
            · unfold f_X11_tried_52
              refine T_qc (t_X10_copy_c25_7 hn  M hG ) ?_
              rintro rv7 mv8 ⟨hq9_, hq10_, gq11_, kq12_⟩
              have kq13_ := Sm.call hS kq12_ rfl
              refine T_qc (t_X0_goDays_c25 hn hj a1 mv8 gq11_ (i_rng (lo := 1) (hi := 60) rfl (by omega) (by omega))) ?_
              rintro rv14 mv15 ⟨hq16_, hq17_, gq18_, kq19_⟩
              have kq20_ := Sm.call kq13_ kq19_ rfl
              have hq21_ : (mv15 25 8).toInt = (mv8 25 8).toInt := by rw [kq19_ 25 8 (by decide)]
              refine T_eq l_0 l_0 (fun hq22_ => ?_) (fun hq22_ => ?_)
              · refine T_qc (t_X0_cameOfDays hn a2 mv15 gq18_ (i_rng (lo := 0) (hi := 5) rfl (by omega) (by omega))) ?_
                rintro rv23 mv24 ⟨gq25_, kq26_⟩
                have hq27_ := kq26_.nil
                subst hq27_
                exact T_ret ⟨gq18_, kq20_⟩
              · exfalso; omega
            · exact T_ret ⟨hG, hS⟩
        · exfalso; omega
  · have hq30_ := i_full (a2)
    have hq31_ := (show (a2 - (10 : Int32)).toInt = _ from (i_sub rfl l_10 (by omega) (by omega)))
    refine T_qc (t_X10_knows_c7 hn (a2 - (10 : Int32)) M hG ) ?_
    rintro rv28 mv29 ⟨hq32_, hq33_, gq34_, kq35_⟩
    have hq36_ := kq35_.nil
    subst hq36_
    refine T_eq rfl l_0 (fun hq37_ => ?_) (fun hq37_ => ?_)
    · unfold f_X11_tried_24
      unfold f_X11_tried_25
      refine T_lt rfl l_1 (fun hq38_ => ?_) (fun hq38_ => ?_)
      · exact T_ret ⟨hG, hS⟩
      · refine T_lt l_60 rfl (fun hq39_ => ?_) (fun hq39_ => ?_)
        · exact T_ret ⟨hG, hS⟩
        · refine T_eq l_0 l_0 (fun hq40_ => ?_) (fun hq40_ => ?_)
          · refine T_lt rfl l_0 (fun hq41_ => ?_) (fun hq41_ => ?_)
            · exfalso; omega
            · refine T_le rfl l_5 (fun hq42_ => ?_) (fun hq42_ => ?_)
              · exfalso; omega
              · exact T_ret ⟨hG, hS⟩
          · exfalso; omega
    · unfold f_X11_tried_25
      refine T_lt rfl l_1 (fun hq43_ => ?_) (fun hq43_ => ?_)
      · exact T_ret ⟨hG, hS⟩
      · refine T_lt l_60 rfl (fun hq44_ => ?_) (fun hq44_ => ?_)
        · exact T_ret ⟨hG, hS⟩
        · refine T_eq l_1 l_0 (fun hq45_ => ?_) (fun hq45_ => ?_)
          · exfalso; omega
          · unfold f_X11_tried_52
            refine T_qc (t_X10_copy_c25_7 hn  M hG ) ?_
            rintro rv46 mv47 ⟨hq48_, hq49_, gq50_, kq51_⟩
            have kq52_ := Sm.call hS kq51_ rfl
            refine T_qc (t_X0_goDays_c25 hn hj a1 mv47 gq50_ (i_rng (lo := 1) (hi := 60) rfl (by omega) (by omega))) ?_
            rintro rv53 mv54 ⟨hq55_, hq56_, gq57_, kq58_⟩
            have kq59_ := Sm.call kq52_ kq58_ rfl
            have hq60_ : (mv54 25 8).toInt = (mv47 25 8).toInt := by rw [kq58_ 25 8 (by decide)]
            refine T_eq l_1 l_0 (fun hq61_ => ?_) (fun hq61_ => ?_)
            · exfalso; omega
            · refine T_qc (t_X10_stepsLeft_c25 hn (a2 - (10 : Int32)) mv54 gq57_ (i_rng (lo := 0) (hi := 7) (i_sub rfl l_10 (by omega) (by omega)) (by omega) (by omega))) ?_
              rintro rv62 mv63 ⟨hq64_, gq65_, kq66_⟩
              have hq67_ := kq66_.nil
              subst hq67_
              exact T_ret ⟨gq57_, kq59_⟩
abbrev l_X12_copies_c78_79 : List Bx := [(79, 80, 0, 954)]
abbrev po_X12_copies_c78_79 (M : qM) (v : Int32) (M' : qM) : Prop := (0 ≤ v.toInt ∧ v.toInt ≤ 0) ∧ ((M' 79 312).toInt = (M 78 312).toInt ∧ (M' 79 313).toInt = (M 78 313).toInt) ∧ G M' ∧ Sm l_X12_copies_c78_79 M M'
theorem t_X12_copies_c78_79_2 {n : Nat} (hn : 200000 ≤ n) {M0 : qM} : ∀ (m : Nat) (a2 : Int32) (M : qM), G M → Sm l_X12_copies_c78_79 M0 M → 0 ≤ a2.toInt ∧ a2.toInt ≤ 954 → ((a2.toInt ≤ 312 ∨ (M 79 312).toInt = (M0 78 312).toInt) ∧ (a2.toInt ≤ 313 ∨ (M 79 313).toInt = (M0 78 313).toInt) ∧ (M 78 312).toInt = (M0 78 312).toInt ∧ (M 78 313).toInt = (M0 78 313).toInt) → 954 - a2.toInt < (m : Int) → qT (f_X12_copies_2 n 78 79 m a2 M) (po_X12_copies_c78_79  M0) := by
  intro m
  induction m with
  | zero =>
    intro a2 M hG hS i0 hE i4
    exfalso; omega
  | succ m ih =>
    intro a2 M hG hS i0 hE i4
    show qT (b_X12_copies_2 n 78 79 (f_X12_copies_2 n 78 79 m) a2 M) _
    unfold b_X12_copies_2
    try simp only [Nat.reduceAdd]
    refine T_le l_954 rfl (fun hq2_ => ?_) (fun hq2_ => ?_)
    · exact T_ret ⟨(i_rng (lo := 0) (hi := 0) l_0 (by omega) (by omega)), (by have e9 : (0 : Int32).toInt = _ := l_0; omega), hG, hS⟩
    · refine T_qg rfl (by omega) (by omega) ?_
      refine T_qg rfl (by omega) (by omega) ?_
      refine T_mu hG hS (cp78 (by decide) (by decide) hG) (nw_79 _) (i := 0) rfl ⟨by decide, by decide, Or.inr ⟨(show 0 ≤ _ by rw [tnc]; omega), (show _ < 954 by rw [tnc]; omega)⟩⟩ ?_
      intro mv3 hq4_ gq5_ kq6_
      have hq7_ : (mv3 79 a2.toNatClampNeg).toInt = (M 78 a2.toNatClampNeg).toInt := by rw [hq4_, mu_at]
      refine T_ql (i_add rfl l_1 (by omega) (by omega)) ?_
      intro xv8 hq9_
      exact ih xv8 mv3 gq5_ kq6_ (i_rng (lo := 0) (hi := 954) rfl (by omega) (by omega)) (by first | exact ⟨cp_step (k := 312) hq4_ (by omega) (by omega) hE.2.2.1 hE.1, cp_step (k := 313) hq4_ (by omega) (by omega) hE.2.2.2 hE.2.1, (by rw [hq4_, mu_ne (Or.inl (by decide))]; exact hE.2.2.1), (by rw [hq4_, mu_ne (Or.inl (by decide))]; exact hE.2.2.2)⟩ | omega) (by omega)
theorem t_X12_copies_c78_79 {n : Nat} (hn : 200000 ≤ n) (M : qM) (hG : G M) : qT (f_X12_copies n 78 79  M) (po_X12_copies_c78_79  M) := by
  have hS : Sm l_X12_copies_c78_79 M M := Sm.rf
  unfold f_X12_copies
  try simp only [Nat.reduceAdd]
  exact (t_X12_copies_c78_79_2 hn) n (0 : Int32) M hG hS (i_rng (lo := 0) (hi := 954) l_0 (by omega) (by omega)) (by have e0 : ((0 : Int32)).toInt = _ := l_0; first | exact ⟨cp_step (k := 312) rfl (by omega) (by omega) hE.2.2.1 hE.1, cp_step (k := 313) rfl (by omega) (by omega) hE.2.2.2 hE.2.1, (by rw [rfl, mu_ne (Or.inl (by decide))]; exact hE.2.2.1), (by rw [rfl, mu_ne (Or.inl (by decide))]; exact hE.2.2.2)⟩ | omega) (by have e0 : ((0 : Int32)).toInt = _ := l_0; omega)
abbrev l_X12_copies_c79_78 : List Bx := [(78, 79, 0, 954)]
abbrev po_X12_copies_c79_78 (M : qM) (v : Int32) (M' : qM) : Prop := (0 ≤ v.toInt ∧ v.toInt ≤ 0) ∧ ((M' 78 312).toInt = (M 79 312).toInt ∧ (M' 78 313).toInt = (M 79 313).toInt) ∧ G M' ∧ Sm l_X12_copies_c79_78 M M'
theorem t_X12_copies_c79_78_2 {n : Nat} (hn : 200000 ≤ n) {M0 : qM} : ∀ (m : Nat) (a2 : Int32) (M : qM), G M → Sm l_X12_copies_c79_78 M0 M → 0 ≤ a2.toInt ∧ a2.toInt ≤ 954 → ((a2.toInt ≤ 312 ∨ (M 78 312).toInt = (M0 79 312).toInt) ∧ (a2.toInt ≤ 313 ∨ (M 78 313).toInt = (M0 79 313).toInt) ∧ (M 79 312).toInt = (M0 79 312).toInt ∧ (M 79 313).toInt = (M0 79 313).toInt) → 954 - a2.toInt < (m : Int) → qT (f_X12_copies_2 n 79 78 m a2 M) (po_X12_copies_c79_78  M0) := by
  intro m
  induction m with
  | zero =>
    intro a2 M hG hS i0 hE i4
    exfalso; omega
  | succ m ih =>
    intro a2 M hG hS i0 hE i4
    show qT (b_X12_copies_2 n 79 78 (f_X12_copies_2 n 79 78 m) a2 M) _
    unfold b_X12_copies_2
    try simp only [Nat.reduceAdd]
    refine T_le l_954 rfl (fun hq2_ => ?_) (fun hq2_ => ?_)
    · exact T_ret ⟨(i_rng (lo := 0) (hi := 0) l_0 (by omega) (by omega)), (by have e9 : (0 : Int32).toInt = _ := l_0; omega), hG, hS⟩
    · refine T_qg rfl (by omega) (by omega) ?_
      refine T_qg rfl (by omega) (by omega) ?_
      refine T_mu hG hS (cp78 (by decide) (by decide) hG) (nw_78 _) (i := 0) rfl ⟨by decide, by decide, Or.inr ⟨(show 0 ≤ _ by rw [tnc]; omega), (show _ < 954 by rw [tnc]; omega)⟩⟩ ?_
      intro mv3 hq4_ gq5_ kq6_
      have hq7_ : (mv3 78 a2.toNatClampNeg).toInt = (M 79 a2.toNatClampNeg).toInt := by rw [hq4_, mu_at]
      refine T_ql (i_add rfl l_1 (by omega) (by omega)) ?_
      intro xv8 hq9_
      exact ih xv8 mv3 gq5_ kq6_ (i_rng (lo := 0) (hi := 954) rfl (by omega) (by omega)) (by first | exact ⟨cp_step (k := 312) hq4_ (by omega) (by omega) hE.2.2.1 hE.1, cp_step (k := 313) hq4_ (by omega) (by omega) hE.2.2.2 hE.2.1, (by rw [hq4_, mu_ne (Or.inl (by decide))]; exact hE.2.2.1), (by rw [hq4_, mu_ne (Or.inl (by decide))]; exact hE.2.2.2)⟩ | omega) (by omega)
theorem t_X12_copies_c79_78 {n : Nat} (hn : 200000 ≤ n) (M : qM) (hG : G M) : qT (f_X12_copies n 79 78  M) (po_X12_copies_c79_78  M) := by
  have hS : Sm l_X12_copies_c79_78 M M := Sm.rf
  unfold f_X12_copies
  try simp only [Nat.reduceAdd]
  exact (t_X12_copies_c79_78_2 hn) n (0 : Int32) M hG hS (i_rng (lo := 0) (hi := 954) l_0 (by omega) (by omega)) (by have e0 : ((0 : Int32)).toInt = _ := l_0; first | exact ⟨cp_step (k := 312) rfl (by omega) (by omega) hE.2.2.1 hE.1, cp_step (k := 313) rfl (by omega) (by omega) hE.2.2.2 hE.2.1, (by rw [rfl, mu_ne (Or.inl (by decide))]; exact hE.2.2.1), (by rw [rfl, mu_ne (Or.inl (by decide))]; exact hE.2.2.2)⟩ | omega) (by have e0 : ((0 : Int32)).toInt = _ := l_0; omega)
abbrev l_X12_tried : List Bx := [(77, 78, 37, 43), (78, 79, 0, 954), (79, 80, 0, 954), (96, 98, 0, 0)]
abbrev po_X12_tried (a1 a2 : Int32) (M : qM) (v : Int32) (M' : qM) : Prop := ((M' 78 313).toInt = (M 78 313).toInt ∧ (M' 78 312).toInt = (M 78 312).toInt) ∧ G M' ∧ Sm l_X12_tried M M'
theorem t_X12_tried {n : Nat} (hn : 200000 ≤ n) (a1 a2 : Int32) (M : qM) (hG : G M) : qT (f_X12_tried n a1 a2 M) (po_X12_tried a1 a2 M) := by
  have hS : Sm l_X12_tried M M := Sm.rf
  unfold f_X12_tried
  have hq3_ := (show ((1 : Int32)).toInt = _ from l_1)
  have hq4_ := (show ((60 : Int32)).toInt = _ from l_60)
  refine T_qc (t_X12_in hn a1 (1 : Int32) (60 : Int32) M hG (i_rng (lo := 0) (hi := 70) l_1 (by omega) (by omega)) (i_rng (lo := 0) (hi := 99999) l_60 (by omega) (by omega))) ?_
  rintro rv1 mv2 ⟨hq5_, hq6_, gq7_, kq8_⟩
  have hq9_ := kq8_.nil
  subst hq9_
  refine T_eq rfl l_0 (fun hq10_ => ?_) (fun hq10_ => ?_)
  · exact T_ret ⟨(by have e9 : ((-1 : Int32)).toInt = _ := l_m1; omega), hG, hS⟩
  · have hq13_ := (show ((0 : Int32)).toInt = _ from l_0)
    have hq14_ := (show ((5 : Int32)).toInt = _ from l_5)
    refine T_qc (t_X12_in hn a2 (0 : Int32) (5 : Int32) M hG (i_rng (lo := 0) (hi := 70) l_0 (by omega) (by omega)) (i_rng (lo := 0) (hi := 99999) l_5 (by omega) (by omega))) ?_
    rintro rv11 mv12 ⟨hq15_, hq16_, gq17_, kq18_⟩
    have hq19_ := kq18_.nil
    subst hq19_
    refine T_eq rfl l_0 (fun hq20_ => ?_) (fun hq20_ => ?_)
    · have hq23_ := (show ((10 : Int32)).toInt = _ from l_10)
      have hq24_ := (show ((17 : Int32)).toInt = _ from l_17)
      refine T_qc (t_X12_in hn a2 (10 : Int32) (17 : Int32) M hG (i_rng (lo := 0) (hi := 70) l_10 (by omega) (by omega)) (i_rng (lo := 0) (hi := 99999) l_17 (by omega) (by omega))) ?_
      rintro rv21 mv22 ⟨hq25_, hq26_, gq27_, kq28_⟩
      have hq29_ := kq28_.nil
      subst hq29_
      refine T_eq rfl l_0 (fun hq30_ => ?_) (fun hq30_ => ?_)
      · exact T_ret ⟨(by have e9 : ((-1 : Int32)).toInt = _ := l_m1; omega), hG, hS⟩
      · have hq33_ := (show (a2 - (10 : Int32)).toInt = _ from (i_sub rfl l_10 (by omega) (by omega)))
        refine T_qc (t_X12_isPerson hn (a2 - (10 : Int32)) M hG ) ?_
        rintro rv31 mv32 ⟨hq34_, hq35_, gq36_, kq37_⟩
        have hq38_ := kq37_.nil
        subst hq38_
        refine T_eq rfl l_0 (fun hq39_ => ?_) (fun hq39_ => ?_)
        · exact T_ret ⟨(by have e9 : ((-1 : Int32)).toInt = _ := l_m1; omega), hG, hS⟩
        · unfold f_X12_tried_43
          refine T_qc (t_X12_copies_c78_79 hn  M hG ) ?_
          rintro rv40 mv41 ⟨hq42_, hq43_, gq44_, kq45_⟩
          have kq46_ := Sm.call hS kq45_ rfl
          have hq47_ : (mv41 78 313).toInt = (M 78 313).toInt := by rw [kq45_ 78 313 (by decide)]
          have hq48_ : (mv41 78 312).toInt = (M 78 312).toInt := by rw [kq45_ 78 312 (by decide)]
          refine T_qc (t_X12_daysGo hn a1 mv41 gq44_ (i_rng (lo := 1) (hi := 60) rfl (by omega) (by omega))) ?_
          rintro rv49 mv50 ⟨hq51_, hq52_, gq53_, kq54_⟩
          have kq55_ := Sm.call kq46_ kq54_ rfl
          have hq56_ : (mv50 78 312).toInt = (mv41 78 312).toInt := by rw [kq54_ 78 312 (by decide)]
          have hq57_ : (mv50 79 312).toInt = (mv41 79 312).toInt := by rw [kq54_ 79 312 (by decide)]
          have hq58_ : (mv50 79 313).toInt = (mv41 79 313).toInt := by rw [kq54_ 79 313 (by decide)]
          refine T_sw rfl l_0 (fun hq59_ => ?_) (fun hq59_ => ?_)
          · exfalso; omega
          refine T_sw rfl l_1 (fun hq60_ => ?_) (fun hq60_ => ?_)
          · exfalso; omega
          refine T_sw rfl l_2 (fun hq61_ => ?_) (fun hq61_ => ?_)
          · exfalso; omega
          refine T_sw rfl l_3 (fun hq62_ => ?_) (fun hq62_ => ?_)
          · exfalso; omega
          refine T_sw rfl l_4 (fun hq63_ => ?_) (fun hq63_ => ?_)
          · exfalso; omega
          refine T_sw rfl l_5 (fun hq64_ => ?_) (fun hq64_ => ?_)
          · exfalso; omega
          refine T_sw0 ?_
          refine T_qg (i_sub (i_add l_296 rfl (by omega) (by omega)) l_10 (by omega) (by omega)) (by omega) (by omega) ?_
          refine T_qg (i_sub (i_add l_304 rfl (by omega) (by omega)) l_10 (by omega) (by omega)) (by omega) (by omega) ?_
          have hq65_ := r78 (c := 78) (s := ((((296 : Int32) + a2) - (10 : Int32)).toNatClampNeg)) gq53_ (by decide) (by rw [tnc, (i_sub (i_add l_296 rfl (by omega) (by omega)) l_10 (by omega) (by omega))]; omega) (by rw [tnc, (i_sub (i_add l_296 rfl (by omega) (by omega)) l_10 (by omega) (by omega))]; omega)
          have hq66_ := r78 (c := 78) (s := ((((304 : Int32) + a2) - (10 : Int32)).toNatClampNeg)) gq53_ (by decide) (by rw [tnc, (i_sub (i_add l_304 rfl (by omega) (by omega)) l_10 (by omega) (by omega))]; omega) (by rw [tnc, (i_sub (i_add l_304 rfl (by omega) (by omega)) l_10 (by omega) (by omega))]; omega)
          refine T_ql (i_sub rfl rfl (by omega) (by omega)) ?_
          intro xv67 hq68_
          unfold f_X12_tried_176
          refine T_qc (t_X12_copies_c79_78 hn  mv50 gq53_ ) ?_
          rintro rv69 mv70 ⟨hq71_, hq72_, gq73_, kq74_⟩
          have kq75_ := Sm.call kq55_ kq74_ rfl
          have hq76_ : (mv70 79 312).toInt = (mv50 79 312).toInt := by rw [kq74_ 79 312 (by decide)]
          have hq77_ : (mv70 79 313).toInt = (mv50 79 313).toInt := by rw [kq74_ 79 313 (by decide)]
          exact T_ret ⟨(by have e9 : (xv67).toInt = _ := rfl; omega), gq73_, kq75_⟩
    · unfold f_X12_tried_43
      refine T_qc (t_X12_copies_c78_79 hn  M hG ) ?_
      rintro rv78 mv79 ⟨hq80_, hq81_, gq82_, kq83_⟩
      have kq84_ := Sm.call hS kq83_ rfl
      have hq85_ : (mv79 78 313).toInt = (M 78 313).toInt := by rw [kq83_ 78 313 (by decide)]
      have hq86_ : (mv79 78 312).toInt = (M 78 312).toInt := by rw [kq83_ 78 312 (by decide)]
      refine T_qc (t_X12_daysGo hn a1 mv79 gq82_ (i_rng (lo := 1) (hi := 60) rfl (by omega) (by omega))) ?_
      rintro rv87 mv88 ⟨hq89_, hq90_, gq91_, kq92_⟩
      have kq93_ := Sm.call kq84_ kq92_ rfl
      have hq94_ : (mv88 78 312).toInt = (mv79 78 312).toInt := by rw [kq92_ 78 312 (by decide)]
      have hq95_ : (mv88 79 312).toInt = (mv79 79 312).toInt := by rw [kq92_ 79 312 (by decide)]
      have hq96_ : (mv88 79 313).toInt = (mv79 79 313).toInt := by rw [kq92_ 79 313 (by decide)]
      refine T_sw rfl l_0 (fun hq97_ => ?_) (fun hq97_ => ?_)
      · refine T_ql rfl ?_
        intro xv98 hq99_
        unfold f_X12_tried_176
        refine T_qc (t_X12_copies_c79_78 hn  mv88 gq91_ ) ?_
        rintro rv100 mv101 ⟨hq102_, hq103_, gq104_, kq105_⟩
        have kq106_ := Sm.call kq93_ kq105_ rfl
        have hq107_ : (mv101 79 312).toInt = (mv88 79 312).toInt := by rw [kq105_ 79 312 (by decide)]
        have hq108_ : (mv101 79 313).toInt = (mv88 79 313).toInt := by rw [kq105_ 79 313 (by decide)]
        exact T_ret ⟨(by have e9 : (xv98).toInt = _ := rfl; omega), gq104_, kq106_⟩
      refine T_sw rfl l_1 (fun hq109_ => ?_) (fun hq109_ => ?_)
      · refine T_ql rfl ?_
        intro xv110 hq111_
        unfold f_X12_tried_176
        refine T_qc (t_X12_copies_c79_78 hn  mv88 gq91_ ) ?_
        rintro rv112 mv113 ⟨hq114_, hq115_, gq116_, kq117_⟩
        have kq118_ := Sm.call kq93_ kq117_ rfl
        have hq119_ : (mv113 79 312).toInt = (mv88 79 312).toInt := by rw [kq117_ 79 312 (by decide)]
        have hq120_ : (mv113 79 313).toInt = (mv88 79 313).toInt := by rw [kq117_ 79 313 (by decide)]
        exact T_ret ⟨(by have e9 : (xv110).toInt = _ := rfl; omega), gq116_, kq118_⟩
      refine T_sw rfl l_2 (fun hq121_ => ?_) (fun hq121_ => ?_)
      · refine T_ql rfl ?_
        intro xv122 hq123_
        unfold f_X12_tried_176
        refine T_qc (t_X12_copies_c79_78 hn  mv88 gq91_ ) ?_
        rintro rv124 mv125 ⟨hq126_, hq127_, gq128_, kq129_⟩
        have kq130_ := Sm.call kq93_ kq129_ rfl
        have hq131_ : (mv125 79 312).toInt = (mv88 79 312).toInt := by rw [kq129_ 79 312 (by decide)]
        have hq132_ : (mv125 79 313).toInt = (mv88 79 313).toInt := by rw [kq129_ 79 313 (by decide)]
        exact T_ret ⟨(by have e9 : (xv122).toInt = _ := rfl; omega), gq128_, kq130_⟩
      refine T_sw rfl l_3 (fun hq133_ => ?_) (fun hq133_ => ?_)
      · refine T_ql rfl ?_
        intro xv134 hq135_
        unfold f_X12_tried_176
        refine T_qc (t_X12_copies_c79_78 hn  mv88 gq91_ ) ?_
        rintro rv136 mv137 ⟨hq138_, hq139_, gq140_, kq141_⟩
        have kq142_ := Sm.call kq93_ kq141_ rfl
        have hq143_ : (mv137 79 312).toInt = (mv88 79 312).toInt := by rw [kq141_ 79 312 (by decide)]
        have hq144_ : (mv137 79 313).toInt = (mv88 79 313).toInt := by rw [kq141_ 79 313 (by decide)]
        exact T_ret ⟨(by have e9 : (xv134).toInt = _ := rfl; omega), gq140_, kq142_⟩
      refine T_sw rfl l_4 (fun hq145_ => ?_) (fun hq145_ => ?_)
      · refine T_ql rfl ?_
        intro xv146 hq147_
        unfold f_X12_tried_176
        refine T_qc (t_X12_copies_c79_78 hn  mv88 gq91_ ) ?_
        rintro rv148 mv149 ⟨hq150_, hq151_, gq152_, kq153_⟩
        have kq154_ := Sm.call kq93_ kq153_ rfl
        have hq155_ : (mv149 79 312).toInt = (mv88 79 312).toInt := by rw [kq153_ 79 312 (by decide)]
        have hq156_ : (mv149 79 313).toInt = (mv88 79 313).toInt := by rw [kq153_ 79 313 (by decide)]
        exact T_ret ⟨(by have e9 : (xv146).toInt = _ := rfl; omega), gq152_, kq154_⟩
      refine T_sw rfl l_5 (fun hq157_ => ?_) (fun hq157_ => ?_)
      · refine T_ql rfl ?_
        intro xv158 hq159_
        unfold f_X12_tried_176
        refine T_qc (t_X12_copies_c79_78 hn  mv88 gq91_ ) ?_
        rintro rv160 mv161 ⟨hq162_, hq163_, gq164_, kq165_⟩
        have kq166_ := Sm.call kq93_ kq165_ rfl
        have hq167_ : (mv161 79 312).toInt = (mv88 79 312).toInt := by rw [kq165_ 79 312 (by decide)]
        have hq168_ : (mv161 79 313).toInt = (mv88 79 313).toInt := by rw [kq165_ 79 313 (by decide)]
        exact T_ret ⟨(by have e9 : (xv158).toInt = _ := rfl; omega), gq164_, kq166_⟩
      exfalso; omega
abbrev l_X11_has : List Bx := [(25, 26, 8, 10), (26, 34, 0, 0), (34, 35, 4, 5), (35, 37, 0, 0), (44, 45, 2, 4)]
abbrev po_X11_has (a1 a2 a3 : Int32) (M : qM) (v : Int32) (M' : qM) : Prop := G M' ∧ Sm l_X11_has M M'
theorem t_X11_has {n : Nat} (hn : 200000 ≤ n) {j : Nat} (hj : q_isLaw j) (a1 a2 a3 : Int32) (M : qM) (hG : G M) : qT (f_X11_has n j a1 a2 a3 M) (po_X11_has a1 a2 a3 M) := by
  have hS : Sm l_X11_has M M := Sm.rf
  unfold f_X11_has
  refine T_qc (t_X10_knows_c7 hn a1 M hG ) ?_
  rintro rv1 mv2 ⟨hq3_, hq4_, gq5_, kq6_⟩
  have hq7_ := kq6_.nil
  subst hq7_
  refine T_eq rfl l_0 (fun hq8_ => ?_) (fun hq8_ => ?_)
  · exact T_ret ⟨hG, hS⟩
  · refine T_qc (t_X2_knows hn a2 M hG ) ?_
    rintro rv9 mv10 ⟨hq11_, hq12_, gq13_, kq14_⟩
    have hq15_ := kq14_.nil
    subst hq15_
    refine T_eq rfl l_0 (fun hq16_ => ?_) (fun hq16_ => ?_)
    · exact T_ret ⟨hG, hS⟩
    · refine T_lt rfl l_0 (fun hq17_ => ?_) (fun hq17_ => ?_)
      · exact T_ret ⟨hG, hS⟩
      · refine T_le rfl l_5 (fun hq18_ => ?_) (fun hq18_ => ?_)
        · refine T_ql (i_add (i_mul rfl l_12 (by omega) (by omega)) rfl (by omega) (by omega)) ?_
          intro xv19 hq20_
          refine T_eq rfl l_0 (fun hq21_ => ?_) (fun hq21_ => ?_)
          · refine T_qg rfl (by omega) (by omega) ?_
            exact T_ret ⟨hG, hS⟩
          · refine T_eq rfl l_1 (fun hq22_ => ?_) (fun hq22_ => ?_)
            · refine T_qg rfl (by omega) (by omega) ?_
              exact T_ret ⟨hG, hS⟩
            · refine T_eq rfl l_2 (fun hq23_ => ?_) (fun hq23_ => ?_)
              · refine T_qg rfl (by omega) (by omega) ?_
                refine T_le rfl l_0 (fun hq24_ => ?_) (fun hq24_ => ?_)
                · exact T_ret ⟨hG, hS⟩
                · refine T_qg rfl (by omega) (by omega) ?_
                  exact T_ret ⟨hG, hS⟩
              · refine T_qc (t_X10_copy_c25_7 hn  M hG ) ?_
                rintro rv25 mv26 ⟨hq27_, hq28_, gq29_, kq30_⟩
                have kq31_ := Sm.call hS kq30_ rfl
                refine T_qc (t_X0_attempt_c25 hn hj a1 a2 (8 : Int32) mv26 gq29_ (i_rng (lo := 0) (hi := 7) rfl (by omega) (by omega)) (i_rng (lo := 0) (hi := 11) rfl (by omega) (by omega)) (i_rng (lo := 0) (hi := 8) l_8 (by omega) (by omega))) ?_
                rintro rv32 mv33 ⟨hq34_, gq35_, kq36_⟩
                have kq37_ := Sm.call kq31_ kq36_ rfl
                have hq38_ : (mv33 25 9).toInt = (mv26 25 9).toInt := by rw [kq36_ 25 9 (by decide)]
                have hq39_ : (mv33 25 8).toInt = (mv26 25 8).toInt := by rw [kq36_ 25 8 (by decide)]
                refine T_eq rfl l_3 (fun hq40_ => ?_) (fun hq40_ => ?_)
                · exact T_ret ⟨gq35_, kq37_⟩
                · refine T_eq rfl l_4 (fun hq41_ => ?_) (fun hq41_ => ?_)
                  · exact T_ret ⟨gq35_, kq37_⟩
                  · refine T_eq rfl l_1 (fun hq42_ => ?_) (fun hq42_ => ?_)
                    · exact T_ret ⟨gq35_, kq37_⟩
                    · exact T_ret ⟨gq35_, kq37_⟩
        · exact T_ret ⟨hG, hS⟩

abbrev l_X12_has : List Bx := [(78, 79, 0, 954), (79, 80, 0, 954), (96, 98, 0, 0)]
abbrev po_X12_has (a1 a2 a3 : Int32) (M : qM) (v : Int32) (M' : qM) : Prop := ((M' 78 313).toInt = (M 78 313).toInt ∧ (M' 78 312).toInt = (M 78 312).toInt) ∧ G M' ∧ Sm l_X12_has M M'
theorem t_X12_has {n : Nat} (hn : 200000 ≤ n) (a1 a2 a3 : Int32) (M : qM) (hG : G M) : qT (f_X12_has n a1 a2 a3 M) (po_X12_has a1 a2 a3 M) := by
  have hS : Sm l_X12_has M M := Sm.rf
  unfold f_X12_has
  refine T_qc (t_X12_isPerson hn a1 M hG ) ?_
  rintro rv1 mv2 ⟨hq3_, hq4_, gq5_, kq6_⟩
  have hq7_ := kq6_.nil
  subst hq7_
  refine T_eq rfl l_0 (fun hq8_ => ?_) (fun hq8_ => ?_)
  · exact T_ret ⟨(by have e9 : ((-1 : Int32)).toInt = _ := l_m1; omega), hG, hS⟩
  · refine T_qc (t_X12_isKind hn a2 M hG ) ?_
    rintro rv9 mv10 ⟨hq11_, hq12_, gq13_, kq14_⟩
    have hq15_ := kq14_.nil
    subst hq15_
    refine T_eq rfl l_0 (fun hq16_ => ?_) (fun hq16_ => ?_)
    · exact T_ret ⟨(by have e9 : ((-1 : Int32)).toInt = _ := l_m1; omega), hG, hS⟩
    · have hq19_ := (show ((0 : Int32)).toInt = _ from l_0)
      have hq20_ := (show ((5 : Int32)).toInt = _ from l_5)
      refine T_qc (t_X12_in hn a3 (0 : Int32) (5 : Int32) M hG (i_rng (lo := 0) (hi := 70) l_0 (by omega) (by omega)) (i_rng (lo := 0) (hi := 99999) l_5 (by omega) (by omega))) ?_
      rintro rv17 mv18 ⟨hq21_, hq22_, gq23_, kq24_⟩
      have hq25_ := kq24_.nil
      subst hq25_
      refine T_eq rfl l_0 (fun hq26_ => ?_) (fun hq26_ => ?_)
      · exact T_ret ⟨(by have e9 : ((-1 : Int32)).toInt = _ := l_m1; omega), hG, hS⟩
      · refine T_qc (t_X12_at hn a1 a2 M hG (i_rng (lo := 0) (hi := 7) rfl (by omega) (by omega)) (i_rng (lo := 0) (hi := 11) rfl (by omega) (by omega))) ?_
        rintro rv27 mv28 ⟨hq29_, hq30_, gq31_, kq32_⟩
        have hq33_ := kq32_.nil
        subst hq33_
        refine T_eq rfl l_0 (fun hq34_ => ?_) (fun hq34_ => ?_)
        · refine T_qg (i_add l_0 rfl (by omega) (by omega)) (by omega) (by omega) ?_
          exact T_ret ⟨(by have e9 : (M 78 (((0 : Int32) + rv27).toNatClampNeg)).toInt = _ := rfl; omega), hG, hS⟩
        · refine T_eq rfl l_1 (fun hq35_ => ?_) (fun hq35_ => ?_)
          · refine T_qg (i_add l_192 rfl (by omega) (by omega)) (by omega) (by omega) ?_
            exact T_ret ⟨(by have e9 : (M 78 (((192 : Int32) + rv27).toNatClampNeg)).toInt = _ := rfl; omega), hG, hS⟩
          · refine T_eq rfl l_2 (fun hq36_ => ?_) (fun hq36_ => ?_)
            · refine T_qg (i_add l_96 rfl (by omega) (by omega)) (by omega) (by omega) ?_
              exact T_ret ⟨(by have e9 : (M 78 (((96 : Int32) + rv27).toNatClampNeg)).toInt = _ := rfl; omega), hG, hS⟩
            · refine T_qc (t_X12_copies_c78_79 hn  M hG ) ?_
              rintro rv37 mv38 ⟨hq39_, hq40_, gq41_, kq42_⟩
              have kq43_ := Sm.call hS kq42_ rfl
              have hq44_ : (mv38 78 313).toInt = (M 78 313).toInt := by rw [kq42_ 78 313 (by decide)]
              have hq45_ : (mv38 78 312).toInt = (M 78 312).toInt := by rw [kq42_ 78 312 (by decide)]
              refine T_qc (t_X12_forgets hn a1 a2 mv38 gq41_ (i_rng (lo := 0) (hi := 7) rfl (by omega) (by omega)) (i_rng (lo := 0) (hi := 11) rfl (by omega) (by omega))) ?_
              rintro rv46 mv47 ⟨hq48_, gq49_, kq50_⟩
              have kq51_ := Sm.call kq43_ kq50_ rfl
              have hq52_ : (mv47 78 313).toInt = (mv38 78 313).toInt := by rw [kq50_ 78 313 (by decide)]
              have hq53_ : (mv47 78 312).toInt = (mv38 78 312).toInt := by rw [kq50_ 78 312 (by decide)]
              have hq54_ : (mv47 79 312).toInt = (mv38 79 312).toInt := by rw [kq50_ 79 312 (by decide)]
              have hq55_ : (mv47 79 313).toInt = (mv38 79 313).toInt := by rw [kq50_ 79 313 (by decide)]
              refine T_qc (t_X12_oldOnes hn a1 a2 mv47 gq49_ (i_rng (lo := 0) (hi := 7) rfl (by omega) (by omega)) (i_rng (lo := 0) (hi := 11) rfl (by omega) (by omega))) ?_
              rintro rv56 mv57 ⟨gq58_, kq59_⟩
              have kq60_ := Sm.call kq51_ kq59_ rfl
              have hq61_ : (mv57 78 313).toInt = (mv47 78 313).toInt := by rw [kq59_ 78 313 (by decide)]
              have hq62_ : (mv57 78 312).toInt = (mv47 78 312).toInt := by rw [kq59_ 78 312 (by decide)]
              have hq63_ : (mv57 79 312).toInt = (mv47 79 312).toInt := by rw [kq59_ 79 312 (by decide)]
              have hq64_ : (mv57 79 313).toInt = (mv47 79 313).toInt := by rw [kq59_ 79 313 (by decide)]
              refine T_qc (t_X12_voidFor hn a1 a2 (8 : Int32) mv57 gq58_ (i_rng (lo := 0) (hi := 7) rfl (by omega) (by omega)) (i_rng (lo := 0) (hi := 11) rfl (by omega) (by omega)) (i_rng (lo := 0) (hi := 8) l_8 (by omega) (by omega))) ?_
              rintro rv65 mv66 ⟨hq67_, gq68_, kq69_⟩
              have kq70_ := Sm.call kq60_ kq69_ rfl
              have hq71_ : (mv66 78 313).toInt = (mv57 78 313).toInt := by rw [kq69_ 78 313 (by decide)]
              have hq72_ : (mv66 78 312).toInt = (mv57 78 312).toInt := by rw [kq69_ 78 312 (by decide)]
              have hq73_ : (mv66 79 312).toInt = (mv57 79 312).toInt := by rw [kq69_ 79 312 (by decide)]
              have hq74_ : (mv66 79 313).toInt = (mv57 79 313).toInt := by rw [kq69_ 79 313 (by decide)]
              refine T_lt rfl rfl (fun hq75_ => ?_) (fun hq75_ => ?_)
              · unfold f_X12_has_136
                unfold f_X12_has_137
                refine T_qc (t_X12_copies_c79_78 hn  mv66 gq68_ ) ?_
                rintro rv76 mv77 ⟨hq78_, hq79_, gq80_, kq81_⟩
                have kq82_ := Sm.call kq70_ kq81_ rfl
                have hq83_ : (mv77 79 312).toInt = (mv66 79 312).toInt := by rw [kq81_ 79 312 (by decide)]
                have hq84_ : (mv77 79 313).toInt = (mv66 79 313).toInt := by rw [kq81_ 79 313 (by decide)]
                refine T_eq rfl l_3 (fun hq85_ => ?_) (fun hq85_ => ?_)
                · exact T_ret ⟨(by have e9 : (rv56).toInt = _ := rfl; omega), gq80_, kq82_⟩
                · refine T_eq rfl l_4 (fun hq86_ => ?_) (fun hq86_ => ?_)
                  · exact T_ret ⟨(by have e9 : (rv65).toInt = _ := rfl; omega), gq80_, kq82_⟩
                  · refine T_eq l_0 l_0 (fun hq87_ => ?_) (fun hq87_ => ?_)
                    · exact T_ret ⟨(by have e9 : ((0 : Int32)).toInt = _ := l_0; omega), gq80_, kq82_⟩
                    · exfalso; omega
              · refine T_qc (t_X12_hasNeeds hn a1 a2 mv66 gq68_ (i_rng (lo := 0) (hi := 7) rfl (by omega) (by omega)) (i_rng (lo := 0) (hi := 11) rfl (by omega) (by omega))) ?_
                rintro rv88 mv89 ⟨hq90_, gq91_, kq92_⟩
                have hq93_ := kq92_.nil
                subst hq93_
                refine T_eq rfl l_0 (fun hq94_ => ?_) (fun hq94_ => ?_)
                · unfold f_X12_has_136
                  unfold f_X12_has_137
                  refine T_qc (t_X12_copies_c79_78 hn  mv66 gq68_ ) ?_
                  rintro rv95 mv96 ⟨hq97_, hq98_, gq99_, kq100_⟩
                  have kq101_ := Sm.call kq70_ kq100_ rfl
                  have hq102_ : (mv96 79 312).toInt = (mv66 79 312).toInt := by rw [kq100_ 79 312 (by decide)]
                  have hq103_ : (mv96 79 313).toInt = (mv66 79 313).toInt := by rw [kq100_ 79 313 (by decide)]
                  refine T_eq rfl l_3 (fun hq104_ => ?_) (fun hq104_ => ?_)
                  · exact T_ret ⟨(by have e9 : (rv56).toInt = _ := rfl; omega), gq99_, kq101_⟩
                  · refine T_eq rfl l_4 (fun hq105_ => ?_) (fun hq105_ => ?_)
                    · exact T_ret ⟨(by have e9 : (rv65).toInt = _ := rfl; omega), gq99_, kq101_⟩
                    · refine T_eq l_0 l_0 (fun hq106_ => ?_) (fun hq106_ => ?_)
                      · exact T_ret ⟨(by have e9 : ((0 : Int32)).toInt = _ := l_0; omega), gq99_, kq101_⟩
                      · exfalso; omega
                · unfold f_X12_has_137
                  refine T_qc (t_X12_copies_c79_78 hn  mv66 gq68_ ) ?_
                  rintro rv107 mv108 ⟨hq109_, hq110_, gq111_, kq112_⟩
                  have kq113_ := Sm.call kq70_ kq112_ rfl
                  have hq114_ : (mv108 79 312).toInt = (mv66 79 312).toInt := by rw [kq112_ 79 312 (by decide)]
                  have hq115_ : (mv108 79 313).toInt = (mv66 79 313).toInt := by rw [kq112_ 79 313 (by decide)]
                  refine T_eq rfl l_3 (fun hq116_ => ?_) (fun hq116_ => ?_)
                  · exact T_ret ⟨(by have e9 : (rv56).toInt = _ := rfl; omega), gq111_, kq113_⟩
                  · refine T_eq rfl l_4 (fun hq117_ => ?_) (fun hq117_ => ?_)
                    · exact T_ret ⟨(by have e9 : (rv65).toInt = _ := rfl; omega), gq111_, kq113_⟩
                    · refine T_eq l_1 l_0 (fun hq118_ => ?_) (fun hq118_ => ?_)
                      · exfalso; omega
                      · exact T_ret ⟨(by have e9 : ((1 : Int32)).toInt = _ := l_1; omega), gq111_, kq113_⟩
abbrev l_X1_findsAlike : List Bx := [(34, 35, 4, 5), (35, 37, 0, 0)]
abbrev po_X1_findsAlike (a1 a2 a3 : Int32) (M : qM) (v : Int32) (M' : qM) : Prop := (0 ≤ v.toInt ∧ v.toInt ≤ 1) ∧ G M' ∧ Sm l_X1_findsAlike M M'
theorem t_X1_findsAlike {n : Nat} (hn : 200000 ≤ n) {j : Nat} (hj : q_isLaw j) (a1 a2 a3 : Int32) (M : qM) (hG : G M) (pa1 : 0 ≤ a1.toInt ∧ a1.toInt ≤ 11) (pa2 : 0 ≤ a2.toInt ∧ a2.toInt ≤ 11) : qT (f_X1_findsAlike n j a1 a2 a3 M) (po_X1_findsAlike a1 a2 a3 M) := by
  have hS : Sm l_X1_findsAlike M M := Sm.rf
  unfold f_X1_findsAlike
  refine T_eq rfl rfl (fun hq1_ => ?_) (fun hq1_ => ?_)
  · exact T_ret ⟨(i_rng (lo := 0) (hi := 1) l_1 (by omega) (by omega)), hG, hS⟩
  · refine T_qg rfl (by omega) (by omega) ?_
    refine T_qg rfl (by omega) (by omega) ?_
    refine T_qc (t_X1_tellDeed hn a1 (M 4 a1.toNatClampNeg) (M 5 a1.toNatClampNeg) a3 M hG (i_rng (lo := 0) (hi := 12) rfl (by omega) (by omega))) ?_
    rintro rv2 mv3 ⟨hq4_, gq5_, kq6_⟩
    have kq7_ := Sm.call hS kq6_ rfl
    refine T_qc (t_X1_isAlike hn hj a2 mv3 gq5_ (i_rng (lo := 0) (hi := 11) rfl (by omega) (by omega))) ?_
    rintro rv8 mv9 ⟨hq10_, gq11_, kq12_⟩
    have kq13_ := Sm.call kq7_ kq12_ rfl
    refine T_qb rfl (by omega) (by omega) ?_
    exact T_ret ⟨(i_rng (lo := 0) (hi := 1) rfl (by omega) (by omega)), gq11_, kq13_⟩
abbrev l_X11_alike : List Bx := [(34, 35, 4, 5), (35, 37, 0, 0)]
abbrev po_X11_alike (a1 a2 : Int32) (M : qM) (v : Int32) (M' : qM) : Prop := ((-1) ≤ v.toInt ∧ v.toInt ≤ 1) ∧ G M' ∧ Sm l_X11_alike M M'
theorem t_X11_alike {n : Nat} (hn : 200000 ≤ n) {j : Nat} (hj : q_isLaw j) (a1 a2 : Int32) (M : qM) (hG : G M) : qT (f_X11_alike n j a1 a2 M) (po_X11_alike a1 a2 M) := by
  have hS : Sm l_X11_alike M M := Sm.rf
  unfold f_X11_alike
  refine T_qc (t_X2_knows hn a1 M hG ) ?_
  rintro rv1 mv2 ⟨hq3_, hq4_, gq5_, kq6_⟩
  have hq7_ := kq6_.nil
  subst hq7_
  refine T_eq rfl l_0 (fun hq8_ => ?_) (fun hq8_ => ?_)
  · exact T_ret ⟨(i_rng (lo := (-1)) (hi := 1) l_m1 (by omega) (by omega)), hG, hS⟩
  · refine T_qc (t_X2_knows hn a2 M hG ) ?_
    rintro rv9 mv10 ⟨hq11_, hq12_, gq13_, kq14_⟩
    have hq15_ := kq14_.nil
    subst hq15_
    refine T_eq rfl l_0 (fun hq16_ => ?_) (fun hq16_ => ?_)
    · exact T_ret ⟨(i_rng (lo := (-1)) (hi := 1) l_m1 (by omega) (by omega)), hG, hS⟩
    · refine T_qc (t_X1_findsAlike hn hj a1 a2 (M 7 9) M hG (i_rng (lo := 0) (hi := 11) rfl (by omega) (by omega)) (i_rng (lo := 0) (hi := 11) rfl (by omega) (by omega))) ?_
      rintro rv17 mv18 ⟨hq19_, gq20_, kq21_⟩
      have kq22_ := Sm.call hS kq21_ rfl
      refine T_eq rfl l_0 (fun hq23_ => ?_) (fun hq23_ => ?_)
      · exact T_ret ⟨(i_rng (lo := (-1)) (hi := 1) l_0 (by omega) (by omega)), gq20_, kq22_⟩
      · exact T_ret ⟨(i_rng (lo := (-1)) (hi := 1) l_1 (by omega) (by omega)), gq20_, kq22_⟩
abbrev l_X12_alike : List Bx := [(96, 98, 0, 0)]
abbrev po_X12_alike (a1 a2 : Int32) (M : qM) (v : Int32) (M' : qM) : Prop := ((-1) ≤ v.toInt ∧ v.toInt ≤ 1) ∧ G M' ∧ Sm l_X12_alike M M'
theorem t_X12_alike {n : Nat} (hn : 200000 ≤ n) (a1 a2 : Int32) (M : qM) (hG : G M) : qT (f_X12_alike n a1 a2 M) (po_X12_alike a1 a2 M) := by
  have hS : Sm l_X12_alike M M := Sm.rf
  unfold f_X12_alike
  refine T_qc (t_X12_isKind hn a1 M hG ) ?_
  rintro rv1 mv2 ⟨hq3_, hq4_, gq5_, kq6_⟩
  have hq7_ := kq6_.nil
  subst hq7_
  refine T_eq rfl l_0 (fun hq8_ => ?_) (fun hq8_ => ?_)
  · exact T_ret ⟨(i_rng (lo := (-1)) (hi := 1) l_m1 (by omega) (by omega)), hG, hS⟩
  · refine T_qc (t_X12_isKind hn a2 M hG ) ?_
    rintro rv9 mv10 ⟨hq11_, hq12_, gq13_, kq14_⟩
    have hq15_ := kq14_.nil
    subst hq15_
    refine T_eq rfl l_0 (fun hq16_ => ?_) (fun hq16_ => ?_)
    · exact T_ret ⟨(i_rng (lo := (-1)) (hi := 1) l_m1 (by omega) (by omega)), hG, hS⟩
    · refine T_qc (t_X12_isLike hn a1 a2 M hG (i_rng (lo := 0) (hi := 12) rfl (by omega) (by omega)) (i_rng (lo := 0) (hi := 11) rfl (by omega) (by omega))) ?_
      rintro rv17 mv18 ⟨hq19_, gq20_, kq21_⟩
      have kq22_ := Sm.call hS kq21_ rfl
      refine T_eq rfl l_0 (fun hq23_ => ?_) (fun hq23_ => ?_)
      · exact T_ret ⟨(i_rng (lo := (-1)) (hi := 1) l_0 (by omega) (by omega)), gq20_, kq22_⟩
      · exact T_ret ⟨(i_rng (lo := (-1)) (hi := 1) l_1 (by omega) (by omega)), gq20_, kq22_⟩
abbrev l_X11_cost : List Bx := [(34, 35, 4, 5), (35, 37, 0, 0)]
abbrev po_X11_cost (a1 a2 a3 : Int32) (M : qM) (v : Int32) (M' : qM) : Prop := ((-1) ≤ v.toInt ∧ v.toInt ≤ 999) ∧ G M' ∧ Sm l_X11_cost M M'
theorem t_X11_cost {n : Nat} (hn : 200000 ≤ n) {j : Nat} (hj : q_isLaw j) (a1 a2 a3 : Int32) (M : qM) (hG : G M) : qT (f_X11_cost n j a1 a2 a3 M) (po_X11_cost a1 a2 a3 M) := by
  have hS : Sm l_X11_cost M M := Sm.rf
  unfold f_X11_cost
  refine T_qc (t_X11_canDeal hn a1 a2 a3 M hG ) ?_
  rintro rv1 mv2 ⟨hq3_, hq4_, gq5_, kq6_⟩
  have hq7_ := kq6_.nil
  subst hq7_
  refine T_eq rfl l_0 (fun hq8_ => ?_) (fun hq8_ => ?_)
  · exact T_ret ⟨(i_rng (lo := (-1)) (hi := 999) l_m1 (by omega) (by omega)), hG, hS⟩
  · refine T_qc (t_X0_price_c7 hn hj a1 a2 a3 M hG (i_rng (lo := 0) (hi := 7) rfl (by omega) (by omega)) (i_rng (lo := 0) (hi := 11) rfl (by omega) (by omega)) (i_rng (lo := 0) (hi := 7) rfl (by omega) (by omega))) ?_
    rintro rv9 mv10 ⟨hq11_, gq12_, kq13_⟩
    have kq14_ := Sm.call hS kq13_ rfl
    exact T_ret ⟨(i_rng (lo := (-1)) (hi := 999) rfl (by omega) (by omega)), gq12_, kq14_⟩
abbrev l_X12_cost : List Bx := [(96, 98, 0, 0)]
abbrev po_X12_cost (a1 a2 a3 : Int32) (M : qM) (v : Int32) (M' : qM) : Prop := ((-1) ≤ v.toInt ∧ v.toInt ≤ 999) ∧ G M' ∧ Sm l_X12_cost M M'
theorem t_X12_cost {n : Nat} (hn : 200000 ≤ n) (a1 a2 a3 : Int32) (M : qM) (hG : G M) : qT (f_X12_cost n a1 a2 a3 M) (po_X12_cost a1 a2 a3 M) := by
  have hS : Sm l_X12_cost M M := Sm.rf
  unfold f_X12_cost
  refine T_qc (t_X12_isPerson hn a1 M hG ) ?_
  rintro rv1 mv2 ⟨hq3_, hq4_, gq5_, kq6_⟩
  have hq7_ := kq6_.nil
  subst hq7_
  refine T_eq rfl l_0 (fun hq8_ => ?_) (fun hq8_ => ?_)
  · exact T_ret ⟨(i_rng (lo := (-1)) (hi := 999) l_m1 (by omega) (by omega)), hG, hS⟩
  · refine T_qc (t_X12_isKind hn a2 M hG ) ?_
    rintro rv9 mv10 ⟨hq11_, hq12_, gq13_, kq14_⟩
    have hq15_ := kq14_.nil
    subst hq15_
    refine T_eq rfl l_0 (fun hq16_ => ?_) (fun hq16_ => ?_)
    · exact T_ret ⟨(i_rng (lo := (-1)) (hi := 999) l_m1 (by omega) (by omega)), hG, hS⟩
    · refine T_qc (t_X12_isPerson hn a3 M hG ) ?_
      rintro rv17 mv18 ⟨hq19_, hq20_, gq21_, kq22_⟩
      have hq23_ := kq22_.nil
      subst hq23_
      refine T_eq rfl l_0 (fun hq24_ => ?_) (fun hq24_ => ?_)
      · exact T_ret ⟨(i_rng (lo := (-1)) (hi := 999) l_m1 (by omega) (by omega)), hG, hS⟩
      · refine T_eq rfl rfl (fun hq25_ => ?_) (fun hq25_ => ?_)
        · exact T_ret ⟨(i_rng (lo := (-1)) (hi := 999) l_m1 (by omega) (by omega)), hG, hS⟩
        · refine T_qc (t_X12_costOf hn a1 a2 a3 M hG (i_rng (lo := 0) (hi := 7) rfl (by omega) (by omega)) (i_rng (lo := 0) (hi := 11) rfl (by omega) (by omega)) (i_rng (lo := 0) (hi := 7) rfl (by omega) (by omega))) ?_
          rintro rv26 mv27 ⟨hq28_, gq29_, kq30_⟩
          have kq31_ := Sm.call hS kq30_ rfl
          exact T_ret ⟨(i_rng (lo := (-1)) (hi := 999) rfl (by omega) (by omega)), gq29_, kq31_⟩
abbrev l_X11_canChoose : List Bx := []
abbrev po_X11_canChoose (a1 a2 a3 : Int32) (M : qM) (v : Int32) (M' : qM) : Prop := (0 ≤ v.toInt ∧ v.toInt ≤ 1) ∧ (v.toInt = 0 ∨ (0 ≤ a1.toInt ∧ a1.toInt ≤ 7 ∧ 0 ≤ a3.toInt ∧ a3.toInt ≤ 11)) ∧ G M' ∧ Sm l_X11_canChoose M M'
theorem t_X11_canChoose {n : Nat} (hn : 200000 ≤ n) (a1 a2 a3 : Int32) (M : qM) (hG : G M) : qT (f_X11_canChoose n a1 a2 a3 M) (po_X11_canChoose a1 a2 a3 M) := by
  have hS : Sm l_X11_canChoose M M := Sm.rf
  unfold f_X11_canChoose
  refine T_qc (t_J6_bitCount_0f7a4 hn a2 M hG ) ?_
  rintro rv1 mv2 ⟨hq3_, gq4_, kq5_⟩
  have hq6_ := kq5_.nil
  subst hq6_
  refine T_qc (t_X10_knows_c7 hn a1 M hG ) ?_
  rintro rv7 mv8 ⟨hq9_, hq10_, gq11_, kq12_⟩
  have hq13_ := kq12_.nil
  subst hq13_
  refine T_eq rfl l_0 (fun hq14_ => ?_) (fun hq14_ => ?_)
  · exact T_ret ⟨(i_rng (lo := 0) (hi := 1) l_0 (by omega) (by omega)), (by have e9 : ((0 : Int32)).toInt = _ := l_0; omega), hG, hS⟩
  · refine T_qc (t_X2_knowsAll hn a2 M hG ) ?_
    rintro rv15 mv16 ⟨hq17_, gq18_, kq19_⟩
    have hq20_ := kq19_.nil
    subst hq20_
    refine T_eq rfl l_0 (fun hq21_ => ?_) (fun hq21_ => ?_)
    · exact T_ret ⟨(i_rng (lo := 0) (hi := 1) l_0 (by omega) (by omega)), (by have e9 : ((0 : Int32)).toInt = _ := l_0; omega), hG, hS⟩
    · refine T_lt rfl l_1 (fun hq22_ => ?_) (fun hq22_ => ?_)
      · exact T_ret ⟨(i_rng (lo := 0) (hi := 1) l_0 (by omega) (by omega)), (by have e9 : ((0 : Int32)).toInt = _ := l_0; omega), hG, hS⟩
      · refine T_lt l_4 rfl (fun hq23_ => ?_) (fun hq23_ => ?_)
        · exact T_ret ⟨(i_rng (lo := 0) (hi := 1) l_0 (by omega) (by omega)), (by have e9 : ((0 : Int32)).toInt = _ := l_0; omega), hG, hS⟩
        · refine T_qc (t_X2_knows hn a3 M hG ) ?_
          rintro rv24 mv25 ⟨hq26_, hq27_, gq28_, kq29_⟩
          have hq30_ := kq29_.nil
          subst hq30_
          refine T_eq rfl l_0 (fun hq31_ => ?_) (fun hq31_ => ?_)
          · exact T_ret ⟨(i_rng (lo := 0) (hi := 1) l_0 (by omega) (by omega)), (by have e9 : ((0 : Int32)).toInt = _ := l_0; omega), hG, hS⟩
          · have hq32_ := i_and (a := a2 >>> (a3 &&& 31)) (b := (1 : Int32)) l_1 (by omega)
            refine T_eq rfl l_1 (fun hq33_ => ?_) (fun hq33_ => ?_)
            · exact T_ret ⟨(i_rng (lo := 0) (hi := 1) l_1 (by omega) (by omega)), (by have e9 : ((1 : Int32)).toInt = _ := l_1; omega), hG, hS⟩
            · exact T_ret ⟨(i_rng (lo := 0) (hi := 1) l_0 (by omega) (by omega)), (by have e9 : ((0 : Int32)).toInt = _ := l_0; omega), hG, hS⟩
abbrev l_J7_fill_53178_c63_8192 : List Bx := [(63, 64, 0, 0)]
abbrev po_J7_fill_53178_c63_8192 (a1 : Int32) (M : qM) (v : Int32) (M' : qM) : Prop := (0 ≤ v.toInt ∧ v.toInt ≤ 0) ∧ G M' ∧ Sm l_J7_fill_53178_c63_8192 M M'
theorem t_J7_fill_53178_c63_8192_5 {n : Nat} (hn : 200000 ≤ n) {oa1 : Int32} {M0 : qM} : ∀ (m : Nat) (a1 a2 a3 : Int32) (M : qM), G M → Sm l_J7_fill_53178_c63_8192 M0 M → (-1) ≤ a1.toInt ∧ a1.toInt ≤ (-1) → 0 ≤ a2.toInt ∧ a2.toInt ≤ 8192 → 8192 ≤ a3.toInt ∧ a3.toInt ≤ 8192 → 8192 - a2.toInt < (m : Int) → qT (f_J7_fill_53178_5 n 63 8192 m a1 a2 a3 M) (po_J7_fill_53178_c63_8192 oa1 M0) := by
  intro m
  induction m with
  | zero =>
    intro a1 a2 a3 M hG hS i0 i1 i2 i5
    exfalso; omega
  | succ m ih =>
    intro a1 a2 a3 M hG hS i0 i1 i2 i5
    show qT (b_J7_fill_53178_5 n 63 8192 (f_J7_fill_53178_5 n 63 8192 m) a1 a2 a3 M) _
    unfold b_J7_fill_53178_5
    try simp only [Nat.reduceAdd]
    refine T_le rfl rfl (fun hq2_ => ?_) (fun hq2_ => ?_)
    · exact T_ret ⟨(i_rng (lo := 0) (hi := 0) l_0 (by omega) (by omega)), hG, hS⟩
    · refine T_qg rfl (by omega) (by omega) ?_
      refine T_mu hG hS (rn_63 _ _) (nw_63 _) (i := 0) rfl ⟨by decide, by decide, Or.inl rfl⟩ ?_
      intro mv3 hq4_ gq5_ kq6_
      have hq7_ : (mv3 63 a2.toNatClampNeg).toInt = a1.toInt := by rw [hq4_, mu_at]
      refine T_ql (i_add rfl l_1 (by omega) (by omega)) ?_
      intro xv8 hq9_
      exact ih a1 xv8 a3 mv3 gq5_ kq6_ (i_rng (lo := (-1)) (hi := (-1)) rfl (by omega) (by omega)) (i_rng (lo := 0) (hi := 8192) rfl (by omega) (by omega)) (i_rng (lo := 8192) (hi := 8192) rfl (by omega) (by omega)) (by omega)
theorem t_J7_fill_53178_c63_8192 {n : Nat} (hn : 200000 ≤ n) (a1 : Int32) (M : qM) (hG : G M) (pa1 : (-1) ≤ a1.toInt ∧ a1.toInt ≤ (-1)) : qT (f_J7_fill_53178 n 63 8192 a1 M) (po_J7_fill_53178_c63_8192 a1 M) := by
  have hS : Sm l_J7_fill_53178_c63_8192 M M := Sm.rf
  unfold f_J7_fill_53178
  try simp only [Nat.reduceAdd]
  refine T_ql (show (Int32.ofNat 8192).toInt = 8192 from by decide) ?_
  intro xv10 hq11_
  exact (t_J7_fill_53178_c63_8192_5 hn) n a1 (0 : Int32) xv10 M hG hS (i_rng (lo := (-1)) (hi := (-1)) rfl (by omega) (by omega)) (i_rng (lo := 0) (hi := 8192) l_0 (by omega) (by omega)) (i_rng (lo := 8192) (hi := 8192) rfl (by omega) (by omega)) (by have e1 : ((0 : Int32)).toInt = _ := l_0; omega)
abbrev l_X7_toPlaces : List Bx := []
abbrev po_X7_toPlaces (a1 : Int32) (M : qM) (v : Int32) (M' : qM) : Prop := G M' ∧ Sm l_X7_toPlaces M M'
theorem t_X7_toPlaces_4 {n : Nat} (hn : 200000 ≤ n) {oa1 : Int32} {M0 : qM} : ∀ (m : Nat) (a1 a2 a3 : Int32) (M : qM), G M → Sm l_X7_toPlaces M0 M → 0 ≤ a3.toInt ∧ a3.toInt ≤ 4 → 4 - a3.toInt < (m : Int) → qT (f_X7_toPlaces_4 n m a1 a2 a3 M) (po_X7_toPlaces oa1 M0) := by
  intro m
  induction m with
  | zero =>
    intro a1 a2 a3 M hG hS i0 i3
    exfalso; omega
  | succ m ih =>
    intro a1 a2 a3 M hG hS i0 i3
    show qT (b_X7_toPlaces_4 n (f_X7_toPlaces_4 n m) a1 a2 a3 M) _
    unfold b_X7_toPlaces_4
    have hq3_ := r_56_10 hG
    refine T_le rfl rfl (fun hq4_ => ?_) (fun hq4_ => ?_)
    · exact T_ret ⟨hG, hS⟩
    · refine T_qg rfl (by omega) (by omega) ?_
      refine T_ql rfl ?_
      intro xv5 hq6_
      refine T_ql (i_add rfl l_1 (by omega) (by omega)) ?_
      intro xv7 hq8_
      exact ih a1 xv5 xv7 M hG hS (i_rng (lo := 0) (hi := 4) rfl (by omega) (by omega)) (by omega)
theorem t_X7_toPlaces {n : Nat} (hn : 200000 ≤ n) (a1 : Int32) (M : qM) (hG : G M) : qT (f_X7_toPlaces n a1 M) (po_X7_toPlaces a1 M) := by
  have hS : Sm l_X7_toPlaces M M := Sm.rf
  unfold f_X7_toPlaces
  exact (t_X7_toPlaces_4 hn) n a1 (0 : Int32) (0 : Int32) M hG hS (i_rng (lo := 0) (hi := 4) l_0 (by omega) (by omega)) (by have e1 : ((0 : Int32)).toInt = _ := l_0; have e2 : ((0 : Int32)).toInt = _ := l_0; omega)
abbrev l_X7_lackedPlaces_c7 : List Bx := []
abbrev po_X7_lackedPlaces_c7 (a2 a3 : Int32) (M : qM) (v : Int32) (M' : qM) : Prop := G M' ∧ Sm l_X7_lackedPlaces_c7 M M'
theorem t_X7_lackedPlaces_c7_6 {n : Nat} (hn : 200000 ≤ n) {oa2 oa3 : Int32} {M0 : qM} : ∀ (m : Nat) (a2 a3 a4 a5 : Int32) (M : qM), G M → Sm l_X7_lackedPlaces_c7 M0 M → 0 ≤ a2.toInt ∧ a2.toInt ≤ 7 → 0 ≤ a5.toInt ∧ a5.toInt ≤ 12 → 12 - a5.toInt < (m : Int) → qT (f_X7_lackedPlaces_6 n 7 m a2 a3 a4 a5 M) (po_X7_lackedPlaces_c7 oa2 oa3 M0) := by
  intro m
  induction m with
  | zero =>
    intro a2 a3 a4 a5 M hG hS i0 i1 i4
    exfalso; omega
  | succ m ih =>
    intro a2 a3 a4 a5 M hG hS i0 i1 i4
    show qT (b_X7_lackedPlaces_6 n 7 (f_X7_lackedPlaces_6 n 7 m) a2 a3 a4 a5 M) _
    unfold b_X7_lackedPlaces_6
    try simp only [Nat.reduceAdd]
    refine T_le l_12 rfl (fun hq4_ => ?_) (fun hq4_ => ?_)
    · exact T_ret ⟨hG, hS⟩
    · have hq7_ := i_shl1 (c := 11) (k := a5) (by decide) rfl (by omega) (by omega)
      have hq8_ := i_and (a := a3) (b := (1 : Int32) <<< (a5 &&& 31)) rfl (by omega)
      refine T_qc (t_X10_hasCounted_c7 hn a2 (a3 &&& ((1 : Int32) <<< (a5 &&& 31))) M hG (i_rng (lo := 0) (hi := 7) rfl (by omega) (by omega))) ?_
      rintro rv5 mv6 ⟨hq9_, gq10_, kq11_⟩
      have hq12_ := kq11_.nil
      subst hq12_
      refine T_eq rfl l_0 (fun hq13_ => ?_) (fun hq13_ => ?_)
      · refine T_qc (t_X7_toPlaces hn ((1 : Int32) <<< (a5 &&& 31)) M hG ) ?_
        rintro rv14 mv15 ⟨gq16_, kq17_⟩
        have hq18_ := kq17_.nil
        subst hq18_
        refine T_eq rfl l_0 (fun hq19_ => ?_) (fun hq19_ => ?_)
        · exact T_ret ⟨hG, hS⟩
        · refine T_ql rfl ?_
          intro xv20 hq21_
          refine T_ql (i_add rfl l_1 (by omega) (by omega)) ?_
          intro xv22 hq23_
          exact ih a2 a3 xv20 xv22 M hG hS (i_rng (lo := 0) (hi := 7) rfl (by omega) (by omega)) (i_rng (lo := 0) (hi := 12) rfl (by omega) (by omega)) (by omega)
      · refine T_ql (i_add rfl l_1 (by omega) (by omega)) ?_
        intro xv24 hq25_
        exact ih a2 a3 a4 xv24 M hG hS (i_rng (lo := 0) (hi := 7) rfl (by omega) (by omega)) (i_rng (lo := 0) (hi := 12) rfl (by omega) (by omega)) (by omega)
theorem t_X7_lackedPlaces_c7 {n : Nat} (hn : 200000 ≤ n) (a2 a3 : Int32) (M : qM) (hG : G M) (pa2 : 0 ≤ a2.toInt ∧ a2.toInt ≤ 7) : qT (f_X7_lackedPlaces n 7 a2 a3 M) (po_X7_lackedPlaces_c7 a2 a3 M) := by
  have hS : Sm l_X7_lackedPlaces_c7 M M := Sm.rf
  unfold f_X7_lackedPlaces
  try simp only [Nat.reduceAdd]
  exact (t_X7_lackedPlaces_c7_6 hn) n a2 a3 (0 : Int32) (0 : Int32) M hG hS (i_rng (lo := 0) (hi := 7) rfl (by omega) (by omega)) (i_rng (lo := 0) (hi := 12) l_0 (by omega) (by omega)) (by have e2 : ((0 : Int32)).toInt = _ := l_0; have e3 : ((0 : Int32)).toInt = _ := l_0; omega)
abbrev l_X7_askVoids_c7 : List Bx := [(34, 35, 4, 5), (35, 37, 0, 0), (62, 63, 0, 0)]
abbrev po_X7_askVoids_c7 (a2 a3 : Int32) (M : qM) (v : Int32) (M' : qM) : Prop := (0 ≤ v.toInt ∧ v.toInt ≤ 0) ∧ G M' ∧ Sm l_X7_askVoids_c7 M M'
theorem t_X7_askVoids_c7_61 {n : Nat} (hn : 200000 ≤ n) {j : Nat} (hj : q_isLaw j) {oa2 oa3 : Int32} {M0 : qM} : ∀ (m : Nat) (a2 a3 a5 a6 a7 : Int32) (M : qM), G M → Sm l_X7_askVoids_c7 M0 M → 0 ≤ a2.toInt ∧ a2.toInt ≤ 7 → 0 ≤ a3.toInt ∧ a3.toInt ≤ 3 → 0 ≤ a5.toInt ∧ a5.toInt ≤ 95 → 0 ≤ a7.toInt ∧ a7.toInt ≤ 4 → 4 - a7.toInt < (m : Int) → qT (f_X7_askVoids_61 n 7 j m a2 a3 a5 a6 a7 M) (po_X7_askVoids_c7 oa2 oa3 M0) := by
  intro m
  induction m with
  | zero =>
    intro a2 a3 a5 a6 a7 M hG hS i0 i1 i2 i3 i6
    exfalso; omega
  | succ m ih =>
    intro a2 a3 a5 a6 a7 M hG hS i0 i1 i2 i3 i6
    show qT (b_X7_askVoids_61 n 7 j (f_X7_askVoids_61 n 7 j m) a2 a3 a5 a6 a7 M) _
    unfold b_X7_askVoids_61
    try simp only [Nat.reduceAdd]
    refine T_lt l_3 rfl (fun hq2_ => ?_) (fun hq2_ => ?_)
    · exact T_ret ⟨(i_rng (lo := 0) (hi := 0) l_0 (by omega) (by omega)), hG, hS⟩
    · refine T_qg rfl (by omega) (by omega) ?_
      refine T_qg rfl (by omega) (by omega) ?_
      have hq5_ := i_full (M 9 a5.toNatClampNeg)
      have hq6_ := i_full (a6)
      refine T_qc (t_X1_tellTry hn a2 (8 : Int32) ((M 9 a5.toNatClampNeg) + a7) (a6 + a7) (M 11 a5.toNatClampNeg) M hG (i_rng (lo := 0) (hi := 7) rfl (by omega) (by omega)) (i_rng (lo := 0) (hi := 8) l_8 (by omega) (by omega))) ?_
      rintro rv3 mv4 ⟨hq7_, gq8_, kq9_⟩
      have kq10_ := Sm.call hS kq9_ rfl
      refine T_qc (t_X1_voidTries hn hj  mv4 gq8_ ) ?_
      rintro rv11 mv12 ⟨hq13_, gq14_, kq15_⟩
      have kq16_ := Sm.call kq10_ kq15_ rfl
      refine T_qg (i_add (i_mul rfl l_4 (by omega) (by omega)) rfl (by omega) (by omega)) (by omega) (by omega) ?_
      refine T_mu gq14_ kq16_ (rn_62 _ _) (nw_62 _) (i := 2) rfl ⟨by decide, by decide, Or.inl rfl⟩ ?_
      intro mv17 hq18_ gq19_ kq20_
      have hq21_ : (mv17 62 (((a3 * (4 : Int32)) + a7).toNatClampNeg)).toInt = rv11.toInt := by rw [hq18_, mu_at]
      refine T_ql (i_add rfl l_1 (by omega) (by omega)) ?_
      intro xv22 hq23_
      exact ih a2 a3 a5 a6 xv22 mv17 gq19_ kq20_ (i_rng (lo := 0) (hi := 7) rfl (by omega) (by omega)) (i_rng (lo := 0) (hi := 3) rfl (by omega) (by omega)) (i_rng (lo := 0) (hi := 95) rfl (by omega) (by omega)) (i_rng (lo := 0) (hi := 4) rfl (by omega) (by omega)) (by omega)
theorem t_X7_askVoids_c7 {n : Nat} (hn : 200000 ≤ n) {j : Nat} (hj : q_isLaw j) (a2 a3 : Int32) (M : qM) (hG : G M) (pa2 : 0 ≤ a2.toInt ∧ a2.toInt ≤ 7) (pa3 : 0 ≤ a3.toInt ∧ a3.toInt ≤ 3) : qT (f_X7_askVoids n 7 j a2 a3 M) (po_X7_askVoids_c7 a2 a3 M) := by
  have hS : Sm l_X7_askVoids_c7 M M := Sm.rf
  unfold f_X7_askVoids
  try simp only [Nat.reduceAdd]
  refine T_qg rfl (by omega) (by omega) ?_
  have hq24_ := r_57 hG a3.toNatClampNeg
  refine T_ql rfl ?_
  intro xv25 hq26_
  refine T_ql (i_add (i_mul rfl l_12 (by omega) (by omega)) rfl (by omega) (by omega)) ?_
  intro xv27 hq28_
  refine T_qc (t_X10_triesByAll_c7 hn xv25 M hG (i_rng (lo := 0) (hi := 11) rfl (by omega) (by omega))) ?_
  rintro rv29 mv30 ⟨gq31_, kq32_⟩
  have hq33_ := kq32_.nil
  subst hq33_
  refine T_qg rfl (by omega) (by omega) ?_
  refine T_qg rfl (by omega) (by omega) ?_
  refine T_qc (t_X1_tellDeed hn xv25 (M 4 xv25.toNatClampNeg) (M 5 xv25.toNatClampNeg) (M 7 9) M hG (i_rng (lo := 0) (hi := 12) rfl (by omega) (by omega))) ?_
  rintro rv34 mv35 ⟨hq36_, gq37_, kq38_⟩
  have kq39_ := Sm.call hS kq38_ rfl
  exact (t_X7_askVoids_c7_61 hn hj) n a2 a3 xv27 rv29 (0 : Int32) mv35 gq37_ kq39_ (i_rng (lo := 0) (hi := 7) rfl (by omega) (by omega)) (i_rng (lo := 0) (hi := 3) rfl (by omega) (by omega)) (i_rng (lo := 0) (hi := 95) rfl (by omega) (by omega)) (i_rng (lo := 0) (hi := 4) l_0 (by omega) (by omega)) (by have e4 : ((0 : Int32)).toInt = _ := l_0; omega)

abbrev l_X7_prepare_c7 : List Bx := [(34, 35, 4, 5), (35, 37, 0, 0), (56, 57, 10, 12), (57, 61, 0, 0), (62, 64, 0, 0)]
abbrev po_X7_prepare_c7 (a2 a3 a4 : Int32) (M : qM) (v : Int32) (M' : qM) : Prop := (0 ≤ v.toInt ∧ v.toInt ≤ 0) ∧ G M' ∧ Sm l_X7_prepare_c7 M M'
theorem t_X7_prepare_c7_85 {n : Nat} (hn : 200000 ≤ n) {j : Nat} (hj : q_isLaw j) {oa2 oa3 oa4 : Int32} {M0 : qM} : ∀ (m : Nat) (a2 a5 : Int32) (M : qM), G M → Sm l_X7_prepare_c7 M0 M → 0 ≤ a2.toInt ∧ a2.toInt ≤ 7 → 0 ≤ a5.toInt ∧ a5.toInt ≤ 4 → 4 - a5.toInt < (m : Int) → qT (f_X7_prepare_85 n 7 j m a2 a5 M) (po_X7_prepare_c7 oa2 oa3 oa4 M0) := by
  intro m
  induction m with
  | zero =>
    intro a2 a5 M hG hS i0 i1 i4
    exfalso; omega
  | succ m ih =>
    intro a2 a5 M hG hS i0 i1 i4
    show qT (b_X7_prepare_85 n 7 j (f_X7_prepare_85 n 7 j m) a2 a5 M) _
    unfold b_X7_prepare_85
    try simp only [Nat.reduceAdd]
    have hq2_ := r_56_10 hG
    refine T_le rfl rfl (fun hq3_ => ?_) (fun hq3_ => ?_)
    · refine T_qc (t_J7_fill_53178_c63_8192 hn (-1 : Int32) M hG (i_rng (lo := (-1)) (hi := (-1)) l_m1 (by omega) (by omega))) ?_
      rintro rv4 mv5 ⟨hq6_, gq7_, kq8_⟩
      have kq9_ := Sm.call hS kq8_ rfl
      have hq10_ : (mv5 56 10).toInt = (M 56 10).toInt := by rw [kq8_ 56 10 (by decide)]
      exact T_ret ⟨(i_rng (lo := 0) (hi := 0) l_0 (by omega) (by omega)), gq7_, kq9_⟩
    · refine T_qg rfl (by omega) (by omega) ?_
      have hq13_ := r_57 hG a5.toNatClampNeg
      refine T_qc (t_X1_alikes hn hj (M 57 a5.toNatClampNeg) (M 7 9) M hG (i_rng (lo := 0) (hi := 11) rfl (by omega) (by omega))) ?_
      rintro rv11 mv12 ⟨gq14_, kq15_⟩
      have kq16_ := Sm.call hS kq15_ rfl
      have hq17_ : (mv12 56 10).toInt = (M 56 10).toInt := by rw [kq15_ 56 10 (by decide)]
      refine T_qc (t_X10_triesAmong_c7 hn a2 rv11 mv12 gq14_ (i_rng (lo := 0) (hi := 7) rfl (by omega) (by omega))) ?_
      rintro rv18 mv19 ⟨gq20_, kq21_⟩
      have hq22_ := kq21_.nil
      subst hq22_
      refine T_qg rfl (by omega) (by omega) ?_
      refine T_mu gq14_ kq16_ (rn_58 _ _) (nw_58 _) (i := 3) rfl ⟨by decide, by decide, Or.inl rfl⟩ ?_
      intro mv23 hq24_ gq25_ kq26_
      have hq27_ : (mv23 56 10).toInt = (mv12 56 10).toInt := by rw [hq24_, mu_ne (Or.inl (by decide))]
      have hq28_ : (mv23 58 a5.toNatClampNeg).toInt = rv18.toInt := by rw [hq24_, mu_at]
      refine T_qc (t_X7_toPlaces hn rv11 mv23 gq25_ ) ?_
      rintro rv29 mv30 ⟨gq31_, kq32_⟩
      have hq33_ := kq32_.nil
      subst hq33_
      refine T_qg rfl (by omega) (by omega) ?_
      refine T_mu gq25_ kq26_ (rn_59 _ _) (nw_59 _) (i := 3) rfl ⟨by decide, by decide, Or.inl rfl⟩ ?_
      intro mv34 hq35_ gq36_ kq37_
      have hq38_ : (mv34 56 10).toInt = (mv23 56 10).toInt := by rw [hq35_, mu_ne (Or.inl (by decide))]
      have hq39_ : (mv34 58 a5.toNatClampNeg).toInt = (mv23 58 a5.toNatClampNeg).toInt := by rw [hq35_, mu_ne (Or.inl (by decide))]
      have hq40_ : (mv34 59 a5.toNatClampNeg).toInt = rv29.toInt := by rw [hq35_, mu_at]
      refine T_qg rfl (by omega) (by omega) ?_
      have hq41_ := r_57 gq36_ a5.toNatClampNeg
      refine T_qg rfl (by omega) (by omega) ?_
      refine T_qc (t_X7_lackedPlaces_c7 hn a2 (mv34 6 ((mv34 57 a5.toNatClampNeg).toNatClampNeg)) mv34 gq36_ (i_rng (lo := 0) (hi := 7) rfl (by omega) (by omega))) ?_
      rintro rv42 mv43 ⟨gq44_, kq45_⟩
      have hq46_ := kq45_.nil
      subst hq46_
      refine T_qg rfl (by omega) (by omega) ?_
      refine T_mu gq36_ kq37_ (rn_60 _ _) (nw_60 _) (i := 3) rfl ⟨by decide, by decide, Or.inl rfl⟩ ?_
      intro mv47 hq48_ gq49_ kq50_
      have hq51_ : (mv47 56 10).toInt = (mv34 56 10).toInt := by rw [hq48_, mu_ne (Or.inl (by decide))]
      have hq52_ : (mv47 58 a5.toNatClampNeg).toInt = (mv34 58 a5.toNatClampNeg).toInt := by rw [hq48_, mu_ne (Or.inl (by decide))]
      have hq53_ : (mv47 59 a5.toNatClampNeg).toInt = (mv34 59 a5.toNatClampNeg).toInt := by rw [hq48_, mu_ne (Or.inl (by decide))]
      have hq54_ : (mv47 57 a5.toNatClampNeg).toInt = (mv34 57 a5.toNatClampNeg).toInt := by rw [hq48_, mu_ne (Or.inl (by decide))]
      have hq55_ : (mv47 60 a5.toNatClampNeg).toInt = rv42.toInt := by rw [hq48_, mu_at]
      refine T_qc (t_X7_askVoids_c7 hn hj a2 a5 mv47 gq49_ (i_rng (lo := 0) (hi := 7) rfl (by omega) (by omega)) (i_rng (lo := 0) (hi := 3) rfl (by omega) (by omega))) ?_
      rintro rv56 mv57 ⟨hq58_, gq59_, kq60_⟩
      have kq61_ := Sm.call kq50_ kq60_ rfl
      have hq62_ : (mv57 56 10).toInt = (mv47 56 10).toInt := by rw [kq60_ 56 10 (by decide)]
      have hq63_ : (mv57 58 a5.toNatClampNeg).toInt = (mv47 58 a5.toNatClampNeg).toInt := by rw [kq60_ 58 _ (outc rfl)]
      have hq64_ : (mv57 59 a5.toNatClampNeg).toInt = (mv47 59 a5.toNatClampNeg).toInt := by rw [kq60_ 59 _ (outc rfl)]
      have hq65_ : (mv57 57 a5.toNatClampNeg).toInt = (mv47 57 a5.toNatClampNeg).toInt := by rw [kq60_ 57 _ (outc rfl)]
      have hq66_ : (mv57 60 a5.toNatClampNeg).toInt = (mv47 60 a5.toNatClampNeg).toInt := by rw [kq60_ 60 _ (outc rfl)]
      refine T_ql (i_add rfl l_1 (by omega) (by omega)) ?_
      intro xv67 hq68_
      exact ih a2 xv67 mv57 gq59_ kq61_ (i_rng (lo := 0) (hi := 7) rfl (by omega) (by omega)) (i_rng (lo := 0) (hi := 4) rfl (by omega) (by omega)) (by omega)
theorem t_X7_prepare_c7_8 {n : Nat} (hn : 200000 ≤ n) {j : Nat} (hj : q_isLaw j) {oa2 oa3 oa4 : Int32} {M0 : qM} : ∀ (m : Nat) (a2 a3 a4 a5 : Int32) (M : qM), G M → Sm l_X7_prepare_c7 M0 M → 0 ≤ a2.toInt ∧ a2.toInt ≤ 7 → 0 ≤ a4.toInt ∧ a4.toInt ≤ 11 → 0 ≤ a5.toInt ∧ a5.toInt ≤ 12 → 12 - a5.toInt < (m : Int) → qT (f_X7_prepare_8 n 7 j m a2 a3 a4 a5 M) (po_X7_prepare_c7 oa2 oa3 oa4 M0) := by
  intro m
  induction m with
  | zero =>
    intro a2 a3 a4 a5 M hG hS i0 i1 i2 i5
    exfalso; omega
  | succ m ih =>
    intro a2 a3 a4 a5 M hG hS i0 i1 i2 i5
    show qT (b_X7_prepare_8 n 7 j (f_X7_prepare_8 n 7 j m) a2 a3 a4 a5 M) _
    unfold b_X7_prepare_8
    try simp only [Nat.reduceAdd]
    refine T_le l_12 rfl (fun hq72_ => ?_) (fun hq72_ => ?_)
    · exact (t_X7_prepare_c7_85 hn hj) n a2 (0 : Int32) M hG hS (i_rng (lo := 0) (hi := 7) rfl (by omega) (by omega)) (i_rng (lo := 0) (hi := 4) l_0 (by omega) (by omega)) (by have e1 : ((0 : Int32)).toInt = _ := l_0; omega)
    · have hq73_ := r_56_10 hG
      refine T_le l_4 rfl (fun hq74_ => ?_) (fun hq74_ => ?_)
      · exact (t_X7_prepare_c7_85 hn hj) n a2 (0 : Int32) M hG hS (i_rng (lo := 0) (hi := 7) rfl (by omega) (by omega)) (i_rng (lo := 0) (hi := 4) l_0 (by omega) (by omega)) (by have e1 : ((0 : Int32)).toInt = _ := l_0; omega)
      · have hq75_ := i_and (a := a3 >>> (a5 &&& 31)) (b := (1 : Int32)) l_1 (by omega)
        refine T_eq rfl l_1 (fun hq76_ => ?_) (fun hq76_ => ?_)
        · refine T_eq rfl rfl (fun hq77_ => ?_) (fun hq77_ => ?_)
          · unfold f_X7_prepare_52
            try simp only [Nat.reduceAdd]
            refine T_mu hG hS (rn_56_11 _) (nw_56 _) (i := 2) rfl ⟨by decide, by decide, Or.inr ⟨by decide, by decide⟩⟩ ?_
            intro mv78 hq79_ gq80_ kq81_
            have hq82_ : (mv78 56 10).toInt = (M 56 10).toInt := by rw [hq79_, mu_ne (Or.inr (by decide))]
            have hq83_ : (mv78 56 11).toInt = (M 56 10).toInt := by rw [hq79_, mu_at]
            have hq84_ := r_56_10 gq80_
            refine T_qg rfl (by omega) (by omega) ?_
            refine T_mu gq80_ kq81_ (i_rng (lo := 0) (hi := 11) rfl (by omega) (by omega)) (nw_57 _) (i := 3) rfl ⟨by decide, by decide, Or.inl rfl⟩ ?_
            intro mv85 hq86_ gq87_ kq88_
            have hq89_ : (mv85 56 10).toInt = (mv78 56 10).toInt := by rw [hq86_, mu_ne (Or.inl (by decide))]
            have hq90_ : (mv85 56 11).toInt = (mv78 56 11).toInt := by rw [hq86_, mu_ne (Or.inl (by decide))]
            have hq91_ : (mv85 57 ((mv78 56 10).toNatClampNeg)).toInt = a5.toInt := by rw [hq86_, mu_at]
            have hq93_ := r_56_10 gq87_
            refine T_mu gq87_ kq88_ (i_rng (lo := 0) (hi := 4) (i_add rfl l_1 (by omega) (by omega)) (by omega) (by omega)) (nw_56 _) (i := 2) rfl ⟨by decide, by decide, Or.inr ⟨by decide, by decide⟩⟩ ?_
            intro mv92 hq94_ gq95_ kq96_
            have hq97_ : (mv92 56 11).toInt = (mv85 56 11).toInt := by rw [hq94_, mu_ne (Or.inr (by decide))]
            have hq98_ : (mv92 57 ((mv78 56 10).toNatClampNeg)).toInt = (mv85 57 ((mv78 56 10).toNatClampNeg)).toInt := by rw [hq94_, mu_ne (Or.inl (by decide))]
            have hq99_ : (mv92 56 10).toInt = ((mv85 56 10).toInt + 1) := by rw [hq94_, mu_at]; exact (i_add rfl l_1 (by omega) (by omega))
            refine T_ql (i_add rfl l_1 (by omega) (by omega)) ?_
            intro xv100 hq101_
            exact ih a2 a3 a4 xv100 mv92 gq95_ kq96_ (i_rng (lo := 0) (hi := 7) rfl (by omega) (by omega)) (i_rng (lo := 0) (hi := 11) rfl (by omega) (by omega)) (i_rng (lo := 0) (hi := 12) rfl (by omega) (by omega)) (by omega)
          · unfold f_X7_prepare_52
            try simp only [Nat.reduceAdd]
            refine T_mu hG hS (rn_56_11 _) (nw_56 _) (i := 2) rfl ⟨by decide, by decide, Or.inr ⟨by decide, by decide⟩⟩ ?_
            intro mv102 hq103_ gq104_ kq105_
            have hq106_ : (mv102 56 10).toInt = (M 56 10).toInt := by rw [hq103_, mu_ne (Or.inr (by decide))]
            have hq107_ : (mv102 56 11).toInt = (M 56 11).toInt := by rw [hq103_, mu_at]
            have hq108_ := r_56_10 gq104_
            refine T_qg rfl (by omega) (by omega) ?_
            refine T_mu gq104_ kq105_ (i_rng (lo := 0) (hi := 11) rfl (by omega) (by omega)) (nw_57 _) (i := 3) rfl ⟨by decide, by decide, Or.inl rfl⟩ ?_
            intro mv109 hq110_ gq111_ kq112_
            have hq113_ : (mv109 56 10).toInt = (mv102 56 10).toInt := by rw [hq110_, mu_ne (Or.inl (by decide))]
            have hq114_ : (mv109 56 11).toInt = (mv102 56 11).toInt := by rw [hq110_, mu_ne (Or.inl (by decide))]
            have hq115_ : (mv109 57 ((mv102 56 10).toNatClampNeg)).toInt = a5.toInt := by rw [hq110_, mu_at]
            have hq117_ := r_56_10 gq111_
            refine T_mu gq111_ kq112_ (i_rng (lo := 0) (hi := 4) (i_add rfl l_1 (by omega) (by omega)) (by omega) (by omega)) (nw_56 _) (i := 2) rfl ⟨by decide, by decide, Or.inr ⟨by decide, by decide⟩⟩ ?_
            intro mv116 hq118_ gq119_ kq120_
            have hq121_ : (mv116 56 11).toInt = (mv109 56 11).toInt := by rw [hq118_, mu_ne (Or.inr (by decide))]
            have hq122_ : (mv116 57 ((mv102 56 10).toNatClampNeg)).toInt = (mv109 57 ((mv102 56 10).toNatClampNeg)).toInt := by rw [hq118_, mu_ne (Or.inl (by decide))]
            have hq123_ : (mv116 56 10).toInt = ((mv109 56 10).toInt + 1) := by rw [hq118_, mu_at]; exact (i_add rfl l_1 (by omega) (by omega))
            refine T_ql (i_add rfl l_1 (by omega) (by omega)) ?_
            intro xv124 hq125_
            exact ih a2 a3 a4 xv124 mv116 gq119_ kq120_ (i_rng (lo := 0) (hi := 7) rfl (by omega) (by omega)) (i_rng (lo := 0) (hi := 11) rfl (by omega) (by omega)) (i_rng (lo := 0) (hi := 12) rfl (by omega) (by omega)) (by omega)
        · refine T_ql (i_add rfl l_1 (by omega) (by omega)) ?_
          intro xv126 hq127_
          exact ih a2 a3 a4 xv126 M hG hS (i_rng (lo := 0) (hi := 7) rfl (by omega) (by omega)) (i_rng (lo := 0) (hi := 11) rfl (by omega) (by omega)) (i_rng (lo := 0) (hi := 12) rfl (by omega) (by omega)) (by omega)
theorem t_X7_prepare_c7 {n : Nat} (hn : 200000 ≤ n) {j : Nat} (hj : q_isLaw j) (a2 a3 a4 : Int32) (M : qM) (hG : G M) (pa2 : 0 ≤ a2.toInt ∧ a2.toInt ≤ 7) (pa4 : 0 ≤ a4.toInt ∧ a4.toInt ≤ 11) : qT (f_X7_prepare n 7 j a2 a3 a4 M) (po_X7_prepare_c7 a2 a3 a4 M) := by
  have hS : Sm l_X7_prepare_c7 M M := Sm.rf
  unfold f_X7_prepare
  try simp only [Nat.reduceAdd]
  refine T_mu hG hS (i_rng (lo := 0) (hi := 4) l_0 (by omega) (by omega)) (nw_56 _) (i := 2) rfl ⟨by decide, by decide, Or.inr ⟨by decide, by decide⟩⟩ ?_
  intro mv128 hq129_ gq130_ kq131_
  have hq132_ : (mv128 56 10).toInt = 0 := by rw [hq129_, mu_at]; exact l_0
  exact (t_X7_prepare_c7_8 hn hj) n a2 a3 a4 (0 : Int32) mv128 gq130_ kq131_ (i_rng (lo := 0) (hi := 7) rfl (by omega) (by omega)) (i_rng (lo := 0) (hi := 11) rfl (by omega) (by omega)) (i_rng (lo := 0) (hi := 12) l_0 (by omega) (by omega)) (by have e3 : ((0 : Int32)).toInt = _ := l_0; omega)
abbrev l_X7_extraAt : List Bx := []
abbrev po_X7_extraAt (a0 a1 : Int32) (M : qM) (v : Int32) (M' : qM) : Prop := (0 ≤ v.toInt ∧ v.toInt ≤ 3) ∧ G M' ∧ Sm l_X7_extraAt M M'
theorem t_X7_extraAt {n : Nat} (hn : 200000 ≤ n) (a0 a1 : Int32) (M : qM) (hG : G M) (pa1 : 0 ≤ a1.toInt ∧ a1.toInt ≤ 3) : qT (f_X7_extraAt n a0 a1 M) (po_X7_extraAt a0 a1 M) := by
  have hS : Sm l_X7_extraAt M M := Sm.rf
  unfold f_X7_extraAt
  have hq1_ := i_and (a := a0 >>> (((2 : Int32) * a1) &&& 31)) (b := (3 : Int32)) l_3 (by omega)
  exact T_ret ⟨(i_rng (lo := 0) (hi := 3) rfl (by omega) (by omega)), hG, hS⟩
abbrev l_X7_wouldCount : List Bx := []
abbrev po_X7_wouldCount (a1 a2 : Int32) (M : qM) (v : Int32) (M' : qM) : Prop := (0 ≤ v.toInt ∧ v.toInt ≤ 1) ∧ G M' ∧ Sm l_X7_wouldCount M M'
theorem t_X7_wouldCount_38 {n : Nat} (hn : 200000 ≤ n) {oa1 oa2 : Int32} {M0 : qM} : ∀ (m : Nat) (a1 a2 a3 a4 : Int32) (M : qM), G M → Sm l_X7_wouldCount M0 M → 0 ≤ a2.toInt ∧ a2.toInt ≤ 3 → 0 ≤ a4.toInt ∧ a4.toInt ≤ 4 → 4 - a4.toInt < (m : Int) → qT (f_X7_wouldCount_38 n m a1 a2 a3 a4 M) (po_X7_wouldCount oa1 oa2 M0) := by
  intro m
  induction m with
  | zero =>
    intro a1 a2 a3 a4 M hG hS i0 i1 i4
    exfalso; omega
  | succ m ih =>
    intro a1 a2 a3 a4 M hG hS i0 i1 i4
    show qT (b_X7_wouldCount_38 n (f_X7_wouldCount_38 n m) a1 a2 a3 a4 M) _
    unfold b_X7_wouldCount_38
    have hq5_ := r_56_10 hG
    refine T_le rfl rfl (fun hq6_ => ?_) (fun hq6_ => ?_)
    · refine T_qc (t_X7_extraAt hn a1 a2 M hG (i_rng (lo := 0) (hi := 3) rfl (by omega) (by omega))) ?_
      rintro rv7 mv8 ⟨hq9_, gq10_, kq11_⟩
      have hq12_ := kq11_.nil
      subst hq12_
      refine T_qg (i_add (i_mul rfl l_4 (by omega) (by omega)) rfl (by omega) (by omega)) (by omega) (by omega) ?_
      refine T_lt rfl rfl (fun hq13_ => ?_) (fun hq13_ => ?_)
      · exact T_ret ⟨(i_rng (lo := 0) (hi := 1) l_0 (by omega) (by omega)), hG, hS⟩
      · exact T_ret ⟨(i_rng (lo := 0) (hi := 1) l_1 (by omega) (by omega)), hG, hS⟩
    · refine T_qg rfl (by omega) (by omega) ?_
      have hq14_ := i_and (a := (M 59 a2.toNatClampNeg) >>> (a4 &&& 31)) (b := (1 : Int32)) l_1 (by omega)
      refine T_eq rfl l_1 (fun hq15_ => ?_) (fun hq15_ => ?_)
      · refine T_qc (t_X7_extraAt hn a1 a4 M hG (i_rng (lo := 0) (hi := 3) rfl (by omega) (by omega))) ?_
        rintro rv16 mv17 ⟨hq18_, gq19_, kq20_⟩
        have hq21_ := kq20_.nil
        subst hq21_
        unfold f_X7_wouldCount_73
        have hq22_ := i_full (a3)
        refine T_ql rfl ?_
        intro xv23 hq24_
        refine T_ql (i_add rfl l_1 (by omega) (by omega)) ?_
        intro xv25 hq26_
        exact ih a1 a2 xv23 xv25 M hG hS (i_rng (lo := 0) (hi := 3) rfl (by omega) (by omega)) (i_rng (lo := 0) (hi := 4) rfl (by omega) (by omega)) (by omega)
      · unfold f_X7_wouldCount_73
        have hq27_ := i_full (a3)
        refine T_ql (i_add rfl l_0 (by omega) (by omega)) ?_
        intro xv28 hq29_
        refine T_ql (i_add rfl l_1 (by omega) (by omega)) ?_
        intro xv30 hq31_
        exact ih a1 a2 xv28 xv30 M hG hS (i_rng (lo := 0) (hi := 3) rfl (by omega) (by omega)) (i_rng (lo := 0) (hi := 4) rfl (by omega) (by omega)) (by omega)
theorem t_X7_wouldCount {n : Nat} (hn : 200000 ≤ n) (a1 a2 : Int32) (M : qM) (hG : G M) (pa2 : 0 ≤ a2.toInt ∧ a2.toInt ≤ 3) : qT (f_X7_wouldCount n a1 a2 M) (po_X7_wouldCount a1 a2 M) := by
  have hS : Sm l_X7_wouldCount M M := Sm.rf
  unfold f_X7_wouldCount
  refine T_qg rfl (by omega) (by omega) ?_
  refine T_eq rfl l_m1 (fun hq32_ => ?_) (fun hq32_ => ?_)
  · exact T_ret ⟨(i_rng (lo := 0) (hi := 1) l_0 (by omega) (by omega)), hG, hS⟩
  · refine T_qg rfl (by omega) (by omega) ?_
    refine T_eq rfl l_0 (fun hq33_ => ?_) (fun hq33_ => ?_)
    · refine T_qg rfl (by omega) (by omega) ?_
      refine T_ql rfl ?_
      intro xv34 hq35_
      exact (t_X7_wouldCount_38 hn) n a1 a2 xv34 (0 : Int32) M hG hS (i_rng (lo := 0) (hi := 3) rfl (by omega) (by omega)) (i_rng (lo := 0) (hi := 4) l_0 (by omega) (by omega)) (by have e3 : ((0 : Int32)).toInt = _ := l_0; omega)
    · exact T_ret ⟨(i_rng (lo := 0) (hi := 1) l_0 (by omega) (by omega)), hG, hS⟩

