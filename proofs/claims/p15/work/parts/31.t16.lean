abbrev l_X12_buys : List Bx := [(78, 79, 0, 192), (78, 79, 288, 296), (96, 98, 0, 0)]
abbrev po_X12_buys (a1 a2 a3 : Int32) (M : qM) (v : Int32) (M' : qM) : Prop := ((-3) ≤ v.toInt ∧ v.toInt ≤ 999) ∧ G M' ∧ Sm l_X12_buys M M'
theorem t_X12_buys {n : Nat} (hn : 200000 ≤ n) (a1 a2 a3 : Int32) (M : qM) (hG : G M) : qT (f_X12_buys n a1 a2 a3 M) (po_X12_buys a1 a2 a3 M) := by
  have hS : Sm l_X12_buys M M := Sm.rf
  unfold f_X12_buys
  refine T_qc (t_X12_isPerson hn a1 M hG ) ?_
  rintro rv1 mv2 ⟨hq3_, hq4_, gq5_, kq6_⟩
  have hq7_ := kq6_.nil
  subst hq7_
  refine T_eq rfl l_0 (fun hq8_ => ?_) (fun hq8_ => ?_)
  · exact T_ret ⟨(i_rng (lo := (-3)) (hi := 999) l_m1 (by omega) (by omega)), hG, hS⟩
  · refine T_qc (t_X12_isKind hn a2 M hG ) ?_
    rintro rv9 mv10 ⟨hq11_, hq12_, gq13_, kq14_⟩
    have hq15_ := kq14_.nil
    subst hq15_
    refine T_eq rfl l_0 (fun hq16_ => ?_) (fun hq16_ => ?_)
    · exact T_ret ⟨(i_rng (lo := (-3)) (hi := 999) l_m1 (by omega) (by omega)), hG, hS⟩
    · refine T_qc (t_X12_isPerson hn a3 M hG ) ?_
      rintro rv17 mv18 ⟨hq19_, hq20_, gq21_, kq22_⟩
      have hq23_ := kq22_.nil
      subst hq23_
      refine T_eq rfl l_0 (fun hq24_ => ?_) (fun hq24_ => ?_)
      · exact T_ret ⟨(i_rng (lo := (-3)) (hi := 999) l_m1 (by omega) (by omega)), hG, hS⟩
      · refine T_eq rfl rfl (fun hq25_ => ?_) (fun hq25_ => ?_)
        · exact T_ret ⟨(i_rng (lo := (-3)) (hi := 999) l_m1 (by omega) (by omega)), hG, hS⟩
        · refine T_qc (t_X12_at hn a3 a2 M hG (i_rng (lo := 0) (hi := 7) rfl (by omega) (by omega)) (i_rng (lo := 0) (hi := 11) rfl (by omega) (by omega))) ?_
          rintro rv26 mv27 ⟨hq28_, hq29_, gq30_, kq31_⟩
          have hq32_ := kq31_.nil
          subst hq32_
          refine T_qc (t_X12_at hn a1 a2 M hG (i_rng (lo := 0) (hi := 7) rfl (by omega) (by omega)) (i_rng (lo := 0) (hi := 11) rfl (by omega) (by omega))) ?_
          rintro rv33 mv34 ⟨hq35_, hq36_, gq37_, kq38_⟩
          have hq39_ := kq38_.nil
          subst hq39_
          refine T_qg (i_add l_0 rfl (by omega) (by omega)) (by omega) (by omega) ?_
          refine T_eq rfl l_0 (fun hq40_ => ?_) (fun hq40_ => ?_)
          · exact T_ret ⟨(i_rng (lo := (-3)) (hi := 999) l_m3 (by omega) (by omega)), hG, hS⟩
          · refine T_qc (t_X12_costOf hn a1 a2 a3 M hG (i_rng (lo := 0) (hi := 7) rfl (by omega) (by omega)) (i_rng (lo := 0) (hi := 11) rfl (by omega) (by omega)) (i_rng (lo := 0) (hi := 7) rfl (by omega) (by omega))) ?_
            rintro rv41 mv42 ⟨hq43_, gq44_, kq45_⟩
            have kq46_ := Sm.call hS kq45_ rfl
            have hq47_ : (mv42 78 (((0 : Int32) + rv26).toNatClampNeg)).toInt = (M 78 (((0 : Int32) + rv26).toNatClampNeg)).toInt := by rw [kq45_ 78 _ (out78 (lo := 0) (hi := 96) rfl (by rw [tnc, (i_add l_0 rfl (by omega) (by omega))]; omega) (by rw [tnc, (i_add l_0 rfl (by omega) (by omega))]; omega))]
            refine T_qg (i_add l_288 rfl (by omega) (by omega)) (by omega) (by omega) ?_
            refine T_le rfl rfl (fun hq48_ => ?_) (fun hq48_ => ?_)
            · refine T_qg (i_add l_288 rfl (by omega) (by omega)) (by omega) (by omega) ?_
              refine T_qg (i_add l_288 rfl (by omega) (by omega)) (by omega) (by omega) ?_
              have hq50_ := i_full (mv42 78 (((288 : Int32) + a1).toNatClampNeg))
              refine T_mu gq44_ kq46_ (ro78 (by decide) (by rw [tnc, (i_add l_288 rfl (by omega) (by omega))]; omega)) (nw_78 _) (i := 1) rfl ⟨by decide, by decide, Or.inr ⟨(show 288 ≤ _ by rw [tnc, (i_add l_288 rfl (by omega) (by omega))]; omega), (show _ < 296 by rw [tnc, (i_add l_288 rfl (by omega) (by omega))]; omega)⟩⟩ ?_
              intro mv49 hq51_ gq52_ kq53_
              have hq54_ : (mv49 78 (((288 : Int32) + a1).toNatClampNeg)).toInt = ((mv42 78 (((288 : Int32) + a1).toNatClampNeg)).toInt - rv41.toInt) := by rw [hq51_, mu_at]; exact (i_sub rfl rfl (by omega) (by omega))
              refine T_qg (i_add l_288 rfl (by omega) (by omega)) (by omega) (by omega) ?_
              have hq57_ := i_full (mv49 78 (((288 : Int32) + a3).toNatClampNeg))
              refine T_qc (t_X12_min hn (99999 : Int32) ((mv49 78 (((288 : Int32) + a3).toNatClampNeg)) + rv41) mv49 gq52_ (i_rng (lo := (-2147483648)) (hi := 1000000000) l_99999 (by omega) (by omega))) ?_
              rintro rv55 mv56 ⟨hq58_, gq59_, kq60_⟩
              have hq61_ := kq60_.nil
              subst hq61_
              refine T_qg (i_add l_288 rfl (by omega) (by omega)) (by omega) (by omega) ?_
              refine T_mu gq52_ kq53_ (ro78 (by decide) (by rw [tnc, (i_add l_288 rfl (by omega) (by omega))]; omega)) (nw_78 _) (i := 1) rfl ⟨by decide, by decide, Or.inr ⟨(show 288 ≤ _ by rw [tnc, (i_add l_288 rfl (by omega) (by omega))]; omega), (show _ < 296 by rw [tnc, (i_add l_288 rfl (by omega) (by omega))]; omega)⟩⟩ ?_
              intro mv62 hq63_ gq64_ kq65_
              have hq66_ : (mv62 78 (((288 : Int32) + a3).toNatClampNeg)).toInt = rv55.toInt := by rw [hq63_, mu_at]
              refine T_qg (i_add l_0 rfl (by omega) (by omega)) (by omega) (by omega) ?_
              refine T_qg (i_add l_0 rfl (by omega) (by omega)) (by omega) (by omega) ?_
              have hq68_ := i_full (mv62 78 (((0 : Int32) + rv26).toNatClampNeg))
              refine T_mu gq64_ kq65_ (ro78 (by decide) (by rw [tnc, (i_add l_0 rfl (by omega) (by omega))]; omega)) (nw_78 _) (i := 0) rfl ⟨by decide, by decide, Or.inr ⟨(show 0 ≤ _ by rw [tnc, (i_add l_0 rfl (by omega) (by omega))]; omega), (show _ < 192 by rw [tnc, (i_add l_0 rfl (by omega) (by omega))]; omega)⟩⟩ ?_
              intro mv67 hq69_ gq70_ kq71_
              have hq72_ : (mv67 78 (((0 : Int32) + rv26).toNatClampNeg)).toInt = ((mv62 78 (((0 : Int32) + rv26).toNatClampNeg)) - (1 : Int32)).toInt := by rw [hq69_, mu_at]
              refine T_qg (i_add l_0 rfl (by omega) (by omega)) (by omega) (by omega) ?_
              refine T_eq rfl l_0 (fun hq73_ => ?_) (fun hq73_ => ?_)
              · refine T_qg (i_add l_96 rfl (by omega) (by omega)) (by omega) (by omega) ?_
                refine T_mu gq70_ kq71_ (ro78 (by decide) (by rw [tnc, (i_add l_96 rfl (by omega) (by omega))]; omega)) (nw_78 _) (i := 0) rfl ⟨by decide, by decide, Or.inr ⟨(show 0 ≤ _ by rw [tnc, (i_add l_96 rfl (by omega) (by omega))]; omega), (show _ < 192 by rw [tnc, (i_add l_96 rfl (by omega) (by omega))]; omega)⟩⟩ ?_
                intro mv74 hq75_ gq76_ kq77_
                have hq78_ : (mv74 78 (((96 : Int32) + rv26).toNatClampNeg)).toInt = (-2) := by rw [hq75_, mu_at]; exact l_m2
                unfold f_X12_buys_182
                refine T_qg (i_add l_0 rfl (by omega) (by omega)) (by omega) (by omega) ?_
                have hq81_ := i_full (mv74 78 (((0 : Int32) + rv33).toNatClampNeg))
                refine T_qc (t_X12_min hn (999 : Int32) ((mv74 78 (((0 : Int32) + rv33).toNatClampNeg)) + (1 : Int32)) mv74 gq76_ (i_rng (lo := (-2147483648)) (hi := 1000000000) l_999 (by omega) (by omega))) ?_
                rintro rv79 mv80 ⟨hq82_, gq83_, kq84_⟩
                have hq85_ := kq84_.nil
                subst hq85_
                refine T_qg (i_add l_0 rfl (by omega) (by omega)) (by omega) (by omega) ?_
                refine T_mu gq76_ kq77_ (ro78 (by decide) (by rw [tnc, (i_add l_0 rfl (by omega) (by omega))]; omega)) (nw_78 _) (i := 0) rfl ⟨by decide, by decide, Or.inr ⟨(show 0 ≤ _ by rw [tnc, (i_add l_0 rfl (by omega) (by omega))]; omega), (show _ < 192 by rw [tnc, (i_add l_0 rfl (by omega) (by omega))]; omega)⟩⟩ ?_
                intro mv86 hq87_ gq88_ kq89_
                have hq90_ : (mv86 78 (((0 : Int32) + rv33).toNatClampNeg)).toInt = rv79.toInt := by rw [hq87_, mu_at]
                refine T_qg (i_add l_96 rfl (by omega) (by omega)) (by omega) (by omega) ?_
                refine T_mu gq88_ kq89_ (ro78 (by decide) (by rw [tnc, (i_add l_96 rfl (by omega) (by omega))]; omega)) (nw_78 _) (i := 0) rfl ⟨by decide, by decide, Or.inr ⟨(show 0 ≤ _ by rw [tnc, (i_add l_96 rfl (by omega) (by omega))]; omega), (show _ < 192 by rw [tnc, (i_add l_96 rfl (by omega) (by omega))]; omega)⟩⟩ ?_
                intro mv91 hq92_ gq93_ kq94_
                have hq95_ : (mv91 78 (((96 : Int32) + rv33).toNatClampNeg)).toInt = (mv86 78 313).toInt := by rw [hq92_, mu_at]
                exact T_ret ⟨(i_rng (lo := (-3)) (hi := 999) rfl (by omega) (by omega)), gq93_, kq94_⟩
              · unfold f_X12_buys_182
                refine T_qg (i_add l_0 rfl (by omega) (by omega)) (by omega) (by omega) ?_
                have hq98_ := i_full (mv67 78 (((0 : Int32) + rv33).toNatClampNeg))
                refine T_qc (t_X12_min hn (999 : Int32) ((mv67 78 (((0 : Int32) + rv33).toNatClampNeg)) + (1 : Int32)) mv67 gq70_ (i_rng (lo := (-2147483648)) (hi := 1000000000) l_999 (by omega) (by omega))) ?_
                rintro rv96 mv97 ⟨hq99_, gq100_, kq101_⟩
                have hq102_ := kq101_.nil
                subst hq102_
                refine T_qg (i_add l_0 rfl (by omega) (by omega)) (by omega) (by omega) ?_
                refine T_mu gq70_ kq71_ (ro78 (by decide) (by rw [tnc, (i_add l_0 rfl (by omega) (by omega))]; omega)) (nw_78 _) (i := 0) rfl ⟨by decide, by decide, Or.inr ⟨(show 0 ≤ _ by rw [tnc, (i_add l_0 rfl (by omega) (by omega))]; omega), (show _ < 192 by rw [tnc, (i_add l_0 rfl (by omega) (by omega))]; omega)⟩⟩ ?_
                intro mv103 hq104_ gq105_ kq106_
                have hq107_ : (mv103 78 (((0 : Int32) + rv33).toNatClampNeg)).toInt = rv96.toInt := by rw [hq104_, mu_at]
                refine T_qg (i_add l_96 rfl (by omega) (by omega)) (by omega) (by omega) ?_
                refine T_mu gq105_ kq106_ (ro78 (by decide) (by rw [tnc, (i_add l_96 rfl (by omega) (by omega))]; omega)) (nw_78 _) (i := 0) rfl ⟨by decide, by decide, Or.inr ⟨(show 0 ≤ _ by rw [tnc, (i_add l_96 rfl (by omega) (by omega))]; omega), (show _ < 192 by rw [tnc, (i_add l_96 rfl (by omega) (by omega))]; omega)⟩⟩ ?_
                intro mv108 hq109_ gq110_ kq111_
                have hq112_ : (mv108 78 (((96 : Int32) + rv33).toNatClampNeg)).toInt = (mv103 78 313).toInt := by rw [hq109_, mu_at]
                exact T_ret ⟨(i_rng (lo := (-3)) (hi := 999) rfl (by omega) (by omega)), gq110_, kq111_⟩
            · exact T_ret ⟨(i_rng (lo := (-3)) (hi := 999) l_m2 (by omega) (by omega)), gq44_, kq46_⟩
abbrev l_X0_noteOutcome : List Bx := [(44, 45, 5, 6), (44, 45, 7, 10)]
abbrev po_X0_noteOutcome (a1 a2 a3 a4 : Int32) (M : qM) (v : Int32) (M' : qM) : Prop := (0 ≤ v.toInt ∧ v.toInt ≤ 0) ∧ G M' ∧ Sm l_X0_noteOutcome M M'
theorem t_X0_noteOutcome {n : Nat} (hn : 200000 ≤ n) (a1 a2 a3 a4 : Int32) (M : qM) (hG : G M) (pa2 : 0 ≤ a2.toInt ∧ a2.toInt ≤ 7) (pa3 : 0 ≤ a3.toInt ∧ a3.toInt ≤ 11) (pa4 : (-2) ≤ a4.toInt ∧ a4.toInt ≤ 1) : qT (f_X0_noteOutcome n a1 a2 a3 a4 M) (po_X0_noteOutcome a1 a2 a3 a4 M) := by
  have hS : Sm l_X0_noteOutcome M M := Sm.rf
  unfold f_X0_noteOutcome
  refine T_eq rfl l_1 (fun hq1_ => ?_) (fun hq1_ => ?_)
  · have hq3_ := i_full (M 44 5)
    refine T_mu hG hS (rn_44_5 _) (nw_44 _) (i := 0) rfl ⟨by decide, by decide, Or.inr ⟨by decide, by decide⟩⟩ ?_
    intro mv2 hq4_ gq5_ kq6_
    have hq7_ : (mv2 44 5).toInt = ((M 44 5) + (1 : Int32)).toInt := by rw [hq4_, mu_at]
    unfold f_X0_noteOutcome_16
    refine T_eq rfl l_m2 (fun hq8_ => ?_) (fun hq8_ => ?_)
    · exfalso; omega
    · exact T_ret ⟨(i_rng (lo := 0) (hi := 0) l_0 (by omega) (by omega)), gq5_, kq6_⟩
  · unfold f_X0_noteOutcome_16
    refine T_eq rfl l_m2 (fun hq9_ => ?_) (fun hq9_ => ?_)
    · refine T_eq rfl l_m2 (fun hq10_ => ?_) (fun hq10_ => ?_)
      · refine T_mu hG hS (rn_44_7 _) (nw_44 _) (i := 1) rfl ⟨by decide, by decide, Or.inr ⟨by decide, by decide⟩⟩ ?_
        intro mv11 hq12_ gq13_ kq14_
        have hq15_ : (mv11 44 7).toInt = a1.toInt := by rw [hq12_, mu_at]
        refine T_mu gq13_ kq14_ (rn_44_8 _) (nw_44 _) (i := 1) rfl ⟨by decide, by decide, Or.inr ⟨by decide, by decide⟩⟩ ?_
        intro mv16 hq17_ gq18_ kq19_
        have hq20_ : (mv16 44 7).toInt = (mv11 44 7).toInt := by rw [hq17_, mu_ne (Or.inr (by decide))]
        have hq21_ : (mv16 44 8).toInt = a2.toInt := by rw [hq17_, mu_at]
        refine T_mu gq18_ kq19_ (rn_44_9 _) (nw_44 _) (i := 1) rfl ⟨by decide, by decide, Or.inr ⟨by decide, by decide⟩⟩ ?_
        intro mv22 hq23_ gq24_ kq25_
        have hq26_ : (mv22 44 7).toInt = (mv16 44 7).toInt := by rw [hq23_, mu_ne (Or.inr (by decide))]
        have hq27_ : (mv22 44 8).toInt = (mv16 44 8).toInt := by rw [hq23_, mu_ne (Or.inr (by decide))]
        have hq28_ : (mv22 44 9).toInt = a3.toInt := by rw [hq23_, mu_at]
        exact T_ret ⟨(i_rng (lo := 0) (hi := 0) l_0 (by omega) (by omega)), gq24_, kq25_⟩
      · exact T_ret ⟨(i_rng (lo := 0) (hi := 0) l_0 (by omega) (by omega)), hG, hS⟩
    · exact T_ret ⟨(i_rng (lo := 0) (hi := 0) l_0 (by omega) (by omega)), hG, hS⟩
abbrev l_X0_doSteps_c7 : List Bx := [(9, 12, 0, 0), (15, 16, 0, 0), (34, 35, 4, 5), (35, 37, 0, 0), (44, 45, 2, 10)]
abbrev po_X0_doSteps_c7 (a2 : Int32) (M : qM) (v : Int32) (M' : qM) : Prop := (0 ≤ v.toInt ∧ v.toInt ≤ 0) ∧ G M' ∧ Sm l_X0_doSteps_c7 M M'
theorem t_X0_doSteps_c7_11 {n : Nat} (hn : 200000 ≤ n) {j : Nat} (hj : q_isLaw j) {oa2 : Int32} {M0 : qM} : ∀ (m : Nat) (a2 a3 a4 : Int32) (M : qM), G M → Sm l_X0_doSteps_c7 M0 M → 0 ≤ a2.toInt ∧ a2.toInt ≤ 7 → 0 ≤ a4.toInt ∧ a4.toInt ≤ 40 → 40 - a4.toInt < (m : Int) → qT (f_X0_doSteps_11 n 7 j m a2 a3 a4 M) (po_X0_doSteps_c7 oa2 M0) := by
  intro m
  induction m with
  | zero =>
    intro a2 a3 a4 M hG hS i0 i1 i4
    exfalso; omega
  | succ m ih =>
    intro a2 a3 a4 M hG hS i0 i1 i4
    show qT (b_X0_doSteps_11 n 7 j (f_X0_doSteps_11 n 7 j m) a2 a3 a4 M) _
    unfold b_X0_doSteps_11
    try simp only [Nat.reduceAdd]
    refine T_qg rfl (by omega) (by omega) ?_
    have hq10_ := r_14 hG a2.toNatClampNeg
    refine T_le rfl rfl (fun hq11_ => ?_) (fun hq11_ => ?_)
    · exact T_ret ⟨(i_rng (lo := 0) (hi := 0) l_0 (by omega) (by omega)), hG, hS⟩
    · refine T_qg (i_add (i_mul rfl l_40 (by omega) (by omega)) rfl (by omega) (by omega)) (by omega) (by omega) ?_
      refine T_ql rfl ?_
      intro xv12 hq13_
      refine T_qg (i_add (i_mul rfl l_40 (by omega) (by omega)) rfl (by omega) (by omega)) (by omega) (by omega) ?_
      refine T_ql rfl ?_
      intro xv14 hq15_
      refine T_qc (t_X2_knows hn xv12 M hG ) ?_
      rintro rv16 mv17 ⟨hq18_, hq19_, gq20_, kq21_⟩
      have hq22_ := kq21_.nil
      subst hq22_
      refine T_eq rfl l_0 (fun hq23_ => ?_) (fun hq23_ => ?_)
      · unfold f_X0_doSteps_162
        try simp only [Nat.reduceAdd]
        refine T_qg rfl (by omega) (by omega) ?_
        refine T_mu hG hS (i_rng (lo := 0) (hi := 40) (i_add rfl l_1 (by omega) (by omega)) (by omega) (by omega)) (nw_15 _) (i := 1) rfl ⟨by decide, by decide, Or.inl rfl⟩ ?_
        intro mv24 hq25_ gq26_ kq27_
        have hq28_ : (mv24 14 a2.toNatClampNeg).toInt = (M 14 a2.toNatClampNeg).toInt := by rw [hq25_, mu_ne (Or.inl (by decide))]
        have hq29_ : (mv24 15 a2.toNatClampNeg).toInt = (a4.toInt + 1) := by rw [hq25_, mu_at]; exact (i_add rfl l_1 (by omega) (by omega))
        refine T_ql (i_add rfl l_1 (by omega) (by omega)) ?_
        intro xv30 hq31_
        exact ih a2 a3 xv30 mv24 gq26_ kq27_ (i_rng (lo := 0) (hi := 7) rfl (by omega) (by omega)) (i_rng (lo := 0) (hi := 40) rfl (by omega) (by omega)) (by omega)
      · refine T_eq rfl l_8 (fun hq32_ => ?_) (fun hq32_ => ?_)
        · unfold f_X0_doSteps_84
          try simp only [Nat.reduceAdd]
          refine T_qg rfl (by omega) (by omega) ?_
          refine T_le rfl rfl (fun hq33_ => ?_) (fun hq33_ => ?_)
          · refine T_qg rfl (by omega) (by omega) ?_
            have hq34_ := i_full (a3)
            have hq35_ := i_full (M 4 xv12.toNatClampNeg)
            refine T_ql rfl ?_
            intro xv36 hq37_
            refine T_qg rfl (by omega) (by omega) ?_
            have hq39_ := i_full (M 44 6)
            refine T_mu hG hS (rn_44_6 _) (nw_44 _) (i := 4) rfl ⟨by decide, by decide, Or.inr ⟨by decide, by decide⟩⟩ ?_
            intro mv38 hq40_ gq41_ kq42_
            have hq43_ : (mv38 14 a2.toNatClampNeg).toInt = (M 14 a2.toNatClampNeg).toInt := by rw [hq40_, mu_ne (Or.inl (by decide))]
            have hq44_ : (mv38 4 xv12.toNatClampNeg).toInt = (M 4 xv12.toNatClampNeg).toInt := by rw [hq40_, mu_ne (Or.inl (by decide))]
            have hq45_ : (mv38 44 6).toInt = ((M 44 6) + (M 4 xv12.toNatClampNeg)).toInt := by rw [hq40_, mu_at]
            have hq47_ := i_full (mv38 44 4)
            refine T_mu gq41_ kq42_ (rn_44_4 _) (nw_44 _) (i := 4) rfl ⟨by decide, by decide, Or.inr ⟨by decide, by decide⟩⟩ ?_
            intro mv46 hq48_ gq49_ kq50_
            have hq51_ : (mv46 14 a2.toNatClampNeg).toInt = (mv38 14 a2.toNatClampNeg).toInt := by rw [hq48_, mu_ne (Or.inl (by decide))]
            have hq52_ : (mv46 4 xv12.toNatClampNeg).toInt = (mv38 4 xv12.toNatClampNeg).toInt := by rw [hq48_, mu_ne (Or.inl (by decide))]
            have hq53_ : (mv46 44 6).toInt = (mv38 44 6).toInt := by rw [hq48_, mu_ne (Or.inr (by decide))]
            have hq54_ : (mv46 44 4).toInt = ((mv38 44 4) + (1 : Int32)).toInt := by rw [hq48_, mu_at]
            refine T_qc (t_X0_attempt_c7 hn hj a2 xv12 xv14 mv46 gq49_ (i_rng (lo := 0) (hi := 7) rfl (by omega) (by omega)) (i_rng (lo := 0) (hi := 11) rfl (by omega) (by omega)) (i_rng (lo := 0) (hi := 8) rfl (by omega) (by omega))) ?_
            rintro rv55 mv56 ⟨hq57_, gq58_, kq59_⟩
            have kq60_ := Sm.call kq50_ kq59_ rfl
            have hq61_ : (mv56 14 a2.toNatClampNeg).toInt = (mv46 14 a2.toNatClampNeg).toInt := by rw [kq59_ 14 _ (outc rfl)]
            have hq62_ : (mv56 4 xv12.toNatClampNeg).toInt = (mv46 4 xv12.toNatClampNeg).toInt := by rw [kq59_ 4 _ (outc rfl)]
            have hq63_ : (mv56 44 6).toInt = (mv46 44 6).toInt := by rw [kq59_ 44 6 (by decide)]
            have hq64_ : (mv56 44 4).toInt = (mv46 44 4).toInt := by rw [kq59_ 44 4 (by decide)]
            refine T_qc (t_X0_noteOutcome hn (mv46 7 9) a2 xv12 rv55 mv56 gq58_ (i_rng (lo := 0) (hi := 7) rfl (by omega) (by omega)) (i_rng (lo := 0) (hi := 11) rfl (by omega) (by omega)) (i_rng (lo := (-2)) (hi := 1) rfl (by omega) (by omega))) ?_
            rintro rv65 mv66 ⟨hq67_, gq68_, kq69_⟩
            have kq70_ := Sm.call kq60_ kq69_ rfl
            have hq71_ : (mv66 14 a2.toNatClampNeg).toInt = (mv56 14 a2.toNatClampNeg).toInt := by rw [kq69_ 14 _ (outc rfl)]
            have hq72_ : (mv66 4 xv12.toNatClampNeg).toInt = (mv56 4 xv12.toNatClampNeg).toInt := by rw [kq69_ 4 _ (outc rfl)]
            have hq73_ : (mv66 44 6).toInt = (mv56 44 6).toInt := by rw [kq69_ 44 6 (by decide)]
            have hq74_ : (mv66 44 4).toInt = (mv56 44 4).toInt := by rw [kq69_ 44 4 (by decide)]
            unfold f_X0_doSteps_162
            try simp only [Nat.reduceAdd]
            refine T_qg rfl (by omega) (by omega) ?_
            refine T_mu gq68_ kq70_ (i_rng (lo := 0) (hi := 40) (i_add rfl l_1 (by omega) (by omega)) (by omega) (by omega)) (nw_15 _) (i := 1) rfl ⟨by decide, by decide, Or.inl rfl⟩ ?_
            intro mv75 hq76_ gq77_ kq78_
            have hq79_ : (mv75 14 a2.toNatClampNeg).toInt = (mv66 14 a2.toNatClampNeg).toInt := by rw [hq76_, mu_ne (Or.inl (by decide))]
            have hq80_ : (mv75 4 xv12.toNatClampNeg).toInt = (mv66 4 xv12.toNatClampNeg).toInt := by rw [hq76_, mu_ne (Or.inl (by decide))]
            have hq81_ : (mv75 44 6).toInt = (mv66 44 6).toInt := by rw [hq76_, mu_ne (Or.inl (by decide))]
            have hq82_ : (mv75 44 4).toInt = (mv66 44 4).toInt := by rw [hq76_, mu_ne (Or.inl (by decide))]
            have hq83_ : (mv75 15 a2.toNatClampNeg).toInt = (a4.toInt + 1) := by rw [hq76_, mu_at]; exact (i_add rfl l_1 (by omega) (by omega))
            refine T_ql (i_add rfl l_1 (by omega) (by omega)) ?_
            intro xv84 hq85_
            exact ih a2 xv36 xv84 mv75 gq77_ kq78_ (i_rng (lo := 0) (hi := 7) rfl (by omega) (by omega)) (i_rng (lo := 0) (hi := 40) rfl (by omega) (by omega)) (by omega)
          · exact T_ret ⟨(i_rng (lo := 0) (hi := 0) l_0 (by omega) (by omega)), hG, hS⟩
        · refine T_eq rfl rfl (fun hq86_ => ?_) (fun hq86_ => ?_)
          · unfold f_X0_doSteps_162
            try simp only [Nat.reduceAdd]
            refine T_qg rfl (by omega) (by omega) ?_
            refine T_mu hG hS (i_rng (lo := 0) (hi := 40) (i_add rfl l_1 (by omega) (by omega)) (by omega) (by omega)) (nw_15 _) (i := 1) rfl ⟨by decide, by decide, Or.inl rfl⟩ ?_
            intro mv87 hq88_ gq89_ kq90_
            have hq91_ : (mv87 14 a2.toNatClampNeg).toInt = (M 14 a2.toNatClampNeg).toInt := by rw [hq88_, mu_ne (Or.inl (by decide))]
            have hq92_ : (mv87 15 a2.toNatClampNeg).toInt = (a4.toInt + 1) := by rw [hq88_, mu_at]; exact (i_add rfl l_1 (by omega) (by omega))
            refine T_ql (i_add rfl l_1 (by omega) (by omega)) ?_
            intro xv93 hq94_
            exact ih a2 a3 xv93 mv87 gq89_ kq90_ (i_rng (lo := 0) (hi := 7) rfl (by omega) (by omega)) (i_rng (lo := 0) (hi := 40) rfl (by omega) (by omega)) (by omega)
          · refine T_qc (t_X10_knows_c7 hn xv14 M hG ) ?_
            rintro rv95 mv96 ⟨hq97_, hq98_, gq99_, kq100_⟩
            have hq101_ := kq100_.nil
            subst hq101_
            refine T_eq rfl l_0 (fun hq102_ => ?_) (fun hq102_ => ?_)
            · unfold f_X0_doSteps_162
              try simp only [Nat.reduceAdd]
              refine T_qg rfl (by omega) (by omega) ?_
              refine T_mu hG hS (i_rng (lo := 0) (hi := 40) (i_add rfl l_1 (by omega) (by omega)) (by omega) (by omega)) (nw_15 _) (i := 1) rfl ⟨by decide, by decide, Or.inl rfl⟩ ?_
              intro mv103 hq104_ gq105_ kq106_
              have hq107_ : (mv103 14 a2.toNatClampNeg).toInt = (M 14 a2.toNatClampNeg).toInt := by rw [hq104_, mu_ne (Or.inl (by decide))]
              have hq108_ : (mv103 15 a2.toNatClampNeg).toInt = (a4.toInt + 1) := by rw [hq104_, mu_at]; exact (i_add rfl l_1 (by omega) (by omega))
              refine T_ql (i_add rfl l_1 (by omega) (by omega)) ?_
              intro xv109 hq110_
              exact ih a2 a3 xv109 mv103 gq105_ kq106_ (i_rng (lo := 0) (hi := 7) rfl (by omega) (by omega)) (i_rng (lo := 0) (hi := 40) rfl (by omega) (by omega)) (by omega)
            · unfold f_X0_doSteps_84
              try simp only [Nat.reduceAdd]
              refine T_qg rfl (by omega) (by omega) ?_
              refine T_le rfl rfl (fun hq111_ => ?_) (fun hq111_ => ?_)
              · refine T_qg rfl (by omega) (by omega) ?_
                have hq112_ := i_full (a3)
                have hq113_ := i_full (M 4 xv12.toNatClampNeg)
                refine T_ql rfl ?_
                intro xv114 hq115_
                refine T_qg rfl (by omega) (by omega) ?_
                have hq117_ := i_full (M 44 6)
                refine T_mu hG hS (rn_44_6 _) (nw_44 _) (i := 4) rfl ⟨by decide, by decide, Or.inr ⟨by decide, by decide⟩⟩ ?_
                intro mv116 hq118_ gq119_ kq120_
                have hq121_ : (mv116 14 a2.toNatClampNeg).toInt = (M 14 a2.toNatClampNeg).toInt := by rw [hq118_, mu_ne (Or.inl (by decide))]
                have hq122_ : (mv116 4 xv12.toNatClampNeg).toInt = (M 4 xv12.toNatClampNeg).toInt := by rw [hq118_, mu_ne (Or.inl (by decide))]
                have hq123_ : (mv116 44 6).toInt = ((M 44 6) + (M 4 xv12.toNatClampNeg)).toInt := by rw [hq118_, mu_at]
                have hq125_ := i_full (mv116 44 4)
                refine T_mu gq119_ kq120_ (rn_44_4 _) (nw_44 _) (i := 4) rfl ⟨by decide, by decide, Or.inr ⟨by decide, by decide⟩⟩ ?_
                intro mv124 hq126_ gq127_ kq128_
                have hq129_ : (mv124 14 a2.toNatClampNeg).toInt = (mv116 14 a2.toNatClampNeg).toInt := by rw [hq126_, mu_ne (Or.inl (by decide))]
                have hq130_ : (mv124 4 xv12.toNatClampNeg).toInt = (mv116 4 xv12.toNatClampNeg).toInt := by rw [hq126_, mu_ne (Or.inl (by decide))]
                have hq131_ : (mv124 44 6).toInt = (mv116 44 6).toInt := by rw [hq126_, mu_ne (Or.inr (by decide))]
                have hq132_ : (mv124 44 4).toInt = ((mv116 44 4) + (1 : Int32)).toInt := by rw [hq126_, mu_at]
                refine T_qc (t_X0_attempt_c7 hn hj a2 xv12 xv14 mv124 gq127_ (i_rng (lo := 0) (hi := 7) rfl (by omega) (by omega)) (i_rng (lo := 0) (hi := 11) rfl (by omega) (by omega)) (i_rng (lo := 0) (hi := 8) rfl (by omega) (by omega))) ?_
                rintro rv133 mv134 ⟨hq135_, gq136_, kq137_⟩
                have kq138_ := Sm.call kq128_ kq137_ rfl
                have hq139_ : (mv134 14 a2.toNatClampNeg).toInt = (mv124 14 a2.toNatClampNeg).toInt := by rw [kq137_ 14 _ (outc rfl)]
                have hq140_ : (mv134 4 xv12.toNatClampNeg).toInt = (mv124 4 xv12.toNatClampNeg).toInt := by rw [kq137_ 4 _ (outc rfl)]
                have hq141_ : (mv134 44 6).toInt = (mv124 44 6).toInt := by rw [kq137_ 44 6 (by decide)]
                have hq142_ : (mv134 44 4).toInt = (mv124 44 4).toInt := by rw [kq137_ 44 4 (by decide)]
                refine T_qc (t_X0_noteOutcome hn (mv124 7 9) a2 xv12 rv133 mv134 gq136_ (i_rng (lo := 0) (hi := 7) rfl (by omega) (by omega)) (i_rng (lo := 0) (hi := 11) rfl (by omega) (by omega)) (i_rng (lo := (-2)) (hi := 1) rfl (by omega) (by omega))) ?_
                rintro rv143 mv144 ⟨hq145_, gq146_, kq147_⟩
                have kq148_ := Sm.call kq138_ kq147_ rfl
                have hq149_ : (mv144 14 a2.toNatClampNeg).toInt = (mv134 14 a2.toNatClampNeg).toInt := by rw [kq147_ 14 _ (outc rfl)]
                have hq150_ : (mv144 4 xv12.toNatClampNeg).toInt = (mv134 4 xv12.toNatClampNeg).toInt := by rw [kq147_ 4 _ (outc rfl)]
                have hq151_ : (mv144 44 6).toInt = (mv134 44 6).toInt := by rw [kq147_ 44 6 (by decide)]
                have hq152_ : (mv144 44 4).toInt = (mv134 44 4).toInt := by rw [kq147_ 44 4 (by decide)]
                unfold f_X0_doSteps_162
                try simp only [Nat.reduceAdd]
                refine T_qg rfl (by omega) (by omega) ?_
                refine T_mu gq146_ kq148_ (i_rng (lo := 0) (hi := 40) (i_add rfl l_1 (by omega) (by omega)) (by omega) (by omega)) (nw_15 _) (i := 1) rfl ⟨by decide, by decide, Or.inl rfl⟩ ?_
                intro mv153 hq154_ gq155_ kq156_
                have hq157_ : (mv153 14 a2.toNatClampNeg).toInt = (mv144 14 a2.toNatClampNeg).toInt := by rw [hq154_, mu_ne (Or.inl (by decide))]
                have hq158_ : (mv153 4 xv12.toNatClampNeg).toInt = (mv144 4 xv12.toNatClampNeg).toInt := by rw [hq154_, mu_ne (Or.inl (by decide))]
                have hq159_ : (mv153 44 6).toInt = (mv144 44 6).toInt := by rw [hq154_, mu_ne (Or.inl (by decide))]
                have hq160_ : (mv153 44 4).toInt = (mv144 44 4).toInt := by rw [hq154_, mu_ne (Or.inl (by decide))]
                have hq161_ : (mv153 15 a2.toNatClampNeg).toInt = (a4.toInt + 1) := by rw [hq154_, mu_at]; exact (i_add rfl l_1 (by omega) (by omega))
                refine T_ql (i_add rfl l_1 (by omega) (by omega)) ?_
                intro xv162 hq163_
                exact ih a2 xv114 xv162 mv153 gq155_ kq156_ (i_rng (lo := 0) (hi := 7) rfl (by omega) (by omega)) (i_rng (lo := 0) (hi := 40) rfl (by omega) (by omega)) (by omega)
              · exact T_ret ⟨(i_rng (lo := 0) (hi := 0) l_0 (by omega) (by omega)), hG, hS⟩
theorem t_X0_doSteps_c7 {n : Nat} (hn : 200000 ≤ n) {j : Nat} (hj : q_isLaw j) (a2 : Int32) (M : qM) (hG : G M) (pa2 : 0 ≤ a2.toInt ∧ a2.toInt ≤ 7) : qT (f_X0_doSteps n 7 j a2 M) (po_X0_doSteps_c7 a2 M) := by
  have hS : Sm l_X0_doSteps_c7 M M := Sm.rf
  unfold f_X0_doSteps
  try simp only [Nat.reduceAdd]
  refine T_qg rfl (by omega) (by omega) ?_
  have hq164_ := r_15 hG a2.toNatClampNeg
  refine T_ql rfl ?_
  intro xv165 hq166_
  exact (t_X0_doSteps_c7_11 hn hj) n a2 (12 : Int32) xv165 M hG hS (i_rng (lo := 0) (hi := 7) rfl (by omega) (by omega)) (i_rng (lo := 0) (hi := 40) rfl (by omega) (by omega)) (by have e1 : ((12 : Int32)).toInt = _ := l_12; omega)
