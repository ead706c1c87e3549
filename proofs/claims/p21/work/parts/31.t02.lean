abbrev l_X6_readTry : List Bx := [(1, 2, 3, 5), (53, 54, 3, 4), (54, 56, 0, 0)]
abbrev po_X6_readTry (M : qM) (v : Int32) (M' : qM) : Prop := (0 ≤ v.toInt ∧ v.toInt ≤ 1) ∧ G M' ∧ Sm l_X6_readTry M M'
theorem t_X6_readTry {n : Nat} (hn : 200000 ≤ n) (M : qM) (hG : G M) : qT (f_X6_readTry n  M) (po_X6_readTry  M) := by
  have hS : Sm l_X6_readTry M M := Sm.rf
  unfold f_X6_readTry
  refine T_ql rfl ?_
  intro xv1 hq2_
  refine T_qc (t_X9_digit hn  M hG ) ?_
  rintro rv3 mv4 ⟨hq5_, hq6_, gq7_, kq8_⟩
  have hq9_ := r_1_2 hG
  have hq10_ := r_2 hG ((M 1 3).toNatClampNeg)
  have hq11_ := kq8_.nil
  subst hq11_
  refine T_eq rfl l_m1 (fun hq12_ => ?_) (fun hq12_ => ?_)
  · refine T_qc (t_X9_fails hn (1 : Int32) xv1 M hG (i_rng (lo := 1) (hi := 6) l_1 (by omega) (by omega))) ?_
    rintro rv13 mv14 ⟨hq15_, gq16_, kq17_⟩
    have kq18_ := Sm.call hS kq17_ rfl
    refine T_qb rfl (by omega) (by omega) ?_
    exact T_ret ⟨(i_rng (lo := 0) (hi := 1) rfl (by omega) (by omega)), gq16_, kq18_⟩
  · have hq20_ := i_full (M 1 3)
    refine T_mu hG hS (rn_1_3 _) (nw_1 _) (i := 0) rfl ⟨by decide, by decide, Or.inr ⟨by decide, by decide⟩⟩ ?_
    intro mv19 hq21_ gq22_ kq23_
    have hq24_ : (mv19 1 3).toInt = ((M 1 3) + (1 : Int32)).toInt := by rw [hq21_, mu_at]
    refine T_qc (t_X9_digit hn  mv19 gq22_ ) ?_
    rintro rv25 mv26 ⟨hq27_, hq28_, gq29_, kq30_⟩
    have hq31_ := r_1_2 gq22_
    have hq32_ := r_2 gq22_ ((mv19 1 3).toNatClampNeg)
    have hq33_ := kq30_.nil
    subst hq33_
    refine T_eq rfl l_m1 (fun hq34_ => ?_) (fun hq34_ => ?_)
    · unfold f_X6_readTry_81
      refine T_lt rfl l_12 (fun hq35_ => ?_) (fun hq35_ => ?_)
      · refine T_qc (t_X9_takes hn (38 : Int32) mv19 gq22_ (i_rng (lo := 38) (hi := 124) l_38 (by omega) (by omega))) ?_
        rintro rv36 mv37 ⟨hq38_, gq39_, kq40_⟩
        have kq41_ := Sm.call kq23_ kq40_ rfl
        refine T_eq rfl l_0 (fun hq42_ => ?_) (fun hq42_ => ?_)
        · unfold f_X6_readTry_169
          refine T_qc (t_X6_addStep hn rv3 (8 : Int32) mv37 gq39_ ) ?_
          rintro rv43 mv44 ⟨hq45_, gq46_, kq47_⟩
          have kq48_ := Sm.call kq41_ kq47_ rfl
          refine T_eq rfl l_0 (fun hq49_ => ?_) (fun hq49_ => ?_)
          · refine T_qc (t_X9_fails hn (6 : Int32) xv1 mv44 gq46_ (i_rng (lo := 1) (hi := 6) l_6 (by omega) (by omega))) ?_
            rintro rv50 mv51 ⟨hq52_, gq53_, kq54_⟩
            have kq55_ := Sm.call kq48_ kq54_ rfl
            refine T_eq rfl l_0 (fun hq56_ => ?_) (fun hq56_ => ?_)
            · exact T_ret ⟨(i_rng (lo := 0) (hi := 1) l_0 (by omega) (by omega)), gq53_, kq55_⟩
            · exfalso; omega
          · exact T_ret ⟨(i_rng (lo := 0) (hi := 1) l_1 (by omega) (by omega)), gq46_, kq48_⟩
        · refine T_qc (t_X9_digit hn  mv37 gq39_ ) ?_
          rintro rv57 mv58 ⟨hq59_, hq60_, gq61_, kq62_⟩
          have hq63_ := r_1_2 gq39_
          have hq64_ := r_2 gq39_ ((mv37 1 3).toNatClampNeg)
          have hq65_ := kq62_.nil
          subst hq65_
          refine T_eq rfl l_m1 (fun hq66_ => ?_) (fun hq66_ => ?_)
          · unfold f_X6_readTry_131
            refine T_eq rfl l_m1 (fun hq67_ => ?_) (fun hq67_ => ?_)
            · unfold f_X6_readTry_145
              refine T_qc (t_X9_fails hn (1 : Int32) (mv37 1 3) mv37 gq39_ (i_rng (lo := 1) (hi := 6) l_1 (by omega) (by omega))) ?_
              rintro rv68 mv69 ⟨hq70_, gq71_, kq72_⟩
              have kq73_ := Sm.call kq41_ kq72_ rfl
              refine T_qb rfl (by omega) (by omega) ?_
              exact T_ret ⟨(i_rng (lo := 0) (hi := 1) rfl (by omega) (by omega)), gq71_, kq73_⟩
            · exfalso; omega
          · refine T_lt rfl l_8 (fun hq74_ => ?_) (fun hq74_ => ?_)
            · have hq76_ := i_full (mv37 1 3)
              refine T_mu gq39_ kq41_ (rn_1_3 _) (nw_1 _) (i := 0) rfl ⟨by decide, by decide, Or.inr ⟨by decide, by decide⟩⟩ ?_
              intro mv75 hq77_ gq78_ kq79_
              have hq80_ : (mv75 1 3).toInt = ((mv37 1 3) + (1 : Int32)).toInt := by rw [hq77_, mu_at]
              unfold f_X6_readTry_169
              refine T_qc (t_X6_addStep hn rv3 rv57 mv75 gq78_ ) ?_
              rintro rv81 mv82 ⟨hq83_, gq84_, kq85_⟩
              have kq86_ := Sm.call kq79_ kq85_ rfl
              have hq87_ : (mv82 1 3).toInt = (mv75 1 3).toInt := by rw [kq85_ 1 3 (by decide)]
              refine T_eq rfl l_0 (fun hq88_ => ?_) (fun hq88_ => ?_)
              · refine T_qc (t_X9_fails hn (6 : Int32) xv1 mv82 gq84_ (i_rng (lo := 1) (hi := 6) l_6 (by omega) (by omega))) ?_
                rintro rv89 mv90 ⟨hq91_, gq92_, kq93_⟩
                have kq94_ := Sm.call kq86_ kq93_ rfl
                have hq95_ : (mv90 1 3).toInt = (mv82 1 3).toInt := by rw [kq93_ 1 3 (by decide)]
                refine T_eq rfl l_0 (fun hq96_ => ?_) (fun hq96_ => ?_)
                · exact T_ret ⟨(i_rng (lo := 0) (hi := 1) l_0 (by omega) (by omega)), gq92_, kq94_⟩
                · exfalso; omega
              · exact T_ret ⟨(i_rng (lo := 0) (hi := 1) l_1 (by omega) (by omega)), gq84_, kq86_⟩
            · unfold f_X6_readTry_131
              refine T_eq rfl l_m1 (fun hq97_ => ?_) (fun hq97_ => ?_)
              · exfalso; omega
              · unfold f_X6_readTry_145
                refine T_qc (t_X9_fails hn (3 : Int32) (mv37 1 3) mv37 gq39_ (i_rng (lo := 1) (hi := 6) l_3 (by omega) (by omega))) ?_
                rintro rv98 mv99 ⟨hq100_, gq101_, kq102_⟩
                have kq103_ := Sm.call kq41_ kq102_ rfl
                refine T_qb rfl (by omega) (by omega) ?_
                exact T_ret ⟨(i_rng (lo := 0) (hi := 1) rfl (by omega) (by omega)), gq101_, kq103_⟩
      · exfalso; omega
    · refine T_qc (t_X9_digit hn  mv19 gq22_ ) ?_
      rintro rv104 mv105 ⟨hq106_, hq107_, gq108_, kq109_⟩
      have hq110_ := kq109_.nil
      subst hq110_
      refine T_ql (i_add (i_mul l_10 rfl (by omega) (by omega)) rfl (by omega) (by omega)) ?_
      intro xv111 hq112_
      have hq114_ := i_full (mv19 1 3)
      refine T_mu gq22_ kq23_ (rn_1_3 _) (nw_1 _) (i := 0) rfl ⟨by decide, by decide, Or.inr ⟨by decide, by decide⟩⟩ ?_
      intro mv113 hq115_ gq116_ kq117_
      have hq118_ : (mv113 1 3).toInt = ((mv19 1 3) + (1 : Int32)).toInt := by rw [hq115_, mu_at]
      unfold f_X6_readTry_81
      refine T_lt rfl l_12 (fun hq119_ => ?_) (fun hq119_ => ?_)
      · refine T_qc (t_X9_takes hn (38 : Int32) mv113 gq116_ (i_rng (lo := 38) (hi := 124) l_38 (by omega) (by omega))) ?_
        rintro rv120 mv121 ⟨hq122_, gq123_, kq124_⟩
        have kq125_ := Sm.call kq117_ kq124_ rfl
        refine T_eq rfl l_0 (fun hq126_ => ?_) (fun hq126_ => ?_)
        · unfold f_X6_readTry_169
          refine T_qc (t_X6_addStep hn xv111 (8 : Int32) mv121 gq123_ ) ?_
          rintro rv127 mv128 ⟨hq129_, gq130_, kq131_⟩
          have kq132_ := Sm.call kq125_ kq131_ rfl
          refine T_eq rfl l_0 (fun hq133_ => ?_) (fun hq133_ => ?_)
          · refine T_qc (t_X9_fails hn (6 : Int32) xv1 mv128 gq130_ (i_rng (lo := 1) (hi := 6) l_6 (by omega) (by omega))) ?_
            rintro rv134 mv135 ⟨hq136_, gq137_, kq138_⟩
            have kq139_ := Sm.call kq132_ kq138_ rfl
            refine T_eq rfl l_0 (fun hq140_ => ?_) (fun hq140_ => ?_)
            · exact T_ret ⟨(i_rng (lo := 0) (hi := 1) l_0 (by omega) (by omega)), gq137_, kq139_⟩
            · exfalso; omega
          · exact T_ret ⟨(i_rng (lo := 0) (hi := 1) l_1 (by omega) (by omega)), gq130_, kq132_⟩
        · refine T_qc (t_X9_digit hn  mv121 gq123_ ) ?_
          rintro rv141 mv142 ⟨hq143_, hq144_, gq145_, kq146_⟩
          have hq147_ := r_1_2 gq123_
          have hq148_ := r_2 gq123_ ((mv121 1 3).toNatClampNeg)
          have hq149_ := kq146_.nil
          subst hq149_
          refine T_eq rfl l_m1 (fun hq150_ => ?_) (fun hq150_ => ?_)
          · unfold f_X6_readTry_131
            refine T_eq rfl l_m1 (fun hq151_ => ?_) (fun hq151_ => ?_)
            · unfold f_X6_readTry_145
              refine T_qc (t_X9_fails hn (1 : Int32) (mv121 1 3) mv121 gq123_ (i_rng (lo := 1) (hi := 6) l_1 (by omega) (by omega))) ?_
              rintro rv152 mv153 ⟨hq154_, gq155_, kq156_⟩
              have kq157_ := Sm.call kq125_ kq156_ rfl
              refine T_qb rfl (by omega) (by omega) ?_
              exact T_ret ⟨(i_rng (lo := 0) (hi := 1) rfl (by omega) (by omega)), gq155_, kq157_⟩
            · exfalso; omega
          · refine T_lt rfl l_8 (fun hq158_ => ?_) (fun hq158_ => ?_)
            · have hq160_ := i_full (mv121 1 3)
              refine T_mu gq123_ kq125_ (rn_1_3 _) (nw_1 _) (i := 0) rfl ⟨by decide, by decide, Or.inr ⟨by decide, by decide⟩⟩ ?_
              intro mv159 hq161_ gq162_ kq163_
              have hq164_ : (mv159 1 3).toInt = ((mv121 1 3) + (1 : Int32)).toInt := by rw [hq161_, mu_at]
              unfold f_X6_readTry_169
              refine T_qc (t_X6_addStep hn xv111 rv141 mv159 gq162_ ) ?_
              rintro rv165 mv166 ⟨hq167_, gq168_, kq169_⟩
              have kq170_ := Sm.call kq163_ kq169_ rfl
              have hq171_ : (mv166 1 3).toInt = (mv159 1 3).toInt := by rw [kq169_ 1 3 (by decide)]
              refine T_eq rfl l_0 (fun hq172_ => ?_) (fun hq172_ => ?_)
              · refine T_qc (t_X9_fails hn (6 : Int32) xv1 mv166 gq168_ (i_rng (lo := 1) (hi := 6) l_6 (by omega) (by omega))) ?_
                rintro rv173 mv174 ⟨hq175_, gq176_, kq177_⟩
                have kq178_ := Sm.call kq170_ kq177_ rfl
                have hq179_ : (mv174 1 3).toInt = (mv166 1 3).toInt := by rw [kq177_ 1 3 (by decide)]
                refine T_eq rfl l_0 (fun hq180_ => ?_) (fun hq180_ => ?_)
                · exact T_ret ⟨(i_rng (lo := 0) (hi := 1) l_0 (by omega) (by omega)), gq176_, kq178_⟩
                · exfalso; omega
              · exact T_ret ⟨(i_rng (lo := 0) (hi := 1) l_1 (by omega) (by omega)), gq168_, kq170_⟩
            · unfold f_X6_readTry_131
              refine T_eq rfl l_m1 (fun hq181_ => ?_) (fun hq181_ => ?_)
              · exfalso; omega
              · unfold f_X6_readTry_145
                refine T_qc (t_X9_fails hn (3 : Int32) (mv121 1 3) mv121 gq123_ (i_rng (lo := 1) (hi := 6) l_3 (by omega) (by omega))) ?_
                rintro rv182 mv183 ⟨hq184_, gq185_, kq186_⟩
                have kq187_ := Sm.call kq125_ kq186_ rfl
                refine T_qb rfl (by omega) (by omega) ?_
                exact T_ret ⟨(i_rng (lo := 0) (hi := 1) rfl (by omega) (by omega)), gq185_, kq187_⟩
      · refine T_qc (t_X9_fails hn (3 : Int32) xv1 mv113 gq116_ (i_rng (lo := 1) (hi := 6) l_3 (by omega) (by omega))) ?_
        rintro rv188 mv189 ⟨hq190_, gq191_, kq192_⟩
        have kq193_ := Sm.call kq117_ kq192_ rfl
        have hq194_ : (mv189 1 3).toInt = (mv113 1 3).toInt := by rw [kq192_ 1 3 (by decide)]
        refine T_qb rfl (by omega) (by omega) ?_
        exact T_ret ⟨(i_rng (lo := 0) (hi := 1) rfl (by omega) (by omega)), gq191_, kq193_⟩
abbrev l_X6_readStep : List Bx := [(1, 2, 3, 5), (53, 54, 3, 4), (54, 56, 0, 0)]
abbrev po_X6_readStep (a1 : Int32) (M : qM) (v : Int32) (M' : qM) : Prop := (0 ≤ v.toInt ∧ v.toInt ≤ 1) ∧ G M' ∧ Sm l_X6_readStep M M'
abbrev l_X6_readSteps : List Bx := [(1, 2, 3, 5), (53, 54, 3, 4), (54, 56, 0, 0)]
abbrev po_X6_readSteps (a1 : Int32) (M : qM) (v : Int32) (M' : qM) : Prop := (0 ≤ v.toInt ∧ v.toInt ≤ 1) ∧ G M' ∧ Sm l_X6_readSteps M M'
theorem to_X6_readStep {n : Nat} (hn : 200000 ≤ n) {B : Nat} {F_X6_readSteps : Int32 → qM → qR} (hF_X6_readSteps : ∀ (a1 : Int32) (M : qM), G M → 0 ≤ a1.toInt ∧ a1.toInt ≤ 3 → 2 * (3 - a1.toInt) + 1 < (B : Int) → qT (F_X6_readSteps a1 M) (po_X6_readSteps a1 M)) (a1 : Int32) (M : qM) (hG : G M) (pa1 : 0 ≤ a1.toInt ∧ a1.toInt ≤ 3) (hb : 2 * (3 - a1.toInt) < (B : Int) + 1) : qT (fo_X6_readStep n F_X6_readSteps a1 M) (po_X6_readStep a1 M) := by
  have hS : Sm l_X6_readStep M M := Sm.rf
  unfold fo_X6_readStep
  refine T_qc (t_X9_sign hn  M hG ) ?_
  rintro rv1 mv2 ⟨hq3_, hq4_, gq5_, kq6_⟩
  have hq7_ := r_1_2 hG
  have hq8_ := r_2 hG ((M 1 3).toNatClampNeg)
  have hq9_ := kq6_.nil
  subst hq9_
  refine T_eq rfl l_40 (fun hq10_ => ?_) (fun hq10_ => ?_)
  · refine T_ql rfl ?_
    intro xv11 hq12_
    have hq13_ := r_53_3 hG
    refine T_ql rfl ?_
    intro xv14 hq15_
    refine T_lt rfl l_3 (fun hq16_ => ?_) (fun hq16_ => ?_)
    · have hq18_ := i_full (M 1 3)
      refine T_mu hG hS (rn_1_3 _) (nw_1 _) (i := 0) rfl ⟨by decide, by decide, Or.inr ⟨by decide, by decide⟩⟩ ?_
      intro mv17 hq19_ gq20_ kq21_
      have hq22_ : (mv17 1 3).toInt = ((M 1 3) + (1 : Int32)).toInt := by rw [hq19_, mu_at]
      refine T_qc (hF_X6_readSteps (a1 + (1 : Int32)) mv17 gq20_ (i_rng (lo := 0) (hi := 3) (i_add rfl l_1 (by omega) (by omega)) (by omega) (by omega)) (by have e0 : (a1 + (1 : Int32)).toInt = _ := (i_add rfl l_1 (by omega) (by omega)); omega)) ?_
      rintro rv23 mv24 ⟨hq25_, gq26_, kq27_⟩
      have kq28_ := Sm.call kq21_ kq27_ rfl
      refine T_eq rfl l_0 (fun hq29_ => ?_) (fun hq29_ => ?_)
      · exact T_ret ⟨(i_rng (lo := 0) (hi := 1) l_0 (by omega) (by omega)), gq26_, kq28_⟩
      · refine T_qc (t_X9_mustTake hn (41 : Int32) mv24 gq26_ (i_rng (lo := 40) (hi := 93) l_41 (by omega) (by omega))) ?_
        rintro rv30 mv31 ⟨hq32_, gq33_, kq34_⟩
        have kq35_ := Sm.call kq28_ kq34_ rfl
        refine T_eq rfl l_0 (fun hq36_ => ?_) (fun hq36_ => ?_)
        · exact T_ret ⟨(i_rng (lo := 0) (hi := 1) l_0 (by omega) (by omega)), gq33_, kq35_⟩
        · refine T_qc (t_X9_digit hn  mv31 gq33_ ) ?_
          rintro rv37 mv38 ⟨hq39_, hq40_, gq41_, kq42_⟩
          have hq43_ := r_1_2 gq33_
          have hq44_ := r_2 gq33_ ((mv31 1 3).toNatClampNeg)
          have hq45_ := kq42_.nil
          subst hq45_
          refine T_le l_2 rfl (fun hq46_ => ?_) (fun hq46_ => ?_)
          · have hq48_ := i_full (mv31 1 3)
            refine T_mu gq33_ kq35_ (rn_1_3 _) (nw_1 _) (i := 0) rfl ⟨by decide, by decide, Or.inr ⟨by decide, by decide⟩⟩ ?_
            intro mv47 hq49_ gq50_ kq51_
            have hq52_ : (mv47 1 3).toInt = ((mv31 1 3) + (1 : Int32)).toInt := by rw [hq49_, mu_at]
            refine T_qc (t_X6_repeatSteps hn xv14 rv37 mv47 gq50_ (i_rng (lo := 0) (hi := 40) rfl (by omega) (by omega)) (i_rng (lo := 2) (hi := 9) rfl (by omega) (by omega))) ?_
            rintro rv53 mv54 ⟨hq55_, gq56_, kq57_⟩
            have kq58_ := Sm.call kq51_ kq57_ rfl
            have hq59_ : (mv54 1 3).toInt = (mv47 1 3).toInt := by rw [kq57_ 1 3 (by decide)]
            refine T_eq rfl l_0 (fun hq60_ => ?_) (fun hq60_ => ?_)
            · refine T_qc (t_X9_fails hn (6 : Int32) xv11 mv54 gq56_ (i_rng (lo := 1) (hi := 6) l_6 (by omega) (by omega))) ?_
              rintro rv61 mv62 ⟨hq63_, gq64_, kq65_⟩
              have kq66_ := Sm.call kq58_ kq65_ rfl
              have hq67_ : (mv62 1 3).toInt = (mv54 1 3).toInt := by rw [kq65_ 1 3 (by decide)]
              refine T_eq rfl l_0 (fun hq68_ => ?_) (fun hq68_ => ?_)
              · exact T_ret ⟨(i_rng (lo := 0) (hi := 1) l_0 (by omega) (by omega)), gq64_, kq66_⟩
              · exfalso; omega
            · exact T_ret ⟨(i_rng (lo := 0) (hi := 1) l_1 (by omega) (by omega)), gq56_, kq58_⟩
          · refine T_qc (t_X9_fails hn (1 : Int32) (mv31 1 3) mv31 gq33_ (i_rng (lo := 1) (hi := 6) l_1 (by omega) (by omega))) ?_
            rintro rv69 mv70 ⟨hq71_, gq72_, kq73_⟩
            have kq74_ := Sm.call kq35_ kq73_ rfl
            refine T_qb rfl (by omega) (by omega) ?_
            exact T_ret ⟨(i_rng (lo := 0) (hi := 1) rfl (by omega) (by omega)), gq72_, kq74_⟩
    · refine T_qc (t_X9_fails hn (5 : Int32) xv11 M hG (i_rng (lo := 1) (hi := 6) l_5 (by omega) (by omega))) ?_
      rintro rv75 mv76 ⟨hq77_, gq78_, kq79_⟩
      have kq80_ := Sm.call hS kq79_ rfl
      refine T_qb rfl (by omega) (by omega) ?_
      exact T_ret ⟨(i_rng (lo := 0) (hi := 1) rfl (by omega) (by omega)), gq78_, kq80_⟩
  · refine T_qc (t_X6_readTry hn  M hG ) ?_
    rintro rv81 mv82 ⟨hq83_, gq84_, kq85_⟩
    have kq86_ := Sm.call hS kq85_ rfl
    refine T_qb rfl (by omega) (by omega) ?_
    exact T_ret ⟨(i_rng (lo := 0) (hi := 1) rfl (by omega) (by omega)), gq84_, kq86_⟩
theorem t_X6_readSteps_8 {n : Nat} (hn : 200000 ≤ n) {B : Nat} {F_X6_readStep : Int32 → qM → qR} (hF_X6_readStep : ∀ (a1 : Int32) (M : qM), G M → 0 ≤ a1.toInt ∧ a1.toInt ≤ 3 → 2 * (3 - a1.toInt) < (B : Int) → qT (F_X6_readStep a1 M) (po_X6_readStep a1 M)) {oa1 : Int32} {M0 : qM} : ∀ (m : Nat) (a1 a2 a3 : Int32) (M : qM), G M → Sm l_X6_readSteps M0 M → 0 ≤ a1.toInt ∧ a1.toInt ≤ 3 → 0 ≤ a2.toInt ∧ a2.toInt ≤ 1 → 0 ≤ a3.toInt ∧ a3.toInt ≤ 80 → 2 * (3 - a1.toInt) + 1 < (B : Int) + 1 → 80 - a3.toInt < (m : Int) → qT (f_X6_readSteps_8 n F_X6_readStep m a1 a2 a3 M) (po_X6_readSteps oa1 M0) := by
  intro m
  induction m with
  | zero =>
    intro a1 a2 a3 M hG hS i0 i1 i2 i3 i4
    exfalso; omega
  | succ m ih =>
    intro a1 a2 a3 M hG hS i0 i1 i2 i3 i4
    show qT (b_X6_readSteps_8 n F_X6_readStep (f_X6_readSteps_8 n F_X6_readStep m) a1 a2 a3 M) _
    unfold b_X6_readSteps_8
    refine T_le l_80 rfl (fun hq2_ => ?_) (fun hq2_ => ?_)
    · refine T_qb rfl (by omega) (by omega) ?_
      exact T_ret ⟨(i_rng (lo := 0) (hi := 1) rfl (by omega) (by omega)), hG, hS⟩
    · refine T_eq rfl l_0 (fun hq3_ => ?_) (fun hq3_ => ?_)
      · refine T_qb rfl (by omega) (by omega) ?_
        exact T_ret ⟨(i_rng (lo := 0) (hi := 1) rfl (by omega) (by omega)), hG, hS⟩
      · refine T_qc (t_X9_takes hn (44 : Int32) M hG (i_rng (lo := 38) (hi := 124) l_44 (by omega) (by omega))) ?_
        rintro rv4 mv5 ⟨hq6_, gq7_, kq8_⟩
        have kq9_ := Sm.call hS kq8_ rfl
        refine T_eq rfl l_0 (fun hq10_ => ?_) (fun hq10_ => ?_)
        · exact T_ret ⟨(i_rng (lo := 0) (hi := 1) l_1 (by omega) (by omega)), gq7_, kq9_⟩
        · refine T_qc (hF_X6_readStep a1 mv5 gq7_ (i_rng (lo := 0) (hi := 3) rfl (by omega) (by omega)) (by omega)) ?_
          rintro rv11 mv12 ⟨hq13_, gq14_, kq15_⟩
          have kq16_ := Sm.call kq9_ kq15_ rfl
          refine T_ql (i_add rfl l_1 (by omega) (by omega)) ?_
          intro xv17 hq18_
          exact ih a1 rv11 xv17 mv12 gq14_ kq16_ (i_rng (lo := 0) (hi := 3) rfl (by omega) (by omega)) (i_rng (lo := 0) (hi := 1) rfl (by omega) (by omega)) (i_rng (lo := 0) (hi := 80) rfl (by omega) (by omega)) (by omega) (by omega)
theorem to_X6_readSteps {n : Nat} (hn : 200000 ≤ n) {B : Nat} {F_X6_readStep : Int32 → qM → qR} (hF_X6_readStep : ∀ (a1 : Int32) (M : qM), G M → 0 ≤ a1.toInt ∧ a1.toInt ≤ 3 → 2 * (3 - a1.toInt) < (B : Int) → qT (F_X6_readStep a1 M) (po_X6_readStep a1 M)) (a1 : Int32) (M : qM) (hG : G M) (pa1 : 0 ≤ a1.toInt ∧ a1.toInt ≤ 3) (hb : 2 * (3 - a1.toInt) + 1 < (B : Int) + 1) : qT (fo_X6_readSteps n F_X6_readStep a1 M) (po_X6_readSteps a1 M) := by
  have hS : Sm l_X6_readSteps M M := Sm.rf
  unfold fo_X6_readSteps
  refine T_qc (hF_X6_readStep a1 M hG (i_rng (lo := 0) (hi := 3) rfl (by omega) (by omega)) (by omega)) ?_
  rintro rv19 mv20 ⟨hq21_, gq22_, kq23_⟩
  have kq24_ := Sm.call hS kq23_ rfl
  exact (t_X6_readSteps_8 hn hF_X6_readStep) n a1 rv19 (0 : Int32) mv20 gq22_ kq24_ (i_rng (lo := 0) (hi := 3) rfl (by omega) (by omega)) (i_rng (lo := 0) (hi := 1) rfl (by omega) (by omega)) (i_rng (lo := 0) (hi := 80) l_0 (by omega) (by omega)) (by omega) (by have e2 : ((0 : Int32)).toInt = _ := l_0; omega)
theorem trc_X6_readStep {n : Nat} (hn : 200000 ≤ n) : ∀ m : Nat, (∀ (a1 : Int32) (M : qM), G M → 0 ≤ a1.toInt ∧ a1.toInt ≤ 3 → 2 * (3 - a1.toInt) < (m : Int) → qT (rc_X6_readStep n m 0 a1 M) (po_X6_readStep a1 M)) ∧ (∀ (a1 : Int32) (M : qM), G M → 0 ≤ a1.toInt ∧ a1.toInt ≤ 3 → 2 * (3 - a1.toInt) + 1 < (m : Int) → qT (rc_X6_readStep n m 1 a1 M) (po_X6_readSteps a1 M)) := by
  intro m
  induction m with
  | zero =>
    exact ⟨(fun a1 M q0 q1 q2 => by exfalso; omega), (fun a1 M q0 q1 q2 => by exfalso; omega)⟩
  | succ m ih =>
    refine ⟨?_, ?_⟩
    · exact fun a1 M q0 q1 q2 => to_X6_readStep hn (B := m) (ih.2) a1 M q0 q1 (by omega)
    · exact fun a1 M q0 q1 q2 => to_X6_readSteps hn (B := m) (ih.1) a1 M q0 q1 (by omega)
theorem t_X6_readStep {n : Nat} (hn : 200000 ≤ n) (a1 : Int32) (M : qM) (hG : G M) (pa1 : 0 ≤ a1.toInt ∧ a1.toInt ≤ 3) : qT (f_X6_readStep n a1 M) (po_X6_readStep a1 M) := by
  unfold f_X6_readStep
  exact (trc_X6_readStep hn 14).1 a1 M hG pa1 (by omega)
theorem t_X6_readSteps {n : Nat} (hn : 200000 ≤ n) (a1 : Int32) (M : qM) (hG : G M) (pa1 : 0 ≤ a1.toInt ∧ a1.toInt ≤ 3) : qT (f_X6_readSteps n a1 M) (po_X6_readSteps a1 M) := by
  unfold f_X6_readSteps
  exact (trc_X6_readStep hn 14).2 a1 M hG pa1 (by omega)
abbrev l_X6_read : List Bx := [(1, 2, 2, 5), (53, 54, 3, 4), (54, 56, 0, 0)]
abbrev po_X6_read (a1 : Int32) (M : qM) (v : Int32) (M' : qM) : Prop := G M' ∧ Sm l_X6_read M M'
theorem t_X6_read {n : Nat} (hn : 200000 ≤ n) (a1 : Int32) (M : qM) (hG : G M) (pa1 : 1 ≤ a1.toInt ∧ a1.toInt ≤ 80) : qT (f_X6_read n a1 M) (po_X6_read a1 M) := by
  have hS : Sm l_X6_read M M := Sm.rf
  unfold f_X6_read
  refine T_qc (t_X9_openText hn a1 M hG (i_rng (lo := 1) (hi := 240) rfl (by omega) (by omega))) ?_
  rintro rv1 mv2 ⟨hq3_, gq4_, kq5_⟩
  have kq6_ := Sm.call hS kq5_ rfl
  refine T_mu gq4_ kq6_ (i_rng (lo := 0) (hi := 40) l_0 (by omega) (by omega)) (nw_53 _) (i := 1) rfl ⟨by decide, by decide, Or.inr ⟨by decide, by decide⟩⟩ ?_
  intro mv7 hq8_ gq9_ kq10_
  have hq11_ : (mv7 53 3).toInt = 0 := by rw [hq8_, mu_at]; exact l_0
  refine T_qc (t_X6_readSteps hn (0 : Int32) mv7 gq9_ (i_rng (lo := 0) (hi := 3) l_0 (by omega) (by omega))) ?_
  rintro rv12 mv13 ⟨hq14_, gq15_, kq16_⟩
  have kq17_ := Sm.call kq10_ kq16_ rfl
  refine T_eq rfl l_0 (fun hq18_ => ?_) (fun hq18_ => ?_)
  · exact T_ret ⟨gq15_, kq17_⟩
  · refine T_qc (t_X9_mustEnd hn  mv13 gq15_ ) ?_
    rintro rv19 mv20 ⟨hq21_, gq22_, kq23_⟩
    have kq24_ := Sm.call kq17_ kq23_ rfl
    refine T_eq rfl l_0 (fun hq25_ => ?_) (fun hq25_ => ?_)
    · exact T_ret ⟨gq22_, kq24_⟩
    · have hq26_ := r_53_3 gq22_
      exact T_ret ⟨gq22_, kq24_⟩
abbrev l_X10_takePlan_c7 : List Bx := [(12, 16, 0, 0)]
abbrev po_X10_takePlan_c7 (a1 : Int32) (M : qM) (v : Int32) (M' : qM) : Prop := (0 ≤ v.toInt ∧ v.toInt ≤ 0) ∧ G M' ∧ Sm l_X10_takePlan_c7 M M'
theorem t_X10_takePlan_c7 {n : Nat} (hn : 200000 ≤ n) (a1 : Int32) (M : qM) (hG : G M) (pa1 : 0 ≤ a1.toInt ∧ a1.toInt ≤ 7) : qT (f_X10_takePlan n 7 a1 M) (po_X10_takePlan_c7 a1 M) := by
  have hS : Sm l_X10_takePlan_c7 M M := Sm.rf
  unfold f_X10_takePlan
  try simp only [Nat.reduceAdd]
  refine T_qcp l_0 (i_mul rfl l_40 (by omega) (by omega)) l_40 (by omega) (by omega) (by omega) (by omega) (by omega) ?_
  refine T_mr hG hS (fun s => rn_12 s _) nw_12 (i := 0) rfl (fun s => ⟨by decide, by decide, Or.inl rfl⟩) ?_
  intro mv1 hq2_ gq3_ kq4_
  refine T_qcp l_0 (i_mul rfl l_40 (by omega) (by omega)) l_40 (by omega) (by omega) (by omega) (by omega) (by omega) ?_
  refine T_mr gq3_ kq4_ (fun s => rn_13 s _) nw_13 (i := 0) rfl (fun s => ⟨by decide, by decide, Or.inl rfl⟩) ?_
  intro mv5 hq6_ gq7_ kq8_
  refine T_qg rfl (by omega) (by omega) ?_
  have hq10_ := r_53_3 gq7_
  refine T_mu gq7_ kq8_ (i_rng (lo := 0) (hi := 40) rfl (by omega) (by omega)) (nw_14 _) (i := 0) rfl ⟨by decide, by decide, Or.inl rfl⟩ ?_
  intro mv9 hq11_ gq12_ kq13_
  have hq14_ : (mv9 14 a1.toNatClampNeg).toInt = (mv5 53 3).toInt := by rw [hq11_, mu_at]
  refine T_qg rfl (by omega) (by omega) ?_
  refine T_mu gq12_ kq13_ (i_rng (lo := 0) (hi := 40) l_0 (by omega) (by omega)) (nw_15 _) (i := 0) rfl ⟨by decide, by decide, Or.inl rfl⟩ ?_
  intro mv15 hq16_ gq17_ kq18_
  have hq19_ : (mv15 14 a1.toNatClampNeg).toInt = (mv9 14 a1.toNatClampNeg).toInt := by rw [hq16_, mu_ne (Or.inl (by decide))]
  have hq20_ : (mv15 15 a1.toNatClampNeg).toInt = 0 := by rw [hq16_, mu_at]; exact l_0
  exact T_ret ⟨(i_rng (lo := 0) (hi := 0) l_0 (by omega) (by omega)), gq17_, kq18_⟩
abbrev l_X11_plan : List Bx := [(1, 2, 1, 5), (12, 16, 0, 0), (53, 54, 3, 4), (54, 56, 0, 0)]
abbrev po_X11_plan (a1 a2 : Int32) (M : qM) (v : Int32) (M' : qM) : Prop := G M' ∧ Sm l_X11_plan M M'
theorem t_X11_plan {n : Nat} (hn : 200000 ≤ n) (a1 a2 : Int32) (M : qM) (hG : G M) : qT (f_X11_plan n a1 a2 M) (po_X11_plan a1 a2 M) := by
  have hS : Sm l_X11_plan M M := Sm.rf
  unfold f_X11_plan
  refine T_qc (t_X10_knows_c7 hn a1 M hG ) ?_
  rintro rv1 mv2 ⟨hq3_, hq4_, gq5_, kq6_⟩
  have hq7_ := kq6_.nil
  subst hq7_
  refine T_eq rfl l_0 (fun hq8_ => ?_) (fun hq8_ => ?_)
  · exact T_ret ⟨hG, hS⟩
  · refine T_lt rfl l_1 (fun hq9_ => ?_) (fun hq9_ => ?_)
    · exact T_ret ⟨hG, hS⟩
    · refine T_lt l_80 rfl (fun hq10_ => ?_) (fun hq10_ => ?_)
      · exact T_ret ⟨hG, hS⟩
      · have hq11_ := r_1_1 hG
        refine T_le rfl rfl (fun hq12_ => ?_) (fun hq12_ => ?_)
        · refine T_qc (t_X6_read hn a2 M hG (i_rng (lo := 1) (hi := 80) rfl (by omega) (by omega))) ?_
          rintro rv13 mv14 ⟨gq15_, kq16_⟩
          have kq17_ := Sm.call hS kq16_ rfl
          have hq18_ : (mv14 1 1).toInt = (M 1 1).toInt := by rw [kq16_ 1 1 (by decide)]
          refine T_qc (t_X9_clear hn  mv14 gq15_ ) ?_
          rintro rv19 mv20 ⟨hq21_, gq22_, kq23_⟩
          have kq24_ := Sm.call kq17_ kq23_ rfl
          refine T_le rfl l_0 (fun hq25_ => ?_) (fun hq25_ => ?_)
          · exact T_ret ⟨gq22_, kq24_⟩
          · refine T_qc (t_X10_takePlan_c7 hn a1 mv20 gq22_ (i_rng (lo := 0) (hi := 7) rfl (by omega) (by omega))) ?_
            rintro rv26 mv27 ⟨hq28_, gq29_, kq30_⟩
            have kq31_ := Sm.call kq24_ kq30_ rfl
            exact T_ret ⟨gq29_, kq31_⟩
        · exact T_ret ⟨hG, hS⟩
abbrev l_X12_isPerson : List Bx := []
abbrev po_X12_isPerson (a1 : Int32) (M : qM) (v : Int32) (M' : qM) : Prop := (0 ≤ v.toInt ∧ v.toInt ≤ 1) ∧ (v.toInt = 0 ∨ (0 ≤ a1.toInt ∧ a1.toInt ≤ 7)) ∧ G M' ∧ Sm l_X12_isPerson M M'
theorem t_X12_isPerson {n : Nat} (hn : 200000 ≤ n) (a1 : Int32) (M : qM) (hG : G M) : qT (f_X12_isPerson n a1 M) (po_X12_isPerson a1 M) := by
  have hS : Sm l_X12_isPerson M M := Sm.rf
  unfold f_X12_isPerson
  refine T_lt rfl l_0 (fun hq1_ => ?_) (fun hq1_ => ?_)
  · exact T_ret ⟨(i_rng (lo := 0) (hi := 1) l_0 (by omega) (by omega)), (by have e9 : ((0 : Int32)).toInt = _ := l_0; omega), hG, hS⟩
  · refine T_le l_8 rfl (fun hq2_ => ?_) (fun hq2_ => ?_)
    · exact T_ret ⟨(i_rng (lo := 0) (hi := 1) l_0 (by omega) (by omega)), (by have e9 : ((0 : Int32)).toInt = _ := l_0; omega), hG, hS⟩
    · refine T_qc (t_X12_has0 hn (M 78 312) a1 M hG (i_rng (lo := 0) (hi := 11) rfl (by omega) (by omega))) ?_
      rintro rv3 mv4 ⟨hq5_, gq6_, kq7_⟩
      have hq8_ := kq7_.nil
      subst hq8_
      refine T_eq rfl l_0 (fun hq9_ => ?_) (fun hq9_ => ?_)
      · exact T_ret ⟨(i_rng (lo := 0) (hi := 1) l_0 (by omega) (by omega)), (by have e9 : ((0 : Int32)).toInt = _ := l_0; omega), hG, hS⟩
      · exact T_ret ⟨(i_rng (lo := 0) (hi := 1) l_1 (by omega) (by omega)), (by have e9 : ((1 : Int32)).toInt = _ := l_1; omega), hG, hS⟩
abbrev l_X12_endsRound : List Bx := [(77, 78, 9, 10), (77, 78, 11, 12), (77, 78, 35, 37), (98, 100, 0, 0)]
abbrev po_X12_endsRound (M : qM) (v : Int32) (M' : qM) : Prop := (0 ≤ v.toInt ∧ v.toInt ≤ 1) ∧ G M' ∧ Sm l_X12_endsRound M M'
theorem t_X12_endsRound {n : Nat} (hn : 200000 ≤ n) (M : qM) (hG : G M) : qT (f_X12_endsRound n  M) (po_X12_endsRound  M) := by
  sorry
abbrev l_X12_readsStep : List Bx := [(77, 78, 9, 10), (77, 78, 11, 13), (77, 78, 35, 37), (98, 102, 0, 0)]
abbrev po_X12_readsStep (M : qM) (v : Int32) (M' : qM) : Prop := (0 ≤ v.toInt ∧ v.toInt ≤ 1) ∧ G M' ∧ Sm l_X12_readsStep M M'
theorem t_X12_readsStep {n : Nat} (hn : 200000 ≤ n) (M : qM) (hG : G M) : qT (f_X12_readsStep n  M) (po_X12_readsStep  M) := by
  sorry
abbrev l_X12_plan : List Bx := [(77, 78, 8, 13), (77, 78, 35, 37), (78, 79, 296, 312), (78, 79, 314, 954), (98, 102, 0, 0)]
abbrev po_X12_plan (a1 a2 : Int32) (M : qM) (v : Int32) (M' : qM) : Prop := G M' ∧ Sm l_X12_plan M M'
theorem t_X12_plan {n : Nat} (hn : 200000 ≤ n) (a1 a2 : Int32) (M : qM) (hG : G M) : qT (f_X12_plan n a1 a2 M) (po_X12_plan a1 a2 M) := by
  sorry
