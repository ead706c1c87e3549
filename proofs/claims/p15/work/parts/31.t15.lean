abbrev l_X12_triesNow : List Bx := [(78, 79, 0, 288), (96, 98, 0, 0)]
abbrev po_X12_triesNow (a1 a2 a3 : Int32) (M : qM) (v : Int32) (M' : qM) : Prop := ((-2) ≤ v.toInt ∧ v.toInt ≤ 1) ∧ G M' ∧ Sm l_X12_triesNow M M'
theorem t_X12_triesNow {n : Nat} (hn : 200000 ≤ n) (a1 a2 a3 : Int32) (M : qM) (hG : G M) (pa1 : 0 ≤ a1.toInt ∧ a1.toInt ≤ 7) (pa2 : 0 ≤ a2.toInt ∧ a2.toInt ≤ 11) (pa3 : 0 ≤ a3.toInt ∧ a3.toInt ≤ 8) : qT (f_X12_triesNow n a1 a2 a3 M) (po_X12_triesNow a1 a2 a3 M) := by
  have hS : Sm l_X12_triesNow M M := Sm.rf
  unfold f_X12_triesNow
  refine T_qc (t_X12_forgets hn a1 a2 M hG (i_rng (lo := 0) (hi := 7) rfl (by omega) (by omega)) (i_rng (lo := 0) (hi := 11) rfl (by omega) (by omega))) ?_
  rintro rv1 mv2 ⟨hq3_, gq4_, kq5_⟩
  have kq6_ := Sm.call hS kq5_ rfl
  refine T_qc (t_X12_oldOnes hn a1 a2 mv2 gq4_ (i_rng (lo := 0) (hi := 7) rfl (by omega) (by omega)) (i_rng (lo := 0) (hi := 11) rfl (by omega) (by omega))) ?_
  rintro rv7 mv8 ⟨gq9_, kq10_⟩
  have kq11_ := Sm.call kq6_ kq10_ rfl
  refine T_qc (t_X12_voidFor hn a1 a2 a3 mv8 gq9_ (i_rng (lo := 0) (hi := 7) rfl (by omega) (by omega)) (i_rng (lo := 0) (hi := 11) rfl (by omega) (by omega)) (i_rng (lo := 0) (hi := 8) rfl (by omega) (by omega))) ?_
  rintro rv12 mv13 ⟨hq14_, gq15_, kq16_⟩
  have kq17_ := Sm.call kq11_ kq16_ rfl
  refine T_lt rfl rfl (fun hq18_ => ?_) (fun hq18_ => ?_)
  · unfold f_X12_triesNow_27
    refine T_qc (t_X12_hasNeeds hn a1 a2 mv13 gq15_ (i_rng (lo := 0) (hi := 7) rfl (by omega) (by omega)) (i_rng (lo := 0) (hi := 11) rfl (by omega) (by omega))) ?_
    rintro rv19 mv20 ⟨hq21_, gq22_, kq23_⟩
    have hq24_ := kq23_.nil
    subst hq24_
    refine T_qc (t_X12_at hn a1 a2 mv13 gq15_ (i_rng (lo := 0) (hi := 7) rfl (by omega) (by omega)) (i_rng (lo := 0) (hi := 11) rfl (by omega) (by omega))) ?_
    rintro rv25 mv26 ⟨hq27_, hq28_, gq29_, kq30_⟩
    have hq31_ := kq30_.nil
    subst hq31_
    refine T_eq l_0 l_0 (fun hq32_ => ?_) (fun hq32_ => ?_)
    · unfold f_X12_triesNow_84
      refine T_qg (i_add l_0 rfl (by omega) (by omega)) (by omega) (by omega) ?_
      have hq35_ := i_full (mv13 78 (((0 : Int32) + rv25).toNatClampNeg))
      refine T_qc (t_X12_min hn (999 : Int32) ((mv13 78 (((0 : Int32) + rv25).toNatClampNeg)) + (1 : Int32)) mv13 gq15_ (i_rng (lo := (-2147483648)) (hi := 1000000000) l_999 (by omega) (by omega))) ?_
      rintro rv33 mv34 ⟨hq36_, gq37_, kq38_⟩
      have hq39_ := kq38_.nil
      subst hq39_
      refine T_qg (i_add l_0 rfl (by omega) (by omega)) (by omega) (by omega) ?_
      refine T_mu gq15_ kq17_ (ro78 (by decide) (by rw [tnc, (i_add l_0 rfl (by omega) (by omega))]; omega)) (nw_78 _) (i := 0) rfl ⟨by decide, by decide, Or.inr ⟨(show 0 ≤ _ by rw [tnc, (i_add l_0 rfl (by omega) (by omega))]; omega), (show _ < 288 by rw [tnc, (i_add l_0 rfl (by omega) (by omega))]; omega)⟩⟩ ?_
      intro mv40 hq41_ gq42_ kq43_
      have hq44_ : (mv40 78 (((0 : Int32) + rv25).toNatClampNeg)).toInt = rv33.toInt := by rw [hq41_, mu_at]
      refine T_qg (i_add l_96 rfl (by omega) (by omega)) (by omega) (by omega) ?_
      refine T_mu gq42_ kq43_ (ro78 (by decide) (by rw [tnc, (i_add l_96 rfl (by omega) (by omega))]; omega)) (nw_78 _) (i := 0) rfl ⟨by decide, by decide, Or.inr ⟨(show 0 ≤ _ by rw [tnc, (i_add l_96 rfl (by omega) (by omega))]; omega), (show _ < 288 by rw [tnc, (i_add l_96 rfl (by omega) (by omega))]; omega)⟩⟩ ?_
      intro mv45 hq46_ gq47_ kq48_
      have hq49_ : (mv45 78 (((96 : Int32) + rv25).toNatClampNeg)).toInt = (mv40 78 313).toInt := by rw [hq46_, mu_at]
      refine T_eq l_0 l_0 (fun hq50_ => ?_) (fun hq50_ => ?_)
      · exact T_ret ⟨(i_rng (lo := (-2)) (hi := 1) l_0 (by omega) (by omega)), gq47_, kq48_⟩
      · exfalso; omega
    · exfalso; omega
  · unfold f_X12_triesNow_27
    refine T_qc (t_X12_hasNeeds hn a1 a2 mv13 gq15_ (i_rng (lo := 0) (hi := 7) rfl (by omega) (by omega)) (i_rng (lo := 0) (hi := 11) rfl (by omega) (by omega))) ?_
    rintro rv51 mv52 ⟨hq53_, gq54_, kq55_⟩
    have hq56_ := kq55_.nil
    subst hq56_
    refine T_qc (t_X12_at hn a1 a2 mv13 gq15_ (i_rng (lo := 0) (hi := 7) rfl (by omega) (by omega)) (i_rng (lo := 0) (hi := 11) rfl (by omega) (by omega))) ?_
    rintro rv57 mv58 ⟨hq59_, hq60_, gq61_, kq62_⟩
    have hq63_ := kq62_.nil
    subst hq63_
    refine T_eq l_1 l_0 (fun hq64_ => ?_) (fun hq64_ => ?_)
    · exfalso; omega
    · refine T_eq rfl l_0 (fun hq65_ => ?_) (fun hq65_ => ?_)
      · unfold f_X12_triesNow_84
        refine T_qg (i_add l_0 rfl (by omega) (by omega)) (by omega) (by omega) ?_
        have hq68_ := i_full (mv13 78 (((0 : Int32) + rv57).toNatClampNeg))
        refine T_qc (t_X12_min hn (999 : Int32) ((mv13 78 (((0 : Int32) + rv57).toNatClampNeg)) + (1 : Int32)) mv13 gq15_ (i_rng (lo := (-2147483648)) (hi := 1000000000) l_999 (by omega) (by omega))) ?_
        rintro rv66 mv67 ⟨hq69_, gq70_, kq71_⟩
        have hq72_ := kq71_.nil
        subst hq72_
        refine T_qg (i_add l_0 rfl (by omega) (by omega)) (by omega) (by omega) ?_
        refine T_mu gq15_ kq17_ (ro78 (by decide) (by rw [tnc, (i_add l_0 rfl (by omega) (by omega))]; omega)) (nw_78 _) (i := 0) rfl ⟨by decide, by decide, Or.inr ⟨(show 0 ≤ _ by rw [tnc, (i_add l_0 rfl (by omega) (by omega))]; omega), (show _ < 288 by rw [tnc, (i_add l_0 rfl (by omega) (by omega))]; omega)⟩⟩ ?_
        intro mv73 hq74_ gq75_ kq76_
        have hq77_ : (mv73 78 (((0 : Int32) + rv57).toNatClampNeg)).toInt = rv66.toInt := by rw [hq74_, mu_at]
        refine T_qg (i_add l_96 rfl (by omega) (by omega)) (by omega) (by omega) ?_
        refine T_mu gq75_ kq76_ (ro78 (by decide) (by rw [tnc, (i_add l_96 rfl (by omega) (by omega))]; omega)) (nw_78 _) (i := 0) rfl ⟨by decide, by decide, Or.inr ⟨(show 0 ≤ _ by rw [tnc, (i_add l_96 rfl (by omega) (by omega))]; omega), (show _ < 288 by rw [tnc, (i_add l_96 rfl (by omega) (by omega))]; omega)⟩⟩ ?_
        intro mv78 hq79_ gq80_ kq81_
        have hq82_ : (mv78 78 (((96 : Int32) + rv57).toNatClampNeg)).toInt = (mv73 78 313).toInt := by rw [hq79_, mu_at]
        refine T_eq l_1 l_0 (fun hq83_ => ?_) (fun hq83_ => ?_)
        · exfalso; omega
        · refine T_eq rfl l_0 (fun hq84_ => ?_) (fun hq84_ => ?_)
          · exact T_ret ⟨(i_rng (lo := (-2)) (hi := 1) l_m2 (by omega) (by omega)), gq80_, kq81_⟩
          · exfalso; omega
      · refine T_qg (i_add l_192 rfl (by omega) (by omega)) (by omega) (by omega) ?_
        have hq87_ := i_full (mv13 78 (((192 : Int32) + rv57).toNatClampNeg))
        refine T_qc (t_X12_min hn (999 : Int32) ((mv13 78 (((192 : Int32) + rv57).toNatClampNeg)) + (1 : Int32)) mv13 gq15_ (i_rng (lo := (-2147483648)) (hi := 1000000000) l_999 (by omega) (by omega))) ?_
        rintro rv85 mv86 ⟨hq88_, gq89_, kq90_⟩
        have hq91_ := kq90_.nil
        subst hq91_
        refine T_qg (i_add l_192 rfl (by omega) (by omega)) (by omega) (by omega) ?_
        refine T_mu gq15_ kq17_ (ro78 (by decide) (by rw [tnc, (i_add l_192 rfl (by omega) (by omega))]; omega)) (nw_78 _) (i := 0) rfl ⟨by decide, by decide, Or.inr ⟨(show 0 ≤ _ by rw [tnc, (i_add l_192 rfl (by omega) (by omega))]; omega), (show _ < 288 by rw [tnc, (i_add l_192 rfl (by omega) (by omega))]; omega)⟩⟩ ?_
        intro mv92 hq93_ gq94_ kq95_
        have hq96_ : (mv92 78 (((192 : Int32) + rv57).toNatClampNeg)).toInt = rv85.toInt := by rw [hq93_, mu_at]
        unfold f_X12_triesNow_84
        refine T_qg (i_add l_0 rfl (by omega) (by omega)) (by omega) (by omega) ?_
        have hq99_ := i_full (mv92 78 (((0 : Int32) + rv57).toNatClampNeg))
        refine T_qc (t_X12_min hn (999 : Int32) ((mv92 78 (((0 : Int32) + rv57).toNatClampNeg)) + (1 : Int32)) mv92 gq94_ (i_rng (lo := (-2147483648)) (hi := 1000000000) l_999 (by omega) (by omega))) ?_
        rintro rv97 mv98 ⟨hq100_, gq101_, kq102_⟩
        have hq103_ := kq102_.nil
        subst hq103_
        refine T_qg (i_add l_0 rfl (by omega) (by omega)) (by omega) (by omega) ?_
        refine T_mu gq94_ kq95_ (ro78 (by decide) (by rw [tnc, (i_add l_0 rfl (by omega) (by omega))]; omega)) (nw_78 _) (i := 0) rfl ⟨by decide, by decide, Or.inr ⟨(show 0 ≤ _ by rw [tnc, (i_add l_0 rfl (by omega) (by omega))]; omega), (show _ < 288 by rw [tnc, (i_add l_0 rfl (by omega) (by omega))]; omega)⟩⟩ ?_
        intro mv104 hq105_ gq106_ kq107_
        have hq108_ : (mv104 78 (((0 : Int32) + rv57).toNatClampNeg)).toInt = rv97.toInt := by rw [hq105_, mu_at]
        refine T_qg (i_add l_96 rfl (by omega) (by omega)) (by omega) (by omega) ?_
        refine T_mu gq106_ kq107_ (ro78 (by decide) (by rw [tnc, (i_add l_96 rfl (by omega) (by omega))]; omega)) (nw_78 _) (i := 0) rfl ⟨by decide, by decide, Or.inr ⟨(show 0 ≤ _ by rw [tnc, (i_add l_96 rfl (by omega) (by omega))]; omega), (show _ < 288 by rw [tnc, (i_add l_96 rfl (by omega) (by omega))]; omega)⟩⟩ ?_
        intro mv109 hq110_ gq111_ kq112_
        have hq113_ : (mv109 78 (((96 : Int32) + rv57).toNatClampNeg)).toInt = (mv104 78 313).toInt := by rw [hq110_, mu_at]
        refine T_eq l_1 l_0 (fun hq114_ => ?_) (fun hq114_ => ?_)
        · exfalso; omega
        · refine T_eq rfl l_0 (fun hq115_ => ?_) (fun hq115_ => ?_)
          · exfalso; omega
          · exact T_ret ⟨(i_rng (lo := (-2)) (hi := 1) l_1 (by omega) (by omega)), gq111_, kq112_⟩
abbrev l_X12_tries : List Bx := [(78, 79, 0, 288), (96, 98, 0, 0)]
abbrev po_X12_tries (a1 a2 a3 : Int32) (M : qM) (v : Int32) (M' : qM) : Prop := ((-2) ≤ v.toInt ∧ v.toInt ≤ 1) ∧ G M' ∧ Sm l_X12_tries M M'
theorem t_X12_tries {n : Nat} (hn : 200000 ≤ n) (a1 a2 a3 : Int32) (M : qM) (hG : G M) : qT (f_X12_tries n a1 a2 a3 M) (po_X12_tries a1 a2 a3 M) := by
  have hS : Sm l_X12_tries M M := Sm.rf
  unfold f_X12_tries
  refine T_qc (t_X12_isPerson hn a1 M hG ) ?_
  rintro rv1 mv2 ⟨hq3_, hq4_, gq5_, kq6_⟩
  have hq7_ := kq6_.nil
  subst hq7_
  refine T_eq rfl l_0 (fun hq8_ => ?_) (fun hq8_ => ?_)
  · exact T_ret ⟨(i_rng (lo := (-2)) (hi := 1) l_m1 (by omega) (by omega)), hG, hS⟩
  · refine T_qc (t_X12_isKind hn a2 M hG ) ?_
    rintro rv9 mv10 ⟨hq11_, hq12_, gq13_, kq14_⟩
    have hq15_ := kq14_.nil
    subst hq15_
    refine T_eq rfl l_0 (fun hq16_ => ?_) (fun hq16_ => ?_)
    · exact T_ret ⟨(i_rng (lo := (-2)) (hi := 1) l_m1 (by omega) (by omega)), hG, hS⟩
    · refine T_eq rfl l_m1 (fun hq17_ => ?_) (fun hq17_ => ?_)
      · unfold f_X12_tries_36
        refine T_eq rfl l_m1 (fun hq18_ => ?_) (fun hq18_ => ?_)
        · unfold f_X12_tries_50
          refine T_qc (t_X12_triesNow hn a1 a2 (8 : Int32) M hG (i_rng (lo := 0) (hi := 7) rfl (by omega) (by omega)) (i_rng (lo := 0) (hi := 11) rfl (by omega) (by omega)) (i_rng (lo := 0) (hi := 8) l_8 (by omega) (by omega))) ?_
          rintro rv19 mv20 ⟨hq21_, gq22_, kq23_⟩
          have kq24_ := Sm.call hS kq23_ rfl
          exact T_ret ⟨(i_rng (lo := (-2)) (hi := 1) rfl (by omega) (by omega)), gq22_, kq24_⟩
        · exfalso; omega
      · refine T_qc (t_X12_isPerson hn a3 M hG ) ?_
        rintro rv25 mv26 ⟨hq27_, hq28_, gq29_, kq30_⟩
        have hq31_ := kq30_.nil
        subst hq31_
        refine T_eq rfl l_0 (fun hq32_ => ?_) (fun hq32_ => ?_)
        · exact T_ret ⟨(i_rng (lo := (-2)) (hi := 1) l_m1 (by omega) (by omega)), hG, hS⟩
        · refine T_eq rfl rfl (fun hq33_ => ?_) (fun hq33_ => ?_)
          · exact T_ret ⟨(i_rng (lo := (-2)) (hi := 1) l_m1 (by omega) (by omega)), hG, hS⟩
          · unfold f_X12_tries_36
            refine T_eq rfl l_m1 (fun hq34_ => ?_) (fun hq34_ => ?_)
            · exfalso; omega
            · unfold f_X12_tries_50
              refine T_qc (t_X12_triesNow hn a1 a2 a3 M hG (i_rng (lo := 0) (hi := 7) rfl (by omega) (by omega)) (i_rng (lo := 0) (hi := 11) rfl (by omega) (by omega)) (i_rng (lo := 0) (hi := 8) rfl (by omega) (by omega))) ?_
              rintro rv35 mv36 ⟨hq37_, gq38_, kq39_⟩
              have kq40_ := Sm.call hS kq39_ rfl
              exact T_ret ⟨(i_rng (lo := (-2)) (hi := 1) rfl (by omega) (by omega)), gq38_, kq40_⟩
abbrev l_X11_canDeal : List Bx := []
abbrev po_X11_canDeal (a1 a2 a3 : Int32) (M : qM) (v : Int32) (M' : qM) : Prop := (0 ≤ v.toInt ∧ v.toInt ≤ 1) ∧ (v.toInt = 0 ∨ (0 ≤ a1.toInt ∧ a1.toInt ≤ 7 ∧ 0 ≤ a2.toInt ∧ a2.toInt ≤ 11 ∧ 0 ≤ a3.toInt ∧ a3.toInt ≤ 7)) ∧ G M' ∧ Sm l_X11_canDeal M M'
theorem t_X11_canDeal {n : Nat} (hn : 200000 ≤ n) (a1 a2 a3 : Int32) (M : qM) (hG : G M) : qT (f_X11_canDeal n a1 a2 a3 M) (po_X11_canDeal a1 a2 a3 M) := by
  have hS : Sm l_X11_canDeal M M := Sm.rf
  unfold f_X11_canDeal
  refine T_qc (t_X10_knows_c7 hn a1 M hG ) ?_
  rintro rv1 mv2 ⟨hq3_, hq4_, gq5_, kq6_⟩
  have hq7_ := kq6_.nil
  subst hq7_
  refine T_eq rfl l_0 (fun hq8_ => ?_) (fun hq8_ => ?_)
  · exact T_ret ⟨(i_rng (lo := 0) (hi := 1) l_0 (by omega) (by omega)), (by have e9 : ((0 : Int32)).toInt = _ := l_0; omega), hG, hS⟩
  · refine T_qc (t_X2_knows hn a2 M hG ) ?_
    rintro rv9 mv10 ⟨hq11_, hq12_, gq13_, kq14_⟩
    have hq15_ := kq14_.nil
    subst hq15_
    refine T_eq rfl l_0 (fun hq16_ => ?_) (fun hq16_ => ?_)
    · exact T_ret ⟨(i_rng (lo := 0) (hi := 1) l_0 (by omega) (by omega)), (by have e9 : ((0 : Int32)).toInt = _ := l_0; omega), hG, hS⟩
    · refine T_qc (t_X10_knows_c7 hn a3 M hG ) ?_
      rintro rv17 mv18 ⟨hq19_, hq20_, gq21_, kq22_⟩
      have hq23_ := kq22_.nil
      subst hq23_
      refine T_eq rfl l_0 (fun hq24_ => ?_) (fun hq24_ => ?_)
      · exact T_ret ⟨(i_rng (lo := 0) (hi := 1) l_0 (by omega) (by omega)), (by have e9 : ((0 : Int32)).toInt = _ := l_0; omega), hG, hS⟩
      · refine T_eq rfl rfl (fun hq25_ => ?_) (fun hq25_ => ?_)
        · exact T_ret ⟨(i_rng (lo := 0) (hi := 1) l_0 (by omega) (by omega)), (by have e9 : ((0 : Int32)).toInt = _ := l_0; omega), hG, hS⟩
        · exact T_ret ⟨(i_rng (lo := 0) (hi := 1) l_1 (by omega) (by omega)), (by have e9 : ((1 : Int32)).toInt = _ := l_1; omega), hG, hS⟩
abbrev l_X0_price_c7 : List Bx := [(34, 35, 4, 5), (35, 37, 0, 0)]
abbrev po_X0_price_c7 (a2 a3 a4 : Int32) (M : qM) (v : Int32) (M' : qM) : Prop := (0 ≤ v.toInt ∧ v.toInt ≤ 999) ∧ G M' ∧ Sm l_X0_price_c7 M M'
theorem t_X0_price_c7 {n : Nat} (hn : 200000 ≤ n) {j : Nat} (hj : q_isLaw j) (a2 a3 a4 : Int32) (M : qM) (hG : G M) (pa2 : 0 ≤ a2.toInt ∧ a2.toInt ≤ 7) (pa3 : 0 ≤ a3.toInt ∧ a3.toInt ≤ 11) (pa4 : 0 ≤ a4.toInt ∧ a4.toInt ≤ 7) : qT (f_X0_price n 7 j a2 a3 a4 M) (po_X0_price_c7 a2 a3 a4 M) := by
  have hS : Sm l_X0_price_c7 M M := Sm.rf
  unfold f_X0_price
  try simp only [Nat.reduceAdd]
  refine T_qc (t_X0_tellAll_c7 hn a2 a3 a4 M hG (i_rng (lo := 0) (hi := 7) rfl (by omega) (by omega)) (i_rng (lo := 0) (hi := 11) rfl (by omega) (by omega)) (i_rng (lo := 0) (hi := 8) rfl (by omega) (by omega))) ?_
  rintro rv1 mv2 ⟨hq3_, gq4_, kq5_⟩
  have kq6_ := Sm.call hS kq5_ rfl
  refine T_qc (t_X1_amount hn hj (99 : Int32) (999 : Int32) (0 : Int32) mv2 gq4_ (i_rng (lo := 99) (hi := 118) l_99 (by omega) (by omega)) (i_rng (lo := 99) (hi := 999) l_999 (by omega) (by omega)) (i_rng (lo := 0) (hi := 1) l_0 (by omega) (by omega))) ?_
  rintro rv7 mv8 ⟨hq9_, gq10_, kq11_⟩
  have kq12_ := Sm.call kq6_ kq11_ rfl
  exact T_ret ⟨(i_rng (lo := 0) (hi := 999) rfl (by omega) (by omega)), gq10_, kq12_⟩
abbrev l_X0_buyGo_c7 : List Bx := [(8, 11, 0, 0), (34, 35, 4, 5), (35, 37, 0, 0)]
abbrev po_X0_buyGo_c7 (a2 a3 a4 : Int32) (M : qM) (v : Int32) (M' : qM) : Prop := ((-3) ≤ v.toInt ∧ v.toInt ≤ 999) ∧ G M' ∧ Sm l_X0_buyGo_c7 M M'
theorem t_X0_buyGo_c7 {n : Nat} (hn : 200000 ≤ n) {j : Nat} (hj : q_isLaw j) (a2 a3 a4 : Int32) (M : qM) (hG : G M) (pa2 : 0 ≤ a2.toInt ∧ a2.toInt ≤ 7) (pa3 : 0 ≤ a3.toInt ∧ a3.toInt ≤ 11) (pa4 : 0 ≤ a4.toInt ∧ a4.toInt ≤ 7) : qT (f_X0_buyGo n 7 j a2 a3 a4 M) (po_X0_buyGo_c7 a2 a3 a4 M) := by
  have hS : Sm l_X0_buyGo_c7 M M := Sm.rf
  unfold f_X0_buyGo
  try simp only [Nat.reduceAdd]
  refine T_qg (i_add (i_mul rfl l_12 (by omega) (by omega)) rfl (by omega) (by omega)) (by omega) (by omega) ?_
  refine T_eq rfl l_0 (fun hq1_ => ?_) (fun hq1_ => ?_)
  · exact T_ret ⟨(i_rng (lo := (-3)) (hi := 999) l_m3 (by omega) (by omega)), hG, hS⟩
  · refine T_qc (t_X0_price_c7 hn hj a2 a3 a4 M hG (i_rng (lo := 0) (hi := 7) rfl (by omega) (by omega)) (i_rng (lo := 0) (hi := 11) rfl (by omega) (by omega)) (i_rng (lo := 0) (hi := 7) rfl (by omega) (by omega))) ?_
    rintro rv2 mv3 ⟨hq4_, gq5_, kq6_⟩
    have kq7_ := Sm.call hS kq6_ rfl
    have hq8_ : (mv3 9 (((a4 * (12 : Int32)) + a3).toNatClampNeg)).toInt = (M 9 (((a4 * (12 : Int32)) + a3).toNatClampNeg)).toInt := by rw [kq6_ 9 _ (outc rfl)]
    refine T_qg rfl (by omega) (by omega) ?_
    refine T_le rfl rfl (fun hq9_ => ?_) (fun hq9_ => ?_)
    · refine T_qg rfl (by omega) (by omega) ?_
      refine T_qg rfl (by omega) (by omega) ?_
      have hq11_ := i_full (mv3 8 a2.toNatClampNeg)
      refine T_mu gq5_ kq7_ (rn_8 _ _) (nw_8 _) (i := 0) rfl ⟨by decide, by decide, Or.inl rfl⟩ ?_
      intro mv10 hq12_ gq13_ kq14_
      have hq15_ : (mv10 9 (((a4 * (12 : Int32)) + a3).toNatClampNeg)).toInt = (mv3 9 (((a4 * (12 : Int32)) + a3).toNatClampNeg)).toInt := by rw [hq12_, mu_ne (Or.inl (by decide))]
      have hq16_ : (mv10 8 a2.toNatClampNeg).toInt = ((mv3 8 a2.toNatClampNeg).toInt - rv2.toInt) := by rw [hq12_, mu_at]; exact (i_sub rfl rfl (by omega) (by omega))
      refine T_qg rfl (by omega) (by omega) ?_
      refine T_qg rfl (by omega) (by omega) ?_
      have hq18_ := i_full (mv10 8 a4.toNatClampNeg)
      have hq19_ := i_min (a := (99999 : Int32)) (b := (mv10 8 a4.toNatClampNeg) + rv2) l_99999 rfl
      refine T_mu gq13_ kq14_ (rn_8 _ _) (nw_8 _) (i := 0) rfl ⟨by decide, by decide, Or.inl rfl⟩ ?_
      intro mv17 hq20_ gq21_ kq22_
      have hq23_ : (mv17 9 (((a4 * (12 : Int32)) + a3).toNatClampNeg)).toInt = (mv10 9 (((a4 * (12 : Int32)) + a3).toNatClampNeg)).toInt := by rw [hq20_, mu_ne (Or.inl (by decide))]
      have hq24_ : (mv17 8 a4.toNatClampNeg).toInt = (qmin (99999 : Int32) ((mv10 8 a4.toNatClampNeg) + rv2)).toInt := by rw [hq20_, mu_at]
      refine T_ql (i_add (i_mul rfl l_12 (by omega) (by omega)) rfl (by omega) (by omega)) ?_
      intro xv25 hq26_
      refine T_qg rfl (by omega) (by omega) ?_
      refine T_qg rfl (by omega) (by omega) ?_
      have hq28_ := i_full (mv17 9 xv25.toNatClampNeg)
      refine T_mu gq21_ kq22_ (rn_9 _ _) (nw_9 _) (i := 0) rfl ⟨by decide, by decide, Or.inl rfl⟩ ?_
      intro mv27 hq29_ gq30_ kq31_
      have hq32_ : (mv27 8 a4.toNatClampNeg).toInt = (mv17 8 a4.toNatClampNeg).toInt := by rw [hq29_, mu_ne (Or.inl (by decide))]
      have hq33_ : (mv27 9 xv25.toNatClampNeg).toInt = ((mv17 9 xv25.toNatClampNeg) - (1 : Int32)).toInt := by rw [hq29_, mu_at]
      refine T_qc (t_X10_addTry_c7 hn a2 a3 mv27 gq30_ (i_rng (lo := 0) (hi := 7) rfl (by omega) (by omega)) (i_rng (lo := 0) (hi := 11) rfl (by omega) (by omega))) ?_
      rintro rv34 mv35 ⟨hq36_, gq37_, kq38_⟩
      have kq39_ := Sm.call kq31_ kq38_ rfl
      have hq40_ : (mv35 8 a4.toNatClampNeg).toInt = (mv27 8 a4.toNatClampNeg).toInt := by rw [kq38_ 8 _ (outc rfl)]
      exact T_ret ⟨(i_rng (lo := (-3)) (hi := 999) rfl (by omega) (by omega)), gq37_, kq39_⟩
    · exact T_ret ⟨(i_rng (lo := (-3)) (hi := 999) l_m2 (by omega) (by omega)), gq5_, kq7_⟩
abbrev l_X11_buys : List Bx := [(8, 11, 0, 0), (34, 35, 4, 5), (35, 37, 0, 0)]
abbrev po_X11_buys (a1 a2 a3 : Int32) (M : qM) (v : Int32) (M' : qM) : Prop := ((-3) ≤ v.toInt ∧ v.toInt ≤ 999) ∧ G M' ∧ Sm l_X11_buys M M'
theorem t_X11_buys {n : Nat} (hn : 200000 ≤ n) {j : Nat} (hj : q_isLaw j) (a1 a2 a3 : Int32) (M : qM) (hG : G M) : qT (f_X11_buys n j a1 a2 a3 M) (po_X11_buys a1 a2 a3 M) := by
  have hS : Sm l_X11_buys M M := Sm.rf
  unfold f_X11_buys
  refine T_qc (t_X11_canDeal hn a1 a2 a3 M hG ) ?_
  rintro rv1 mv2 ⟨hq3_, hq4_, gq5_, kq6_⟩
  have hq7_ := kq6_.nil
  subst hq7_
  refine T_eq rfl l_0 (fun hq8_ => ?_) (fun hq8_ => ?_)
  · exact T_ret ⟨(i_rng (lo := (-3)) (hi := 999) l_m1 (by omega) (by omega)), hG, hS⟩
  · refine T_qc (t_X0_buyGo_c7 hn hj a1 a2 a3 M hG (i_rng (lo := 0) (hi := 7) rfl (by omega) (by omega)) (i_rng (lo := 0) (hi := 11) rfl (by omega) (by omega)) (i_rng (lo := 0) (hi := 7) rfl (by omega) (by omega))) ?_
    rintro rv9 mv10 ⟨hq11_, gq12_, kq13_⟩
    have kq14_ := Sm.call hS kq13_ rfl
    exact T_ret ⟨(i_rng (lo := (-3)) (hi := 999) rfl (by omega) (by omega)), gq12_, kq14_⟩
abbrev l_X12_costOf : List Bx := [(96, 98, 0, 0)]
abbrev po_X12_costOf (a1 a2 a3 : Int32) (M : qM) (v : Int32) (M' : qM) : Prop := (0 ≤ v.toInt ∧ v.toInt ≤ 999) ∧ G M' ∧ Sm l_X12_costOf M M'
theorem t_X12_costOf {n : Nat} (hn : 200000 ≤ n) (a1 a2 a3 : Int32) (M : qM) (hG : G M) (pa1 : 0 ≤ a1.toInt ∧ a1.toInt ≤ 7) (pa2 : 0 ≤ a2.toInt ∧ a2.toInt ≤ 11) (pa3 : 0 ≤ a3.toInt ∧ a3.toInt ≤ 7) : qT (f_X12_costOf n a1 a2 a3 M) (po_X12_costOf a1 a2 a3 M) := by
  have hS : Sm l_X12_costOf M M := Sm.rf
  unfold f_X12_costOf
  refine T_qc (t_X12_feels hn a1 a2 a3 M hG (i_rng (lo := 0) (hi := 7) rfl (by omega) (by omega)) (i_rng (lo := 0) (hi := 11) rfl (by omega) (by omega)) (i_rng (lo := 0) (hi := 8) rfl (by omega) (by omega))) ?_
  rintro rv1 mv2 ⟨hq3_, gq4_, kq5_⟩
  have kq6_ := Sm.call hS kq5_ rfl
  refine T_qc (t_X12_byLaw hn (99 : Int32) (999 : Int32) (0 : Int32) mv2 gq4_ (i_rng (lo := 99) (hi := 118) l_99 (by omega) (by omega)) (i_rng (lo := 99) (hi := 999) l_999 (by omega) (by omega)) (i_rng (lo := 0) (hi := 1) l_0 (by omega) (by omega))) ?_
  rintro rv7 mv8 ⟨hq9_, gq10_, kq11_⟩
  have kq12_ := Sm.call kq6_ kq11_ rfl
  exact T_ret ⟨(i_rng (lo := 0) (hi := 999) rfl (by omega) (by omega)), gq10_, kq12_⟩
