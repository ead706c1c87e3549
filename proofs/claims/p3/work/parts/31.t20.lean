abbrev l_X11_tried : List Bx := [(25, 26, 8, 10), (26, 34, 0, 0), (34, 35, 4, 5), (35, 37, 0, 0), (44, 45, 2, 10)]
abbrev po_X11_tried (a1 a2 : Int32) (M : qM) (v : Int32) (M' : qM) : Prop := G M' ∧ Sm l_X11_tried M M'
theorem t_X11_tried {n : Nat} (hn : 200000 ≤ n) {j : Nat} (hj : q_isLaw j) (a1 a2 : Int32) (M : qM) (hG : G M) : qT (f_X11_tried n j a1 a2 M) (po_X11_tried a1 a2 M) := by
  have hS : Sm l_X11_tried M M := Sm.rf
  unfold f_X11_tried
  refine T_lt rfl l_10 (fun hq1_ => ?_) (fun hq1_ => ?_)
  · unfold f_X11_tried_24
    unfold f_X11_tried_25
    refine T_lt rfl l_1 (fun hq2_ => ?_) (fun hq2_ => ?_)
    · exact T_ret ⟨hG, hS⟩
    · refine T_lt l_60 rfl (fun hq3_ => ?_) (fun hq3_ => ?_)
      · exact T_ret ⟨hG, hS⟩
      · refine T_eq l_0 l_0 (fun hq4_ => ?_) (fun hq4_ => ?_)
        · refine T_lt rfl l_0 (fun hq5_ => ?_) (fun hq5_ => ?_)
          · exact T_ret ⟨hG, hS⟩
          · refine T_le rfl l_5 (fun hq6_ => ?_) (fun hq6_ => ?_)
            · unfold f_X11_tried_52
              refine T_qc (t_X10_copy_c25_7 hn  M hG ) ?_
              rintro rv7 mv8 ⟨hq9_, gq10_, kq11_⟩
              have kq12_ := Sm.call hS kq11_ rfl
              refine T_qc (t_X0_goDays_c25 hn hj a1 mv8 gq10_ (i_rng (lo := 1) (hi := 60) rfl (by omega) (by omega))) ?_
              rintro rv13 mv14 ⟨hq15_, gq16_, kq17_⟩
              have kq18_ := Sm.call kq12_ kq17_ rfl
              refine T_eq l_0 l_0 (fun hq19_ => ?_) (fun hq19_ => ?_)
              · refine T_qc (t_X0_cameOfDays hn a2 mv14 gq16_ (i_rng (lo := 0) (hi := 5) rfl (by omega) (by omega))) ?_
                rintro rv20 mv21 ⟨gq22_, kq23_⟩
                have hq24_ := kq23_.nil
                subst hq24_
                exact T_ret ⟨gq16_, kq18_⟩
              · exfalso; omega
            · exact T_ret ⟨hG, hS⟩
        · exfalso; omega
  · have hq27_ := i_full (a2)
    have hq28_ := (show (a2 - (10 : Int32)).toInt = _ from (i_sub rfl l_10 (by omega) (by omega)))
    refine T_qc (t_X10_knows_c7 hn (a2 - (10 : Int32)) M hG ) ?_
    rintro rv25 mv26 ⟨hq29_, hq30_, gq31_, kq32_⟩
    have hq33_ := kq32_.nil
    subst hq33_
    refine T_eq rfl l_0 (fun hq34_ => ?_) (fun hq34_ => ?_)
    · unfold f_X11_tried_24
      unfold f_X11_tried_25
      refine T_lt rfl l_1 (fun hq35_ => ?_) (fun hq35_ => ?_)
      · exact T_ret ⟨hG, hS⟩
      · refine T_lt l_60 rfl (fun hq36_ => ?_) (fun hq36_ => ?_)
        · exact T_ret ⟨hG, hS⟩
        · refine T_eq l_0 l_0 (fun hq37_ => ?_) (fun hq37_ => ?_)
          · refine T_lt rfl l_0 (fun hq38_ => ?_) (fun hq38_ => ?_)
            · exfalso; omega
            · refine T_le rfl l_5 (fun hq39_ => ?_) (fun hq39_ => ?_)
              · exfalso; omega
              · exact T_ret ⟨hG, hS⟩
          · exfalso; omega
    · unfold f_X11_tried_25
      refine T_lt rfl l_1 (fun hq40_ => ?_) (fun hq40_ => ?_)
      · exact T_ret ⟨hG, hS⟩
      · refine T_lt l_60 rfl (fun hq41_ => ?_) (fun hq41_ => ?_)
        · exact T_ret ⟨hG, hS⟩
        · refine T_eq l_1 l_0 (fun hq42_ => ?_) (fun hq42_ => ?_)
          · exfalso; omega
          · unfold f_X11_tried_52
            refine T_qc (t_X10_copy_c25_7 hn  M hG ) ?_
            rintro rv43 mv44 ⟨hq45_, gq46_, kq47_⟩
            have kq48_ := Sm.call hS kq47_ rfl
            refine T_qc (t_X0_goDays_c25 hn hj a1 mv44 gq46_ (i_rng (lo := 1) (hi := 60) rfl (by omega) (by omega))) ?_
            rintro rv49 mv50 ⟨hq51_, gq52_, kq53_⟩
            have kq54_ := Sm.call kq48_ kq53_ rfl
            refine T_eq l_1 l_0 (fun hq55_ => ?_) (fun hq55_ => ?_)
            · exfalso; omega
            · refine T_qc (t_X10_stepsLeft_c25 hn (a2 - (10 : Int32)) mv50 gq52_ (i_rng (lo := 0) (hi := 7) (i_sub rfl l_10 (by omega) (by omega)) (by omega) (by omega))) ?_
              rintro rv56 mv57 ⟨hq58_, gq59_, kq60_⟩
              have hq61_ := kq60_.nil
              subst hq61_
              exact T_ret ⟨gq52_, kq54_⟩
abbrev l_X12_copies_c78_79 : List Bx := [(79, 80, 0, 954)]
abbrev po_X12_copies_c78_79 (M : qM) (v : Int32) (M' : qM) : Prop := (0 ≤ v.toInt ∧ v.toInt ≤ 0) ∧ G M' ∧ Sm l_X12_copies_c78_79 M M'
theorem t_X12_copies_c78_79_2 {n : Nat} (hn : 200000 ≤ n) {M0 : qM} : ∀ (m : Nat) (a2 : Int32) (M : qM), G M → Sm l_X12_copies_c78_79 M0 M → 0 ≤ a2.toInt ∧ a2.toInt ≤ 954 → 954 - a2.toInt < (m : Int) → qT (f_X12_copies_2 n 78 79 m a2 M) (po_X12_copies_c78_79  M0) := by
  intro m
  induction m with
  | zero =>
    intro a2 M hG hS i0 i3
    exfalso; omega
  | succ m ih =>
    intro a2 M hG hS i0 i3
    show qT (b_X12_copies_2 n 78 79 (f_X12_copies_2 n 78 79 m) a2 M) _
    unfold b_X12_copies_2
    try simp only [Nat.reduceAdd]
    refine T_le l_954 rfl (fun hq2_ => ?_) (fun hq2_ => ?_)
    · exact T_ret ⟨(i_rng (lo := 0) (hi := 0) l_0 (by omega) (by omega)), hG, hS⟩
    · refine T_qg rfl (by omega) (by omega) ?_
      refine T_qg rfl (by omega) (by omega) ?_
      refine T_mu hG hS (cp78 (by decide) (by decide) hG) (nw_79 _) (i := 0) rfl ⟨by decide, by decide, Or.inr ⟨(show 0 ≤ _ by rw [tnc]; omega), (show _ < 954 by rw [tnc]; omega)⟩⟩ ?_
      intro mv3 hq4_ gq5_ kq6_
      have hq7_ : (mv3 79 a2.toNatClampNeg).toInt = (M 78 a2.toNatClampNeg).toInt := by rw [hq4_, mu_at]
      refine T_ql (i_add rfl l_1 (by omega) (by omega)) ?_
      intro xv8 hq9_
      exact ih xv8 mv3 gq5_ kq6_ (i_rng (lo := 0) (hi := 954) rfl (by omega) (by omega)) (by omega)
theorem t_X12_copies_c78_79 {n : Nat} (hn : 200000 ≤ n) (M : qM) (hG : G M) : qT (f_X12_copies n 78 79  M) (po_X12_copies_c78_79  M) := by
  have hS : Sm l_X12_copies_c78_79 M M := Sm.rf
  unfold f_X12_copies
  try simp only [Nat.reduceAdd]
  exact (t_X12_copies_c78_79_2 hn) n (0 : Int32) M hG hS (i_rng (lo := 0) (hi := 954) l_0 (by omega) (by omega)) (by have e0 : ((0 : Int32)).toInt = _ := l_0; omega)
abbrev l_X12_copies_c79_78 : List Bx := [(78, 79, 0, 954)]
abbrev po_X12_copies_c79_78 (M : qM) (v : Int32) (M' : qM) : Prop := (0 ≤ v.toInt ∧ v.toInt ≤ 0) ∧ G M' ∧ Sm l_X12_copies_c79_78 M M'
theorem t_X12_copies_c79_78_2 {n : Nat} (hn : 200000 ≤ n) {M0 : qM} : ∀ (m : Nat) (a2 : Int32) (M : qM), G M → Sm l_X12_copies_c79_78 M0 M → 0 ≤ a2.toInt ∧ a2.toInt ≤ 954 → 954 - a2.toInt < (m : Int) → qT (f_X12_copies_2 n 79 78 m a2 M) (po_X12_copies_c79_78  M0) := by
  intro m
  induction m with
  | zero =>
    intro a2 M hG hS i0 i3
    exfalso; omega
  | succ m ih =>
    intro a2 M hG hS i0 i3
    show qT (b_X12_copies_2 n 79 78 (f_X12_copies_2 n 79 78 m) a2 M) _
    unfold b_X12_copies_2
    try simp only [Nat.reduceAdd]
    refine T_le l_954 rfl (fun hq2_ => ?_) (fun hq2_ => ?_)
    · exact T_ret ⟨(i_rng (lo := 0) (hi := 0) l_0 (by omega) (by omega)), hG, hS⟩
    · refine T_qg rfl (by omega) (by omega) ?_
      refine T_qg rfl (by omega) (by omega) ?_
      refine T_mu hG hS (cp78 (by decide) (by decide) hG) (nw_78 _) (i := 0) rfl ⟨by decide, by decide, Or.inr ⟨(show 0 ≤ _ by rw [tnc]; omega), (show _ < 954 by rw [tnc]; omega)⟩⟩ ?_
      intro mv3 hq4_ gq5_ kq6_
      have hq7_ : (mv3 78 a2.toNatClampNeg).toInt = (M 79 a2.toNatClampNeg).toInt := by rw [hq4_, mu_at]
      refine T_ql (i_add rfl l_1 (by omega) (by omega)) ?_
      intro xv8 hq9_
      exact ih xv8 mv3 gq5_ kq6_ (i_rng (lo := 0) (hi := 954) rfl (by omega) (by omega)) (by omega)
theorem t_X12_copies_c79_78 {n : Nat} (hn : 200000 ≤ n) (M : qM) (hG : G M) : qT (f_X12_copies n 79 78  M) (po_X12_copies_c79_78  M) := by
  have hS : Sm l_X12_copies_c79_78 M M := Sm.rf
  unfold f_X12_copies
  try simp only [Nat.reduceAdd]
  exact (t_X12_copies_c79_78_2 hn) n (0 : Int32) M hG hS (i_rng (lo := 0) (hi := 954) l_0 (by omega) (by omega)) (by have e0 : ((0 : Int32)).toInt = _ := l_0; omega)
abbrev l_X12_tried : List Bx := [(77, 78, 37, 43), (78, 79, 0, 954), (79, 80, 0, 954), (96, 98, 0, 0)]
abbrev po_X12_tried (a1 a2 : Int32) (M : qM) (v : Int32) (M' : qM) : Prop := G M' ∧ Sm l_X12_tried M M'
theorem t_X12_tried {n : Nat} (hn : 200000 ≤ n) (a1 a2 : Int32) (M : qM) (hG : G M) : qT (f_X12_tried n a1 a2 M) (po_X12_tried a1 a2 M) := by
  have hS : Sm l_X12_tried M M := Sm.rf
  unfold f_X12_tried
  have hq3_ := (show ((1 : Int32)).toInt = _ from l_1)
  have hq4_ := (show ((60 : Int32)).toInt = _ from l_60)
  refine T_qc (t_X12_in hn a1 (1 : Int32) (60 : Int32) M hG (i_rng (lo := 0) (hi := 70) l_1 (by omega) (by omega)) (i_rng (lo := 0) (hi := 99999) l_60 (by omega) (by omega))) ?_
  rintro rv1 mv2 ⟨hq5_, hq6_, gq7_, kq8_⟩
  have hq9_ := kq8_.nil
  subst hq9_
  refine T_eq rfl l_0 (fun hq10_ => ?_) (fun hq10_ => ?_)
  · exact T_ret ⟨hG, hS⟩
  · have hq13_ := (show ((0 : Int32)).toInt = _ from l_0)
    have hq14_ := (show ((5 : Int32)).toInt = _ from l_5)
    refine T_qc (t_X12_in hn a2 (0 : Int32) (5 : Int32) M hG (i_rng (lo := 0) (hi := 70) l_0 (by omega) (by omega)) (i_rng (lo := 0) (hi := 99999) l_5 (by omega) (by omega))) ?_
    rintro rv11 mv12 ⟨hq15_, hq16_, gq17_, kq18_⟩
    have hq19_ := kq18_.nil
    subst hq19_
    refine T_eq rfl l_0 (fun hq20_ => ?_) (fun hq20_ => ?_)
    · have hq23_ := (show ((10 : Int32)).toInt = _ from l_10)
      have hq24_ := (show ((17 : Int32)).toInt = _ from l_17)
      refine T_qc (t_X12_in hn a2 (10 : Int32) (17 : Int32) M hG (i_rng (lo := 0) (hi := 70) l_10 (by omega) (by omega)) (i_rng (lo := 0) (hi := 99999) l_17 (by omega) (by omega))) ?_
      rintro rv21 mv22 ⟨hq25_, hq26_, gq27_, kq28_⟩
      have hq29_ := kq28_.nil
      subst hq29_
      refine T_eq rfl l_0 (fun hq30_ => ?_) (fun hq30_ => ?_)
      · exact T_ret ⟨hG, hS⟩
      · have hq33_ := (show (a2 - (10 : Int32)).toInt = _ from (i_sub rfl l_10 (by omega) (by omega)))
        refine T_qc (t_X12_isPerson hn (a2 - (10 : Int32)) M hG ) ?_
        rintro rv31 mv32 ⟨hq34_, hq35_, gq36_, kq37_⟩
        have hq38_ := kq37_.nil
        subst hq38_
        refine T_eq rfl l_0 (fun hq39_ => ?_) (fun hq39_ => ?_)
        · exact T_ret ⟨hG, hS⟩
        · unfold f_X12_tried_43
          refine T_qc (t_X12_copies_c78_79 hn  M hG ) ?_
          rintro rv40 mv41 ⟨hq42_, gq43_, kq44_⟩
          have kq45_ := Sm.call hS kq44_ rfl
          refine T_qc (t_X12_daysGo hn a1 mv41 gq43_ (i_rng (lo := 1) (hi := 60) rfl (by omega) (by omega))) ?_
          rintro rv46 mv47 ⟨hq48_, gq49_, kq50_⟩
          have kq51_ := Sm.call kq45_ kq50_ rfl
          refine T_sw rfl l_0 (fun hq52_ => ?_) (fun hq52_ => ?_)
          · exfalso; omega
          refine T_sw rfl l_1 (fun hq53_ => ?_) (fun hq53_ => ?_)
          · exfalso; omega
          refine T_sw rfl l_2 (fun hq54_ => ?_) (fun hq54_ => ?_)
          · exfalso; omega
          refine T_sw rfl l_3 (fun hq55_ => ?_) (fun hq55_ => ?_)
          · exfalso; omega
          refine T_sw rfl l_4 (fun hq56_ => ?_) (fun hq56_ => ?_)
          · exfalso; omega
          refine T_sw rfl l_5 (fun hq57_ => ?_) (fun hq57_ => ?_)
          · exfalso; omega
          refine T_sw0 ?_
          refine T_qg (i_sub (i_add l_296 rfl (by omega) (by omega)) l_10 (by omega) (by omega)) (by omega) (by omega) ?_
          refine T_qg (i_sub (i_add l_304 rfl (by omega) (by omega)) l_10 (by omega) (by omega)) (by omega) (by omega) ?_
          have hq58_ := r78 (c := 78) (s := ((((296 : Int32) + a2) - (10 : Int32)).toNatClampNeg)) gq49_ (by decide) (by rw [tnc, (i_sub (i_add l_296 rfl (by omega) (by omega)) l_10 (by omega) (by omega))]; omega) (by rw [tnc, (i_sub (i_add l_296 rfl (by omega) (by omega)) l_10 (by omega) (by omega))]; omega)
          have hq59_ := r78 (c := 78) (s := ((((304 : Int32) + a2) - (10 : Int32)).toNatClampNeg)) gq49_ (by decide) (by rw [tnc, (i_sub (i_add l_304 rfl (by omega) (by omega)) l_10 (by omega) (by omega))]; omega) (by rw [tnc, (i_sub (i_add l_304 rfl (by omega) (by omega)) l_10 (by omega) (by omega))]; omega)
          refine T_ql (i_sub rfl rfl (by omega) (by omega)) ?_
          intro xv60 hq61_
          unfold f_X12_tried_176
          refine T_qc (t_X12_copies_c79_78 hn  mv47 gq49_ ) ?_
          rintro rv62 mv63 ⟨hq64_, gq65_, kq66_⟩
          have kq67_ := Sm.call kq51_ kq66_ rfl
          exact T_ret ⟨gq65_, kq67_⟩
    · unfold f_X12_tried_43
      refine T_qc (t_X12_copies_c78_79 hn  M hG ) ?_
      rintro rv68 mv69 ⟨hq70_, gq71_, kq72_⟩
      have kq73_ := Sm.call hS kq72_ rfl
      refine T_qc (t_X12_daysGo hn a1 mv69 gq71_ (i_rng (lo := 1) (hi := 60) rfl (by omega) (by omega))) ?_
      rintro rv74 mv75 ⟨hq76_, gq77_, kq78_⟩
      have kq79_ := Sm.call kq73_ kq78_ rfl
      refine T_sw rfl l_0 (fun hq80_ => ?_) (fun hq80_ => ?_)
      · refine T_ql rfl ?_
        intro xv81 hq82_
        unfold f_X12_tried_176
        refine T_qc (t_X12_copies_c79_78 hn  mv75 gq77_ ) ?_
        rintro rv83 mv84 ⟨hq85_, gq86_, kq87_⟩
        have kq88_ := Sm.call kq79_ kq87_ rfl
        exact T_ret ⟨gq86_, kq88_⟩
      refine T_sw rfl l_1 (fun hq89_ => ?_) (fun hq89_ => ?_)
      · refine T_ql rfl ?_
        intro xv90 hq91_
        unfold f_X12_tried_176
        refine T_qc (t_X12_copies_c79_78 hn  mv75 gq77_ ) ?_
        rintro rv92 mv93 ⟨hq94_, gq95_, kq96_⟩
        have kq97_ := Sm.call kq79_ kq96_ rfl
        exact T_ret ⟨gq95_, kq97_⟩
      refine T_sw rfl l_2 (fun hq98_ => ?_) (fun hq98_ => ?_)
      · refine T_ql rfl ?_
        intro xv99 hq100_
        unfold f_X12_tried_176
        refine T_qc (t_X12_copies_c79_78 hn  mv75 gq77_ ) ?_
        rintro rv101 mv102 ⟨hq103_, gq104_, kq105_⟩
        have kq106_ := Sm.call kq79_ kq105_ rfl
        exact T_ret ⟨gq104_, kq106_⟩
      refine T_sw rfl l_3 (fun hq107_ => ?_) (fun hq107_ => ?_)
      · refine T_ql rfl ?_
        intro xv108 hq109_
        unfold f_X12_tried_176
        refine T_qc (t_X12_copies_c79_78 hn  mv75 gq77_ ) ?_
        rintro rv110 mv111 ⟨hq112_, gq113_, kq114_⟩
        have kq115_ := Sm.call kq79_ kq114_ rfl
        exact T_ret ⟨gq113_, kq115_⟩
      refine T_sw rfl l_4 (fun hq116_ => ?_) (fun hq116_ => ?_)
      · refine T_ql rfl ?_
        intro xv117 hq118_
        unfold f_X12_tried_176
        refine T_qc (t_X12_copies_c79_78 hn  mv75 gq77_ ) ?_
        rintro rv119 mv120 ⟨hq121_, gq122_, kq123_⟩
        have kq124_ := Sm.call kq79_ kq123_ rfl
        exact T_ret ⟨gq122_, kq124_⟩
      refine T_sw rfl l_5 (fun hq125_ => ?_) (fun hq125_ => ?_)
      · refine T_ql rfl ?_
        intro xv126 hq127_
        unfold f_X12_tried_176
        refine T_qc (t_X12_copies_c79_78 hn  mv75 gq77_ ) ?_
        rintro rv128 mv129 ⟨hq130_, gq131_, kq132_⟩
        have kq133_ := Sm.call kq79_ kq132_ rfl
        exact T_ret ⟨gq131_, kq133_⟩
      exfalso; omega
abbrev l_X11_has : List Bx := [(25, 26, 8, 10), (26, 34, 0, 0), (34, 35, 4, 5), (35, 37, 0, 0), (44, 45, 2, 4)]
abbrev po_X11_has (a1 a2 a3 : Int32) (M : qM) (v : Int32) (M' : qM) : Prop := G M' ∧ Sm l_X11_has M M'
theorem t_X11_has {n : Nat} (hn : 200000 ≤ n) {j : Nat} (hj : q_isLaw j) (a1 a2 a3 : Int32) (M : qM) (hG : G M) : qT (f_X11_has n j a1 a2 a3 M) (po_X11_has a1 a2 a3 M) := by
  have hS : Sm l_X11_has M M := Sm.rf
  unfold f_X11_has
  refine T_qc (t_X10_knows_c7 hn a1 M hG ) ?_
  rintro rv1 mv2 ⟨hq3_, hq4_, gq5_, kq6_⟩
  have hq7_ := kq6_.nil
  subst hq7_
  refine T_eq rfl l_0 (fun hq8_ => ?_) (fun hq8_ => ?_)
  · exact T_ret ⟨hG, hS⟩
  · refine T_qc (t_X2_knows hn a2 M hG ) ?_
    rintro rv9 mv10 ⟨hq11_, hq12_, gq13_, kq14_⟩
    have hq15_ := kq14_.nil
    subst hq15_
    refine T_eq rfl l_0 (fun hq16_ => ?_) (fun hq16_ => ?_)
    · exact T_ret ⟨hG, hS⟩
    · refine T_lt rfl l_0 (fun hq17_ => ?_) (fun hq17_ => ?_)
      · exact T_ret ⟨hG, hS⟩
      · refine T_le rfl l_5 (fun hq18_ => ?_) (fun hq18_ => ?_)
        · refine T_ql (i_add (i_mul rfl l_12 (by omega) (by omega)) rfl (by omega) (by omega)) ?_
          intro xv19 hq20_
          refine T_eq rfl l_0 (fun hq21_ => ?_) (fun hq21_ => ?_)
          · refine T_qg rfl (by omega) (by omega) ?_
            exact T_ret ⟨hG, hS⟩
          · refine T_eq rfl l_1 (fun hq22_ => ?_) (fun hq22_ => ?_)
            · refine T_qg rfl (by omega) (by omega) ?_
              exact T_ret ⟨hG, hS⟩
            · refine T_eq rfl l_2 (fun hq23_ => ?_) (fun hq23_ => ?_)
              · refine T_qg rfl (by omega) (by omega) ?_
                refine T_le rfl l_0 (fun hq24_ => ?_) (fun hq24_ => ?_)
                · exact T_ret ⟨hG, hS⟩
                · refine T_qg rfl (by omega) (by omega) ?_
                  exact T_ret ⟨hG, hS⟩
              · refine T_qc (t_X10_copy_c25_7 hn  M hG ) ?_
                rintro rv25 mv26 ⟨hq27_, gq28_, kq29_⟩
                have kq30_ := Sm.call hS kq29_ rfl
                refine T_qc (t_X0_attempt_c25 hn hj a1 a2 (8 : Int32) mv26 gq28_ (i_rng (lo := 0) (hi := 7) rfl (by omega) (by omega)) (i_rng (lo := 0) (hi := 11) rfl (by omega) (by omega)) (i_rng (lo := 0) (hi := 8) l_8 (by omega) (by omega))) ?_
                rintro rv31 mv32 ⟨hq33_, gq34_, kq35_⟩
                have kq36_ := Sm.call kq30_ kq35_ rfl
                refine T_eq rfl l_3 (fun hq37_ => ?_) (fun hq37_ => ?_)
                · exact T_ret ⟨gq34_, kq36_⟩
                · refine T_eq rfl l_4 (fun hq38_ => ?_) (fun hq38_ => ?_)
                  · exact T_ret ⟨gq34_, kq36_⟩
                  · refine T_eq rfl l_1 (fun hq39_ => ?_) (fun hq39_ => ?_)
                    · exact T_ret ⟨gq34_, kq36_⟩
                    · exact T_ret ⟨gq34_, kq36_⟩
        · exact T_ret ⟨hG, hS⟩
abbrev l_X12_has : List Bx := [(78, 79, 0, 954), (79, 80, 0, 954), (96, 98, 0, 0)]
abbrev po_X12_has (a1 a2 a3 : Int32) (M : qM) (v : Int32) (M' : qM) : Prop := G M' ∧ Sm l_X12_has M M'
theorem t_X12_has {n : Nat} (hn : 200000 ≤ n) (a1 a2 a3 : Int32) (M : qM) (hG : G M) : qT (f_X12_has n a1 a2 a3 M) (po_X12_has a1 a2 a3 M) := by
  have hS : Sm l_X12_has M M := Sm.rf
  unfold f_X12_has
  refine T_qc (t_X12_isPerson hn a1 M hG ) ?_
  rintro rv1 mv2 ⟨hq3_, hq4_, gq5_, kq6_⟩
  have hq7_ := kq6_.nil
  subst hq7_
  refine T_eq rfl l_0 (fun hq8_ => ?_) (fun hq8_ => ?_)
  · exact T_ret ⟨hG, hS⟩
  · refine T_qc (t_X12_isKind hn a2 M hG ) ?_
    rintro rv9 mv10 ⟨hq11_, hq12_, gq13_, kq14_⟩
    have hq15_ := kq14_.nil
    subst hq15_
    refine T_eq rfl l_0 (fun hq16_ => ?_) (fun hq16_ => ?_)
    · exact T_ret ⟨hG, hS⟩
    · have hq19_ := (show ((0 : Int32)).toInt = _ from l_0)
      have hq20_ := (show ((5 : Int32)).toInt = _ from l_5)
      refine T_qc (t_X12_in hn a3 (0 : Int32) (5 : Int32) M hG (i_rng (lo := 0) (hi := 70) l_0 (by omega) (by omega)) (i_rng (lo := 0) (hi := 99999) l_5 (by omega) (by omega))) ?_
      rintro rv17 mv18 ⟨hq21_, hq22_, gq23_, kq24_⟩
      have hq25_ := kq24_.nil
      subst hq25_
      refine T_eq rfl l_0 (fun hq26_ => ?_) (fun hq26_ => ?_)
      · exact T_ret ⟨hG, hS⟩
      · refine T_qc (t_X12_at hn a1 a2 M hG (i_rng (lo := 0) (hi := 7) rfl (by omega) (by omega)) (i_rng (lo := 0) (hi := 11) rfl (by omega) (by omega))) ?_
        rintro rv27 mv28 ⟨hq29_, hq30_, gq31_, kq32_⟩
        have hq33_ := kq32_.nil
        subst hq33_
        refine T_eq rfl l_0 (fun hq34_ => ?_) (fun hq34_ => ?_)
        · refine T_qg (i_add l_0 rfl (by omega) (by omega)) (by omega) (by omega) ?_
          exact T_ret ⟨hG, hS⟩
        · refine T_eq rfl l_1 (fun hq35_ => ?_) (fun hq35_ => ?_)
          · refine T_qg (i_add l_192 rfl (by omega) (by omega)) (by omega) (by omega) ?_
            exact T_ret ⟨hG, hS⟩
          · refine T_eq rfl l_2 (fun hq36_ => ?_) (fun hq36_ => ?_)
            · refine T_qg (i_add l_96 rfl (by omega) (by omega)) (by omega) (by omega) ?_
              exact T_ret ⟨hG, hS⟩
            · refine T_qc (t_X12_copies_c78_79 hn  M hG ) ?_
              rintro rv37 mv38 ⟨hq39_, gq40_, kq41_⟩
              have kq42_ := Sm.call hS kq41_ rfl
              refine T_qc (t_X12_forgets hn a1 a2 mv38 gq40_ (i_rng (lo := 0) (hi := 7) rfl (by omega) (by omega)) (i_rng (lo := 0) (hi := 11) rfl (by omega) (by omega))) ?_
              rintro rv43 mv44 ⟨hq45_, gq46_, kq47_⟩
              have kq48_ := Sm.call kq42_ kq47_ rfl
              refine T_qc (t_X12_oldOnes hn a1 a2 mv44 gq46_ (i_rng (lo := 0) (hi := 7) rfl (by omega) (by omega)) (i_rng (lo := 0) (hi := 11) rfl (by omega) (by omega))) ?_
              rintro rv49 mv50 ⟨gq51_, kq52_⟩
              have kq53_ := Sm.call kq48_ kq52_ rfl
              refine T_qc (t_X12_voidFor hn a1 a2 (8 : Int32) mv50 gq51_ (i_rng (lo := 0) (hi := 7) rfl (by omega) (by omega)) (i_rng (lo := 0) (hi := 11) rfl (by omega) (by omega)) (i_rng (lo := 0) (hi := 8) l_8 (by omega) (by omega))) ?_
              rintro rv54 mv55 ⟨hq56_, gq57_, kq58_⟩
              have kq59_ := Sm.call kq53_ kq58_ rfl
              refine T_lt rfl rfl (fun hq60_ => ?_) (fun hq60_ => ?_)
              · unfold f_X12_has_136
                unfold f_X12_has_137
                refine T_qc (t_X12_copies_c79_78 hn  mv55 gq57_ ) ?_
                rintro rv61 mv62 ⟨hq63_, gq64_, kq65_⟩
                have kq66_ := Sm.call kq59_ kq65_ rfl
                refine T_eq rfl l_3 (fun hq67_ => ?_) (fun hq67_ => ?_)
                · exact T_ret ⟨gq64_, kq66_⟩
                · refine T_eq rfl l_4 (fun hq68_ => ?_) (fun hq68_ => ?_)
                  · exact T_ret ⟨gq64_, kq66_⟩
                  · refine T_eq l_0 l_0 (fun hq69_ => ?_) (fun hq69_ => ?_)
                    · exact T_ret ⟨gq64_, kq66_⟩
                    · exfalso; omega
              · refine T_qc (t_X12_hasNeeds hn a1 a2 mv55 gq57_ (i_rng (lo := 0) (hi := 7) rfl (by omega) (by omega)) (i_rng (lo := 0) (hi := 11) rfl (by omega) (by omega))) ?_
                rintro rv70 mv71 ⟨hq72_, gq73_, kq74_⟩
                have hq75_ := kq74_.nil
                subst hq75_
                refine T_eq rfl l_0 (fun hq76_ => ?_) (fun hq76_ => ?_)
                · unfold f_X12_has_136
                  unfold f_X12_has_137
                  refine T_qc (t_X12_copies_c79_78 hn  mv55 gq57_ ) ?_
                  rintro rv77 mv78 ⟨hq79_, gq80_, kq81_⟩
                  have kq82_ := Sm.call kq59_ kq81_ rfl
                  refine T_eq rfl l_3 (fun hq83_ => ?_) (fun hq83_ => ?_)
                  · exact T_ret ⟨gq80_, kq82_⟩
                  · refine T_eq rfl l_4 (fun hq84_ => ?_) (fun hq84_ => ?_)
                    · exact T_ret ⟨gq80_, kq82_⟩
                    · refine T_eq l_0 l_0 (fun hq85_ => ?_) (fun hq85_ => ?_)
                      · exact T_ret ⟨gq80_, kq82_⟩
                      · exfalso; omega
                · unfold f_X12_has_137
                  refine T_qc (t_X12_copies_c79_78 hn  mv55 gq57_ ) ?_
                  rintro rv86 mv87 ⟨hq88_, gq89_, kq90_⟩
                  have kq91_ := Sm.call kq59_ kq90_ rfl
                  refine T_eq rfl l_3 (fun hq92_ => ?_) (fun hq92_ => ?_)
                  · exact T_ret ⟨gq89_, kq91_⟩
                  · refine T_eq rfl l_4 (fun hq93_ => ?_) (fun hq93_ => ?_)
                    · exact T_ret ⟨gq89_, kq91_⟩
                    · refine T_eq l_1 l_0 (fun hq94_ => ?_) (fun hq94_ => ?_)
                      · exfalso; omega
                      · exact T_ret ⟨gq89_, kq91_⟩
abbrev l_X1_findsAlike : List Bx := [(34, 35, 4, 5), (35, 37, 0, 0)]
abbrev po_X1_findsAlike (a1 a2 a3 : Int32) (M : qM) (v : Int32) (M' : qM) : Prop := (0 ≤ v.toInt ∧ v.toInt ≤ 1) ∧ G M' ∧ Sm l_X1_findsAlike M M'
theorem t_X1_findsAlike {n : Nat} (hn : 200000 ≤ n) {j : Nat} (hj : q_isLaw j) (a1 a2 a3 : Int32) (M : qM) (hG : G M) (pa1 : 0 ≤ a1.toInt ∧ a1.toInt ≤ 11) (pa2 : 0 ≤ a2.toInt ∧ a2.toInt ≤ 11) : qT (f_X1_findsAlike n j a1 a2 a3 M) (po_X1_findsAlike a1 a2 a3 M) := by
  have hS : Sm l_X1_findsAlike M M := Sm.rf
  unfold f_X1_findsAlike
  refine T_eq rfl rfl (fun hq1_ => ?_) (fun hq1_ => ?_)
  · exact T_ret ⟨(i_rng (lo := 0) (hi := 1) l_1 (by omega) (by omega)), hG, hS⟩
  · refine T_qg rfl (by omega) (by omega) ?_
    refine T_qg rfl (by omega) (by omega) ?_
    refine T_qc (t_X1_tellDeed hn a1 (M 4 a1.toNatClampNeg) (M 5 a1.toNatClampNeg) a3 M hG (i_rng (lo := 0) (hi := 12) rfl (by omega) (by omega))) ?_
    rintro rv2 mv3 ⟨hq4_, gq5_, kq6_⟩
    have kq7_ := Sm.call hS kq6_ rfl
    refine T_qc (t_X1_isAlike hn hj a2 mv3 gq5_ (i_rng (lo := 0) (hi := 11) rfl (by omega) (by omega))) ?_
    rintro rv8 mv9 ⟨hq10_, gq11_, kq12_⟩
    have kq13_ := Sm.call kq7_ kq12_ rfl
    refine T_qb rfl (by omega) (by omega) ?_
    exact T_ret ⟨(i_rng (lo := 0) (hi := 1) rfl (by omega) (by omega)), gq11_, kq13_⟩
abbrev l_X11_alike : List Bx := [(34, 35, 4, 5), (35, 37, 0, 0)]
abbrev po_X11_alike (a1 a2 : Int32) (M : qM) (v : Int32) (M' : qM) : Prop := ((-1) ≤ v.toInt ∧ v.toInt ≤ 1) ∧ G M' ∧ Sm l_X11_alike M M'
theorem t_X11_alike {n : Nat} (hn : 200000 ≤ n) {j : Nat} (hj : q_isLaw j) (a1 a2 : Int32) (M : qM) (hG : G M) : qT (f_X11_alike n j a1 a2 M) (po_X11_alike a1 a2 M) := by
  have hS : Sm l_X11_alike M M := Sm.rf
  unfold f_X11_alike
  refine T_qc (t_X2_knows hn a1 M hG ) ?_
  rintro rv1 mv2 ⟨hq3_, hq4_, gq5_, kq6_⟩
  have hq7_ := kq6_.nil
  subst hq7_
  refine T_eq rfl l_0 (fun hq8_ => ?_) (fun hq8_ => ?_)
  · exact T_ret ⟨(i_rng (lo := (-1)) (hi := 1) l_m1 (by omega) (by omega)), hG, hS⟩
  · refine T_qc (t_X2_knows hn a2 M hG ) ?_
    rintro rv9 mv10 ⟨hq11_, hq12_, gq13_, kq14_⟩
    have hq15_ := kq14_.nil
    subst hq15_
    refine T_eq rfl l_0 (fun hq16_ => ?_) (fun hq16_ => ?_)
    · exact T_ret ⟨(i_rng (lo := (-1)) (hi := 1) l_m1 (by omega) (by omega)), hG, hS⟩
    · refine T_qc (t_X1_findsAlike hn hj a1 a2 (M 7 9) M hG (i_rng (lo := 0) (hi := 11) rfl (by omega) (by omega)) (i_rng (lo := 0) (hi := 11) rfl (by omega) (by omega))) ?_
      rintro rv17 mv18 ⟨hq19_, gq20_, kq21_⟩
      have kq22_ := Sm.call hS kq21_ rfl
      refine T_eq rfl l_0 (fun hq23_ => ?_) (fun hq23_ => ?_)
      · exact T_ret ⟨(i_rng (lo := (-1)) (hi := 1) l_0 (by omega) (by omega)), gq20_, kq22_⟩
      · exact T_ret ⟨(i_rng (lo := (-1)) (hi := 1) l_1 (by omega) (by omega)), gq20_, kq22_⟩
abbrev l_X12_alike : List Bx := [(96, 98, 0, 0)]
abbrev po_X12_alike (a1 a2 : Int32) (M : qM) (v : Int32) (M' : qM) : Prop := ((-1) ≤ v.toInt ∧ v.toInt ≤ 1) ∧ G M' ∧ Sm l_X12_alike M M'
theorem t_X12_alike {n : Nat} (hn : 200000 ≤ n) (a1 a2 : Int32) (M : qM) (hG : G M) : qT (f_X12_alike n a1 a2 M) (po_X12_alike a1 a2 M) := by
  have hS : Sm l_X12_alike M M := Sm.rf
  unfold f_X12_alike
  refine T_qc (t_X12_isKind hn a1 M hG ) ?_
  rintro rv1 mv2 ⟨hq3_, hq4_, gq5_, kq6_⟩
  have hq7_ := kq6_.nil
  subst hq7_
  refine T_eq rfl l_0 (fun hq8_ => ?_) (fun hq8_ => ?_)
  · exact T_ret ⟨(i_rng (lo := (-1)) (hi := 1) l_m1 (by omega) (by omega)), hG, hS⟩
  · refine T_qc (t_X12_isKind hn a2 M hG ) ?_
    rintro rv9 mv10 ⟨hq11_, hq12_, gq13_, kq14_⟩
    have hq15_ := kq14_.nil
    subst hq15_
    refine T_eq rfl l_0 (fun hq16_ => ?_) (fun hq16_ => ?_)
    · exact T_ret ⟨(i_rng (lo := (-1)) (hi := 1) l_m1 (by omega) (by omega)), hG, hS⟩
    · refine T_qc (t_X12_isLike hn a1 a2 M hG (i_rng (lo := 0) (hi := 12) rfl (by omega) (by omega)) (i_rng (lo := 0) (hi := 11) rfl (by omega) (by omega))) ?_
      rintro rv17 mv18 ⟨hq19_, gq20_, kq21_⟩
      have kq22_ := Sm.call hS kq21_ rfl
      refine T_eq rfl l_0 (fun hq23_ => ?_) (fun hq23_ => ?_)
      · exact T_ret ⟨(i_rng (lo := (-1)) (hi := 1) l_0 (by omega) (by omega)), gq20_, kq22_⟩
      · exact T_ret ⟨(i_rng (lo := (-1)) (hi := 1) l_1 (by omega) (by omega)), gq20_, kq22_⟩
abbrev l_X11_cost : List Bx := [(34, 35, 4, 5), (35, 37, 0, 0)]
abbrev po_X11_cost (a1 a2 a3 : Int32) (M : qM) (v : Int32) (M' : qM) : Prop := ((-1) ≤ v.toInt ∧ v.toInt ≤ 999) ∧ G M' ∧ Sm l_X11_cost M M'
theorem t_X11_cost {n : Nat} (hn : 200000 ≤ n) {j : Nat} (hj : q_isLaw j) (a1 a2 a3 : Int32) (M : qM) (hG : G M) : qT (f_X11_cost n j a1 a2 a3 M) (po_X11_cost a1 a2 a3 M) := by
  have hS : Sm l_X11_cost M M := Sm.rf
  unfold f_X11_cost
  refine T_qc (t_X11_canDeal hn a1 a2 a3 M hG ) ?_
  rintro rv1 mv2 ⟨hq3_, hq4_, gq5_, kq6_⟩
  have hq7_ := kq6_.nil
  subst hq7_
  refine T_eq rfl l_0 (fun hq8_ => ?_) (fun hq8_ => ?_)
  · exact T_ret ⟨(i_rng (lo := (-1)) (hi := 999) l_m1 (by omega) (by omega)), hG, hS⟩
  · refine T_qc (t_X0_price_c7 hn hj a1 a2 a3 M hG (i_rng (lo := 0) (hi := 7) rfl (by omega) (by omega)) (i_rng (lo := 0) (hi := 11) rfl (by omega) (by omega)) (i_rng (lo := 0) (hi := 7) rfl (by omega) (by omega))) ?_
    rintro rv9 mv10 ⟨hq11_, gq12_, kq13_⟩
    have kq14_ := Sm.call hS kq13_ rfl
    exact T_ret ⟨(i_rng (lo := (-1)) (hi := 999) rfl (by omega) (by omega)), gq12_, kq14_⟩
abbrev l_X12_cost : List Bx := [(96, 98, 0, 0)]
abbrev po_X12_cost (a1 a2 a3 : Int32) (M : qM) (v : Int32) (M' : qM) : Prop := ((-1) ≤ v.toInt ∧ v.toInt ≤ 999) ∧ G M' ∧ Sm l_X12_cost M M'
theorem t_X12_cost {n : Nat} (hn : 200000 ≤ n) (a1 a2 a3 : Int32) (M : qM) (hG : G M) : qT (f_X12_cost n a1 a2 a3 M) (po_X12_cost a1 a2 a3 M) := by
  have hS : Sm l_X12_cost M M := Sm.rf
  unfold f_X12_cost
  refine T_qc (t_X12_isPerson hn a1 M hG ) ?_
  rintro rv1 mv2 ⟨hq3_, hq4_, gq5_, kq6_⟩
  have hq7_ := kq6_.nil
  subst hq7_
  refine T_eq rfl l_0 (fun hq8_ => ?_) (fun hq8_ => ?_)
  · exact T_ret ⟨(i_rng (lo := (-1)) (hi := 999) l_m1 (by omega) (by omega)), hG, hS⟩
  · refine T_qc (t_X12_isKind hn a2 M hG ) ?_
    rintro rv9 mv10 ⟨hq11_, hq12_, gq13_, kq14_⟩
    have hq15_ := kq14_.nil
    subst hq15_
    refine T_eq rfl l_0 (fun hq16_ => ?_) (fun hq16_ => ?_)
    · exact T_ret ⟨(i_rng (lo := (-1)) (hi := 999) l_m1 (by omega) (by omega)), hG, hS⟩
    · refine T_qc (t_X12_isPerson hn a3 M hG ) ?_
      rintro rv17 mv18 ⟨hq19_, hq20_, gq21_, kq22_⟩
      have hq23_ := kq22_.nil
      subst hq23_
      refine T_eq rfl l_0 (fun hq24_ => ?_) (fun hq24_ => ?_)
      · exact T_ret ⟨(i_rng (lo := (-1)) (hi := 999) l_m1 (by omega) (by omega)), hG, hS⟩
      · refine T_eq rfl rfl (fun hq25_ => ?_) (fun hq25_ => ?_)
        · exact T_ret ⟨(i_rng (lo := (-1)) (hi := 999) l_m1 (by omega) (by omega)), hG, hS⟩
        · refine T_qc (t_X12_costOf hn a1 a2 a3 M hG (i_rng (lo := 0) (hi := 7) rfl (by omega) (by omega)) (i_rng (lo := 0) (hi := 11) rfl (by omega) (by omega)) (i_rng (lo := 0) (hi := 7) rfl (by omega) (by omega))) ?_
          rintro rv26 mv27 ⟨hq28_, gq29_, kq30_⟩
          have kq31_ := Sm.call hS kq30_ rfl
          exact T_ret ⟨(i_rng (lo := (-1)) (hi := 999) rfl (by omega) (by omega)), gq29_, kq31_⟩
