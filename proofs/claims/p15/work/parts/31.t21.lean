abbrev l_X11_tried : List Bx := [(25, 26, 8, 10), (26, 34, 0, 0), (34, 35, 4, 5), (35, 37, 0, 0), (44, 45, 2, 10)]
abbrev po_X11_tried (a1 a2 : Int32) (M : qM) (v : Int32) (M' : qM) : Prop := G M' ∧ Sm l_X11_tried M M'
theorem t_X11_tried {n : Nat} (hn : 200000 ≤ n) {j : Nat} (hj : q_isLaw j) (a1 a2 : Int32) (M : qM) (hG : G M) : qT (f_X11_tried n j a1 a2 M) (po_X11_tried a1 a2 M) := by
  have hS : Sm l_X11_tried M M := Sm.rf
  unfold f_X11_tried
  refine T_lt rfl l_10 (fun hq1_ => ?_) (fun hq1_ => ?_)
  · unfold f_X11_tried_24
    unfold f_X11_tried_25
    refine T_lt rfl l_1 (fun hq2_ => ?_) (fun hq2_ => ?_)
    · exact T_ret ⟨hG, hS⟩
    · refine T_lt l_60 rfl (fun hq3_ => ?_) (fun hq3_ => ?_)
      · exact T_ret ⟨hG, hS⟩
      · refine T_eq l_0 l_0 (fun hq4_ => ?_) (fun hq4_ => ?_)
        · refine T_lt rfl l_0 (fun hq5_ => ?_) (fun hq5_ => ?_)
          · exact T_ret ⟨hG, hS⟩
          · refine T_le rfl l_5 (fun hq6_ => ?_) (fun hq6_ => ?_)
            · unfold f_X11_tried_52
              refine T_qc (t_X10_copy_c25_7 hn  M hG ) ?_
              rintro rv7 mv8 ⟨hq9_, hq10_, gq11_, kq12_⟩
              have kq13_ := Sm.call hS kq12_ rfl
              refine T_qc (t_X0_goDays_c25 hn hj a1 mv8 gq11_ (i_rng (lo := 1) (hi := 60) rfl (by omega) (by omega))) ?_
              rintro rv14 mv15 ⟨hq16_, hq17_, gq18_, kq19_⟩
              have kq20_ := Sm.call kq13_ kq19_ rfl
              have hq21_ : (mv15 25 8).toInt = (mv8 25 8).toInt := by rw [kq19_ 25 8 (by decide)]
              refine T_eq l_0 l_0 (fun hq22_ => ?_) (fun hq22_ => ?_)
              · refine T_qc (t_X0_cameOfDays hn a2 mv15 gq18_ (i_rng (lo := 0) (hi := 5) rfl (by omega) (by omega))) ?_
                rintro rv23 mv24 ⟨gq25_, kq26_⟩
                have hq27_ := kq26_.nil
                subst hq27_
                exact T_ret ⟨gq18_, kq20_⟩
              · exfalso; omega
            · exact T_ret ⟨hG, hS⟩
        · exfalso; omega
  · have hq30_ := i_full (a2)
    have hq31_ := (show (a2 - (10 : Int32)).toInt = _ from (i_sub rfl l_10 (by omega) (by omega)))
    refine T_qc (t_X10_knows_c7 hn (a2 - (10 : Int32)) M hG ) ?_
    rintro rv28 mv29 ⟨hq32_, hq33_, gq34_, kq35_⟩
    have hq36_ := kq35_.nil
    subst hq36_
    refine T_eq rfl l_0 (fun hq37_ => ?_) (fun hq37_ => ?_)
    · unfold f_X11_tried_24
      unfold f_X11_tried_25
      refine T_lt rfl l_1 (fun hq38_ => ?_) (fun hq38_ => ?_)
      · exact T_ret ⟨hG, hS⟩
      · refine T_lt l_60 rfl (fun hq39_ => ?_) (fun hq39_ => ?_)
        · exact T_ret ⟨hG, hS⟩
        · refine T_eq l_0 l_0 (fun hq40_ => ?_) (fun hq40_ => ?_)
          · refine T_lt rfl l_0 (fun hq41_ => ?_) (fun hq41_ => ?_)
            · exfalso; omega
            · refine T_le rfl l_5 (fun hq42_ => ?_) (fun hq42_ => ?_)
              · exfalso; omega
              · exact T_ret ⟨hG, hS⟩
          · exfalso; omega
    · unfold f_X11_tried_25
      refine T_lt rfl l_1 (fun hq43_ => ?_) (fun hq43_ => ?_)
      · exact T_ret ⟨hG, hS⟩
      · refine T_lt l_60 rfl (fun hq44_ => ?_) (fun hq44_ => ?_)
        · exact T_ret ⟨hG, hS⟩
        · refine T_eq l_1 l_0 (fun hq45_ => ?_) (fun hq45_ => ?_)
          · exfalso; omega
          · unfold f_X11_tried_52
            refine T_qc (t_X10_copy_c25_7 hn  M hG ) ?_
            rintro rv46 mv47 ⟨hq48_, hq49_, gq50_, kq51_⟩
            have kq52_ := Sm.call hS kq51_ rfl
            refine T_qc (t_X0_goDays_c25 hn hj a1 mv47 gq50_ (i_rng (lo := 1) (hi := 60) rfl (by omega) (by omega))) ?_
            rintro rv53 mv54 ⟨hq55_, hq56_, gq57_, kq58_⟩
            have kq59_ := Sm.call kq52_ kq58_ rfl
            have hq60_ : (mv54 25 8).toInt = (mv47 25 8).toInt := by rw [kq58_ 25 8 (by decide)]
            refine T_eq l_1 l_0 (fun hq61_ => ?_) (fun hq61_ => ?_)
            · exfalso; omega
            · refine T_qc (t_X10_stepsLeft_c25 hn (a2 - (10 : Int32)) mv54 gq57_ (i_rng (lo := 0) (hi := 7) (i_sub rfl l_10 (by omega) (by omega)) (by omega) (by omega))) ?_
              rintro rv62 mv63 ⟨hq64_, gq65_, kq66_⟩
              have hq67_ := kq66_.nil
              subst hq67_
              exact T_ret ⟨gq57_, kq59_⟩
abbrev l_X12_copies_c78_79 : List Bx := [(79, 80, 0, 954)]
abbrev po_X12_copies_c78_79 (M : qM) (v : Int32) (M' : qM) : Prop := (0 ≤ v.toInt ∧ v.toInt ≤ 0) ∧ ((M' 79 312).toInt = (M 78 312).toInt ∧ (M' 79 313).toInt = (M 78 313).toInt) ∧ G M' ∧ Sm l_X12_copies_c78_79 M M'
theorem t_X12_copies_c78_79_2 {n : Nat} (hn : 200000 ≤ n) {M0 : qM} : ∀ (m : Nat) (a2 : Int32) (M : qM), G M → Sm l_X12_copies_c78_79 M0 M → 0 ≤ a2.toInt ∧ a2.toInt ≤ 954 → ((a2.toInt ≤ 312 ∨ (M 79 312).toInt = (M0 78 312).toInt) ∧ (a2.toInt ≤ 313 ∨ (M 79 313).toInt = (M0 78 313).toInt) ∧ (M 78 312).toInt = (M0 78 312).toInt ∧ (M 78 313).toInt = (M0 78 313).toInt) → 954 - a2.toInt < (m : Int) → qT (f_X12_copies_2 n 78 79 m a2 M) (po_X12_copies_c78_79  M0) := by
  intro m
  induction m with
  | zero =>
    intro a2 M hG hS i0 hE i4
    exfalso; omega
  | succ m ih =>
    intro a2 M hG hS i0 hE i4
    show qT (b_X12_copies_2 n 78 79 (f_X12_copies_2 n 78 79 m) a2 M) _
    unfold b_X12_copies_2
    try simp only [Nat.reduceAdd]
    refine T_le l_954 rfl (fun hq2_ => ?_) (fun hq2_ => ?_)
    · exact T_ret ⟨(i_rng (lo := 0) (hi := 0) l_0 (by omega) (by omega)), (by have e9 : (0 : Int32).toInt = _ := l_0; omega), hG, hS⟩
    · refine T_qg rfl (by omega) (by omega) ?_
      refine T_qg rfl (by omega) (by omega) ?_
      refine T_mu hG hS (cp78 (by decide) (by decide) hG) (nw_79 _) (i := 0) rfl ⟨by decide, by decide, Or.inr ⟨(show 0 ≤ _ by rw [tnc]; omega), (show _ < 954 by rw [tnc]; omega)⟩⟩ ?_
      intro mv3 hq4_ gq5_ kq6_
      have hq7_ : (mv3 79 a2.toNatClampNeg).toInt = (M 78 a2.toNatClampNeg).toInt := by rw [hq4_, mu_at]
      refine T_ql (i_add rfl l_1 (by omega) (by omega)) ?_
      intro xv8 hq9_
      exact ih xv8 mv3 gq5_ kq6_ (i_rng (lo := 0) (hi := 954) rfl (by omega) (by omega)) (by first | exact ⟨cp_step (k := 312) hq4_ (by omega) (by omega) hE.2.2.1 hE.1, cp_step (k := 313) hq4_ (by omega) (by omega) hE.2.2.2 hE.2.1, (by rw [hq4_, mu_ne (Or.inl (by decide))]; exact hE.2.2.1), (by rw [hq4_, mu_ne (Or.inl (by decide))]; exact hE.2.2.2)⟩ | omega) (by omega)
theorem t_X12_copies_c78_79 {n : Nat} (hn : 200000 ≤ n) (M : qM) (hG : G M) : qT (f_X12_copies n 78 79  M) (po_X12_copies_c78_79  M) := by
  have hS : Sm l_X12_copies_c78_79 M M := Sm.rf
  unfold f_X12_copies
  try simp only [Nat.reduceAdd]
  exact (t_X12_copies_c78_79_2 hn) n (0 : Int32) M hG hS (i_rng (lo := 0) (hi := 954) l_0 (by omega) (by omega)) (by have e0 : ((0 : Int32)).toInt = _ := l_0; first | exact ⟨cp_step (k := 312) rfl (by omega) (by omega) hE.2.2.1 hE.1, cp_step (k := 313) rfl (by omega) (by omega) hE.2.2.2 hE.2.1, (by rw [rfl, mu_ne (Or.inl (by decide))]; exact hE.2.2.1), (by rw [rfl, mu_ne (Or.inl (by decide))]; exact hE.2.2.2)⟩ | omega) (by have e0 : ((0 : Int32)).toInt = _ := l_0; omega)
abbrev l_X12_copies_c79_78 : List Bx := [(78, 79, 0, 954)]
abbrev po_X12_copies_c79_78 (M : qM) (v : Int32) (M' : qM) : Prop := (0 ≤ v.toInt ∧ v.toInt ≤ 0) ∧ ((M' 78 312).toInt = (M 79 312).toInt ∧ (M' 78 313).toInt = (M 79 313).toInt) ∧ G M' ∧ Sm l_X12_copies_c79_78 M M'
theorem t_X12_copies_c79_78_2 {n : Nat} (hn : 200000 ≤ n) {M0 : qM} : ∀ (m : Nat) (a2 : Int32) (M : qM), G M → Sm l_X12_copies_c79_78 M0 M → 0 ≤ a2.toInt ∧ a2.toInt ≤ 954 → ((a2.toInt ≤ 312 ∨ (M 78 312).toInt = (M0 79 312).toInt) ∧ (a2.toInt ≤ 313 ∨ (M 78 313).toInt = (M0 79 313).toInt) ∧ (M 79 312).toInt = (M0 79 312).toInt ∧ (M 79 313).toInt = (M0 79 313).toInt) → 954 - a2.toInt < (m : Int) → qT (f_X12_copies_2 n 79 78 m a2 M) (po_X12_copies_c79_78  M0) := by
  intro m
  induction m with
  | zero =>
    intro a2 M hG hS i0 hE i4
    exfalso; omega
  | succ m ih =>
    intro a2 M hG hS i0 hE i4
    show qT (b_X12_copies_2 n 79 78 (f_X12_copies_2 n 79 78 m) a2 M) _
    unfold b_X12_copies_2
    try simp only [Nat.reduceAdd]
    refine T_le l_954 rfl (fun hq2_ => ?_) (fun hq2_ => ?_)
    · exact T_ret ⟨(i_rng (lo := 0) (hi := 0) l_0 (by omega) (by omega)), (by have e9 : (0 : Int32).toInt = _ := l_0; omega), hG, hS⟩
    · refine T_qg rfl (by omega) (by omega) ?_
      refine T_qg rfl (by omega) (by omega) ?_
      refine T_mu hG hS (cp78 (by decide) (by decide) hG) (nw_78 _) (i := 0) rfl ⟨by decide, by decide, Or.inr ⟨(show 0 ≤ _ by rw [tnc]; omega), (show _ < 954 by rw [tnc]; omega)⟩⟩ ?_
      intro mv3 hq4_ gq5_ kq6_
      have hq7_ : (mv3 78 a2.toNatClampNeg).toInt = (M 79 a2.toNatClampNeg).toInt := by rw [hq4_, mu_at]
      refine T_ql (i_add rfl l_1 (by omega) (by omega)) ?_
      intro xv8 hq9_
      exact ih xv8 mv3 gq5_ kq6_ (i_rng (lo := 0) (hi := 954) rfl (by omega) (by omega)) (by first | exact ⟨cp_step (k := 312) hq4_ (by omega) (by omega) hE.2.2.1 hE.1, cp_step (k := 313) hq4_ (by omega) (by omega) hE.2.2.2 hE.2.1, (by rw [hq4_, mu_ne (Or.inl (by decide))]; exact hE.2.2.1), (by rw [hq4_, mu_ne (Or.inl (by decide))]; exact hE.2.2.2)⟩ | omega) (by omega)
theorem t_X12_copies_c79_78 {n : Nat} (hn : 200000 ≤ n) (M : qM) (hG : G M) : qT (f_X12_copies n 79 78  M) (po_X12_copies_c79_78  M) := by
  have hS : Sm l_X12_copies_c79_78 M M := Sm.rf
  unfold f_X12_copies
  try simp only [Nat.reduceAdd]
  exact (t_X12_copies_c79_78_2 hn) n (0 : Int32) M hG hS (i_rng (lo := 0) (hi := 954) l_0 (by omega) (by omega)) (by have e0 : ((0 : Int32)).toInt = _ := l_0; first | exact ⟨cp_step (k := 312) rfl (by omega) (by omega) hE.2.2.1 hE.1, cp_step (k := 313) rfl (by omega) (by omega) hE.2.2.2 hE.2.1, (by rw [rfl, mu_ne (Or.inl (by decide))]; exact hE.2.2.1), (by rw [rfl, mu_ne (Or.inl (by decide))]; exact hE.2.2.2)⟩ | omega) (by have e0 : ((0 : Int32)).toInt = _ := l_0; omega)
abbrev l_X12_tried : List Bx := [(77, 78, 37, 43), (78, 79, 0, 954), (79, 80, 0, 954), (96, 98, 0, 0)]
abbrev po_X12_tried (a1 a2 : Int32) (M : qM) (v : Int32) (M' : qM) : Prop := ((M' 78 313).toInt = (M 78 313).toInt ∧ (M' 78 312).toInt = (M 78 312).toInt) ∧ G M' ∧ Sm l_X12_tried M M'
theorem t_X12_tried {n : Nat} (hn : 200000 ≤ n) (a1 a2 : Int32) (M : qM) (hG : G M) : qT (f_X12_tried n a1 a2 M) (po_X12_tried a1 a2 M) := by
  have hS : Sm l_X12_tried M M := Sm.rf
  unfold f_X12_tried
  have hq3_ := (show ((1 : Int32)).toInt = _ from l_1)
  have hq4_ := (show ((60 : Int32)).toInt = _ from l_60)
  refine T_qc (t_X12_in hn a1 (1 : Int32) (60 : Int32) M hG (i_rng (lo := 0) (hi := 70) l_1 (by omega) (by omega)) (i_rng (lo := 0) (hi := 99999) l_60 (by omega) (by omega))) ?_
  rintro rv1 mv2 ⟨hq5_, hq6_, gq7_, kq8_⟩
  have hq9_ := kq8_.nil
  subst hq9_
  refine T_eq rfl l_0 (fun hq10_ => ?_) (fun hq10_ => ?_)
  · exact T_ret ⟨(by have e9 : ((-1 : Int32)).toInt = _ := l_m1; omega), hG, hS⟩
  · have hq13_ := (show ((0 : Int32)).toInt = _ from l_0)
    have hq14_ := (show ((5 : Int32)).toInt = _ from l_5)
    refine T_qc (t_X12_in hn a2 (0 : Int32) (5 : Int32) M hG (i_rng (lo := 0) (hi := 70) l_0 (by omega) (by omega)) (i_rng (lo := 0) (hi := 99999) l_5 (by omega) (by omega))) ?_
    rintro rv11 mv12 ⟨hq15_, hq16_, gq17_, kq18_⟩
    have hq19_ := kq18_.nil
    subst hq19_
    refine T_eq rfl l_0 (fun hq20_ => ?_) (fun hq20_ => ?_)
    · have hq23_ := (show ((10 : Int32)).toInt = _ from l_10)
      have hq24_ := (show ((17 : Int32)).toInt = _ from l_17)
      refine T_qc (t_X12_in hn a2 (10 : Int32) (17 : Int32) M hG (i_rng (lo := 0) (hi := 70) l_10 (by omega) (by omega)) (i_rng (lo := 0) (hi := 99999) l_17 (by omega) (by omega))) ?_
      rintro rv21 mv22 ⟨hq25_, hq26_, gq27_, kq28_⟩
      have hq29_ := kq28_.nil
      subst hq29_
      refine T_eq rfl l_0 (fun hq30_ => ?_) (fun hq30_ => ?_)
      · exact T_ret ⟨(by have e9 : ((-1 : Int32)).toInt = _ := l_m1; omega), hG, hS⟩
      · have hq33_ := (show (a2 - (10 : Int32)).toInt = _ from (i_sub rfl l_10 (by omega) (by omega)))
        refine T_qc (t_X12_isPerson hn (a2 - (10 : Int32)) M hG ) ?_
        rintro rv31 mv32 ⟨hq34_, hq35_, gq36_, kq37_⟩
        have hq38_ := kq37_.nil
        subst hq38_
        refine T_eq rfl l_0 (fun hq39_ => ?_) (fun hq39_ => ?_)
        · exact T_ret ⟨(by have e9 : ((-1 : Int32)).toInt = _ := l_m1; omega), hG, hS⟩
        · unfold f_X12_tried_43
          refine T_qc (t_X12_copies_c78_79 hn  M hG ) ?_
          rintro rv40 mv41 ⟨hq42_, hq43_, gq44_, kq45_⟩
          have kq46_ := Sm.call hS kq45_ rfl
          have hq47_ : (mv41 78 313).toInt = (M 78 313).toInt := by rw [kq45_ 78 313 (by decide)]
          have hq48_ : (mv41 78 312).toInt = (M 78 312).toInt := by rw [kq45_ 78 312 (by decide)]
          refine T_qc (t_X12_daysGo hn a1 mv41 gq44_ (i_rng (lo := 1) (hi := 60) rfl (by omega) (by omega))) ?_
          rintro rv49 mv50 ⟨hq51_, hq52_, gq53_, kq54_⟩
          have kq55_ := Sm.call kq46_ kq54_ rfl
          have hq56_ : (mv50 78 312).toInt = (mv41 78 312).toInt := by rw [kq54_ 78 312 (by decide)]
          have hq57_ : (mv50 79 312).toInt = (mv41 79 312).toInt := by rw [kq54_ 79 312 (by decide)]
          have hq58_ : (mv50 79 313).toInt = (mv41 79 313).toInt := by rw [kq54_ 79 313 (by decide)]
          refine T_sw rfl l_0 (fun hq59_ => ?_) (fun hq59_ => ?_)
          · exfalso; omega
          refine T_sw rfl l_1 (fun hq60_ => ?_) (fun hq60_ => ?_)
          · exfalso; omega
          refine T_sw rfl l_2 (fun hq61_ => ?_) (fun hq61_ => ?_)
          · exfalso; omega
          refine T_sw rfl l_3 (fun hq62_ => ?_) (fun hq62_ => ?_)
          · exfalso; omega
          refine T_sw rfl l_4 (fun hq63_ => ?_) (fun hq63_ => ?_)
          · exfalso; omega
          refine T_sw rfl l_5 (fun hq64_ => ?_) (fun hq64_ => ?_)
          · exfalso; omega
          refine T_sw0 ?_
          refine T_qg (i_sub (i_add l_296 rfl (by omega) (by omega)) l_10 (by omega) (by omega)) (by omega) (by omega) ?_
          refine T_qg (i_sub (i_add l_304 rfl (by omega) (by omega)) l_10 (by omega) (by omega)) (by omega) (by omega) ?_
          have hq65_ := r78 (c := 78) (s := ((((296 : Int32) + a2) - (10 : Int32)).toNatClampNeg)) gq53_ (by decide) (by rw [tnc, (i_sub (i_add l_296 rfl (by omega) (by omega)) l_10 (by omega) (by omega))]; omega) (by rw [tnc, (i_sub (i_add l_296 rfl (by omega) (by omega)) l_10 (by omega) (by omega))]; omega)
          have hq66_ := r78 (c := 78) (s := ((((304 : Int32) + a2) - (10 : Int32)).toNatClampNeg)) gq53_ (by decide) (by rw [tnc, (i_sub (i_add l_304 rfl (by omega) (by omega)) l_10 (by omega) (by omega))]; omega) (by rw [tnc, (i_sub (i_add l_304 rfl (by omega) (by omega)) l_10 (by omega) (by omega))]; omega)
          refine T_ql (i_sub rfl rfl (by omega) (by omega)) ?_
          intro xv67 hq68_
          unfold f_X12_tried_176
          refine T_qc (t_X12_copies_c79_78 hn  mv50 gq53_ ) ?_
          rintro rv69 mv70 ⟨hq71_, hq72_, gq73_, kq74_⟩
          have kq75_ := Sm.call kq55_ kq74_ rfl
          have hq76_ : (mv70 79 312).toInt = (mv50 79 312).toInt := by rw [kq74_ 79 312 (by decide)]
          have hq77_ : (mv70 79 313).toInt = (mv50 79 313).toInt := by rw [kq74_ 79 313 (by decide)]
          exact T_ret ⟨(by have e9 : (xv67).toInt = _ := rfl; omega), gq73_, kq75_⟩
    · unfold f_X12_tried_43
      refine T_qc (t_X12_copies_c78_79 hn  M hG ) ?_
      rintro rv78 mv79 ⟨hq80_, hq81_, gq82_, kq83_⟩
      have kq84_ := Sm.call hS kq83_ rfl
      have hq85_ : (mv79 78 313).toInt = (M 78 313).toInt := by rw [kq83_ 78 313 (by decide)]
      have hq86_ : (mv79 78 312).toInt = (M 78 312).toInt := by rw [kq83_ 78 312 (by decide)]
      refine T_qc (t_X12_daysGo hn a1 mv79 gq82_ (i_rng (lo := 1) (hi := 60) rfl (by omega) (by omega))) ?_
      rintro rv87 mv88 ⟨hq89_, hq90_, gq91_, kq92_⟩
      have kq93_ := Sm.call kq84_ kq92_ rfl
      have hq94_ : (mv88 78 312).toInt = (mv79 78 312).toInt := by rw [kq92_ 78 312 (by decide)]
      have hq95_ : (mv88 79 312).toInt = (mv79 79 312).toInt := by rw [kq92_ 79 312 (by decide)]
      have hq96_ : (mv88 79 313).toInt = (mv79 79 313).toInt := by rw [kq92_ 79 313 (by decide)]
      refine T_sw rfl l_0 (fun hq97_ => ?_) (fun hq97_ => ?_)
      · refine T_ql rfl ?_
        intro xv98 hq99_
        unfold f_X12_tried_176
        refine T_qc (t_X12_copies_c79_78 hn  mv88 gq91_ ) ?_
        rintro rv100 mv101 ⟨hq102_, hq103_, gq104_, kq105_⟩
        have kq106_ := Sm.call kq93_ kq105_ rfl
        have hq107_ : (mv101 79 312).toInt = (mv88 79 312).toInt := by rw [kq105_ 79 312 (by decide)]
        have hq108_ : (mv101 79 313).toInt = (mv88 79 313).toInt := by rw [kq105_ 79 313 (by decide)]
        exact T_ret ⟨(by have e9 : (xv98).toInt = _ := rfl; omega), gq104_, kq106_⟩
      refine T_sw rfl l_1 (fun hq109_ => ?_) (fun hq109_ => ?_)
      · refine T_ql rfl ?_
        intro xv110 hq111_
        unfold f_X12_tried_176
        refine T_qc (t_X12_copies_c79_78 hn  mv88 gq91_ ) ?_
        rintro rv112 mv113 ⟨hq114_, hq115_, gq116_, kq117_⟩
        have kq118_ := Sm.call kq93_ kq117_ rfl
        have hq119_ : (mv113 79 312).toInt = (mv88 79 312).toInt := by rw [kq117_ 79 312 (by decide)]
        have hq120_ : (mv113 79 313).toInt = (mv88 79 313).toInt := by rw [kq117_ 79 313 (by decide)]
        exact T_ret ⟨(by have e9 : (xv110).toInt = _ := rfl; omega), gq116_, kq118_⟩
      refine T_sw rfl l_2 (fun hq121_ => ?_) (fun hq121_ => ?_)
      · refine T_ql rfl ?_
        intro xv122 hq123_
        unfold f_X12_tried_176
        refine T_qc (t_X12_copies_c79_78 hn  mv88 gq91_ ) ?_
        rintro rv124 mv125 ⟨hq126_, hq127_, gq128_, kq129_⟩
        have kq130_ := Sm.call kq93_ kq129_ rfl
        have hq131_ : (mv125 79 312).toInt = (mv88 79 312).toInt := by rw [kq129_ 79 312 (by decide)]
        have hq132_ : (mv125 79 313).toInt = (mv88 79 313).toInt := by rw [kq129_ 79 313 (by decide)]
        exact T_ret ⟨(by have e9 : (xv122).toInt = _ := rfl; omega), gq128_, kq130_⟩
      refine T_sw rfl l_3 (fun hq133_ => ?_) (fun hq133_ => ?_)
      · refine T_ql rfl ?_
        intro xv134 hq135_
        unfold f_X12_tried_176
        refine T_qc (t_X12_copies_c79_78 hn  mv88 gq91_ ) ?_
        rintro rv136 mv137 ⟨hq138_, hq139_, gq140_, kq141_⟩
        have kq142_ := Sm.call kq93_ kq141_ rfl
        have hq143_ : (mv137 79 312).toInt = (mv88 79 312).toInt := by rw [kq141_ 79 312 (by decide)]
        have hq144_ : (mv137 79 313).toInt = (mv88 79 313).toInt := by rw [kq141_ 79 313 (by decide)]
        exact T_ret ⟨(by have e9 : (xv134).toInt = _ := rfl; omega), gq140_, kq142_⟩
      refine T_sw rfl l_4 (fun hq145_ => ?_) (fun hq145_ => ?_)
      · refine T_ql rfl ?_
        intro xv146 hq147_
        unfold f_X12_tried_176
        refine T_qc (t_X12_copies_c79_78 hn  mv88 gq91_ ) ?_
        rintro rv148 mv149 ⟨hq150_, hq151_, gq152_, kq153_⟩
        have kq154_ := Sm.call kq93_ kq153_ rfl
        have hq155_ : (mv149 79 312).toInt = (mv88 79 312).toInt := by rw [kq153_ 79 312 (by decide)]
        have hq156_ : (mv149 79 313).toInt = (mv88 79 313).toInt := by rw [kq153_ 79 313 (by decide)]
        exact T_ret ⟨(by have e9 : (xv146).toInt = _ := rfl; omega), gq152_, kq154_⟩
      refine T_sw rfl l_5 (fun hq157_ => ?_) (fun hq157_ => ?_)
      · refine T_ql rfl ?_
        intro xv158 hq159_
        unfold f_X12_tried_176
        refine T_qc (t_X12_copies_c79_78 hn  mv88 gq91_ ) ?_
        rintro rv160 mv161 ⟨hq162_, hq163_, gq164_, kq165_⟩
        have kq166_ := Sm.call kq93_ kq165_ rfl
        have hq167_ : (mv161 79 312).toInt = (mv88 79 312).toInt := by rw [kq165_ 79 312 (by decide)]
        have hq168_ : (mv161 79 313).toInt = (mv88 79 313).toInt := by rw [kq165_ 79 313 (by decide)]
        exact T_ret ⟨(by have e9 : (xv158).toInt = _ := rfl; omega), gq164_, kq166_⟩
      exfalso; omega
abbrev l_X11_has : List Bx := [(25, 26, 8, 10), (26, 34, 0, 0), (34, 35, 4, 5), (35, 37, 0, 0), (44, 45, 2, 4)]
abbrev po_X11_has (a1 a2 a3 : Int32) (M : qM) (v : Int32) (M' : qM) : Prop := G M' ∧ Sm l_X11_has M M'
theorem t_X11_has {n : Nat} (hn : 200000 ≤ n) {j : Nat} (hj : q_isLaw j) (a1 a2 a3 : Int32) (M : qM) (hG : G M) : qT (f_X11_has n j a1 a2 a3 M) (po_X11_has a1 a2 a3 M) := by
  have hS : Sm l_X11_has M M := Sm.rf
  unfold f_X11_has
  refine T_qc (t_X10_knows_c7 hn a1 M hG ) ?_
  rintro rv1 mv2 ⟨hq3_, hq4_, gq5_, kq6_⟩
  have hq7_ := kq6_.nil
  subst hq7_
  refine T_eq rfl l_0 (fun hq8_ => ?_) (fun hq8_ => ?_)
  · exact T_ret ⟨hG, hS⟩
  · refine T_qc (t_X2_knows hn a2 M hG ) ?_
    rintro rv9 mv10 ⟨hq11_, hq12_, gq13_, kq14_⟩
    have hq15_ := kq14_.nil
    subst hq15_
    refine T_eq rfl l_0 (fun hq16_ => ?_) (fun hq16_ => ?_)
    · exact T_ret ⟨hG, hS⟩
    · refine T_lt rfl l_0 (fun hq17_ => ?_) (fun hq17_ => ?_)
      · exact T_ret ⟨hG, hS⟩
      · refine T_le rfl l_5 (fun hq18_ => ?_) (fun hq18_ => ?_)
        · refine T_ql (i_add (i_mul rfl l_12 (by omega) (by omega)) rfl (by omega) (by omega)) ?_
          intro xv19 hq20_
          refine T_eq rfl l_0 (fun hq21_ => ?_) (fun hq21_ => ?_)
          · refine T_qg rfl (by omega) (by omega) ?_
            exact T_ret ⟨hG, hS⟩
          · refine T_eq rfl l_1 (fun hq22_ => ?_) (fun hq22_ => ?_)
            · refine T_qg rfl (by omega) (by omega) ?_
              exact T_ret ⟨hG, hS⟩
            · refine T_eq rfl l_2 (fun hq23_ => ?_) (fun hq23_ => ?_)
              · refine T_qg rfl (by omega) (by omega) ?_
                refine T_le rfl l_0 (fun hq24_ => ?_) (fun hq24_ => ?_)
                · exact T_ret ⟨hG, hS⟩
                · refine T_qg rfl (by omega) (by omega) ?_
                  exact T_ret ⟨hG, hS⟩
              · refine T_qc (t_X10_copy_c25_7 hn  M hG ) ?_
                rintro rv25 mv26 ⟨hq27_, hq28_, gq29_, kq30_⟩
                have kq31_ := Sm.call hS kq30_ rfl
                refine T_qc (t_X0_attempt_c25 hn hj a1 a2 (8 : Int32) mv26 gq29_ (i_rng (lo := 0) (hi := 7) rfl (by omega) (by omega)) (i_rng (lo := 0) (hi := 11) rfl (by omega) (by omega)) (i_rng (lo := 0) (hi := 8) l_8 (by omega) (by omega))) ?_
                rintro rv32 mv33 ⟨hq34_, gq35_, kq36_⟩
                have kq37_ := Sm.call kq31_ kq36_ rfl
                have hq38_ : (mv33 25 9).toInt = (mv26 25 9).toInt := by rw [kq36_ 25 9 (by decide)]
                have hq39_ : (mv33 25 8).toInt = (mv26 25 8).toInt := by rw [kq36_ 25 8 (by decide)]
                refine T_eq rfl l_3 (fun hq40_ => ?_) (fun hq40_ => ?_)
                · exact T_ret ⟨gq35_, kq37_⟩
                · refine T_eq rfl l_4 (fun hq41_ => ?_) (fun hq41_ => ?_)
                  · exact T_ret ⟨gq35_, kq37_⟩
                  · refine T_eq rfl l_1 (fun hq42_ => ?_) (fun hq42_ => ?_)
                    · exact T_ret ⟨gq35_, kq37_⟩
                    · exact T_ret ⟨gq35_, kq37_⟩
        · exact T_ret ⟨hG, hS⟩
