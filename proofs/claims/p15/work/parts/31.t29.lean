abbrev l_X12_cheapest : List Bx := [(77, 78, 43, 45), (96, 98, 0, 0), (105, 111, 0, 0)]
abbrev po_X12_cheapest (a1 a2 a3 a4 a5 : Int32) (M : qM) (v : Int32) (M' : qM) : Prop := G M' ∧ Sm l_X12_cheapest M M'
theorem t_X12_cheapest_104 {n : Nat} (hn : 200000 ≤ n) {oa1 oa2 oa3 oa4 oa5 : Int32} {M0 : qM} : ∀ (m : Nat) (a4 a5 a6 a7 a8 a9 : Int32) (M : qM), G M → Sm l_X12_cheapest M0 M → 0 ≤ a4.toInt ∧ a4.toInt ≤ 200 → 0 ≤ a5.toInt ∧ a5.toInt ≤ 1 → 1 ≤ a6.toInt ∧ a6.toInt ≤ 160000 → 0 ≤ a7.toInt ∧ a7.toInt ≤ 3 → (-2147483648) ≤ a8.toInt ∧ a8.toInt ≤ 1000000000 → 0 ≤ a9.toInt ∧ a9.toInt ≤ 160000 → 160000 - a9.toInt < (m : Int) → qT (f_X12_cheapest_104 n m a4 a5 a6 a7 a8 a9 M) (po_X12_cheapest oa1 oa2 oa3 oa4 oa5 M0) := by
  intro m
  induction m with
  | zero =>
    intro a4 a5 a6 a7 a8 a9 M hG hS i0 i1 i2 i3 i4 i5 i8
    exfalso; omega
  | succ m ih =>
    intro a4 a5 a6 a7 a8 a9 M hG hS i0 i1 i2 i3 i4 i5 i8
    show qT (b_X12_cheapest_104 n (f_X12_cheapest_104 n m) a4 a5 a6 a7 a8 a9 M) _
    unfold b_X12_cheapest_104
    refine T_le rfl rfl (fun hq5_ => ?_) (fun hq5_ => ?_)
    · refine T_eq rfl l_1000000000 (fun hq6_ => ?_) (fun hq6_ => ?_)
      · exact T_ret ⟨hG, hS⟩
      · refine T_eq rfl l_0 (fun hq7_ => ?_) (fun hq7_ => ?_)
        · have hq8_ := i_full (a8)
          exact T_ret ⟨hG, hS⟩
        · have hq9_ := i_full (a8)
          have hq10_ := i_full (a8 / (256 : Int32))
          have hq11_ := i_full ((a8 / (256 : Int32)) * (256 : Int32))
          exact T_ret ⟨hG, hS⟩
    · refine T_qg rfl (by omega) (by omega) ?_
      have hq12_ := r_110 hG a9.toNatClampNeg
      refine T_eq rfl l_0 (fun hq13_ => ?_) (fun hq13_ => ?_)
      · refine T_ql (i_add rfl l_1 (by omega) (by omega)) ?_
        intro xv14 hq15_
        have hq16_ := i_full (a8)
        exact ih a4 a5 a6 a7 a8 xv14 M hG hS (i_rng (lo := 0) (hi := 200) rfl (by omega) (by omega)) (i_rng (lo := 0) (hi := 1) rfl (by omega) (by omega)) (i_rng (lo := 1) (hi := 160000) rfl (by omega) (by omega)) (i_rng (lo := 0) (hi := 3) rfl (by omega) (by omega)) (i_rng (lo := (-2147483648)) (hi := 1000000000) rfl (by omega) (by omega)) (i_rng (lo := 0) (hi := 160000) rfl (by omega) (by omega)) (by omega)
      · refine T_qc (t_X12_takesState hn a9 M hG (i_rng (lo := 0) (hi := 159999) rfl (by omega) (by omega))) ?_
        rintro rv17 mv18 ⟨hq19_, gq20_, kq21_⟩
        have kq22_ := Sm.call hS kq21_ rfl
        have hq23_ : (mv18 110 a9.toNatClampNeg).toInt = (M 110 a9.toNatClampNeg).toInt := by rw [kq21_ 110 _ (outc rfl)]
        refine T_qc (t_X12_hoursNow hn  mv18 gq20_ ) ?_
        rintro rv24 mv25 ⟨gq26_, kq27_⟩
        have hq28_ := kq27_.nil
        subst hq28_
        refine T_le rfl rfl (fun hq29_ => ?_) (fun hq29_ => ?_)
        · refine T_qg rfl (by omega) (by omega) ?_
          have hq30_ := r_108 gq20_ a7.toNatClampNeg
          refine T_qg rfl (by omega) (by omega) ?_
          have hq31_ := r_104 gq20_ ((mv18 108 a7.toNatClampNeg).toNatClampNeg)
          refine T_le rfl l_0 (fun hq32_ => ?_) (fun hq32_ => ?_)
          · refine T_qc (t_X12_spreads hn (0 : Int32) mv18 gq20_ (i_rng (lo := 0) (hi := 3) l_0 (by omega) (by omega))) ?_
            rintro rv33 mv34 ⟨hq35_, gq36_, kq37_⟩
            have kq38_ := Sm.call kq22_ kq37_ rfl
            have hq39_ : (mv34 104 ((mv18 108 a7.toNatClampNeg).toNatClampNeg)).toInt = (mv18 104 ((mv18 108 a7.toNatClampNeg).toNatClampNeg)).toInt := by rw [kq37_ 104 _ (outc rfl)]
            refine T_ql (i_add rfl l_1 (by omega) (by omega)) ?_
            intro xv40 hq41_
            have hq42_ := i_full (a8)
            exact ih a4 a5 a6 a7 a8 xv40 mv34 gq36_ kq38_ (i_rng (lo := 0) (hi := 200) rfl (by omega) (by omega)) (i_rng (lo := 0) (hi := 1) rfl (by omega) (by omega)) (i_rng (lo := 1) (hi := 160000) rfl (by omega) (by omega)) (i_rng (lo := 0) (hi := 3) rfl (by omega) (by omega)) (i_rng (lo := (-2147483648)) (hi := 1000000000) rfl (by omega) (by omega)) (i_rng (lo := 0) (hi := 160000) rfl (by omega) (by omega)) (by omega)
          · refine T_qc (t_X12_coinsNow hn  mv18 gq20_ ) ?_
            rintro rv43 mv44 ⟨gq45_, kq46_⟩
            have hq47_ := kq46_.nil
            subst hq47_
            refine T_qc (t_X12_hoursNow hn  mv18 gq20_ ) ?_
            rintro rv48 mv49 ⟨gq50_, kq51_⟩
            have hq52_ := kq51_.nil
            subst hq52_
            have hq55_ := i_full (a8)
            have hq56_ := i_full (rv43)
            have hq57_ := i_full ((256 : Int32) * rv43)
            have hq58_ := i_full (rv48)
            refine T_qc (t_X12_min hn a8 (((256 : Int32) * rv43) + rv48) mv18 gq20_ (i_rng (lo := (-2147483648)) (hi := 1000000000) rfl (by omega) (by omega))) ?_
            rintro rv53 mv54 ⟨hq59_, gq60_, kq61_⟩
            have hq62_ := kq61_.nil
            subst hq62_
            refine T_ql (i_add rfl l_1 (by omega) (by omega)) ?_
            intro xv63 hq64_
            have hq65_ := i_full (rv53)
            exact ih a4 a5 a6 a7 rv53 xv63 mv18 gq20_ kq22_ (i_rng (lo := 0) (hi := 200) rfl (by omega) (by omega)) (i_rng (lo := 0) (hi := 1) rfl (by omega) (by omega)) (i_rng (lo := 1) (hi := 160000) rfl (by omega) (by omega)) (i_rng (lo := 0) (hi := 3) rfl (by omega) (by omega)) (i_rng (lo := (-2147483648)) (hi := 1000000000) rfl (by omega) (by omega)) (i_rng (lo := 0) (hi := 160000) rfl (by omega) (by omega)) (by omega)
        · refine T_ql (i_add rfl l_1 (by omega) (by omega)) ?_
          intro xv66 hq67_
          have hq68_ := i_full (a8)
          exact ih a4 a5 a6 a7 a8 xv66 mv18 gq20_ kq22_ (i_rng (lo := 0) (hi := 200) rfl (by omega) (by omega)) (i_rng (lo := 0) (hi := 1) rfl (by omega) (by omega)) (i_rng (lo := 1) (hi := 160000) rfl (by omega) (by omega)) (i_rng (lo := 0) (hi := 3) rfl (by omega) (by omega)) (i_rng (lo := (-2147483648)) (hi := 1000000000) rfl (by omega) (by omega)) (i_rng (lo := 0) (hi := 160000) rfl (by omega) (by omega)) (by omega)
theorem t_X12_cheapest_43 {n : Nat} (hn : 200000 ≤ n) {oa1 oa2 oa3 oa4 oa5 : Int32} {M0 : qM} : ∀ (m : Nat) (a1 a3 a4 a5 a6 : Int32) (M : qM), G M → Sm l_X12_cheapest M0 M → 0 ≤ a1.toInt ∧ a1.toInt ≤ 7 → 0 ≤ a3.toInt ∧ a3.toInt ≤ 11 → 0 ≤ a4.toInt ∧ a4.toInt ≤ 200 → 0 ≤ a5.toInt ∧ a5.toInt ≤ 1 → 0 ≤ a6.toInt ∧ a6.toInt ≤ 4 → ((oa2 >>> (a3 &&& 31)) &&& (1 : Int32)).toInt = 1 → KO oa2 M → 4 - a6.toInt < (m : Int) → qT (f_X12_cheapest_43 n m a1 a3 a4 a5 a6 M) (po_X12_cheapest oa1 oa2 oa3 oa4 oa5 M0) := by
  intro m
  induction m with
  | zero =>
    intro a1 a3 a4 a5 a6 M hG hS i0 i1 i2 i3 i4 hE wKO i9
    exfalso; omega
  | succ m ih =>
    intro a1 a3 a4 a5 a6 M hG hS i0 i1 i2 i3 i4 hE wKO i9
    show qT (b_X12_cheapest_43 n (f_X12_cheapest_43 n m) a1 a3 a4 a5 a6 M) _
    unfold b_X12_cheapest_43
    have hq70_ := r_77_43 hG
    refine T_le rfl rfl (fun hq71_ => ?_) (fun hq71_ => ?_)
    · refine T_qc (t_X12_statesAll hn  M hG ) ?_
      rintro rv72 mv73 ⟨hq74_, gq75_, kq76_⟩
      have hq77_ := kq76_.nil
      subst hq77_
      refine T_qc (t_X12_placeOf hn a3 M hG (i_rng (lo := 0) (hi := 11) rfl (by omega) (by omega)) (wKO a3 (by omega) (by omega) (by omega))) ?_
      rintro rv78 mv79 ⟨hq80_, gq81_, kq82_⟩
      have hq83_ := kq82_.nil
      subst hq83_
      refine T_qc (t_X12_marksBought hn rv72 M hG (i_rng (lo := 1) (hi := 160000) rfl (by omega) (by omega))) ?_
      rintro rv84 mv85 ⟨hq86_, gq87_, kq88_⟩
      have kq89_ := Sm.call hS kq88_ rfl
      have hq90_ := (fun h_ => KO_c (kq88_ 77 43 (by decide)) (funext (fun s_ => kq88_ 105 s_ (outc rfl))) h_) wKO
      have hq91_ : (mv85 77 43).toInt = (M 77 43).toInt := by rw [kq88_ 77 43 (by decide)]
      exact (t_X12_cheapest_104 hn) n a4 a5 rv72 rv78 (1000000000 : Int32) (0 : Int32) mv85 gq87_ kq89_ (i_rng (lo := 0) (hi := 200) rfl (by omega) (by omega)) (i_rng (lo := 0) (hi := 1) rfl (by omega) (by omega)) (i_rng (lo := 1) (hi := 160000) rfl (by omega) (by omega)) (i_rng (lo := 0) (hi := 3) rfl (by omega) (by omega)) (i_rng (lo := (-2147483648)) (hi := 1000000000) l_1000000000 (by omega) (by omega)) (i_rng (lo := 0) (hi := 160000) l_0 (by omega) (by omega)) (by have e4 : ((1000000000 : Int32)).toInt = _ := l_1000000000; have e5 : ((0 : Int32)).toInt = _ := l_0; omega)
    · refine T_qg rfl (by omega) (by omega) ?_
      have hq94_ := r_105 hG a6.toNatClampNeg
      refine T_qc (t_X12_leastPrice hn a1 (M 105 a6.toNatClampNeg) M hG (i_rng (lo := 0) (hi := 7) rfl (by omega) (by omega)) (i_rng (lo := 0) (hi := 11) rfl (by omega) (by omega))) ?_
      rintro rv92 mv93 ⟨hq95_, gq96_, kq97_⟩
      have kq98_ := Sm.call hS kq97_ rfl
      have hq99_ := (fun h_ => KO_c (kq97_ 77 43 (by decide)) (funext (fun s_ => kq97_ 105 s_ (outc rfl))) h_) wKO
      have hq100_ : (mv93 77 43).toInt = (M 77 43).toInt := by rw [kq97_ 77 43 (by decide)]
      refine T_qg rfl (by omega) (by omega) ?_
      refine T_mu gq96_ kq98_ (rn_109 _ _) (nw_109 _) (i := 2) rfl ⟨by decide, by decide, Or.inl rfl⟩ ?_
      intro mv101 hq102_ gq103_ kq104_
      have hq105_ := (fun h_ => KO_c (M := mv93) (M' := mv101) (by rw [hq102_, mu_ne (Or.inl (by decide))]) (by rw [hq102_, mu_nc (by decide)]) h_) hq99_
      have hq106_ : (mv101 77 43).toInt = (mv93 77 43).toInt := by rw [hq102_, mu_ne (Or.inl (by decide))]
      have hq107_ : (mv101 109 a6.toNatClampNeg).toInt = rv92.toInt := by rw [hq102_, mu_at]
      refine T_ql (i_add rfl l_1 (by omega) (by omega)) ?_
      intro xv108 hq109_
      exact ih a1 a3 a4 a5 xv108 mv101 gq103_ kq104_ (i_rng (lo := 0) (hi := 7) rfl (by omega) (by omega)) (i_rng (lo := 0) (hi := 11) rfl (by omega) (by omega)) (i_rng (lo := 0) (hi := 200) rfl (by omega) (by omega)) (i_rng (lo := 0) (hi := 1) rfl (by omega) (by omega)) (i_rng (lo := 0) (hi := 4) rfl (by omega) (by omega)) (by omega) hq105_ (by omega)
theorem t_X12_cheapest {n : Nat} (hn : 200000 ≤ n) (a1 a2 a3 a4 a5 : Int32) (M : qM) (hG : G M) : qT (f_X12_cheapest n a1 a2 a3 a4 a5 M) (po_X12_cheapest a1 a2 a3 a4 a5 M) := by
  have hS : Sm l_X12_cheapest M M := Sm.rf
  unfold f_X12_cheapest
  refine T_qc (t_X12_areSome hn a1 a2 a3 M hG ) ?_
  rintro rv110 mv111 ⟨hq112_, hq113_, gq114_, kq115_⟩
  have hq116_ := kq115_.nil
  subst hq116_
  refine T_eq rfl l_0 (fun hq117_ => ?_) (fun hq117_ => ?_)
  · exact T_ret ⟨hG, hS⟩
  · have hq120_ := (show ((0 : Int32)).toInt = _ from l_0)
    have hq121_ := (show ((200 : Int32)).toInt = _ from l_200)
    refine T_qc (t_X12_in hn a4 (0 : Int32) (200 : Int32) M hG (i_rng (lo := 0) (hi := 70) l_0 (by omega) (by omega)) (i_rng (lo := 0) (hi := 99999) l_200 (by omega) (by omega))) ?_
    rintro rv118 mv119 ⟨hq122_, hq123_, gq124_, kq125_⟩
    have hq126_ := kq125_.nil
    subst hq126_
    refine T_eq rfl l_0 (fun hq127_ => ?_) (fun hq127_ => ?_)
    · exact T_ret ⟨hG, hS⟩
    · have hq130_ := (show ((1 : Int32)).toInt = _ from l_1)
      refine T_qc (t_X12_in hn a5 (0 : Int32) (1 : Int32) M hG (i_rng (lo := 0) (hi := 70) l_0 (by omega) (by omega)) (i_rng (lo := 0) (hi := 99999) l_1 (by omega) (by omega))) ?_
      rintro rv128 mv129 ⟨hq131_, hq132_, gq133_, kq134_⟩
      have hq135_ := kq134_.nil
      subst hq135_
      refine T_eq rfl l_0 (fun hq136_ => ?_) (fun hq136_ => ?_)
      · exact T_ret ⟨hG, hS⟩
      · refine T_qc (t_X12_laysOwn hn a1 a2 M hG (i_rng (lo := 0) (hi := 7) rfl (by omega) (by omega)) (by omega)) ?_
        rintro rv137 mv138 ⟨hq139_, hq140_, gq141_, kq142_⟩
        have kq143_ := Sm.call hS kq142_ rfl
        exact (t_X12_cheapest_43 hn) n a1 a3 a4 a5 (0 : Int32) mv138 gq141_ kq143_ (i_rng (lo := 0) (hi := 7) rfl (by omega) (by omega)) (i_rng (lo := 0) (hi := 11) rfl (by omega) (by omega)) (i_rng (lo := 0) (hi := 200) rfl (by omega) (by omega)) (i_rng (lo := 0) (hi := 1) rfl (by omega) (by omega)) (i_rng (lo := 0) (hi := 4) l_0 (by omega) (by omega)) (by have e4 : ((0 : Int32)).toInt = _ := l_0; omega) hq140_ (by have e4 : ((0 : Int32)).toInt = _ := l_0; omega)
abbrev l_X1_isLoophole : List Bx := [(34, 35, 4, 5), (35, 37, 0, 0)]
abbrev po_X1_isLoophole (a1 a2 a3 a4 : Int32) (M : qM) (v : Int32) (M' : qM) : Prop := (0 ≤ v.toInt ∧ v.toInt ≤ 1) ∧ G M' ∧ Sm l_X1_isLoophole M M'
theorem t_X1_isLoophole_13 {n : Nat} (hn : 200000 ≤ n) {j : Nat} (hj : q_isLaw j) {oa1 oa2 oa3 oa4 : Int32} {M0 : qM} : ∀ (m : Nat) (a2 a3 a5 : Int32) (M : qM), G M → Sm l_X1_isLoophole M0 M → 0 ≤ a5.toInt ∧ a5.toInt ≤ 12 → 12 - a5.toInt < (m : Int) → qT (f_X1_isLoophole_13 n j m a2 a3 a5 M) (po_X1_isLoophole oa1 oa2 oa3 oa4 M0) := by
  intro m
  induction m with
  | zero =>
    intro a2 a3 a5 M hG hS i0 i3
    exfalso; omega
  | succ m ih =>
    intro a2 a3 a5 M hG hS i0 i3
    show qT (b_X1_isLoophole_13 n j (f_X1_isLoophole_13 n j m) a2 a3 a5 M) _
    unfold b_X1_isLoophole_13
    refine T_le l_12 rfl (fun hq6_ => ?_) (fun hq6_ => ?_)
    · exact T_ret ⟨(i_rng (lo := 0) (hi := 1) l_1 (by omega) (by omega)), hG, hS⟩
    · have hq7_ := i_shl1 (c := 11) (k := a5) (by decide) rfl (by omega) (by omega)
      refine T_ql rfl ?_
      intro xv8 hq9_
      have hq10_ := i_and (a := a2) (b := xv8) rfl (by omega)
      refine T_eq rfl l_0 (fun hq11_ => ?_) (fun hq11_ => ?_)
      · unfold f_X1_isLoophole_42
        have hq12_ := i_and (a := a3) (b := xv8) rfl (by omega)
        refine T_eq rfl l_0 (fun hq13_ => ?_) (fun hq13_ => ?_)
        · refine T_ql (i_add rfl l_1 (by omega) (by omega)) ?_
          intro xv14 hq15_
          exact ih a2 a3 xv14 M hG hS (i_rng (lo := 0) (hi := 12) rfl (by omega) (by omega)) (by omega)
        · refine T_qc (t_X1_isAlike hn hj a5 M hG (i_rng (lo := 0) (hi := 11) rfl (by omega) (by omega))) ?_
          rintro rv16 mv17 ⟨hq18_, gq19_, kq20_⟩
          have kq21_ := Sm.call hS kq20_ rfl
          refine T_eq rfl l_0 (fun hq22_ => ?_) (fun hq22_ => ?_)
          · refine T_ql (i_add rfl l_1 (by omega) (by omega)) ?_
            intro xv23 hq24_
            exact ih a2 a3 xv23 mv17 gq19_ kq21_ (i_rng (lo := 0) (hi := 12) rfl (by omega) (by omega)) (by omega)
          · exact T_ret ⟨(i_rng (lo := 0) (hi := 1) l_0 (by omega) (by omega)), gq19_, kq21_⟩
      · refine T_qc (t_X1_isAlike hn hj a5 M hG (i_rng (lo := 0) (hi := 11) rfl (by omega) (by omega))) ?_
        rintro rv25 mv26 ⟨hq27_, gq28_, kq29_⟩
        have kq30_ := Sm.call hS kq29_ rfl
        refine T_eq rfl l_0 (fun hq31_ => ?_) (fun hq31_ => ?_)
        · exact T_ret ⟨(i_rng (lo := 0) (hi := 1) l_0 (by omega) (by omega)), gq28_, kq30_⟩
        · unfold f_X1_isLoophole_42
          have hq32_ := i_and (a := a3) (b := xv8) rfl (by omega)
          refine T_eq rfl l_0 (fun hq33_ => ?_) (fun hq33_ => ?_)
          · refine T_ql (i_add rfl l_1 (by omega) (by omega)) ?_
            intro xv34 hq35_
            exact ih a2 a3 xv34 mv26 gq28_ kq30_ (i_rng (lo := 0) (hi := 12) rfl (by omega) (by omega)) (by omega)
          · refine T_qc (t_X1_isAlike hn hj a5 mv26 gq28_ (i_rng (lo := 0) (hi := 11) rfl (by omega) (by omega))) ?_
            rintro rv36 mv37 ⟨hq38_, gq39_, kq40_⟩
            have kq41_ := Sm.call kq30_ kq40_ rfl
            refine T_eq rfl l_0 (fun hq42_ => ?_) (fun hq42_ => ?_)
            · refine T_ql (i_add rfl l_1 (by omega) (by omega)) ?_
              intro xv43 hq44_
              exact ih a2 a3 xv43 mv37 gq39_ kq41_ (i_rng (lo := 0) (hi := 12) rfl (by omega) (by omega)) (by omega)
            · exact T_ret ⟨(i_rng (lo := 0) (hi := 1) l_0 (by omega) (by omega)), gq39_, kq41_⟩
theorem t_X1_isLoophole {n : Nat} (hn : 200000 ≤ n) {j : Nat} (hj : q_isLaw j) (a1 a2 a3 a4 : Int32) (M : qM) (hG : G M) (pa1 : 0 ≤ a1.toInt ∧ a1.toInt ≤ 255) : qT (f_X1_isLoophole n j a1 a2 a3 a4 M) (po_X1_isLoophole a1 a2 a3 a4 M) := by
  have hS : Sm l_X1_isLoophole M M := Sm.rf
  unfold f_X1_isLoophole
  refine T_qc (t_X1_tellDeed hn (12 : Int32) (1 : Int32) a1 a4 M hG (i_rng (lo := 0) (hi := 12) l_12 (by omega) (by omega))) ?_
  rintro rv45 mv46 ⟨hq47_, gq48_, kq49_⟩
  have kq50_ := Sm.call hS kq49_ rfl
  exact (t_X1_isLoophole_13 hn hj) n a2 a3 (0 : Int32) mv46 gq48_ kq50_ (i_rng (lo := 0) (hi := 12) l_0 (by omega) (by omega)) (by have e2 : ((0 : Int32)).toInt = _ := l_0; omega)
abbrev l_X11_loophole : List Bx := [(34, 35, 4, 5), (35, 37, 0, 0)]
abbrev po_X11_loophole (a1 a2 a3 : Int32) (M : qM) (v : Int32) (M' : qM) : Prop := G M' ∧ Sm l_X11_loophole M M'
theorem t_X11_loophole_49 {n : Nat} (hn : 200000 ≤ n) {j : Nat} (hj : q_isLaw j) {oa1 oa2 oa3 : Int32} {M0 : qM} : ∀ (m : Nat) (a1 a2 a3 a4 a5 a6 : Int32) (M : qM), G M → Sm l_X11_loophole M0 M → 0 ≤ a3.toInt ∧ a3.toInt ≤ 1 → (-2) ≤ a4.toInt ∧ a4.toInt ≤ 255 → 0 ≤ a6.toInt ∧ a6.toInt ≤ 256 → 256 - a6.toInt < (m : Int) → qT (f_X11_loophole_49 n j m a1 a2 a3 a4 a5 a6 M) (po_X11_loophole oa1 oa2 oa3 M0) := by
  intro m
  induction m with
  | zero =>
    intro a1 a2 a3 a4 a5 a6 M hG hS i0 i1 i2 i5
    exfalso; omega
  | succ m ih =>
    intro a1 a2 a3 a4 a5 a6 M hG hS i0 i1 i2 i5
    show qT (b_X11_loophole_49 n j (f_X11_loophole_49 n j m) a1 a2 a3 a4 a5 a6 M) _
    unfold b_X11_loophole_49
    refine T_lt l_255 rfl (fun hq6_ => ?_) (fun hq6_ => ?_)
    · refine T_eq rfl l_0 (fun hq7_ => ?_) (fun hq7_ => ?_)
      · exact T_ret ⟨hG, hS⟩
      · exact T_ret ⟨hG, hS⟩
    · refine T_qc (t_X1_isLoophole hn hj a6 a1 a2 (M 7 9) M hG (i_rng (lo := 0) (hi := 255) rfl (by omega) (by omega))) ?_
      rintro rv8 mv9 ⟨hq10_, gq11_, kq12_⟩
      have kq13_ := Sm.call hS kq12_ rfl
      refine T_eq rfl l_0 (fun hq14_ => ?_) (fun hq14_ => ?_)
      · refine T_ql (i_add rfl l_1 (by omega) (by omega)) ?_
        intro xv15 hq16_
        exact ih a1 a2 a3 a4 a5 xv15 mv9 gq11_ kq13_ (i_rng (lo := 0) (hi := 1) rfl (by omega) (by omega)) (i_rng (lo := (-2)) (hi := 255) rfl (by omega) (by omega)) (i_rng (lo := 0) (hi := 256) rfl (by omega) (by omega)) (by omega)
      · have hq17_ := i_full (a5)
        refine T_ql rfl ?_
        intro xv18 hq19_
        refine T_eq rfl l_m2 (fun hq20_ => ?_) (fun hq20_ => ?_)
        · unfold f_X11_loophole_101
          refine T_ql (i_add rfl l_1 (by omega) (by omega)) ?_
          intro xv21 hq22_
          exact ih a1 a2 a3 a6 xv18 xv21 mv9 gq11_ kq13_ (i_rng (lo := 0) (hi := 1) rfl (by omega) (by omega)) (i_rng (lo := (-2)) (hi := 255) rfl (by omega) (by omega)) (i_rng (lo := 0) (hi := 256) rfl (by omega) (by omega)) (by omega)
        · refine T_qc (t_J6_bitCount_0f7a4 hn a6 mv9 gq11_ ) ?_
          rintro rv23 mv24 ⟨hq25_, gq26_, kq27_⟩
          have hq28_ := kq27_.nil
          subst hq28_
          refine T_qc (t_J6_bitCount_0f7a4 hn a4 mv9 gq11_ ) ?_
          rintro rv29 mv30 ⟨hq31_, gq32_, kq33_⟩
          have hq34_ := kq33_.nil
          subst hq34_
          refine T_le rfl rfl (fun hq35_ => ?_) (fun hq35_ => ?_)
          · refine T_ql (i_add rfl l_1 (by omega) (by omega)) ?_
            intro xv36 hq37_
            exact ih a1 a2 a3 a4 xv18 xv36 mv9 gq11_ kq13_ (i_rng (lo := 0) (hi := 1) rfl (by omega) (by omega)) (i_rng (lo := (-2)) (hi := 255) rfl (by omega) (by omega)) (i_rng (lo := 0) (hi := 256) rfl (by omega) (by omega)) (by omega)
          · unfold f_X11_loophole_101
            refine T_ql (i_add rfl l_1 (by omega) (by omega)) ?_
            intro xv38 hq39_
            exact ih a1 a2 a3 a6 xv18 xv38 mv9 gq11_ kq13_ (i_rng (lo := 0) (hi := 1) rfl (by omega) (by omega)) (i_rng (lo := (-2)) (hi := 255) rfl (by omega) (by omega)) (i_rng (lo := 0) (hi := 256) rfl (by omega) (by omega)) (by omega)
theorem t_X11_loophole {n : Nat} (hn : 200000 ≤ n) {j : Nat} (hj : q_isLaw j) (a1 a2 a3 : Int32) (M : qM) (hG : G M) : qT (f_X11_loophole n j a1 a2 a3 M) (po_X11_loophole a1 a2 a3 M) := by
  have hS : Sm l_X11_loophole M M := Sm.rf
  unfold f_X11_loophole
  refine T_qc (t_X2_knowsAll hn a1 M hG ) ?_
  rintro rv40 mv41 ⟨hq42_, gq43_, kq44_⟩
  have hq45_ := kq44_.nil
  subst hq45_
  refine T_eq rfl l_0 (fun hq46_ => ?_) (fun hq46_ => ?_)
  · exact T_ret ⟨hG, hS⟩
  · refine T_qc (t_X2_knowsAll hn a2 M hG ) ?_
    rintro rv47 mv48 ⟨hq49_, gq50_, kq51_⟩
    have hq52_ := kq51_.nil
    subst hq52_
    refine T_eq rfl l_0 (fun hq53_ => ?_) (fun hq53_ => ?_)
    · exact T_ret ⟨hG, hS⟩
    · refine T_eq rfl l_0 (fun hq54_ => ?_) (fun hq54_ => ?_)
      · refine T_lt rfl l_0 (fun hq55_ => ?_) (fun hq55_ => ?_)
        · exact T_ret ⟨hG, hS⟩
        · refine T_le rfl l_1 (fun hq56_ => ?_) (fun hq56_ => ?_)
          · exact (t_X11_loophole_49 hn hj) n a1 a2 a3 (-2 : Int32) (0 : Int32) (0 : Int32) M hG hS (i_rng (lo := 0) (hi := 1) rfl (by omega) (by omega)) (i_rng (lo := (-2)) (hi := 255) l_m2 (by omega) (by omega)) (i_rng (lo := 0) (hi := 256) l_0 (by omega) (by omega)) (by have e3 : ((-2 : Int32)).toInt = _ := l_m2; have e4 : ((0 : Int32)).toInt = _ := l_0; have e5 : ((0 : Int32)).toInt = _ := l_0; omega)
          · exact T_ret ⟨hG, hS⟩
      · exact T_ret ⟨hG, hS⟩
abbrev l_X12_finds : List Bx := [(96, 98, 0, 0)]
abbrev po_X12_finds (a1 a2 : Int32) (M : qM) (v : Int32) (M' : qM) : Prop := (0 ≤ v.toInt ∧ v.toInt ≤ 1) ∧ G M' ∧ Sm l_X12_finds M M'
theorem t_X12_finds_2 {n : Nat} (hn : 200000 ≤ n) {oa1 oa2 : Int32} {M0 : qM} : ∀ (m : Nat) (a1 a2 a3 : Int32) (M : qM), G M → Sm l_X12_finds M0 M → 0 ≤ a1.toInt ∧ a1.toInt ≤ 2147483647 → 0 ≤ a2.toInt ∧ a2.toInt ≤ 2147483647 → 0 ≤ a3.toInt ∧ a3.toInt ≤ 12 → 12 - a3.toInt < (m : Int) → qT (f_X12_finds_2 n m a1 a2 a3 M) (po_X12_finds oa1 oa2 M0) := by
  intro m
  induction m with
  | zero =>
    intro a1 a2 a3 M hG hS i0 i1 i2 i5
    exfalso; omega
  | succ m ih =>
    intro a1 a2 a3 M hG hS i0 i1 i2 i5
    show qT (b_X12_finds_2 n (f_X12_finds_2 n m) a1 a2 a3 M) _
    unfold b_X12_finds_2
    refine T_le l_12 rfl (fun hq5_ => ?_) (fun hq5_ => ?_)
    · exact T_ret ⟨(i_rng (lo := 0) (hi := 1) l_1 (by omega) (by omega)), hG, hS⟩
    · refine T_qc (t_X12_has0 hn a1 a3 M hG (i_rng (lo := 0) (hi := 11) rfl (by omega) (by omega))) ?_
      rintro rv6 mv7 ⟨hq8_, hq9_, gq10_, kq11_⟩
      have hq12_ := kq11_.nil
      subst hq12_
      refine T_eq rfl l_0 (fun hq13_ => ?_) (fun hq13_ => ?_)
      · unfold f_X12_finds_28
        refine T_qc (t_X12_has0 hn a2 a3 M hG (i_rng (lo := 0) (hi := 11) rfl (by omega) (by omega))) ?_
        rintro rv14 mv15 ⟨hq16_, hq17_, gq18_, kq19_⟩
        have hq20_ := kq19_.nil
        subst hq20_
        refine T_eq rfl l_0 (fun hq21_ => ?_) (fun hq21_ => ?_)
        · refine T_ql (i_add rfl l_1 (by omega) (by omega)) ?_
          intro xv22 hq23_
          have hq24_ := i_full (a1)
          have hq25_ := i_full (a2)
          exact ih a1 a2 xv22 M hG hS (i_rng (lo := 0) (hi := 2147483647) rfl (by omega) (by omega)) (i_rng (lo := 0) (hi := 2147483647) rfl (by omega) (by omega)) (i_rng (lo := 0) (hi := 12) rfl (by omega) (by omega)) (by omega)
        · refine T_qc (t_X12_isLike hn (12 : Int32) a3 M hG (i_rng (lo := 0) (hi := 12) l_12 (by omega) (by omega)) (i_rng (lo := 0) (hi := 11) rfl (by omega) (by omega))) ?_
          rintro rv26 mv27 ⟨hq28_, gq29_, kq30_⟩
          have kq31_ := Sm.call hS kq30_ rfl
          refine T_eq rfl l_0 (fun hq32_ => ?_) (fun hq32_ => ?_)
          · refine T_ql (i_add rfl l_1 (by omega) (by omega)) ?_
            intro xv33 hq34_
            have hq35_ := i_full (a1)
            have hq36_ := i_full (a2)
            exact ih a1 a2 xv33 mv27 gq29_ kq31_ (i_rng (lo := 0) (hi := 2147483647) rfl (by omega) (by omega)) (i_rng (lo := 0) (hi := 2147483647) rfl (by omega) (by omega)) (i_rng (lo := 0) (hi := 12) rfl (by omega) (by omega)) (by omega)
          · exact T_ret ⟨(i_rng (lo := 0) (hi := 1) l_0 (by omega) (by omega)), gq29_, kq31_⟩
      · refine T_qc (t_X12_isLike hn (12 : Int32) a3 M hG (i_rng (lo := 0) (hi := 12) l_12 (by omega) (by omega)) (i_rng (lo := 0) (hi := 11) rfl (by omega) (by omega))) ?_
        rintro rv37 mv38 ⟨hq39_, gq40_, kq41_⟩
        have kq42_ := Sm.call hS kq41_ rfl
        refine T_eq rfl l_0 (fun hq43_ => ?_) (fun hq43_ => ?_)
        · exact T_ret ⟨(i_rng (lo := 0) (hi := 1) l_0 (by omega) (by omega)), gq40_, kq42_⟩
        · unfold f_X12_finds_28
          refine T_qc (t_X12_has0 hn a2 a3 mv38 gq40_ (i_rng (lo := 0) (hi := 11) rfl (by omega) (by omega))) ?_
          rintro rv44 mv45 ⟨hq46_, hq47_, gq48_, kq49_⟩
          have hq50_ := kq49_.nil
          subst hq50_
          refine T_eq rfl l_0 (fun hq51_ => ?_) (fun hq51_ => ?_)
          · refine T_ql (i_add rfl l_1 (by omega) (by omega)) ?_
            intro xv52 hq53_
            have hq54_ := i_full (a1)
            have hq55_ := i_full (a2)
            exact ih a1 a2 xv52 mv38 gq40_ kq42_ (i_rng (lo := 0) (hi := 2147483647) rfl (by omega) (by omega)) (i_rng (lo := 0) (hi := 2147483647) rfl (by omega) (by omega)) (i_rng (lo := 0) (hi := 12) rfl (by omega) (by omega)) (by omega)
          · refine T_qc (t_X12_isLike hn (12 : Int32) a3 mv38 gq40_ (i_rng (lo := 0) (hi := 12) l_12 (by omega) (by omega)) (i_rng (lo := 0) (hi := 11) rfl (by omega) (by omega))) ?_
            rintro rv56 mv57 ⟨hq58_, gq59_, kq60_⟩
            have kq61_ := Sm.call kq42_ kq60_ rfl
            refine T_eq rfl l_0 (fun hq62_ => ?_) (fun hq62_ => ?_)
            · refine T_ql (i_add rfl l_1 (by omega) (by omega)) ?_
              intro xv63 hq64_
              have hq65_ := i_full (a1)
              have hq66_ := i_full (a2)
              exact ih a1 a2 xv63 mv57 gq59_ kq61_ (i_rng (lo := 0) (hi := 2147483647) rfl (by omega) (by omega)) (i_rng (lo := 0) (hi := 2147483647) rfl (by omega) (by omega)) (i_rng (lo := 0) (hi := 12) rfl (by omega) (by omega)) (by omega)
            · exact T_ret ⟨(i_rng (lo := 0) (hi := 1) l_0 (by omega) (by omega)), gq59_, kq61_⟩
theorem t_X12_finds {n : Nat} (hn : 200000 ≤ n) (a1 a2 : Int32) (M : qM) (hG : G M) (pa1 : 0 ≤ a1.toInt ∧ a1.toInt ≤ 2147483647) (pa2 : 0 ≤ a2.toInt ∧ a2.toInt ≤ 2147483647) : qT (f_X12_finds n a1 a2 M) (po_X12_finds a1 a2 M) := by
  have hS : Sm l_X12_finds M M := Sm.rf
  unfold f_X12_finds
  have hq67_ := i_full (a1)
  have hq68_ := i_full (a2)
  exact (t_X12_finds_2 hn) n a1 a2 (0 : Int32) M hG hS (i_rng (lo := 0) (hi := 2147483647) rfl (by omega) (by omega)) (i_rng (lo := 0) (hi := 2147483647) rfl (by omega) (by omega)) (i_rng (lo := 0) (hi := 12) l_0 (by omega) (by omega)) (by have e2 : ((0 : Int32)).toInt = _ := l_0; omega)
