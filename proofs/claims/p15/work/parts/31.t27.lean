abbrev l_X12_hoursNow : List Bx := []
abbrev po_X12_hoursNow (M : qM) (v : Int32) (M' : qM) : Prop := G M' ∧ Sm l_X12_hoursNow M M'
theorem t_X12_hoursNow_4 {n : Nat} (hn : 200000 ≤ n) {M0 : qM} : ∀ (m : Nat) (a1 a2 : Int32) (M : qM), G M → Sm l_X12_hoursNow M0 M → 0 ≤ a2.toInt ∧ a2.toInt ≤ 4 → 4 - a2.toInt < (m : Int) → qT (f_X12_hoursNow_4 n m a1 a2 M) (po_X12_hoursNow  M0) := by
  intro m
  induction m with
  | zero =>
    intro a1 a2 M hG hS i0 i3
    exfalso; omega
  | succ m ih =>
    intro a1 a2 M hG hS i0 i3
    show qT (b_X12_hoursNow_4 n (f_X12_hoursNow_4 n m) a1 a2 M) _
    unfold b_X12_hoursNow_4
    have hq3_ := r_77_43 hG
    refine T_le rfl rfl (fun hq4_ => ?_) (fun hq4_ => ?_)
    · exact T_ret ⟨hG, hS⟩
    · refine T_qg rfl (by omega) (by omega) ?_
      have hq5_ := r_108 hG a2.toNatClampNeg
      refine T_qg rfl (by omega) (by omega) ?_
      refine T_qg rfl (by omega) (by omega) ?_
      have hq6_ := r_105 hG a2.toNatClampNeg
      refine T_qg rfl (by omega) (by omega) ?_
      have hq7_ := r_102 hG ((M 108 a2.toNatClampNeg).toNatClampNeg)
      have hq8_ := i_full (M 81 ((M 105 a2.toNatClampNeg).toNatClampNeg))
      have hq9_ := i_full (a1)
      have hq10_ := i_full ((M 102 ((M 108 a2.toNatClampNeg).toNatClampNeg)) * (M 81 ((M 105 a2.toNatClampNeg).toNatClampNeg)))
      refine T_ql rfl ?_
      intro xv11 hq12_
      refine T_ql (i_add rfl l_1 (by omega) (by omega)) ?_
      intro xv13 hq14_
      exact ih xv11 xv13 M hG hS (i_rng (lo := 0) (hi := 4) rfl (by omega) (by omega)) (by omega)
theorem t_X12_hoursNow {n : Nat} (hn : 200000 ≤ n) (M : qM) (hG : G M) : qT (f_X12_hoursNow n  M) (po_X12_hoursNow  M) := by
  have hS : Sm l_X12_hoursNow M M := Sm.rf
  unfold f_X12_hoursNow
  exact (t_X12_hoursNow_4 hn) n (0 : Int32) (0 : Int32) M hG hS (i_rng (lo := 0) (hi := 4) l_0 (by omega) (by omega)) (by have e0 : ((0 : Int32)).toInt = _ := l_0; have e1 : ((0 : Int32)).toInt = _ := l_0; omega)
abbrev l_X12_madeNow : List Bx := []
abbrev po_X12_madeNow (M : qM) (v : Int32) (M' : qM) : Prop := G M' ∧ Sm l_X12_madeNow M M'
theorem t_X12_madeNow_4 {n : Nat} (hn : 200000 ≤ n) {M0 : qM} : ∀ (m : Nat) (a1 a2 : Int32) (M : qM), G M → Sm l_X12_madeNow M0 M → 0 ≤ a2.toInt ∧ a2.toInt ≤ 4 → 4 - a2.toInt < (m : Int) → qT (f_X12_madeNow_4 n m a1 a2 M) (po_X12_madeNow  M0) := by
  intro m
  induction m with
  | zero =>
    intro a1 a2 M hG hS i0 i3
    exfalso; omega
  | succ m ih =>
    intro a1 a2 M hG hS i0 i3
    show qT (b_X12_madeNow_4 n (f_X12_madeNow_4 n m) a1 a2 M) _
    unfold b_X12_madeNow_4
    have hq3_ := r_77_43 hG
    refine T_le rfl rfl (fun hq4_ => ?_) (fun hq4_ => ?_)
    · exact T_ret ⟨hG, hS⟩
    · refine T_qg rfl (by omega) (by omega) ?_
      have hq5_ := r_108 hG a2.toNatClampNeg
      refine T_qg rfl (by omega) (by omega) ?_
      have hq6_ := r_102 hG ((M 108 a2.toNatClampNeg).toNatClampNeg)
      have hq7_ := i_full (a1)
      refine T_ql rfl ?_
      intro xv8 hq9_
      refine T_ql (i_add rfl l_1 (by omega) (by omega)) ?_
      intro xv10 hq11_
      exact ih xv8 xv10 M hG hS (i_rng (lo := 0) (hi := 4) rfl (by omega) (by omega)) (by omega)
theorem t_X12_madeNow {n : Nat} (hn : 200000 ≤ n) (M : qM) (hG : G M) : qT (f_X12_madeNow n  M) (po_X12_madeNow  M) := by
  have hS : Sm l_X12_madeNow M M := Sm.rf
  unfold f_X12_madeNow
  exact (t_X12_madeNow_4 hn) n (0 : Int32) (0 : Int32) M hG hS (i_rng (lo := 0) (hi := 4) l_0 (by omega) (by omega)) (by have e0 : ((0 : Int32)).toInt = _ := l_0; have e1 : ((0 : Int32)).toInt = _ := l_0; omega)
abbrev l_X12_soonest : List Bx := [(77, 78, 43, 45), (96, 98, 0, 0), (105, 109, 0, 0), (110, 111, 0, 0)]
abbrev po_X12_soonest (a1 a2 a3 a4 a5 : Int32) (M : qM) (v : Int32) (M' : qM) : Prop := G M' ∧ Sm l_X12_soonest M M'
theorem t_X12_soonest_92 {n : Nat} (hn : 200000 ≤ n) {oa1 oa2 oa3 oa4 oa5 : Int32} {M0 : qM} : ∀ (m : Nat) (a4 a5 a6 a7 a8 a9 : Int32) (M : qM), G M → Sm l_X12_soonest M0 M → 0 ≤ a4.toInt ∧ a4.toInt ≤ 3 → 0 ≤ a5.toInt ∧ a5.toInt ≤ 1 → 1 ≤ a6.toInt ∧ a6.toInt ≤ 160000 → 0 ≤ a7.toInt ∧ a7.toInt ≤ 3 → (-2147483648) ≤ a8.toInt ∧ a8.toInt ≤ 1000000000 → 0 ≤ a9.toInt ∧ a9.toInt ≤ 160000 → 160000 - a9.toInt < (m : Int) → qT (f_X12_soonest_92 n m a4 a5 a6 a7 a8 a9 M) (po_X12_soonest oa1 oa2 oa3 oa4 oa5 M0) := by
  intro m
  induction m with
  | zero =>
    intro a4 a5 a6 a7 a8 a9 M hG hS i0 i1 i2 i3 i4 i5 i8
    exfalso; omega
  | succ m ih =>
    intro a4 a5 a6 a7 a8 a9 M hG hS i0 i1 i2 i3 i4 i5 i8
    show qT (b_X12_soonest_92 n (f_X12_soonest_92 n m) a4 a5 a6 a7 a8 a9 M) _
    unfold b_X12_soonest_92
    refine T_le rfl rfl (fun hq4_ => ?_) (fun hq4_ => ?_)
    · refine T_eq rfl l_1000000000 (fun hq5_ => ?_) (fun hq5_ => ?_)
      · exact T_ret ⟨hG, hS⟩
      · refine T_eq rfl l_0 (fun hq6_ => ?_) (fun hq6_ => ?_)
        · have hq7_ := i_full (a8)
          exact T_ret ⟨hG, hS⟩
        · have hq8_ := i_full (a8)
          have hq9_ := i_full (a8 / (16 : Int32))
          have hq10_ := i_full ((a8 / (16 : Int32)) * (16 : Int32))
          exact T_ret ⟨hG, hS⟩
    · refine T_qg rfl (by omega) (by omega) ?_
      have hq11_ := r_110 hG a9.toNatClampNeg
      refine T_eq rfl l_0 (fun hq12_ => ?_) (fun hq12_ => ?_)
      · refine T_ql (i_add rfl l_1 (by omega) (by omega)) ?_
        intro xv13 hq14_
        have hq15_ := i_full (a8)
        exact ih a4 a5 a6 a7 a8 xv13 M hG hS (i_rng (lo := 0) (hi := 3) rfl (by omega) (by omega)) (i_rng (lo := 0) (hi := 1) rfl (by omega) (by omega)) (i_rng (lo := 1) (hi := 160000) rfl (by omega) (by omega)) (i_rng (lo := 0) (hi := 3) rfl (by omega) (by omega)) (i_rng (lo := (-2147483648)) (hi := 1000000000) rfl (by omega) (by omega)) (i_rng (lo := 0) (hi := 160000) rfl (by omega) (by omega)) (by omega)
      · refine T_qc (t_X12_takesState hn a9 M hG (i_rng (lo := 0) (hi := 159999) rfl (by omega) (by omega))) ?_
        rintro rv16 mv17 ⟨hq18_, gq19_, kq20_⟩
        have kq21_ := Sm.call hS kq20_ rfl
        have hq22_ : (mv17 110 a9.toNatClampNeg).toInt = (M 110 a9.toNatClampNeg).toInt := by rw [kq20_ 110 _ (outc rfl)]
        refine T_qg rfl (by omega) (by omega) ?_
        have hq23_ := r_108 gq19_ a7.toNatClampNeg
        refine T_qg rfl (by omega) (by omega) ?_
        have hq24_ := r_104 gq19_ ((mv17 108 a7.toNatClampNeg).toNatClampNeg)
        refine T_le rfl l_0 (fun hq25_ => ?_) (fun hq25_ => ?_)
        · refine T_qc (t_X12_spreads hn a4 mv17 gq19_ (i_rng (lo := 0) (hi := 3) rfl (by omega) (by omega))) ?_
          rintro rv26 mv27 ⟨hq28_, gq29_, kq30_⟩
          have kq31_ := Sm.call kq21_ kq30_ rfl
          have hq32_ : (mv27 104 ((mv17 108 a7.toNatClampNeg).toNatClampNeg)).toInt = (mv17 104 ((mv17 108 a7.toNatClampNeg).toNatClampNeg)).toInt := by rw [kq30_ 104 _ (outc rfl)]
          refine T_ql (i_add rfl l_1 (by omega) (by omega)) ?_
          intro xv33 hq34_
          have hq35_ := i_full (a8)
          exact ih a4 a5 a6 a7 a8 xv33 mv27 gq29_ kq31_ (i_rng (lo := 0) (hi := 3) rfl (by omega) (by omega)) (i_rng (lo := 0) (hi := 1) rfl (by omega) (by omega)) (i_rng (lo := 1) (hi := 160000) rfl (by omega) (by omega)) (i_rng (lo := 0) (hi := 3) rfl (by omega) (by omega)) (i_rng (lo := (-2147483648)) (hi := 1000000000) rfl (by omega) (by omega)) (i_rng (lo := 0) (hi := 160000) rfl (by omega) (by omega)) (by omega)
        · refine T_qc (t_X12_hoursNow hn  mv17 gq19_ ) ?_
          rintro rv36 mv37 ⟨gq38_, kq39_⟩
          have hq40_ := kq39_.nil
          subst hq40_
          refine T_qc (t_X12_madeNow hn  mv17 gq19_ ) ?_
          rintro rv41 mv42 ⟨gq43_, kq44_⟩
          have hq45_ := kq44_.nil
          subst hq45_
          have hq48_ := i_full (a8)
          have hq49_ := i_full (rv36)
          have hq50_ := i_full ((16 : Int32) * rv36)
          have hq51_ := i_full (rv41)
          refine T_qc (t_X12_min hn a8 (((16 : Int32) * rv36) + rv41) mv17 gq19_ (i_rng (lo := (-2147483648)) (hi := 1000000000) rfl (by omega) (by omega))) ?_
          rintro rv46 mv47 ⟨hq52_, gq53_, kq54_⟩
          have hq55_ := kq54_.nil
          subst hq55_
          refine T_ql (i_add rfl l_1 (by omega) (by omega)) ?_
          intro xv56 hq57_
          have hq58_ := i_full (rv46)
          exact ih a4 a5 a6 a7 rv46 xv56 mv17 gq19_ kq21_ (i_rng (lo := 0) (hi := 3) rfl (by omega) (by omega)) (i_rng (lo := 0) (hi := 1) rfl (by omega) (by omega)) (i_rng (lo := 1) (hi := 160000) rfl (by omega) (by omega)) (i_rng (lo := 0) (hi := 3) rfl (by omega) (by omega)) (i_rng (lo := (-2147483648)) (hi := 1000000000) rfl (by omega) (by omega)) (i_rng (lo := 0) (hi := 160000) rfl (by omega) (by omega)) (by omega)
theorem t_X12_soonest_59 {n : Nat} (hn : 200000 ≤ n) {oa1 oa2 oa3 oa4 oa5 : Int32} {M0 : qM} : ∀ (m : Nat) (a4 a5 a6 a7 a8 a9 : Int32) (M : qM), G M → Sm l_X12_soonest M0 M → 0 ≤ a4.toInt ∧ a4.toInt ≤ 3 → 0 ≤ a5.toInt ∧ a5.toInt ≤ 1 → 1 ≤ a6.toInt ∧ a6.toInt ≤ 160000 → 0 ≤ a7.toInt ∧ a7.toInt ≤ 3 → 1000000000 ≤ a8.toInt ∧ a8.toInt ≤ 1000000000 → 0 ≤ a9.toInt ∧ a9.toInt ≤ 160000 → 160000 - a9.toInt < (m : Int) → qT (f_X12_soonest_59 n m a4 a5 a6 a7 a8 a9 M) (po_X12_soonest oa1 oa2 oa3 oa4 oa5 M0) := by
  intro m
  induction m with
  | zero =>
    intro a4 a5 a6 a7 a8 a9 M hG hS i0 i1 i2 i3 i4 i5 i8
    exfalso; omega
  | succ m ih =>
    intro a4 a5 a6 a7 a8 a9 M hG hS i0 i1 i2 i3 i4 i5 i8
    show qT (b_X12_soonest_59 n (f_X12_soonest_59 n m) a4 a5 a6 a7 a8 a9 M) _
    unfold b_X12_soonest_59
    refine T_le rfl rfl (fun hq61_ => ?_) (fun hq61_ => ?_)
    · have hq62_ := i_full (a8)
      exact (t_X12_soonest_92 hn) n a4 a5 a6 a7 a8 (0 : Int32) M hG hS (i_rng (lo := 0) (hi := 3) rfl (by omega) (by omega)) (i_rng (lo := 0) (hi := 1) rfl (by omega) (by omega)) (i_rng (lo := 1) (hi := 160000) rfl (by omega) (by omega)) (i_rng (lo := 0) (hi := 3) rfl (by omega) (by omega)) (i_rng (lo := (-2147483648)) (hi := 1000000000) rfl (by omega) (by omega)) (i_rng (lo := 0) (hi := 160000) l_0 (by omega) (by omega)) (by have e5 : ((0 : Int32)).toInt = _ := l_0; omega)
    · refine T_eq rfl l_0 (fun hq63_ => ?_) (fun hq63_ => ?_)
      · refine T_qg rfl (by omega) (by omega) ?_
        have hq65_ := i_bool (1 : Int32)
        refine T_mu hG hS (i_rng (lo := 0) (hi := 1) rfl (by omega) (by omega)) (nw_110 _) (i := 3) rfl ⟨by decide, by decide, Or.inl rfl⟩ ?_
        intro mv64 hq66_ gq67_ kq68_
        have hq69_ : (mv64 110 a9.toNatClampNeg).toInt = (vp_nar .boolean (1 : Int32)).toInt := by rw [hq66_, mu_at]
        refine T_ql (i_add rfl l_1 (by omega) (by omega)) ?_
        intro xv70 hq71_
        exact ih a4 a5 a6 a7 a8 xv70 mv64 gq67_ kq68_ (i_rng (lo := 0) (hi := 3) rfl (by omega) (by omega)) (i_rng (lo := 0) (hi := 1) rfl (by omega) (by omega)) (i_rng (lo := 1) (hi := 160000) rfl (by omega) (by omega)) (i_rng (lo := 0) (hi := 3) rfl (by omega) (by omega)) (i_rng (lo := 1000000000) (hi := 1000000000) rfl (by omega) (by omega)) (i_rng (lo := 0) (hi := 160000) rfl (by omega) (by omega)) (by omega)
      · refine T_qg rfl (by omega) (by omega) ?_
        have hq73_ := i_bool (0 : Int32)
        refine T_mu hG hS (i_rng (lo := 0) (hi := 1) rfl (by omega) (by omega)) (nw_110 _) (i := 3) rfl ⟨by decide, by decide, Or.inl rfl⟩ ?_
        intro mv72 hq74_ gq75_ kq76_
        have hq77_ : (mv72 110 a9.toNatClampNeg).toInt = (vp_nar .boolean (0 : Int32)).toInt := by rw [hq74_, mu_at]
        refine T_ql (i_add rfl l_1 (by omega) (by omega)) ?_
        intro xv78 hq79_
        exact ih a4 a5 a6 a7 a8 xv78 mv72 gq75_ kq76_ (i_rng (lo := 0) (hi := 3) rfl (by omega) (by omega)) (i_rng (lo := 0) (hi := 1) rfl (by omega) (by omega)) (i_rng (lo := 1) (hi := 160000) rfl (by omega) (by omega)) (i_rng (lo := 0) (hi := 3) rfl (by omega) (by omega)) (i_rng (lo := 1000000000) (hi := 1000000000) rfl (by omega) (by omega)) (i_rng (lo := 0) (hi := 160000) rfl (by omega) (by omega)) (by omega)
theorem t_X12_soonest {n : Nat} (hn : 200000 ≤ n) (a1 a2 a3 a4 a5 : Int32) (M : qM) (hG : G M) : qT (f_X12_soonest n a1 a2 a3 a4 a5 M) (po_X12_soonest a1 a2 a3 a4 a5 M) := by
  have hS : Sm l_X12_soonest M M := Sm.rf
  unfold f_X12_soonest
  refine T_qc (t_X12_areSome hn a1 a2 a3 M hG ) ?_
  rintro rv80 mv81 ⟨hq82_, hq83_, gq84_, kq85_⟩
  have hq86_ := kq85_.nil
  subst hq86_
  refine T_eq rfl l_0 (fun hq87_ => ?_) (fun hq87_ => ?_)
  · exact T_ret ⟨hG, hS⟩
  · have hq90_ := (show ((0 : Int32)).toInt = _ from l_0)
    have hq91_ := (show ((3 : Int32)).toInt = _ from l_3)
    refine T_qc (t_X12_in hn a4 (0 : Int32) (3 : Int32) M hG (i_rng (lo := 0) (hi := 70) l_0 (by omega) (by omega)) (i_rng (lo := 0) (hi := 99999) l_3 (by omega) (by omega))) ?_
    rintro rv88 mv89 ⟨hq92_, hq93_, gq94_, kq95_⟩
    have hq96_ := kq95_.nil
    subst hq96_
    refine T_eq rfl l_0 (fun hq97_ => ?_) (fun hq97_ => ?_)
    · exact T_ret ⟨hG, hS⟩
    · have hq100_ := (show ((1 : Int32)).toInt = _ from l_1)
      refine T_qc (t_X12_in hn a5 (0 : Int32) (1 : Int32) M hG (i_rng (lo := 0) (hi := 70) l_0 (by omega) (by omega)) (i_rng (lo := 0) (hi := 99999) l_1 (by omega) (by omega))) ?_
      rintro rv98 mv99 ⟨hq101_, hq102_, gq103_, kq104_⟩
      have hq105_ := kq104_.nil
      subst hq105_
      refine T_eq rfl l_0 (fun hq106_ => ?_) (fun hq106_ => ?_)
      · exact T_ret ⟨hG, hS⟩
      · refine T_qc (t_X12_laysOwn hn a1 a2 M hG (i_rng (lo := 0) (hi := 7) rfl (by omega) (by omega)) (by omega)) ?_
        rintro rv107 mv108 ⟨hq109_, hq110_, gq111_, kq112_⟩
        have kq113_ := Sm.call hS kq112_ rfl
        refine T_qc (t_X12_statesAll hn  mv108 gq111_ ) ?_
        rintro rv114 mv115 ⟨hq116_, gq117_, kq118_⟩
        have hq119_ := kq118_.nil
        subst hq119_
        refine T_qc (t_X12_placeOf hn a3 mv108 gq111_ (i_rng (lo := 0) (hi := 11) rfl (by omega) (by omega)) (hq110_ a3 (by omega) (by omega) (by omega))) ?_
        rintro rv120 mv121 ⟨hq122_, gq123_, kq124_⟩
        have hq125_ := kq124_.nil
        subst hq125_
        exact (t_X12_soonest_59 hn) n a4 a5 rv114 rv120 (1000000000 : Int32) (0 : Int32) mv108 gq111_ kq113_ (i_rng (lo := 0) (hi := 3) rfl (by omega) (by omega)) (i_rng (lo := 0) (hi := 1) rfl (by omega) (by omega)) (i_rng (lo := 1) (hi := 160000) rfl (by omega) (by omega)) (i_rng (lo := 0) (hi := 3) rfl (by omega) (by omega)) (i_rng (lo := 1000000000) (hi := 1000000000) l_1000000000 (by omega) (by omega)) (i_rng (lo := 0) (hi := 160000) l_0 (by omega) (by omega)) (by have e4 : ((1000000000 : Int32)).toInt = _ := l_1000000000; have e5 : ((0 : Int32)).toInt = _ := l_0; omega)
abbrev l_X7_tryGoes : List Bx := [(56, 57, 12, 14), (63, 64, 0, 0)]
abbrev po_X7_tryGoes (a1 a2 a3 a4 a5 : Int32) (M : qM) (v : Int32) (M' : qM) : Prop := (0 ≤ v.toInt ∧ v.toInt ≤ 0) ∧ G M' ∧ Sm l_X7_tryGoes M M'
theorem t_X7_tryGoes_67 {n : Nat} (hn : 200000 ≤ n) {B : Nat} {F_X7_tryGoes : Int32 → Int32 → Int32 → Int32 → Int32 → qM → qR} (hF_X7_tryGoes : ∀ (a1 a2 a3 a4 a5 : Int32) (M : qM), G M → 0 ≤ a1.toInt ∧ a1.toInt ≤ 4 → 0 ≤ a4.toInt ∧ a4.toInt ≤ 3 → 0 ≤ a5.toInt ∧ a5.toInt ≤ 200 → 4 - a1.toInt < (B : Int) → qT (F_X7_tryGoes a1 a2 a3 a4 a5 M) (po_X7_tryGoes a1 a2 a3 a4 a5 M)) {oa1 oa2 oa3 oa4 oa5 : Int32} {M0 : qM} : ∀ (m : Nat) (a1 a2 a3 a4 a5 a6 : Int32) (M : qM), G M → Sm l_X7_tryGoes M0 M → 0 ≤ a1.toInt ∧ a1.toInt ≤ 3 → 0 ≤ a4.toInt ∧ a4.toInt ≤ 3 → 0 ≤ a5.toInt ∧ a5.toInt ≤ 200 → 0 ≤ a6.toInt ∧ a6.toInt ≤ 4 → 4 - a1.toInt < (B : Int) + 1 → 4 - a6.toInt < (m : Int) → qT (f_X7_tryGoes_67 n F_X7_tryGoes m a1 a2 a3 a4 a5 a6 M) (po_X7_tryGoes oa1 oa2 oa3 oa4 oa5 M0) := by
  intro m
  induction m with
  | zero =>
    intro a1 a2 a3 a4 a5 a6 M hG hS i0 i1 i2 i3 i6 i7
    exfalso; omega
  | succ m ih =>
    intro a1 a2 a3 a4 a5 a6 M hG hS i0 i1 i2 i3 i6 i7
    show qT (b_X7_tryGoes_67 n F_X7_tryGoes (f_X7_tryGoes_67 n F_X7_tryGoes m) a1 a2 a3 a4 a5 a6 M) _
    unfold b_X7_tryGoes_67
    refine T_lt rfl rfl (fun hq5_ => ?_) (fun hq5_ => ?_)
    · exact T_ret ⟨(i_rng (lo := 0) (hi := 0) l_0 (by omega) (by omega)), hG, hS⟩
    · refine T_eq rfl l_0 (fun hq6_ => ?_) (fun hq6_ => ?_)
      · unfold f_X7_tryGoes_90
        refine T_ql rfl ?_
        intro xv7 hq8_
        refine T_qg rfl (by omega) (by omega) ?_
        have hq11_ := i_full (a2)
        have hq12_ := i_full (xv7)
        have hq13_ := i_full (M 61 a1.toNatClampNeg)
        have hq14_ := i_full (a3)
        have hq15_ := i_full (a6 * (M 61 a1.toNatClampNeg))
        refine T_qc (hF_X7_tryGoes (a1 + (1 : Int32)) (a2 + xv7) (a3 + (a6 * (M 61 a1.toNatClampNeg))) (a4 - a6) a5 M hG (i_rng (lo := 0) (hi := 4) (i_add rfl l_1 (by omega) (by omega)) (by omega) (by omega)) (i_rng (lo := 0) (hi := 3) (i_sub rfl rfl (by omega) (by omega)) (by omega) (by omega)) (i_rng (lo := 0) (hi := 200) rfl (by omega) (by omega)) (by have e0 : (a1 + (1 : Int32)).toInt = _ := (i_add rfl l_1 (by omega) (by omega)); have e3 : (a4 - a6).toInt = _ := (i_sub rfl rfl (by omega) (by omega)); omega)) ?_
        rintro rv9 mv10 ⟨hq16_, gq17_, kq18_⟩
        have kq19_ := Sm.call hS kq18_ rfl
        refine T_ql (i_add rfl l_1 (by omega) (by omega)) ?_
        intro xv20 hq21_
        exact ih a1 a2 a3 a4 a5 xv20 mv10 gq17_ kq19_ (i_rng (lo := 0) (hi := 3) rfl (by omega) (by omega)) (i_rng (lo := 0) (hi := 3) rfl (by omega) (by omega)) (i_rng (lo := 0) (hi := 200) rfl (by omega) (by omega)) (i_rng (lo := 0) (hi := 4) rfl (by omega) (by omega)) (by omega) (by omega)
      · refine T_qg rfl (by omega) (by omega) ?_
        refine T_le l_1048576 rfl (fun hq22_ => ?_) (fun hq22_ => ?_)
        · exact T_ret ⟨(i_rng (lo := 0) (hi := 0) l_0 (by omega) (by omega)), hG, hS⟩
        · unfold f_X7_tryGoes_90
          refine T_ql rfl ?_
          intro xv23 hq24_
          refine T_qg rfl (by omega) (by omega) ?_
          have hq27_ := i_full (a2)
          have hq28_ := i_full (xv23)
          have hq29_ := i_full (M 61 a1.toNatClampNeg)
          have hq30_ := i_full (a3)
          have hq31_ := i_full (a6 * (M 61 a1.toNatClampNeg))
          refine T_qc (hF_X7_tryGoes (a1 + (1 : Int32)) (a2 + xv23) (a3 + (a6 * (M 61 a1.toNatClampNeg))) (a4 - a6) a5 M hG (i_rng (lo := 0) (hi := 4) (i_add rfl l_1 (by omega) (by omega)) (by omega) (by omega)) (i_rng (lo := 0) (hi := 3) (i_sub rfl rfl (by omega) (by omega)) (by omega) (by omega)) (i_rng (lo := 0) (hi := 200) rfl (by omega) (by omega)) (by have e0 : (a1 + (1 : Int32)).toInt = _ := (i_add rfl l_1 (by omega) (by omega)); have e3 : (a4 - a6).toInt = _ := (i_sub rfl rfl (by omega) (by omega)); omega)) ?_
          rintro rv25 mv26 ⟨hq32_, gq33_, kq34_⟩
          have kq35_ := Sm.call hS kq34_ rfl
          have hq36_ : (mv26 61 a1.toNatClampNeg).toInt = (M 61 a1.toNatClampNeg).toInt := by rw [kq34_ 61 _ (outc rfl)]
          refine T_ql (i_add rfl l_1 (by omega) (by omega)) ?_
          intro xv37 hq38_
          exact ih a1 a2 a3 a4 a5 xv37 mv26 gq33_ kq35_ (i_rng (lo := 0) (hi := 3) rfl (by omega) (by omega)) (i_rng (lo := 0) (hi := 3) rfl (by omega) (by omega)) (i_rng (lo := 0) (hi := 200) rfl (by omega) (by omega)) (i_rng (lo := 0) (hi := 4) rfl (by omega) (by omega)) (by omega) (by omega)
theorem to_X7_tryGoes {n : Nat} (hn : 200000 ≤ n) {B : Nat} {F_X7_tryGoes : Int32 → Int32 → Int32 → Int32 → Int32 → qM → qR} (hF_X7_tryGoes : ∀ (a1 a2 a3 a4 a5 : Int32) (M : qM), G M → 0 ≤ a1.toInt ∧ a1.toInt ≤ 4 → 0 ≤ a4.toInt ∧ a4.toInt ≤ 3 → 0 ≤ a5.toInt ∧ a5.toInt ≤ 200 → 4 - a1.toInt < (B : Int) → qT (F_X7_tryGoes a1 a2 a3 a4 a5 M) (po_X7_tryGoes a1 a2 a3 a4 a5 M)) (a1 a2 a3 a4 a5 : Int32) (M : qM) (hG : G M) (pa1 : 0 ≤ a1.toInt ∧ a1.toInt ≤ 4) (pa4 : 0 ≤ a4.toInt ∧ a4.toInt ≤ 3) (pa5 : 0 ≤ a5.toInt ∧ a5.toInt ≤ 200) (hb : 4 - a1.toInt < (B : Int) + 1) : qT (fo_X7_tryGoes n F_X7_tryGoes a1 a2 a3 a4 a5 M) (po_X7_tryGoes a1 a2 a3 a4 a5 M) := by
  have hS : Sm l_X7_tryGoes M M := Sm.rf
  unfold fo_X7_tryGoes
  have hq39_ := r_56_10 hG
  refine T_lt rfl rfl (fun hq40_ => ?_) (fun hq40_ => ?_)
  · exact (t_X7_tryGoes_67 hn hF_X7_tryGoes) n a1 a2 a3 a4 a5 (0 : Int32) M hG hS (i_rng (lo := 0) (hi := 3) rfl (by omega) (by omega)) (i_rng (lo := 0) (hi := 3) rfl (by omega) (by omega)) (i_rng (lo := 0) (hi := 200) rfl (by omega) (by omega)) (i_rng (lo := 0) (hi := 4) l_0 (by omega) (by omega)) (by omega) (by have e5 : ((0 : Int32)).toInt = _ := l_0; omega)
  · refine T_qc (t_X7_bestWay hn a2 (0 : Int32) (0 : Int32) M hG (i_rng (lo := 0) (hi := 3) l_0 (by omega) (by omega)) (i_rng (lo := 0) (hi := 13) l_0 (by omega) (by omega))) ?_
    rintro rv41 mv42 ⟨gq43_, kq44_⟩
    have kq45_ := Sm.call hS kq44_ rfl
    have hq46_ : (mv42 56 10).toInt = (M 56 10).toInt := by rw [kq44_ 56 10 (by decide)]
    have hq47_ := i_full (rv41)
    refine T_ql rfl ?_
    intro xv48 hq49_
    refine T_lt rfl rfl (fun hq50_ => ?_) (fun hq50_ => ?_)
    · exact T_ret ⟨(i_rng (lo := 0) (hi := 0) l_0 (by omega) (by omega)), gq43_, kq45_⟩
    · refine T_lt rfl rfl (fun hq51_ => ?_) (fun hq51_ => ?_)
      · unfold f_X7_tryGoes_52
        refine T_mu gq43_ kq45_ (rn_56_12 _) (nw_56 _) (i := 0) rfl ⟨by decide, by decide, Or.inr ⟨by decide, by decide⟩⟩ ?_
        intro mv52 hq53_ gq54_ kq55_
        have hq56_ : (mv52 56 10).toInt = (mv42 56 10).toInt := by rw [hq53_, mu_ne (Or.inr (by decide))]
        have hq57_ : (mv52 56 12).toInt = a3.toInt := by rw [hq53_, mu_at]
        refine T_mu gq54_ kq55_ (rn_56_13 _) (nw_56 _) (i := 0) rfl ⟨by decide, by decide, Or.inr ⟨by decide, by decide⟩⟩ ?_
        intro mv58 hq59_ gq60_ kq61_
        have hq62_ : (mv58 56 10).toInt = (mv52 56 10).toInt := by rw [hq59_, mu_ne (Or.inr (by decide))]
        have hq63_ : (mv58 56 12).toInt = (mv52 56 12).toInt := by rw [hq59_, mu_ne (Or.inr (by decide))]
        have hq64_ : (mv58 56 13).toInt = xv48.toInt := by rw [hq59_, mu_at]
        exact T_ret ⟨(i_rng (lo := 0) (hi := 0) l_0 (by omega) (by omega)), gq60_, kq61_⟩
      · refine T_eq rfl rfl (fun hq65_ => ?_) (fun hq65_ => ?_)
        · refine T_le rfl rfl (fun hq66_ => ?_) (fun hq66_ => ?_)
          · exact T_ret ⟨(i_rng (lo := 0) (hi := 0) l_0 (by omega) (by omega)), gq43_, kq45_⟩
          · unfold f_X7_tryGoes_52
            refine T_mu gq43_ kq45_ (rn_56_12 _) (nw_56 _) (i := 0) rfl ⟨by decide, by decide, Or.inr ⟨by decide, by decide⟩⟩ ?_
            intro mv67 hq68_ gq69_ kq70_
            have hq71_ : (mv67 56 10).toInt = (mv42 56 10).toInt := by rw [hq68_, mu_ne (Or.inr (by decide))]
            have hq72_ : (mv67 56 13).toInt = (mv42 56 13).toInt := by rw [hq68_, mu_ne (Or.inr (by decide))]
            have hq73_ : (mv67 56 12).toInt = a3.toInt := by rw [hq68_, mu_at]
            refine T_mu gq69_ kq70_ (rn_56_13 _) (nw_56 _) (i := 0) rfl ⟨by decide, by decide, Or.inr ⟨by decide, by decide⟩⟩ ?_
            intro mv74 hq75_ gq76_ kq77_
            have hq78_ : (mv74 56 10).toInt = (mv67 56 10).toInt := by rw [hq75_, mu_ne (Or.inr (by decide))]
            have hq79_ : (mv74 56 12).toInt = (mv67 56 12).toInt := by rw [hq75_, mu_ne (Or.inr (by decide))]
            have hq80_ : (mv74 56 13).toInt = xv48.toInt := by rw [hq75_, mu_at]
            exact T_ret ⟨(i_rng (lo := 0) (hi := 0) l_0 (by omega) (by omega)), gq76_, kq77_⟩
        · exact T_ret ⟨(i_rng (lo := 0) (hi := 0) l_0 (by omega) (by omega)), gq43_, kq45_⟩
theorem trc_X7_tryGoes {n : Nat} (hn : 200000 ≤ n) : ∀ m : Nat, (∀ (a1 a2 a3 a4 a5 : Int32) (M : qM), G M → 0 ≤ a1.toInt ∧ a1.toInt ≤ 4 → 0 ≤ a4.toInt ∧ a4.toInt ≤ 3 → 0 ≤ a5.toInt ∧ a5.toInt ≤ 200 → 4 - a1.toInt < (m : Int) → qT (rc_X7_tryGoes n m a1 a2 a3 a4 a5 M) (po_X7_tryGoes a1 a2 a3 a4 a5 M)) := by
  intro m
  induction m with
  | zero =>
    exact fun a1 a2 a3 a4 a5 M q0 q1 q2 q3 q4 => by exfalso; omega
  | succ m ih =>
    refine ?_
    · exact fun a1 a2 a3 a4 a5 M q0 q1 q2 q3 q4 => to_X7_tryGoes hn (B := m) (ih) a1 a2 a3 a4 a5 M q0 q1 q2 q3 (by omega)
theorem t_X7_tryGoes {n : Nat} (hn : 200000 ≤ n) (a1 a2 a3 a4 a5 : Int32) (M : qM) (hG : G M) (pa1 : 0 ≤ a1.toInt ∧ a1.toInt ≤ 4) (pa4 : 0 ≤ a4.toInt ∧ a4.toInt ≤ 3) (pa5 : 0 ≤ a5.toInt ∧ a5.toInt ≤ 200) : qT (f_X7_tryGoes n a1 a2 a3 a4 a5 M) (po_X7_tryGoes a1 a2 a3 a4 a5 M) := by
  unfold f_X7_tryGoes
  exact (trc_X7_tryGoes hn 8) a1 a2 a3 a4 a5 M hG pa1 pa4 pa5 (by omega)
abbrev l_X7_leastPrice_c7 : List Bx := [(34, 35, 4, 5), (35, 37, 0, 0)]
abbrev po_X7_leastPrice_c7 (a2 a3 : Int32) (M : qM) (v : Int32) (M' : qM) : Prop := ((-2147483648) ≤ v.toInt ∧ v.toInt ≤ 1048576) ∧ G M' ∧ Sm l_X7_leastPrice_c7 M M'
theorem t_X7_leastPrice_c7_7 {n : Nat} (hn : 200000 ≤ n) {j : Nat} (hj : q_isLaw j) {oa2 oa3 : Int32} {M0 : qM} : ∀ (m : Nat) (a2 a3 a4 a5 : Int32) (M : qM), G M → Sm l_X7_leastPrice_c7 M0 M → 0 ≤ a2.toInt ∧ a2.toInt ≤ 7 → 0 ≤ a3.toInt ∧ a3.toInt ≤ 11 → (-2147483648) ≤ a4.toInt ∧ a4.toInt ≤ 1048576 → 0 ≤ a5.toInt ∧ a5.toInt ≤ 8 → 8 - a5.toInt < (m : Int) → qT (f_X7_leastPrice_7 n 7 j m a2 a3 a4 a5 M) (po_X7_leastPrice_c7 oa2 oa3 M0) := by
  intro m
  induction m with
  | zero =>
    intro a2 a3 a4 a5 M hG hS i0 i1 i2 i3 i6
    exfalso; omega
  | succ m ih =>
    intro a2 a3 a4 a5 M hG hS i0 i1 i2 i3 i6
    show qT (b_X7_leastPrice_7 n 7 j (f_X7_leastPrice_7 n 7 j m) a2 a3 a4 a5 M) _
    unfold b_X7_leastPrice_7
    try simp only [Nat.reduceAdd]
    refine T_le l_8 rfl (fun hq6_ => ?_) (fun hq6_ => ?_)
    · have hq7_ := i_full (a4)
      exact T_ret ⟨(i_rng (lo := (-2147483648)) (hi := 1048576) rfl (by omega) (by omega)), hG, hS⟩
    · refine T_eq rfl rfl (fun hq8_ => ?_) (fun hq8_ => ?_)
      · refine T_ql (i_add rfl l_1 (by omega) (by omega)) ?_
        intro xv9 hq10_
        have hq11_ := i_full (a4)
        exact ih a2 a3 a4 xv9 M hG hS (i_rng (lo := 0) (hi := 7) rfl (by omega) (by omega)) (i_rng (lo := 0) (hi := 11) rfl (by omega) (by omega)) (i_rng (lo := (-2147483648)) (hi := 1048576) rfl (by omega) (by omega)) (i_rng (lo := 0) (hi := 8) rfl (by omega) (by omega)) (by omega)
      · refine T_qc (t_X10_knows_c7 hn a5 M hG ) ?_
        rintro rv12 mv13 ⟨hq14_, hq15_, gq16_, kq17_⟩
        have hq18_ := kq17_.nil
        subst hq18_
        refine T_eq rfl l_0 (fun hq19_ => ?_) (fun hq19_ => ?_)
        · refine T_ql (i_add rfl l_1 (by omega) (by omega)) ?_
          intro xv20 hq21_
          have hq22_ := i_full (a4)
          exact ih a2 a3 a4 xv20 M hG hS (i_rng (lo := 0) (hi := 7) rfl (by omega) (by omega)) (i_rng (lo := 0) (hi := 11) rfl (by omega) (by omega)) (i_rng (lo := (-2147483648)) (hi := 1048576) rfl (by omega) (by omega)) (i_rng (lo := 0) (hi := 8) rfl (by omega) (by omega)) (by omega)
        · refine T_qg (i_add (i_mul rfl l_12 (by omega) (by omega)) rfl (by omega) (by omega)) (by omega) (by omega) ?_
          refine T_le rfl l_0 (fun hq23_ => ?_) (fun hq23_ => ?_)
          · refine T_ql (i_add rfl l_1 (by omega) (by omega)) ?_
            intro xv24 hq25_
            have hq26_ := i_full (a4)
            exact ih a2 a3 a4 xv24 M hG hS (i_rng (lo := 0) (hi := 7) rfl (by omega) (by omega)) (i_rng (lo := 0) (hi := 11) rfl (by omega) (by omega)) (i_rng (lo := (-2147483648)) (hi := 1048576) rfl (by omega) (by omega)) (i_rng (lo := 0) (hi := 8) rfl (by omega) (by omega)) (by omega)
          · refine T_qc (t_X0_price_c7 hn hj a2 a3 a5 M hG (i_rng (lo := 0) (hi := 7) rfl (by omega) (by omega)) (i_rng (lo := 0) (hi := 11) rfl (by omega) (by omega)) (i_rng (lo := 0) (hi := 7) rfl (by omega) (by omega))) ?_
            rintro rv27 mv28 ⟨hq29_, gq30_, kq31_⟩
            have kq32_ := Sm.call hS kq31_ rfl
            have hq33_ : (mv28 9 (((a5 * (12 : Int32)) + a3).toNatClampNeg)).toInt = (M 9 (((a5 * (12 : Int32)) + a3).toNatClampNeg)).toInt := by rw [kq31_ 9 _ (outc rfl)]
            have hq34_ := i_min (a := a4) (b := rv27) rfl rfl
            refine T_ql rfl ?_
            intro xv35 hq36_
            refine T_ql (i_add rfl l_1 (by omega) (by omega)) ?_
            intro xv37 hq38_
            have hq39_ := i_full (xv35)
            exact ih a2 a3 xv35 xv37 mv28 gq30_ kq32_ (i_rng (lo := 0) (hi := 7) rfl (by omega) (by omega)) (i_rng (lo := 0) (hi := 11) rfl (by omega) (by omega)) (i_rng (lo := (-2147483648)) (hi := 1048576) rfl (by omega) (by omega)) (i_rng (lo := 0) (hi := 8) rfl (by omega) (by omega)) (by omega)
theorem t_X7_leastPrice_c7 {n : Nat} (hn : 200000 ≤ n) {j : Nat} (hj : q_isLaw j) (a2 a3 : Int32) (M : qM) (hG : G M) (pa2 : 0 ≤ a2.toInt ∧ a2.toInt ≤ 7) (pa3 : 0 ≤ a3.toInt ∧ a3.toInt ≤ 11) : qT (f_X7_leastPrice n 7 j a2 a3 M) (po_X7_leastPrice_c7 a2 a3 M) := by
  have hS : Sm l_X7_leastPrice_c7 M M := Sm.rf
  unfold f_X7_leastPrice
  try simp only [Nat.reduceAdd]
  exact (t_X7_leastPrice_c7_7 hn hj) n a2 a3 (1048576 : Int32) (0 : Int32) M hG hS (i_rng (lo := 0) (hi := 7) rfl (by omega) (by omega)) (i_rng (lo := 0) (hi := 11) rfl (by omega) (by omega)) (i_rng (lo := (-2147483648)) (hi := 1048576) l_1048576 (by omega) (by omega)) (i_rng (lo := 0) (hi := 8) l_0 (by omega) (by omega)) (by have e2 : ((1048576 : Int32)).toInt = _ := l_1048576; have e3 : ((0 : Int32)).toInt = _ := l_0; omega)
