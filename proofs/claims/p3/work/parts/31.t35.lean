abbrev l_X12_greaterBy : List Bx := [(118, 119, 0, 0)]
abbrev po_X12_greaterBy (a1 a2 a3 a4 : Int32) (M : qM) (v : Int32) (M' : qM) : Prop := G M' ∧ Sm l_X12_greaterBy M M'
theorem t_X12_greaterBy_9 {n : Nat} (hn : 200000 ≤ n) {oa1 oa2 oa3 oa4 : Int32} {M0 : qM} : ∀ (m : Nat) (a1 a2 a3 a4 a5 a6 a7 : Int32) (M : qM), G M → Sm l_X12_greaterBy M0 M → 0 ≤ a1.toInt ∧ a1.toInt ≤ 3 → 1 ≤ a2.toInt ∧ a2.toInt ≤ 256 → 0 ≤ a3.toInt ∧ a3.toInt ≤ 10 → 0 ≤ a4.toInt ∧ a4.toInt ≤ 9 → 0 ≤ a7.toInt ∧ a7.toInt ≤ 256 → KP a3 M → 256 - a7.toInt < (m : Int) → qT (f_X12_greaterBy_9 n m a1 a2 a3 a4 a5 a6 a7 M) (po_X12_greaterBy oa1 oa2 oa3 oa4 M0) := by
  intro m
  induction m with
  | zero =>
    intro a1 a2 a3 a4 a5 a6 a7 M hG hS i0 i1 i2 i3 i4 wKP i8
    exfalso; omega
  | succ m ih =>
    intro a1 a2 a3 a4 a5 a6 a7 M hG hS i0 i1 i2 i3 i4 wKP i8
    show qT (b_X12_greaterBy_9 n (f_X12_greaterBy_9 n m) a1 a2 a3 a4 a5 a6 a7 M) _
    unfold b_X12_greaterBy_9
    refine T_le rfl rfl (fun hq7_ => ?_) (fun hq7_ => ?_)
    · have hq10_ := i_full (a6)
      have hq11_ := i_full (a5)
      refine T_qc (t_X12_max hn a5 (a6 - a5) M hG ) ?_
      rintro rv8 mv9 ⟨gq12_, kq13_⟩
      have hq14_ := kq13_.nil
      subst hq14_
      exact T_ret ⟨hG, hS⟩
    · refine T_qg rfl (by omega) (by omega) ?_
      have hq15_ := r_119 hG a7.toNatClampNeg
      refine T_eq rfl l_0 (fun hq16_ => ?_) (fun hq16_ => ?_)
      · refine T_ql (i_add rfl l_1 (by omega) (by omega)) ?_
        intro xv17 hq18_
        exact ih a1 a2 a3 a4 a5 a6 xv17 M hG hS (i_rng (lo := 0) (hi := 3) rfl (by omega) (by omega)) (i_rng (lo := 1) (hi := 256) rfl (by omega) (by omega)) (i_rng (lo := 0) (hi := 10) rfl (by omega) (by omega)) (i_rng (lo := 0) (hi := 9) rfl (by omega) (by omega)) (i_rng (lo := 0) (hi := 256) rfl (by omega) (by omega)) wKP (by omega)
      · refine T_qc (t_X12_goesWith hn a7 a3 a4 M hG (i_rng (lo := 0) (hi := 255) rfl (by omega) (by omega)) (i_rng (lo := 0) (hi := 10) rfl (by omega) (by omega)) (i_rng (lo := 0) (hi := 9) rfl (by omega) (by omega)) wKP) ?_
        rintro rv19 mv20 ⟨hq21_, gq22_, kq23_⟩
        have kq24_ := Sm.call hS kq23_ rfl
        have hq25_ := (fun h_ => KP_c (kq23_ 77 61 (by decide)) (funext (fun s_ => kq23_ 84 s_ (outc rfl))) h_) wKP
        have hq26_ : (mv20 119 a7.toNatClampNeg).toInt = (M 119 a7.toNatClampNeg).toInt := by rw [kq23_ 119 _ (outc rfl)]
        have hq27_ := i_full (a6)
        refine T_ql rfl ?_
        intro xv28 hq29_
        refine T_qc (t_X12_pastCounts hn a1 a4 mv20 gq22_ (i_rng (lo := 0) (hi := 3) rfl (by omega) (by omega)) (i_rng (lo := 0) (hi := 9) rfl (by omega) (by omega))) ?_
        rintro rv30 mv31 ⟨hq32_, gq33_, kq34_⟩
        have hq35_ := kq34_.nil
        subst hq35_
        refine T_eq rfl l_0 (fun hq36_ => ?_) (fun hq36_ => ?_)
        · unfold f_X12_greaterBy_61
          have hq37_ := i_full (a5)
          refine T_ql (i_add rfl l_0 (by omega) (by omega)) ?_
          intro xv38 hq39_
          refine T_ql (i_add rfl l_1 (by omega) (by omega)) ?_
          intro xv40 hq41_
          exact ih a1 a2 a3 a4 xv38 xv28 xv40 mv20 gq22_ kq24_ (i_rng (lo := 0) (hi := 3) rfl (by omega) (by omega)) (i_rng (lo := 1) (hi := 256) rfl (by omega) (by omega)) (i_rng (lo := 0) (hi := 10) rfl (by omega) (by omega)) (i_rng (lo := 0) (hi := 9) rfl (by omega) (by omega)) (i_rng (lo := 0) (hi := 256) rfl (by omega) (by omega)) hq25_ (by omega)
        · unfold f_X12_greaterBy_61
          have hq42_ := i_full (a5)
          refine T_ql rfl ?_
          intro xv43 hq44_
          refine T_ql (i_add rfl l_1 (by omega) (by omega)) ?_
          intro xv45 hq46_
          exact ih a1 a2 a3 a4 xv43 xv28 xv45 mv20 gq22_ kq24_ (i_rng (lo := 0) (hi := 3) rfl (by omega) (by omega)) (i_rng (lo := 1) (hi := 256) rfl (by omega) (by omega)) (i_rng (lo := 0) (hi := 10) rfl (by omega) (by omega)) (i_rng (lo := 0) (hi := 9) rfl (by omega) (by omega)) (i_rng (lo := 0) (hi := 256) rfl (by omega) (by omega)) hq25_ (by omega)
theorem t_X12_greaterBy {n : Nat} (hn : 200000 ≤ n) (a1 a2 a3 a4 : Int32) (M : qM) (hG : G M) (pa1 : 0 ≤ a1.toInt ∧ a1.toInt ≤ 3) (pa2 : 1 ≤ a2.toInt ∧ a2.toInt ≤ 256) (pa3 : 0 ≤ a3.toInt ∧ a3.toInt ≤ 10) (pa4 : 0 ≤ a4.toInt ∧ a4.toInt ≤ 9) (wKP : KP a3 M) : qT (f_X12_greaterBy n a1 a2 a3 a4 M) (po_X12_greaterBy a1 a2 a3 a4 M) := by
  have hS : Sm l_X12_greaterBy M M := Sm.rf
  unfold f_X12_greaterBy
  exact (t_X12_greaterBy_9 hn) n a1 a2 a3 a4 (0 : Int32) (0 : Int32) (0 : Int32) M hG hS (i_rng (lo := 0) (hi := 3) rfl (by omega) (by omega)) (i_rng (lo := 1) (hi := 256) rfl (by omega) (by omega)) (i_rng (lo := 0) (hi := 10) rfl (by omega) (by omega)) (i_rng (lo := 0) (hi := 9) rfl (by omega) (by omega)) (i_rng (lo := 0) (hi := 256) l_0 (by omega) (by omega)) wKP (by have e4 : ((0 : Int32)).toInt = _ := l_0; have e5 : ((0 : Int32)).toInt = _ := l_0; have e6 : ((0 : Int32)).toInt = _ := l_0; omega)
abbrev l_X12_histories : List Bx := [(77, 78, 8, 9), (77, 78, 61, 62), (96, 98, 0, 0), (116, 120, 0, 0)]
abbrev po_X12_histories (a1 a2 a3 a4 : Int32) (M : qM) (v : Int32) (M' : qM) : Prop := G M' ∧ Sm l_X12_histories M M'
theorem t_X12_histories_184 {n : Nat} (hn : 200000 ≤ n) {oa1 oa2 oa3 oa4 : Int32} {M0 : qM} : ∀ (m : Nat) (a1 a2 a3 a5 a8 a9 : Int32) (M : qM), G M → Sm l_X12_histories M0 M → 1 ≤ a1.toInt ∧ a1.toInt ≤ 4 → 0 ≤ a2.toInt ∧ a2.toInt ≤ 10 → 0 ≤ a3.toInt ∧ a3.toInt ≤ 9 → 1 ≤ a5.toInt ∧ a5.toInt ≤ 256 → 0 ≤ a8.toInt ∧ a8.toInt ≤ 3 → 1 ≤ a9.toInt ∧ a9.toInt ≤ 4 → KP a2 M → 4 - a9.toInt < (m : Int) → qT (f_X12_histories_184 n m a1 a2 a3 a5 a8 a9 M) (po_X12_histories oa1 oa2 oa3 oa4 M0) := by
  intro m
  induction m with
  | zero =>
    intro a1 a2 a3 a5 a8 a9 M hG hS i0 i1 i2 i3 i4 i5 wKP i9
    exfalso; omega
  | succ m ih =>
    intro a1 a2 a3 a5 a8 a9 M hG hS i0 i1 i2 i3 i4 i5 wKP i9
    show qT (b_X12_histories_184 n (f_X12_histories_184 n m) a1 a2 a3 a5 a8 a9 M) _
    unfold b_X12_histories_184
    refine T_le rfl rfl (fun hq3_ => ?_) (fun hq3_ => ?_)
    · exact T_ret ⟨hG, hS⟩
    · refine T_qc (t_X12_greaterBy hn a9 a5 a2 a3 M hG (i_rng (lo := 0) (hi := 3) rfl (by omega) (by omega)) (i_rng (lo := 1) (hi := 256) rfl (by omega) (by omega)) (i_rng (lo := 0) (hi := 10) rfl (by omega) (by omega)) (i_rng (lo := 0) (hi := 9) rfl (by omega) (by omega)) wKP) ?_
      rintro rv4 mv5 ⟨gq6_, kq7_⟩
      have kq8_ := Sm.call hS kq7_ rfl
      have hq9_ := (fun h_ => KP_c (kq7_ 77 61 (by decide)) (funext (fun s_ => kq7_ 84 s_ (outc rfl))) h_) wKP
      refine T_qc (t_X12_greaterBy hn a8 a5 a2 a3 mv5 gq6_ (i_rng (lo := 0) (hi := 3) rfl (by omega) (by omega)) (i_rng (lo := 1) (hi := 256) rfl (by omega) (by omega)) (i_rng (lo := 0) (hi := 10) rfl (by omega) (by omega)) (i_rng (lo := 0) (hi := 9) rfl (by omega) (by omega)) hq9_) ?_
      rintro rv10 mv11 ⟨gq12_, kq13_⟩
      have kq14_ := Sm.call kq8_ kq13_ rfl
      have hq15_ := (fun h_ => KP_c (kq13_ 77 61 (by decide)) (funext (fun s_ => kq13_ 84 s_ (outc rfl))) h_) hq9_
      refine T_le rfl rfl (fun hq16_ => ?_) (fun hq16_ => ?_)
      · refine T_ql (i_add rfl l_1 (by omega) (by omega)) ?_
        intro xv17 hq18_
        exact ih a1 a2 a3 a5 a8 xv17 mv11 gq12_ kq14_ (i_rng (lo := 1) (hi := 4) rfl (by omega) (by omega)) (i_rng (lo := 0) (hi := 10) rfl (by omega) (by omega)) (i_rng (lo := 0) (hi := 9) rfl (by omega) (by omega)) (i_rng (lo := 1) (hi := 256) rfl (by omega) (by omega)) (i_rng (lo := 0) (hi := 3) rfl (by omega) (by omega)) (i_rng (lo := 1) (hi := 4) rfl (by omega) (by omega)) hq15_ (by omega)
      · refine T_ql (i_add rfl l_1 (by omega) (by omega)) ?_
        intro xv19 hq20_
        exact ih a1 a2 a3 a5 a9 xv19 mv11 gq12_ kq14_ (i_rng (lo := 1) (hi := 4) rfl (by omega) (by omega)) (i_rng (lo := 0) (hi := 10) rfl (by omega) (by omega)) (i_rng (lo := 0) (hi := 9) rfl (by omega) (by omega)) (i_rng (lo := 1) (hi := 256) rfl (by omega) (by omega)) (i_rng (lo := 0) (hi := 3) rfl (by omega) (by omega)) (i_rng (lo := 1) (hi := 4) rfl (by omega) (by omega)) hq15_ (by omega)
theorem t_X12_histories_87 {n : Nat} (hn : 200000 ≤ n) {oa1 oa2 oa3 oa4 : Int32} {M0 : qM} : ∀ (m : Nat) (a1 a2 a3 a4 a5 a6 a7 a8 : Int32) (M : qM), G M → Sm l_X12_histories M0 M → 1 ≤ a1.toInt ∧ a1.toInt ≤ 4 → 0 ≤ a2.toInt ∧ a2.toInt ≤ 10 → 0 ≤ a3.toInt ∧ a3.toInt ≤ 9 → 0 ≤ a4.toInt ∧ a4.toInt ≤ 2 → 1 ≤ a5.toInt ∧ a5.toInt ≤ 256 → (-2) ≤ a7.toInt ∧ a7.toInt ≤ 255 → 0 ≤ a8.toInt ∧ a8.toInt ≤ 256 → KP a2 M → 256 - a8.toInt < (m : Int) → qT (f_X12_histories_87 n m a1 a2 a3 a4 a5 a6 a7 a8 M) (po_X12_histories oa1 oa2 oa3 oa4 M0) := by
  intro m
  induction m with
  | zero =>
    intro a1 a2 a3 a4 a5 a6 a7 a8 M hG hS i0 i1 i2 i3 i4 i5 i6 wKP i10
    exfalso; omega
  | succ m ih =>
    intro a1 a2 a3 a4 a5 a6 a7 a8 M hG hS i0 i1 i2 i3 i4 i5 i6 wKP i10
    show qT (b_X12_histories_87 n (f_X12_histories_87 n m) a1 a2 a3 a4 a5 a6 a7 a8 M) _
    unfold b_X12_histories_87
    refine T_le rfl rfl (fun hq33_ => ?_) (fun hq33_ => ?_)
    · refine T_le l_2 rfl (fun hq34_ => ?_) (fun hq34_ => ?_)
      · exact (t_X12_histories_184 hn) n a1 a2 a3 a5 (0 : Int32) (1 : Int32) M hG hS (i_rng (lo := 1) (hi := 4) rfl (by omega) (by omega)) (i_rng (lo := 0) (hi := 10) rfl (by omega) (by omega)) (i_rng (lo := 0) (hi := 9) rfl (by omega) (by omega)) (i_rng (lo := 1) (hi := 256) rfl (by omega) (by omega)) (i_rng (lo := 0) (hi := 3) l_0 (by omega) (by omega)) (i_rng (lo := 1) (hi := 4) l_1 (by omega) (by omega)) wKP (by have e4 : ((0 : Int32)).toInt = _ := l_0; have e5 : ((1 : Int32)).toInt = _ := l_1; omega)
      · refine T_eq rfl l_0 (fun hq35_ => ?_) (fun hq35_ => ?_)
        · exact T_ret ⟨hG, hS⟩
        · exact T_ret ⟨hG, hS⟩
    · refine T_qc (t_X12_goesWith hn a8 a2 a3 M hG (i_rng (lo := 0) (hi := 255) rfl (by omega) (by omega)) (i_rng (lo := 0) (hi := 10) rfl (by omega) (by omega)) (i_rng (lo := 0) (hi := 9) rfl (by omega) (by omega)) wKP) ?_
      rintro rv36 mv37 ⟨hq38_, gq39_, kq40_⟩
      have kq41_ := Sm.call hS kq40_ rfl
      have hq42_ := (fun h_ => KP_c (kq40_ 77 61 (by decide)) (funext (fun s_ => kq40_ 84 s_ (outc rfl))) h_) wKP
      refine T_qg rfl (by omega) (by omega) ?_
      have hq44_ := i_bool rv36
      refine T_mu gq39_ kq41_ (i_rng (lo := 0) (hi := 1) rfl (by omega) (by omega)) (nw_119 _) (i := 3) rfl ⟨by decide, by decide, Or.inl rfl⟩ ?_
      intro mv43 hq45_ gq46_ kq47_
      have hq48_ := (fun h_ => KP_c (M := mv37) (M' := mv43) (by rw [hq45_, mu_ne (Or.inl (by decide))]) (by rw [hq45_, mu_nc (by decide)]) h_) hq42_
      have hq49_ : (mv43 119 a8.toNatClampNeg).toInt = (vp_nar .boolean rv36).toInt := by rw [hq45_, mu_at]
      refine T_qg rfl (by omega) (by omega) ?_
      have hq50_ := r_119 gq46_ a8.toNatClampNeg
      refine T_eq rfl l_0 (fun hq51_ => ?_) (fun hq51_ => ?_)
      · unfold f_X12_histories_129
        unfold f_X12_histories_131
        refine T_qg rfl (by omega) (by omega) ?_
        refine T_eq rfl l_0 (fun hq52_ => ?_) (fun hq52_ => ?_)
        · unfold f_X12_histories_150
          have hq53_ := i_full (a6)
          refine T_ql (i_add rfl l_0 (by omega) (by omega)) ?_
          intro xv54 hq55_
          refine T_ql (i_add rfl l_1 (by omega) (by omega)) ?_
          intro xv56 hq57_
          exact ih a1 a2 a3 a4 a5 xv54 a7 xv56 mv43 gq46_ kq47_ (i_rng (lo := 1) (hi := 4) rfl (by omega) (by omega)) (i_rng (lo := 0) (hi := 10) rfl (by omega) (by omega)) (i_rng (lo := 0) (hi := 9) rfl (by omega) (by omega)) (i_rng (lo := 0) (hi := 2) rfl (by omega) (by omega)) (i_rng (lo := 1) (hi := 256) rfl (by omega) (by omega)) (i_rng (lo := (-2)) (hi := 255) rfl (by omega) (by omega)) (i_rng (lo := 0) (hi := 256) rfl (by omega) (by omega)) hq48_ (by omega)
        · exfalso; omega
      · refine T_eq rfl l_0 (fun hq58_ => ?_) (fun hq58_ => ?_)
        · unfold f_X12_histories_131
          refine T_qg rfl (by omega) (by omega) ?_
          refine T_eq rfl l_0 (fun hq59_ => ?_) (fun hq59_ => ?_)
          · exfalso; omega
          · unfold f_X12_histories_150
            refine T_ql (i_add rfl l_1 (by omega) (by omega)) ?_
            intro xv60 hq61_
            refine T_ql (i_add rfl l_1 (by omega) (by omega)) ?_
            intro xv62 hq63_
            exact ih a1 a2 a3 a4 a5 xv60 a8 xv62 mv43 gq46_ kq47_ (i_rng (lo := 1) (hi := 4) rfl (by omega) (by omega)) (i_rng (lo := 0) (hi := 10) rfl (by omega) (by omega)) (i_rng (lo := 0) (hi := 9) rfl (by omega) (by omega)) (i_rng (lo := 0) (hi := 2) rfl (by omega) (by omega)) (i_rng (lo := 1) (hi := 256) rfl (by omega) (by omega)) (i_rng (lo := (-2)) (hi := 255) rfl (by omega) (by omega)) (i_rng (lo := 0) (hi := 256) rfl (by omega) (by omega)) hq48_ (by omega)
        · unfold f_X12_histories_129
          unfold f_X12_histories_131
          refine T_qg rfl (by omega) (by omega) ?_
          refine T_eq rfl l_0 (fun hq64_ => ?_) (fun hq64_ => ?_)
          · exfalso; omega
          · unfold f_X12_histories_150
            have hq65_ := i_full (a6)
            refine T_ql rfl ?_
            intro xv66 hq67_
            refine T_ql (i_add rfl l_1 (by omega) (by omega)) ?_
            intro xv68 hq69_
            exact ih a1 a2 a3 a4 a5 xv66 a7 xv68 mv43 gq46_ kq47_ (i_rng (lo := 1) (hi := 4) rfl (by omega) (by omega)) (i_rng (lo := 0) (hi := 10) rfl (by omega) (by omega)) (i_rng (lo := 0) (hi := 9) rfl (by omega) (by omega)) (i_rng (lo := 0) (hi := 2) rfl (by omega) (by omega)) (i_rng (lo := 1) (hi := 256) rfl (by omega) (by omega)) (i_rng (lo := (-2)) (hi := 255) rfl (by omega) (by omega)) (i_rng (lo := 0) (hi := 256) rfl (by omega) (by omega)) hq48_ (by omega)
theorem t_X12_histories {n : Nat} (hn : 200000 ≤ n) (a1 a2 a3 a4 : Int32) (M : qM) (hG : G M) : qT (f_X12_histories n a1 a2 a3 a4 M) (po_X12_histories a1 a2 a3 a4 M) := by
  have hS : Sm l_X12_histories M M := Sm.rf
  unfold f_X12_histories
  have hq72_ := (show ((1 : Int32)).toInt = _ from l_1)
  have hq73_ := (show ((4 : Int32)).toInt = _ from l_4)
  refine T_qc (t_X12_in hn a1 (1 : Int32) (4 : Int32) M hG (i_rng (lo := 0) (hi := 70) l_1 (by omega) (by omega)) (i_rng (lo := 0) (hi := 99999) l_4 (by omega) (by omega))) ?_
  rintro rv70 mv71 ⟨hq74_, hq75_, gq76_, kq77_⟩
  have hq78_ := kq77_.nil
  subst hq78_
  refine T_eq rfl l_0 (fun hq79_ => ?_) (fun hq79_ => ?_)
  · exact T_ret ⟨hG, hS⟩
  · have hq82_ := (show ((0 : Int32)).toInt = _ from l_0)
    have hq83_ := (show ((10 : Int32)).toInt = _ from l_10)
    refine T_qc (t_X12_in hn a2 (0 : Int32) (10 : Int32) M hG (i_rng (lo := 0) (hi := 70) l_0 (by omega) (by omega)) (i_rng (lo := 0) (hi := 99999) l_10 (by omega) (by omega))) ?_
    rintro rv80 mv81 ⟨hq84_, hq85_, gq86_, kq87_⟩
    have hq88_ := kq87_.nil
    subst hq88_
    refine T_eq rfl l_0 (fun hq89_ => ?_) (fun hq89_ => ?_)
    · exact T_ret ⟨hG, hS⟩
    · have hq92_ := (show ((9 : Int32)).toInt = _ from l_9)
      refine T_qc (t_X12_in hn a3 (0 : Int32) (9 : Int32) M hG (i_rng (lo := 0) (hi := 70) l_0 (by omega) (by omega)) (i_rng (lo := 0) (hi := 99999) l_9 (by omega) (by omega))) ?_
      rintro rv90 mv91 ⟨hq93_, hq94_, gq95_, kq96_⟩
      have hq97_ := kq96_.nil
      subst hq97_
      refine T_eq rfl l_0 (fun hq98_ => ?_) (fun hq98_ => ?_)
      · exact T_ret ⟨hG, hS⟩
      · have hq101_ := (show ((2 : Int32)).toInt = _ from l_2)
        refine T_qc (t_X12_in hn a4 (0 : Int32) (2 : Int32) M hG (i_rng (lo := 0) (hi := 70) l_0 (by omega) (by omega)) (i_rng (lo := 0) (hi := 99999) l_2 (by omega) (by omega))) ?_
        rintro rv99 mv100 ⟨hq102_, hq103_, gq104_, kq105_⟩
        have hq106_ := kq105_.nil
        subst hq106_
        refine T_eq rfl l_0 (fun hq107_ => ?_) (fun hq107_ => ?_)
        · exact T_ret ⟨hG, hS⟩
        · have hq108_ := r_77_8 hG
          refine T_le (i_add rfl (i_mul l_2 rfl (by omega) (by omega)) (by omega) (by omega)) rfl (fun hq109_ => ?_) (fun hq109_ => ?_)
          · refine T_mu hG hS (i_rng (lo := 0) (hi := 260) l_0 (by omega) (by omega)) nw_77_8 (i := 0) rfl ⟨by decide, by decide, Or.inr ⟨by decide, by decide⟩⟩ ?_
            intro mv110 hq111_ gq112_ kq113_
            have hq114_ : (mv110 77 8).toInt = 0 := by rw [hq111_, mu_at]; exact l_0
            refine T_qc (t_X12_takesPast hn a1 a2 mv110 gq112_ (i_rng (lo := 1) (hi := 4) rfl (by omega) (by omega)) (i_rng (lo := 0) (hi := 10) rfl (by omega) (by omega))) ?_
            rintro rv115 mv116 ⟨hq117_, hq118_, gq119_, kq120_⟩
            have kq121_ := Sm.call kq113_ kq120_ rfl
            have hq122_ : (mv116 77 8).toInt = (mv110 77 8).toInt := by rw [kq120_ 77 8 (by decide)]
            refine T_eq rfl l_0 (fun hq123_ => ?_) (fun hq123_ => ?_)
            · exact T_ret ⟨gq119_, kq121_⟩
            · have hq124_ := i_shl1 (c := 8) (k := (2 : Int32) * a1) (by decide) (i_mul l_2 rfl (by omega) (by omega)) (by omega) (by omega)
              refine T_ql rfl ?_
              intro xv125 hq126_
              exact (t_X12_histories_87 hn) n a1 a2 a3 a4 xv125 (0 : Int32) (-2 : Int32) (0 : Int32) mv116 gq119_ kq121_ (i_rng (lo := 1) (hi := 4) rfl (by omega) (by omega)) (i_rng (lo := 0) (hi := 10) rfl (by omega) (by omega)) (i_rng (lo := 0) (hi := 9) rfl (by omega) (by omega)) (i_rng (lo := 0) (hi := 2) rfl (by omega) (by omega)) (i_rng (lo := 1) (hi := 256) rfl (by omega) (by omega)) (i_rng (lo := (-2)) (hi := 255) l_m2 (by omega) (by omega)) (i_rng (lo := 0) (hi := 256) l_0 (by omega) (by omega)) (hq118_.resolve_left (by omega)) (by have e5 : ((0 : Int32)).toInt = _ := l_0; have e6 : ((-2 : Int32)).toInt = _ := l_m2; have e7 : ((0 : Int32)).toInt = _ := l_0; omega)
          · exact T_ret ⟨hG, hS⟩
abbrev l_X11_isHeap : List Bx := []
abbrev po_X11_isHeap (a0 : Int32) (M : qM) (v : Int32) (M' : qM) : Prop := (0 ≤ v.toInt ∧ v.toInt ≤ 1) ∧ G M' ∧ Sm l_X11_isHeap M M'
theorem t_X11_isHeap {n : Nat} (hn : 200000 ≤ n) (a0 : Int32) (M : qM) (hG : G M) : qT (f_X11_isHeap n a0 M) (po_X11_isHeap a0 M) := by
  have hS : Sm l_X11_isHeap M M := Sm.rf
  unfold f_X11_isHeap
  refine T_lt rfl l_0 (fun hq1_ => ?_) (fun hq1_ => ?_)
  · exact T_ret ⟨(i_rng (lo := 0) (hi := 1) l_0 (by omega) (by omega)), hG, hS⟩
  · refine T_lt l_7 rfl (fun hq2_ => ?_) (fun hq2_ => ?_)
    · exact T_ret ⟨(i_rng (lo := 0) (hi := 1) l_0 (by omega) (by omega)), hG, hS⟩
    · exact T_ret ⟨(i_rng (lo := 0) (hi := 1) l_1 (by omega) (by omega)), hG, hS⟩
abbrev l_X11_nextOneWins : List Bx := []
abbrev po_X11_nextOneWins (a0 a1 : Int32) (M : qM) (v : Int32) (M' : qM) : Prop := (0 ≤ v.toInt ∧ v.toInt ≤ 1) ∧ G M' ∧ Sm l_X11_nextOneWins M M'
theorem t_X11_nextOneWins {n : Nat} (hn : 200000 ≤ n) (a0 a1 : Int32) (M : qM) (hG : G M) (pa1 : 0 ≤ a1.toInt ∧ a1.toInt ≤ 1) : qT (f_X11_nextOneWins n a0 a1 M) (po_X11_nextOneWins a0 a1 M) := by
  have hS : Sm l_X11_nextOneWins M M := Sm.rf
  unfold f_X11_nextOneWins
  have hq1_ := i_and (a := (a0 ^^^ (a0 >>> ((3 : Int32) &&& 31))) ^^^ (a0 >>> ((6 : Int32) &&& 31))) (b := (3 : Int32)) l_3 (by omega)
  refine T_eq rfl l_0 (fun hq2_ => ?_) (fun hq2_ => ?_)
  · unfold f_X11_nextOneWins_20
    refine T_eq rfl l_0 (fun hq3_ => ?_) (fun hq3_ => ?_)
    · refine T_eq rfl l_0 (fun hq4_ => ?_) (fun hq4_ => ?_)
      · exact T_ret ⟨(i_rng (lo := 0) (hi := 1) l_0 (by omega) (by omega)), hG, hS⟩
      · refine T_eq l_0 l_0 (fun hq5_ => ?_) (fun hq5_ => ?_)
        · exact T_ret ⟨(i_rng (lo := 0) (hi := 1) l_1 (by omega) (by omega)), hG, hS⟩
        · exfalso; omega
    · refine T_qb l_0 (by omega) (by omega) ?_
      exact T_ret ⟨(i_rng (lo := 0) (hi := 1) l_0 (by omega) (by omega)), hG, hS⟩
  · unfold f_X11_nextOneWins_20
    refine T_eq rfl l_0 (fun hq6_ => ?_) (fun hq6_ => ?_)
    · refine T_eq rfl l_0 (fun hq7_ => ?_) (fun hq7_ => ?_)
      · exact T_ret ⟨(i_rng (lo := 0) (hi := 1) l_0 (by omega) (by omega)), hG, hS⟩
      · refine T_eq l_1 l_0 (fun hq8_ => ?_) (fun hq8_ => ?_)
        · exfalso; omega
        · exact T_ret ⟨(i_rng (lo := 0) (hi := 1) l_0 (by omega) (by omega)), hG, hS⟩
    · refine T_qb l_1 (by omega) (by omega) ?_
      exact T_ret ⟨(i_rng (lo := 0) (hi := 1) l_1 (by omega) (by omega)), hG, hS⟩
abbrev l_X11_bestMove : List Bx := []
abbrev po_X11_bestMove (a0 a1 a2 : Int32) (M : qM) (v : Int32) (M' : qM) : Prop := ((-2) ≤ v.toInt ∧ v.toInt ≤ 23) ∧ G M' ∧ Sm l_X11_bestMove M M'
theorem t_X11_bestMove_20 {n : Nat} (hn : 200000 ≤ n) {oa0 oa1 oa2 : Int32} {M0 : qM} {K2 : Int32 → Int32 → Int32 → Int32 → qM → qR} {BK2 : Nat} (hK2 : ∀ (a0 a1 a2 a3 : Int32) (M : qM), G M → Sm l_X11_bestMove M0 M → 0 ≤ a1.toInt ∧ a1.toInt ≤ 1 → 0 ≤ a2.toInt ∧ a2.toInt ≤ 1 → 0 ≤ a3.toInt ∧ a3.toInt ≤ 3 → 3 - a3.toInt < (BK2 : Int) → qT (K2 a0 a1 a2 a3 M) (po_X11_bestMove oa0 oa1 oa2 M0)) : ∀ (m : Nat) (a0 a1 a2 a3 a4 a5 : Int32) (M : qM), G M → Sm l_X11_bestMove M0 M → 0 ≤ a1.toInt ∧ a1.toInt ≤ 1 → 0 ≤ a2.toInt ∧ a2.toInt ≤ 1 → 0 ≤ a3.toInt ∧ a3.toInt ≤ 2 → 0 ≤ a4.toInt ∧ a4.toInt ≤ 7 → 1 ≤ a5.toInt ∧ a5.toInt ≤ 4 → 3 - a3.toInt < (BK2 : Int) + 1 → 4 - a5.toInt < (m : Int) → qT (f_X11_bestMove_20 n K2 m a0 a1 a2 a3 a4 a5 M) (po_X11_bestMove oa0 oa1 oa2 M0) := by
  intro m
  induction m with
  | zero =>
    intro a0 a1 a2 a3 a4 a5 M hG hS i0 i1 i2 i3 i4 i7 i8
    exfalso; omega
  | succ m ih =>
    intro a0 a1 a2 a3 a4 a5 M hG hS i0 i1 i2 i3 i4 i7 i8
    show qT (b_X11_bestMove_20 n K2 (f_X11_bestMove_20 n K2 m) a0 a1 a2 a3 a4 a5 M) _
    unfold b_X11_bestMove_20
    refine T_lt l_3 rfl (fun hq15_ => ?_) (fun hq15_ => ?_)
    · refine T_ql (i_add rfl l_1 (by omega) (by omega)) ?_
      intro xv16 hq17_
      exact hK2 a0 a1 a2 xv16 M hG hS (i_rng (lo := 0) (hi := 1) rfl (by omega) (by omega)) (i_rng (lo := 0) (hi := 1) rfl (by omega) (by omega)) (i_rng (lo := 0) (hi := 3) rfl (by omega) (by omega)) (by omega)
    · refine T_lt rfl rfl (fun hq18_ => ?_) (fun hq18_ => ?_)
      · refine T_ql (i_add rfl l_1 (by omega) (by omega)) ?_
        intro xv19 hq20_
        exact hK2 a0 a1 a2 xv19 M hG hS (i_rng (lo := 0) (hi := 1) rfl (by omega) (by omega)) (i_rng (lo := 0) (hi := 1) rfl (by omega) (by omega)) (i_rng (lo := 0) (hi := 3) rfl (by omega) (by omega)) (by omega)
      · refine T_eq rfl l_0 (fun hq21_ => ?_) (fun hq21_ => ?_)
        · unfold f_X11_bestMove_49
          refine T_qc (t_X11_nextOneWins hn a0 a2 M hG (i_rng (lo := 0) (hi := 1) rfl (by omega) (by omega))) ?_
          rintro rv22 mv23 ⟨hq24_, gq25_, kq26_⟩
          have hq27_ := kq26_.nil
          subst hq27_
          refine T_eq rfl l_0 (fun hq28_ => ?_) (fun hq28_ => ?_)
          · exact T_ret ⟨(i_rng (lo := (-2)) (hi := 23) (i_add (i_mul l_10 rfl (by omega) (by omega)) rfl (by omega) (by omega)) (by omega) (by omega)), hG, hS⟩
          · refine T_ql (i_add rfl l_1 (by omega) (by omega)) ?_
            intro xv29 hq30_
            exact ih a0 a1 a2 a3 a4 xv29 M hG hS (i_rng (lo := 0) (hi := 1) rfl (by omega) (by omega)) (i_rng (lo := 0) (hi := 1) rfl (by omega) (by omega)) (i_rng (lo := 0) (hi := 2) rfl (by omega) (by omega)) (i_rng (lo := 0) (hi := 7) rfl (by omega) (by omega)) (i_rng (lo := 1) (hi := 4) rfl (by omega) (by omega)) (by omega) (by omega)
        · unfold f_X11_bestMove_49
          have hq33_ := i_full (a0)
          have hq34_ := i_full (a5 <<< (((3 : Int32) * a3) &&& 31))
          refine T_qc (t_X11_nextOneWins hn (a0 - (a5 <<< (((3 : Int32) * a3) &&& 31))) a2 M hG (i_rng (lo := 0) (hi := 1) rfl (by omega) (by omega))) ?_
          rintro rv31 mv32 ⟨hq35_, gq36_, kq37_⟩
          have hq38_ := kq37_.nil
          subst hq38_
          refine T_eq rfl l_0 (fun hq39_ => ?_) (fun hq39_ => ?_)
          · exact T_ret ⟨(i_rng (lo := (-2)) (hi := 23) (i_add (i_mul l_10 rfl (by omega) (by omega)) rfl (by omega) (by omega)) (by omega) (by omega)), hG, hS⟩
          · refine T_ql (i_add rfl l_1 (by omega) (by omega)) ?_
            intro xv40 hq41_
            exact ih a0 a1 a2 a3 a4 xv40 M hG hS (i_rng (lo := 0) (hi := 1) rfl (by omega) (by omega)) (i_rng (lo := 0) (hi := 1) rfl (by omega) (by omega)) (i_rng (lo := 0) (hi := 2) rfl (by omega) (by omega)) (i_rng (lo := 0) (hi := 7) rfl (by omega) (by omega)) (i_rng (lo := 1) (hi := 4) rfl (by omega) (by omega)) (by omega) (by omega)
theorem t_X11_bestMove_2 {n : Nat} (hn : 200000 ≤ n) {oa0 oa1 oa2 : Int32} {M0 : qM} : ∀ (m : Nat) (a0 a1 a2 a3 : Int32) (M : qM), G M → Sm l_X11_bestMove M0 M → 0 ≤ a1.toInt ∧ a1.toInt ≤ 1 → 0 ≤ a2.toInt ∧ a2.toInt ≤ 1 → 0 ≤ a3.toInt ∧ a3.toInt ≤ 3 → 3 - a3.toInt < (m : Int) → qT (f_X11_bestMove_2 n m a0 a1 a2 a3 M) (po_X11_bestMove oa0 oa1 oa2 M0) := by
  intro m
  induction m with
  | zero =>
    intro a0 a1 a2 a3 M hG hS i0 i1 i2 i5
    exfalso; omega
  | succ m ih =>
    intro a0 a1 a2 a3 M hG hS i0 i1 i2 i5
    show qT (b_X11_bestMove_2 n (f_X11_bestMove_2 n m) a0 a1 a2 a3 M) _
    unfold b_X11_bestMove_2
    refine T_le l_3 rfl (fun hq47_ => ?_) (fun hq47_ => ?_)
    · exact T_ret ⟨(i_rng (lo := (-2)) (hi := 23) l_m2 (by omega) (by omega)), hG, hS⟩
    · have hq48_ := i_and (a := a0 >>> (((3 : Int32) * a3) &&& 31)) (b := (7 : Int32)) l_7 (by omega)
      refine T_ql rfl ?_
      intro xv49 hq50_
      exact (t_X11_bestMove_20 hn ih) n a0 a1 a2 a3 xv49 (1 : Int32) M hG hS (i_rng (lo := 0) (hi := 1) rfl (by omega) (by omega)) (i_rng (lo := 0) (hi := 1) rfl (by omega) (by omega)) (i_rng (lo := 0) (hi := 2) rfl (by omega) (by omega)) (i_rng (lo := 0) (hi := 7) rfl (by omega) (by omega)) (i_rng (lo := 1) (hi := 4) l_1 (by omega) (by omega)) (by omega) (by have e5 : ((1 : Int32)).toInt = _ := l_1; omega)
theorem t_X11_bestMove {n : Nat} (hn : 200000 ≤ n) (a0 a1 a2 : Int32) (M : qM) (hG : G M) (pa1 : 0 ≤ a1.toInt ∧ a1.toInt ≤ 1) (pa2 : 0 ≤ a2.toInt ∧ a2.toInt ≤ 1) : qT (f_X11_bestMove n a0 a1 a2 M) (po_X11_bestMove a0 a1 a2 M) := by
  have hS : Sm l_X11_bestMove M M := Sm.rf
  unfold f_X11_bestMove
  exact (t_X11_bestMove_2 hn) n a0 a1 a2 (0 : Int32) M hG hS (i_rng (lo := 0) (hi := 1) rfl (by omega) (by omega)) (i_rng (lo := 0) (hi := 1) rfl (by omega) (by omega)) (i_rng (lo := 0) (hi := 3) l_0 (by omega) (by omega)) (by have e3 : ((0 : Int32)).toInt = _ := l_0; omega)
abbrev l_X11_game : List Bx := []
abbrev po_X11_game (a1 a2 a3 a4 a5 a6 : Int32) (M : qM) (v : Int32) (M' : qM) : Prop := ((-2) ≤ v.toInt ∧ v.toInt ≤ 23) ∧ G M' ∧ Sm l_X11_game M M'
theorem t_X11_game {n : Nat} (hn : 200000 ≤ n) (a1 a2 a3 a4 a5 a6 : Int32) (M : qM) (hG : G M) (pa4 : 0 ≤ a4.toInt ∧ a4.toInt ≤ 1) (pa5 : 0 ≤ a5.toInt ∧ a5.toInt ≤ 1) : qT (f_X11_game n a1 a2 a3 a4 a5 a6 M) (po_X11_game a1 a2 a3 a4 a5 a6 M) := by
  have hS : Sm l_X11_game M M := Sm.rf
  unfold f_X11_game
  refine T_qc (t_X11_isHeap hn a1 M hG ) ?_
  rintro rv1 mv2 ⟨hq3_, gq4_, kq5_⟩
  have hq6_ := kq5_.nil
  subst hq6_
  refine T_eq rfl l_0 (fun hq7_ => ?_) (fun hq7_ => ?_)
  · exact T_ret ⟨(i_rng (lo := (-2)) (hi := 23) l_m1 (by omega) (by omega)), hG, hS⟩
  · refine T_qc (t_X11_isHeap hn a2 M hG ) ?_
    rintro rv8 mv9 ⟨hq10_, gq11_, kq12_⟩
    have hq13_ := kq12_.nil
    subst hq13_
    refine T_eq rfl l_0 (fun hq14_ => ?_) (fun hq14_ => ?_)
    · exact T_ret ⟨(i_rng (lo := (-2)) (hi := 23) l_m1 (by omega) (by omega)), hG, hS⟩
    · refine T_qc (t_X11_isHeap hn a3 M hG ) ?_
      rintro rv15 mv16 ⟨hq17_, gq18_, kq19_⟩
      have hq20_ := kq19_.nil
      subst hq20_
      refine T_eq rfl l_0 (fun hq21_ => ?_) (fun hq21_ => ?_)
      · exact T_ret ⟨(i_rng (lo := (-2)) (hi := 23) l_m1 (by omega) (by omega)), hG, hS⟩
      · refine T_lt rfl l_0 (fun hq22_ => ?_) (fun hq22_ => ?_)
        · exact T_ret ⟨(i_rng (lo := (-2)) (hi := 23) l_m1 (by omega) (by omega)), hG, hS⟩
        · refine T_le rfl l_1 (fun hq23_ => ?_) (fun hq23_ => ?_)
          · refine T_qc (t_X11_bestMove hn ((a1 ||| (a2 <<< ((3 : Int32) &&& 31))) ||| (a3 <<< ((6 : Int32) &&& 31))) a4 a5 M hG (i_rng (lo := 0) (hi := 1) rfl (by omega) (by omega)) (i_rng (lo := 0) (hi := 1) rfl (by omega) (by omega))) ?_
            rintro rv24 mv25 ⟨hq26_, gq27_, kq28_⟩
            have hq29_ := kq28_.nil
            subst hq29_
            refine T_eq rfl l_1 (fun hq30_ => ?_) (fun hq30_ => ?_)
            · exact T_ret ⟨(i_rng (lo := (-2)) (hi := 23) rfl (by omega) (by omega)), hG, hS⟩
            · refine T_eq rfl l_m2 (fun hq31_ => ?_) (fun hq31_ => ?_)
              · exact T_ret ⟨(i_rng (lo := (-2)) (hi := 23) l_0 (by omega) (by omega)), hG, hS⟩
              · exact T_ret ⟨(i_rng (lo := (-2)) (hi := 23) l_1 (by omega) (by omega)), hG, hS⟩
          · exact T_ret ⟨(i_rng (lo := (-2)) (hi := 23) l_m1 (by omega) (by omega)), hG, hS⟩
