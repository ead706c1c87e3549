abbrev l_X7_findCheapest_c7 : List Bx := [(34, 35, 4, 5), (35, 37, 0, 0), (56, 57, 12, 14), (61, 62, 0, 0), (63, 64, 0, 0)]
abbrev po_X7_findCheapest_c7 (a2 a3 : Int32) (M : qM) (v : Int32) (M' : qM) : Prop := (0 ≤ v.toInt ∧ v.toInt ≤ 0) ∧ G M' ∧ Sm l_X7_findCheapest_c7 M M'
theorem t_X7_findCheapest_c7_3 {n : Nat} (hn : 200000 ≤ n) {j : Nat} (hj : q_isLaw j) {oa2 oa3 : Int32} {M0 : qM} : ∀ (m : Nat) (a2 a3 a4 : Int32) (M : qM), G M → Sm l_X7_findCheapest_c7 M0 M → 0 ≤ a2.toInt ∧ a2.toInt ≤ 7 → 0 ≤ a3.toInt ∧ a3.toInt ≤ 200 → 0 ≤ a4.toInt ∧ a4.toInt ≤ 4 → 4 - a4.toInt < (m : Int) → qT (f_X7_findCheapest_3 n 7 j m a2 a3 a4 M) (po_X7_findCheapest_c7 oa2 oa3 M0) := by
  intro m
  induction m with
  | zero =>
    intro a2 a3 a4 M hG hS i0 i1 i2 i5
    exfalso; omega
  | succ m ih =>
    intro a2 a3 a4 M hG hS i0 i1 i2 i5
    show qT (b_X7_findCheapest_3 n 7 j (f_X7_findCheapest_3 n 7 j m) a2 a3 a4 M) _
    unfold b_X7_findCheapest_3
    try simp only [Nat.reduceAdd]
    have hq2_ := r_56_10 hG
    refine T_le rfl rfl (fun hq3_ => ?_) (fun hq3_ => ?_)
    · refine T_mu hG hS (rn_56_12 _) (nw_56 _) (i := 2) rfl ⟨by decide, by decide, Or.inr ⟨by decide, by decide⟩⟩ ?_
      intro mv4 hq5_ gq6_ kq7_
      have hq8_ : (mv4 56 10).toInt = (M 56 10).toInt := by rw [hq5_, mu_ne (Or.inr (by decide))]
      have hq9_ : (mv4 56 12).toInt = 1048576 := by rw [hq5_, mu_at]; exact l_1048576
      refine T_mu gq6_ kq7_ (rn_56_13 _) (nw_56 _) (i := 2) rfl ⟨by decide, by decide, Or.inr ⟨by decide, by decide⟩⟩ ?_
      intro mv10 hq11_ gq12_ kq13_
      have hq14_ : (mv10 56 10).toInt = (mv4 56 10).toInt := by rw [hq11_, mu_ne (Or.inr (by decide))]
      have hq15_ : (mv10 56 12).toInt = (mv4 56 12).toInt := by rw [hq11_, mu_ne (Or.inr (by decide))]
      have hq16_ : (mv10 56 13).toInt = 1048576 := by rw [hq11_, mu_at]; exact l_1048576
      refine T_qc (t_X7_tryGoes hn (0 : Int32) (0 : Int32) (0 : Int32) (3 : Int32) a3 mv10 gq12_ (i_rng (lo := 0) (hi := 4) l_0 (by omega) (by omega)) (i_rng (lo := 0) (hi := 3) l_3 (by omega) (by omega)) (i_rng (lo := 0) (hi := 200) rfl (by omega) (by omega))) ?_
      rintro rv17 mv18 ⟨hq19_, gq20_, kq21_⟩
      have kq22_ := Sm.call kq13_ kq21_ rfl
      have hq23_ : (mv18 56 10).toInt = (mv10 56 10).toInt := by rw [kq21_ 56 10 (by decide)]
      exact T_ret ⟨(i_rng (lo := 0) (hi := 0) l_0 (by omega) (by omega)), gq20_, kq22_⟩
    · refine T_qg rfl (by omega) (by omega) ?_
      have hq26_ := r_57 hG a4.toNatClampNeg
      refine T_qc (t_X7_leastPrice_c7 hn hj a2 (M 57 a4.toNatClampNeg) M hG (i_rng (lo := 0) (hi := 7) rfl (by omega) (by omega)) (i_rng (lo := 0) (hi := 11) rfl (by omega) (by omega))) ?_
      rintro rv24 mv25 ⟨hq27_, gq28_, kq29_⟩
      have kq30_ := Sm.call hS kq29_ rfl
      have hq31_ : (mv25 56 10).toInt = (M 56 10).toInt := by rw [kq29_ 56 10 (by decide)]
      refine T_qg rfl (by omega) (by omega) ?_
      refine T_mu gq28_ kq30_ (rn_61 _ _) (nw_61 _) (i := 3) rfl ⟨by decide, by decide, Or.inl rfl⟩ ?_
      intro mv32 hq33_ gq34_ kq35_
      have hq36_ : (mv32 56 10).toInt = (mv25 56 10).toInt := by rw [hq33_, mu_ne (Or.inl (by decide))]
      have hq37_ : (mv32 61 a4.toNatClampNeg).toInt = rv24.toInt := by rw [hq33_, mu_at]
      refine T_ql (i_add rfl l_1 (by omega) (by omega)) ?_
      intro xv38 hq39_
      exact ih a2 a3 xv38 mv32 gq34_ kq35_ (i_rng (lo := 0) (hi := 7) rfl (by omega) (by omega)) (i_rng (lo := 0) (hi := 200) rfl (by omega) (by omega)) (i_rng (lo := 0) (hi := 4) rfl (by omega) (by omega)) (by omega)
theorem t_X7_findCheapest_c7 {n : Nat} (hn : 200000 ≤ n) {j : Nat} (hj : q_isLaw j) (a2 a3 : Int32) (M : qM) (hG : G M) (pa2 : 0 ≤ a2.toInt ∧ a2.toInt ≤ 7) (pa3 : 0 ≤ a3.toInt ∧ a3.toInt ≤ 200) : qT (f_X7_findCheapest n 7 j a2 a3 M) (po_X7_findCheapest_c7 a2 a3 M) := by
  have hS : Sm l_X7_findCheapest_c7 M M := Sm.rf
  unfold f_X7_findCheapest
  try simp only [Nat.reduceAdd]
  exact (t_X7_findCheapest_c7_3 hn hj) n a2 a3 (0 : Int32) M hG hS (i_rng (lo := 0) (hi := 7) rfl (by omega) (by omega)) (i_rng (lo := 0) (hi := 200) rfl (by omega) (by omega)) (i_rng (lo := 0) (hi := 4) l_0 (by omega) (by omega)) (by have e2 : ((0 : Int32)).toInt = _ := l_0; omega)
abbrev l_X11_cheapest : List Bx := [(34, 35, 4, 5), (35, 37, 0, 0), (56, 57, 10, 14), (57, 64, 0, 0)]
abbrev po_X11_cheapest (a1 a2 a3 a4 a5 : Int32) (M : qM) (v : Int32) (M' : qM) : Prop := G M' ∧ Sm l_X11_cheapest M M'
theorem t_X11_cheapest {n : Nat} (hn : 200000 ≤ n) {j : Nat} (hj : q_isLaw j) (a1 a2 a3 a4 a5 : Int32) (M : qM) (hG : G M) : qT (f_X11_cheapest n j a1 a2 a3 a4 a5 M) (po_X11_cheapest a1 a2 a3 a4 a5 M) := by
  have hS : Sm l_X11_cheapest M M := Sm.rf
  unfold f_X11_cheapest
  refine T_qc (t_X11_canChoose hn a1 a2 a3 M hG ) ?_
  rintro rv1 mv2 ⟨hq3_, hq4_, gq5_, kq6_⟩
  have hq7_ := kq6_.nil
  subst hq7_
  refine T_eq rfl l_0 (fun hq8_ => ?_) (fun hq8_ => ?_)
  · exact T_ret ⟨hG, hS⟩
  · refine T_lt rfl l_0 (fun hq9_ => ?_) (fun hq9_ => ?_)
    · exact T_ret ⟨hG, hS⟩
    · refine T_lt l_200 rfl (fun hq10_ => ?_) (fun hq10_ => ?_)
      · exact T_ret ⟨hG, hS⟩
      · refine T_lt rfl l_0 (fun hq11_ => ?_) (fun hq11_ => ?_)
        · exact T_ret ⟨hG, hS⟩
        · refine T_le rfl l_1 (fun hq12_ => ?_) (fun hq12_ => ?_)
          · refine T_qc (t_X7_prepare_c7 hn hj a1 a2 a3 M hG (i_rng (lo := 0) (hi := 7) rfl (by omega) (by omega)) (i_rng (lo := 0) (hi := 11) rfl (by omega) (by omega))) ?_
            rintro rv13 mv14 ⟨hq15_, gq16_, kq17_⟩
            have kq18_ := Sm.call hS kq17_ rfl
            refine T_qc (t_X7_findCheapest_c7 hn hj a1 a4 mv14 gq16_ (i_rng (lo := 0) (hi := 7) rfl (by omega) (by omega)) (i_rng (lo := 0) (hi := 200) rfl (by omega) (by omega))) ?_
            rintro rv19 mv20 ⟨hq21_, gq22_, kq23_⟩
            have kq24_ := Sm.call kq18_ kq23_ rfl
            refine T_lt rfl l_1048576 (fun hq25_ => ?_) (fun hq25_ => ?_)
            · refine T_eq rfl l_0 (fun hq26_ => ?_) (fun hq26_ => ?_)
              · exact T_ret ⟨gq22_, kq24_⟩
              · exact T_ret ⟨gq22_, kq24_⟩
            · exact T_ret ⟨gq22_, kq24_⟩
          · exact T_ret ⟨hG, hS⟩
abbrev l_X12_marksBought : List Bx := [(108, 109, 0, 0), (110, 111, 0, 0)]
abbrev po_X12_marksBought (a1 : Int32) (M : qM) (v : Int32) (M' : qM) : Prop := (0 ≤ v.toInt ∧ v.toInt ≤ 0) ∧ G M' ∧ Sm l_X12_marksBought M M'
theorem t_X12_marksBought_36 {n : Nat} (hn : 200000 ≤ n) {oa1 : Int32} {M0 : qM} {K2 : Int32 → Int32 → qM → qR} {BK2 : Nat} (hK2 : ∀ (a1 a2 : Int32) (M : qM), G M → Sm l_X12_marksBought M0 M → 1 ≤ a1.toInt ∧ a1.toInt ≤ 160000 → 0 ≤ a2.toInt ∧ a2.toInt ≤ 160000 → 160000 - a2.toInt < (BK2 : Int) → qT (K2 a1 a2 M) (po_X12_marksBought oa1 M0)) : ∀ (m : Nat) (a1 a2 a3 a4 : Int32) (M : qM), G M → Sm l_X12_marksBought M0 M → 1 ≤ a1.toInt ∧ a1.toInt ≤ 160000 → 0 ≤ a2.toInt ∧ a2.toInt ≤ 159999 → 0 ≤ a3.toInt ∧ a3.toInt ≤ 1 → 0 ≤ a4.toInt ∧ a4.toInt ≤ 4 → 160000 - a2.toInt < (BK2 : Int) + 1 → 4 - a4.toInt < (m : Int) → qT (f_X12_marksBought_36 n K2 m a1 a2 a3 a4 M) (po_X12_marksBought oa1 M0) := by
  intro m
  induction m with
  | zero =>
    intro a1 a2 a3 a4 M hG hS i0 i1 i2 i3 i6 i7
    exfalso; omega
  | succ m ih =>
    intro a1 a2 a3 a4 M hG hS i0 i1 i2 i3 i6 i7
    show qT (b_X12_marksBought_36 n K2 (f_X12_marksBought_36 n K2 m) a1 a2 a3 a4 M) _
    unfold b_X12_marksBought_36
    have hq36_ := r_77_43 hG
    refine T_le rfl rfl (fun hq37_ => ?_) (fun hq37_ => ?_)
    · refine T_qg rfl (by omega) (by omega) ?_
      have hq39_ := i_bool a3
      refine T_mu hG hS (i_rng (lo := 0) (hi := 1) rfl (by omega) (by omega)) (nw_110 _) (i := 1) rfl ⟨by decide, by decide, Or.inl rfl⟩ ?_
      intro mv38 hq40_ gq41_ kq42_
      have hq43_ : (mv38 77 43).toInt = (M 77 43).toInt := by rw [hq40_, mu_ne (Or.inl (by decide))]
      have hq44_ : (mv38 110 a2.toNatClampNeg).toInt = (vp_nar .boolean a3).toInt := by rw [hq40_, mu_at]
      refine T_ql (i_add rfl l_1 (by omega) (by omega)) ?_
      intro xv45 hq46_
      exact hK2 a1 xv45 mv38 gq41_ kq42_ (i_rng (lo := 1) (hi := 160000) rfl (by omega) (by omega)) (i_rng (lo := 0) (hi := 160000) rfl (by omega) (by omega)) (by omega)
    · refine T_eq rfl l_0 (fun hq47_ => ?_) (fun hq47_ => ?_)
      · unfold f_X12_marksBought_81
        refine T_ql (i_add rfl l_1 (by omega) (by omega)) ?_
        intro xv48 hq49_
        exact ih a1 a2 (0 : Int32) xv48 M hG hS (i_rng (lo := 1) (hi := 160000) rfl (by omega) (by omega)) (i_rng (lo := 0) (hi := 159999) rfl (by omega) (by omega)) (i_rng (lo := 0) (hi := 1) l_0 (by omega) (by omega)) (i_rng (lo := 0) (hi := 4) rfl (by omega) (by omega)) (by omega) (by have e2 : ((0 : Int32)).toInt = _ := l_0; omega)
      · refine T_qg rfl (by omega) (by omega) ?_
        have hq50_ := r_108 hG a4.toNatClampNeg
        refine T_qg rfl (by omega) (by omega) ?_
        have hq51_ := r_103 hG ((M 108 a4.toNatClampNeg).toNatClampNeg)
        refine T_eq rfl l_0 (fun hq52_ => ?_) (fun hq52_ => ?_)
        · refine T_ql (i_add rfl l_1 (by omega) (by omega)) ?_
          intro xv53 hq54_
          exact ih a1 a2 (1 : Int32) xv53 M hG hS (i_rng (lo := 1) (hi := 160000) rfl (by omega) (by omega)) (i_rng (lo := 0) (hi := 159999) rfl (by omega) (by omega)) (i_rng (lo := 0) (hi := 1) l_1 (by omega) (by omega)) (i_rng (lo := 0) (hi := 4) rfl (by omega) (by omega)) (by omega) (by have e2 : ((1 : Int32)).toInt = _ := l_1; omega)
        · refine T_qg rfl (by omega) (by omega) ?_
          refine T_le l_1000000000 rfl (fun hq55_ => ?_) (fun hq55_ => ?_)
          · unfold f_X12_marksBought_81
            refine T_ql (i_add rfl l_1 (by omega) (by omega)) ?_
            intro xv56 hq57_
            exact ih a1 a2 (0 : Int32) xv56 M hG hS (i_rng (lo := 1) (hi := 160000) rfl (by omega) (by omega)) (i_rng (lo := 0) (hi := 159999) rfl (by omega) (by omega)) (i_rng (lo := 0) (hi := 1) l_0 (by omega) (by omega)) (i_rng (lo := 0) (hi := 4) rfl (by omega) (by omega)) (by omega) (by have e2 : ((0 : Int32)).toInt = _ := l_0; omega)
          · refine T_ql (i_add rfl l_1 (by omega) (by omega)) ?_
            intro xv58 hq59_
            exact ih a1 a2 (1 : Int32) xv58 M hG hS (i_rng (lo := 1) (hi := 160000) rfl (by omega) (by omega)) (i_rng (lo := 0) (hi := 159999) rfl (by omega) (by omega)) (i_rng (lo := 0) (hi := 1) l_1 (by omega) (by omega)) (i_rng (lo := 0) (hi := 4) rfl (by omega) (by omega)) (by omega) (by have e2 : ((1 : Int32)).toInt = _ := l_1; omega)
theorem t_X12_marksBought_2 {n : Nat} (hn : 200000 ≤ n) {oa1 : Int32} {M0 : qM} : ∀ (m : Nat) (a1 a2 : Int32) (M : qM), G M → Sm l_X12_marksBought M0 M → 1 ≤ a1.toInt ∧ a1.toInt ≤ 160000 → 0 ≤ a2.toInt ∧ a2.toInt ≤ 160000 → 160000 - a2.toInt < (m : Int) → qT (f_X12_marksBought_2 n m a1 a2 M) (po_X12_marksBought oa1 M0) := by
  intro m
  induction m with
  | zero =>
    intro a1 a2 M hG hS i0 i1 i4
    exfalso; omega
  | succ m ih =>
    intro a1 a2 M hG hS i0 i1 i4
    show qT (b_X12_marksBought_2 n (f_X12_marksBought_2 n m) a1 a2 M) _
    unfold b_X12_marksBought_2
    refine T_le rfl rfl (fun hq75_ => ?_) (fun hq75_ => ?_)
    · exact T_ret ⟨(i_rng (lo := 0) (hi := 0) l_0 (by omega) (by omega)), hG, hS⟩
    · refine T_qc (t_X12_takesState hn a2 M hG (i_rng (lo := 0) (hi := 159999) rfl (by omega) (by omega))) ?_
      rintro rv76 mv77 ⟨hq78_, gq79_, kq80_⟩
      have kq81_ := Sm.call hS kq80_ rfl
      refine T_qc (t_X12_madeNow hn  mv77 gq79_ ) ?_
      rintro rv82 mv83 ⟨gq84_, kq85_⟩
      have hq86_ := kq85_.nil
      subst hq86_
      refine T_eq rfl l_0 (fun hq87_ => ?_) (fun hq87_ => ?_)
      · refine T_qc (t_X12_goesNow hn  mv77 gq79_ ) ?_
        rintro rv88 mv89 ⟨gq90_, kq91_⟩
        have hq92_ := kq91_.nil
        subst hq92_
        refine T_lt l_3 rfl (fun hq93_ => ?_) (fun hq93_ => ?_)
        · unfold f_X12_marksBought_31
          unfold f_X12_marksBought_32
          exact (t_X12_marksBought_36 hn ih) n a1 a2 (0 : Int32) (0 : Int32) mv77 gq79_ kq81_ (i_rng (lo := 1) (hi := 160000) rfl (by omega) (by omega)) (i_rng (lo := 0) (hi := 159999) rfl (by omega) (by omega)) (i_rng (lo := 0) (hi := 1) l_0 (by omega) (by omega)) (i_rng (lo := 0) (hi := 4) l_0 (by omega) (by omega)) (by omega) (by have e2 : ((0 : Int32)).toInt = _ := l_0; have e3 : ((0 : Int32)).toInt = _ := l_0; omega)
        · unfold f_X12_marksBought_32
          exact (t_X12_marksBought_36 hn ih) n a1 a2 (1 : Int32) (0 : Int32) mv77 gq79_ kq81_ (i_rng (lo := 1) (hi := 160000) rfl (by omega) (by omega)) (i_rng (lo := 0) (hi := 159999) rfl (by omega) (by omega)) (i_rng (lo := 0) (hi := 1) l_1 (by omega) (by omega)) (i_rng (lo := 0) (hi := 4) l_0 (by omega) (by omega)) (by omega) (by have e2 : ((1 : Int32)).toInt = _ := l_1; have e3 : ((0 : Int32)).toInt = _ := l_0; omega)
      · unfold f_X12_marksBought_31
        unfold f_X12_marksBought_32
        exact (t_X12_marksBought_36 hn ih) n a1 a2 (0 : Int32) (0 : Int32) mv77 gq79_ kq81_ (i_rng (lo := 1) (hi := 160000) rfl (by omega) (by omega)) (i_rng (lo := 0) (hi := 159999) rfl (by omega) (by omega)) (i_rng (lo := 0) (hi := 1) l_0 (by omega) (by omega)) (i_rng (lo := 0) (hi := 4) l_0 (by omega) (by omega)) (by omega) (by have e2 : ((0 : Int32)).toInt = _ := l_0; have e3 : ((0 : Int32)).toInt = _ := l_0; omega)
theorem t_X12_marksBought {n : Nat} (hn : 200000 ≤ n) (a1 : Int32) (M : qM) (hG : G M) (pa1 : 1 ≤ a1.toInt ∧ a1.toInt ≤ 160000) : qT (f_X12_marksBought n a1 M) (po_X12_marksBought a1 M) := by
  have hS : Sm l_X12_marksBought M M := Sm.rf
  unfold f_X12_marksBought
  exact (t_X12_marksBought_2 hn) n a1 (0 : Int32) M hG hS (i_rng (lo := 1) (hi := 160000) rfl (by omega) (by omega)) (i_rng (lo := 0) (hi := 160000) l_0 (by omega) (by omega)) (by have e1 : ((0 : Int32)).toInt = _ := l_0; omega)
abbrev l_X12_leastPrice : List Bx := [(96, 98, 0, 0)]
abbrev po_X12_leastPrice (a1 a2 : Int32) (M : qM) (v : Int32) (M' : qM) : Prop := ((-2147483648) ≤ v.toInt ∧ v.toInt ≤ 1000000000) ∧ G M' ∧ Sm l_X12_leastPrice M M'
theorem t_X12_leastPrice_7 {n : Nat} (hn : 200000 ≤ n) {oa1 oa2 : Int32} {M0 : qM} : ∀ (m : Nat) (a1 a2 a3 a4 : Int32) (M : qM), G M → Sm l_X12_leastPrice M0 M → 0 ≤ a1.toInt ∧ a1.toInt ≤ 7 → 0 ≤ a2.toInt ∧ a2.toInt ≤ 11 → (-2147483648) ≤ a3.toInt ∧ a3.toInt ≤ 1000000000 → 0 ≤ a4.toInt ∧ a4.toInt ≤ 8 → 8 - a4.toInt < (m : Int) → qT (f_X12_leastPrice_7 n m a1 a2 a3 a4 M) (po_X12_leastPrice oa1 oa2 M0) := by
  intro m
  induction m with
  | zero =>
    intro a1 a2 a3 a4 M hG hS i0 i1 i2 i3 i6
    exfalso; omega
  | succ m ih =>
    intro a1 a2 a3 a4 M hG hS i0 i1 i2 i3 i6
    show qT (b_X12_leastPrice_7 n (f_X12_leastPrice_7 n m) a1 a2 a3 a4 M) _
    unfold b_X12_leastPrice_7
    refine T_le l_8 rfl (fun hq5_ => ?_) (fun hq5_ => ?_)
    · have hq6_ := i_full (a3)
      exact T_ret ⟨(i_rng (lo := (-2147483648)) (hi := 1000000000) rfl (by omega) (by omega)), hG, hS⟩
    · refine T_qc (t_X12_isPerson hn a4 M hG ) ?_
      rintro rv7 mv8 ⟨hq9_, hq10_, gq11_, kq12_⟩
      have hq13_ := kq12_.nil
      subst hq13_
      refine T_eq rfl l_0 (fun hq14_ => ?_) (fun hq14_ => ?_)
      · refine T_ql (i_add rfl l_1 (by omega) (by omega)) ?_
        intro xv15 hq16_
        have hq17_ := i_full (a3)
        exact ih a1 a2 a3 xv15 M hG hS (i_rng (lo := 0) (hi := 7) rfl (by omega) (by omega)) (i_rng (lo := 0) (hi := 11) rfl (by omega) (by omega)) (i_rng (lo := (-2147483648)) (hi := 1000000000) rfl (by omega) (by omega)) (i_rng (lo := 0) (hi := 8) rfl (by omega) (by omega)) (by omega)
      · refine T_eq rfl rfl (fun hq18_ => ?_) (fun hq18_ => ?_)
        · refine T_ql (i_add rfl l_1 (by omega) (by omega)) ?_
          intro xv19 hq20_
          have hq21_ := i_full (a3)
          exact ih a1 a2 a3 xv19 M hG hS (i_rng (lo := 0) (hi := 7) rfl (by omega) (by omega)) (i_rng (lo := 0) (hi := 11) rfl (by omega) (by omega)) (i_rng (lo := (-2147483648)) (hi := 1000000000) rfl (by omega) (by omega)) (i_rng (lo := 0) (hi := 8) rfl (by omega) (by omega)) (by omega)
        · refine T_qc (t_X12_at hn a4 a2 M hG (i_rng (lo := 0) (hi := 7) rfl (by omega) (by omega)) (i_rng (lo := 0) (hi := 11) rfl (by omega) (by omega))) ?_
          rintro rv22 mv23 ⟨hq24_, hq25_, gq26_, kq27_⟩
          have hq28_ := kq27_.nil
          subst hq28_
          refine T_qg (i_add l_0 rfl (by omega) (by omega)) (by omega) (by omega) ?_
          refine T_le rfl l_0 (fun hq29_ => ?_) (fun hq29_ => ?_)
          · refine T_ql (i_add rfl l_1 (by omega) (by omega)) ?_
            intro xv30 hq31_
            have hq32_ := i_full (a3)
            exact ih a1 a2 a3 xv30 M hG hS (i_rng (lo := 0) (hi := 7) rfl (by omega) (by omega)) (i_rng (lo := 0) (hi := 11) rfl (by omega) (by omega)) (i_rng (lo := (-2147483648)) (hi := 1000000000) rfl (by omega) (by omega)) (i_rng (lo := 0) (hi := 8) rfl (by omega) (by omega)) (by omega)
          · refine T_qc (t_X12_costOf hn a1 a2 a4 M hG (i_rng (lo := 0) (hi := 7) rfl (by omega) (by omega)) (i_rng (lo := 0) (hi := 11) rfl (by omega) (by omega)) (i_rng (lo := 0) (hi := 7) rfl (by omega) (by omega))) ?_
            rintro rv33 mv34 ⟨hq35_, gq36_, kq37_⟩
            have kq38_ := Sm.call hS kq37_ rfl
            have hq39_ : (mv34 78 (((0 : Int32) + rv22).toNatClampNeg)).toInt = (M 78 (((0 : Int32) + rv22).toNatClampNeg)).toInt := by rw [kq37_ 78 _ (out78 (lo := 0) (hi := 96) rfl (by rw [tnc, (i_add l_0 rfl (by omega) (by omega))]; omega) (by rw [tnc, (i_add l_0 rfl (by omega) (by omega))]; omega))]
            have hq42_ := i_full (a3)
            refine T_qc (t_X12_min hn a3 rv33 mv34 gq36_ (i_rng (lo := (-2147483648)) (hi := 1000000000) rfl (by omega) (by omega))) ?_
            rintro rv40 mv41 ⟨hq43_, gq44_, kq45_⟩
            have hq46_ := kq45_.nil
            subst hq46_
            refine T_ql (i_add rfl l_1 (by omega) (by omega)) ?_
            intro xv47 hq48_
            have hq49_ := i_full (rv40)
            exact ih a1 a2 rv40 xv47 mv34 gq36_ kq38_ (i_rng (lo := 0) (hi := 7) rfl (by omega) (by omega)) (i_rng (lo := 0) (hi := 11) rfl (by omega) (by omega)) (i_rng (lo := (-2147483648)) (hi := 1000000000) rfl (by omega) (by omega)) (i_rng (lo := 0) (hi := 8) rfl (by omega) (by omega)) (by omega)
theorem t_X12_leastPrice {n : Nat} (hn : 200000 ≤ n) (a1 a2 : Int32) (M : qM) (hG : G M) (pa1 : 0 ≤ a1.toInt ∧ a1.toInt ≤ 7) (pa2 : 0 ≤ a2.toInt ∧ a2.toInt ≤ 11) : qT (f_X12_leastPrice n a1 a2 M) (po_X12_leastPrice a1 a2 M) := by
  have hS : Sm l_X12_leastPrice M M := Sm.rf
  unfold f_X12_leastPrice
  exact (t_X12_leastPrice_7 hn) n a1 a2 (1000000000 : Int32) (0 : Int32) M hG hS (i_rng (lo := 0) (hi := 7) rfl (by omega) (by omega)) (i_rng (lo := 0) (hi := 11) rfl (by omega) (by omega)) (i_rng (lo := (-2147483648)) (hi := 1000000000) l_1000000000 (by omega) (by omega)) (i_rng (lo := 0) (hi := 8) l_0 (by omega) (by omega)) (by have e2 : ((1000000000 : Int32)).toInt = _ := l_1000000000; have e3 : ((0 : Int32)).toInt = _ := l_0; omega)
abbrev l_X12_coinsNow : List Bx := []
abbrev po_X12_coinsNow (M : qM) (v : Int32) (M' : qM) : Prop := G M' ∧ Sm l_X12_coinsNow M M'
theorem t_X12_coinsNow_4 {n : Nat} (hn : 200000 ≤ n) {M0 : qM} : ∀ (m : Nat) (a1 a2 : Int32) (M : qM), G M → Sm l_X12_coinsNow M0 M → 0 ≤ a2.toInt ∧ a2.toInt ≤ 4 → 4 - a2.toInt < (m : Int) → qT (f_X12_coinsNow_4 n m a1 a2 M) (po_X12_coinsNow  M0) := by
  intro m
  induction m with
  | zero =>
    intro a1 a2 M hG hS i0 i3
    exfalso; omega
  | succ m ih =>
    intro a1 a2 M hG hS i0 i3
    show qT (b_X12_coinsNow_4 n (f_X12_coinsNow_4 n m) a1 a2 M) _
    unfold b_X12_coinsNow_4
    have hq5_ := r_77_43 hG
    refine T_le rfl rfl (fun hq6_ => ?_) (fun hq6_ => ?_)
    · exact T_ret ⟨hG, hS⟩
    · refine T_qg rfl (by omega) (by omega) ?_
      have hq7_ := r_108 hG a2.toNatClampNeg
      refine T_qg rfl (by omega) (by omega) ?_
      have hq8_ := r_103 hG ((M 108 a2.toNatClampNeg).toNatClampNeg)
      refine T_le rfl l_0 (fun hq9_ => ?_) (fun hq9_ => ?_)
      · unfold f_X12_coinsNow_49
        have hq10_ := i_full (a1)
        refine T_ql (i_add rfl l_0 (by omega) (by omega)) ?_
        intro xv11 hq12_
        refine T_ql (i_add rfl l_1 (by omega) (by omega)) ?_
        intro xv13 hq14_
        exact ih xv11 xv13 M hG hS (i_rng (lo := 0) (hi := 4) rfl (by omega) (by omega)) (by omega)
      · refine T_qg rfl (by omega) (by omega) ?_
        refine T_qg rfl (by omega) (by omega) ?_
        refine T_qg rfl (by omega) (by omega) ?_
        unfold f_X12_coinsNow_49
        have hq15_ := i_full (M 109 a2.toNatClampNeg)
        have hq16_ := i_full (a1)
        have hq17_ := i_full ((M 103 ((M 108 a2.toNatClampNeg).toNatClampNeg)) * (M 109 a2.toNatClampNeg))
        refine T_ql rfl ?_
        intro xv18 hq19_
        refine T_ql (i_add rfl l_1 (by omega) (by omega)) ?_
        intro xv20 hq21_
        exact ih xv18 xv20 M hG hS (i_rng (lo := 0) (hi := 4) rfl (by omega) (by omega)) (by omega)
theorem t_X12_coinsNow {n : Nat} (hn : 200000 ≤ n) (M : qM) (hG : G M) : qT (f_X12_coinsNow n  M) (po_X12_coinsNow  M) := by
  have hS : Sm l_X12_coinsNow M M := Sm.rf
  unfold f_X12_coinsNow
  exact (t_X12_coinsNow_4 hn) n (0 : Int32) (0 : Int32) M hG hS (i_rng (lo := 0) (hi := 4) l_0 (by omega) (by omega)) (by have e0 : ((0 : Int32)).toInt = _ := l_0; have e1 : ((0 : Int32)).toInt = _ := l_0; omega)
