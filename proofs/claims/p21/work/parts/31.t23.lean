abbrev l_X12_pastCounts : List Bx := []
abbrev po_X12_pastCounts (a1 a2 : Int32) (M : qM) (v : Int32) (M' : qM) : Prop := (0 ≤ v.toInt ∧ v.toInt ≤ 1) ∧ G M' ∧ Sm l_X12_pastCounts M M'
theorem t_X12_pastCounts_5 {n : Nat} (hn : 200000 ≤ n) {oa1 oa2 : Int32} {M0 : qM} : ∀ (m : Nat) (a1 a2 a3 a4 : Int32) (M : qM), G M → Sm l_X12_pastCounts M0 M → 0 ≤ a1.toInt ∧ a1.toInt ≤ 3 → 0 ≤ a2.toInt ∧ a2.toInt ≤ 9 → 0 ≤ a4.toInt ∧ a4.toInt ≤ 4 → 4 - a4.toInt < (m : Int) → qT (f_X12_pastCounts_5 n m a1 a2 a3 a4 M) (po_X12_pastCounts oa1 oa2 M0) := by
  intro m
  induction m with
  | zero =>
    intro a1 a2 a3 a4 M hG hS i0 i1 i2 i3
    exfalso; omega
  | succ m ih =>
    intro a1 a2 a3 a4 M hG hS i0 i1 i2 i3
    show qT (b_X12_pastCounts_5 n (f_X12_pastCounts_5 n m) a1 a2 a3 a4 M) _
    unfold b_X12_pastCounts_5
    have hq4_ := r_77_61 hG
    refine T_le rfl rfl (fun hq5_ => ?_) (fun hq5_ => ?_)
    · refine T_lt rfl rfl (fun hq6_ => ?_) (fun hq6_ => ?_)
      · exact T_ret ⟨(i_rng (lo := 0) (hi := 1) l_0 (by omega) (by omega)), hG, hS⟩
      · exact T_ret ⟨(i_rng (lo := 0) (hi := 1) l_1 (by omega) (by omega)), hG, hS⟩
    · refine T_qg rfl (by omega) (by omega) ?_
      refine T_qc (t_X12_has0 hn (M 117 a1.toNatClampNeg) a4 M hG (i_rng (lo := 0) (hi := 11) rfl (by omega) (by omega))) ?_
      rintro rv7 mv8 ⟨hq9_, gq10_, kq11_⟩
      have hq12_ := kq11_.nil
      subst hq12_
      refine T_eq rfl l_0 (fun hq13_ => ?_) (fun hq13_ => ?_)
      · refine T_ql (i_add rfl l_1 (by omega) (by omega)) ?_
        intro xv14 hq15_
        exact ih a1 a2 a3 xv14 M hG hS (i_rng (lo := 0) (hi := 3) rfl (by omega) (by omega)) (i_rng (lo := 0) (hi := 9) rfl (by omega) (by omega)) (i_rng (lo := 0) (hi := 4) rfl (by omega) (by omega)) (by omega)
      · refine T_qg rfl (by omega) (by omega) ?_
        have hq16_ := i_full (a3)
        have hq17_ := i_full (M 118 a4.toNatClampNeg)
        refine T_ql rfl ?_
        intro xv18 hq19_
        refine T_ql (i_add rfl l_1 (by omega) (by omega)) ?_
        intro xv20 hq21_
        exact ih a1 a2 xv18 xv20 M hG hS (i_rng (lo := 0) (hi := 3) rfl (by omega) (by omega)) (i_rng (lo := 0) (hi := 9) rfl (by omega) (by omega)) (i_rng (lo := 0) (hi := 4) rfl (by omega) (by omega)) (by omega)
theorem t_X12_pastCounts {n : Nat} (hn : 200000 ≤ n) (a1 a2 : Int32) (M : qM) (hG : G M) (pa1 : 0 ≤ a1.toInt ∧ a1.toInt ≤ 3) (pa2 : 0 ≤ a2.toInt ∧ a2.toInt ≤ 9) : qT (f_X12_pastCounts n a1 a2 M) (po_X12_pastCounts a1 a2 M) := by
  have hS : Sm l_X12_pastCounts M M := Sm.rf
  unfold f_X12_pastCounts
  exact (t_X12_pastCounts_5 hn) n a1 a2 (0 : Int32) (0 : Int32) M hG hS (i_rng (lo := 0) (hi := 3) rfl (by omega) (by omega)) (i_rng (lo := 0) (hi := 9) rfl (by omega) (by omega)) (i_rng (lo := 0) (hi := 4) l_0 (by omega) (by omega)) (by have e2 : ((0 : Int32)).toInt = _ := l_0; have e3 : ((0 : Int32)).toInt = _ := l_0; omega)
abbrev l_X12_goesWith : List Bx := [(118, 119, 0, 0)]
abbrev po_X12_goesWith (a1 a2 a3 : Int32) (M : qM) (v : Int32) (M' : qM) : Prop := (0 ≤ v.toInt ∧ v.toInt ≤ 1) ∧ G M' ∧ Sm l_X12_goesWith M M'
theorem t_X12_goesWith_8 {n : Nat} (hn : 200000 ≤ n) {oa1 oa2 oa3 : Int32} {M0 : qM} : ∀ (m : Nat) (a2 a3 a4 : Int32) (M : qM), G M → Sm l_X12_goesWith M0 M → 0 ≤ a2.toInt ∧ a2.toInt ≤ 10 → 0 ≤ a3.toInt ∧ a3.toInt ≤ 9 → 0 ≤ a4.toInt ∧ a4.toInt ≤ 10 → 10 - a4.toInt < (m : Int) → qT (f_X12_goesWith_8 n m a2 a3 a4 M) (po_X12_goesWith oa1 oa2 oa3 M0) := by
  sorry
theorem t_X12_goesWith {n : Nat} (hn : 200000 ≤ n) (a1 a2 a3 : Int32) (M : qM) (hG : G M) (pa1 : 0 ≤ a1.toInt ∧ a1.toInt ≤ 255) (pa2 : 0 ≤ a2.toInt ∧ a2.toInt ≤ 10) (pa3 : 0 ≤ a3.toInt ∧ a3.toInt ≤ 9) : qT (f_X12_goesWith n a1 a2 a3 M) (po_X12_goesWith a1 a2 a3 M) := by
  have hS : Sm l_X12_goesWith M M := Sm.rf
  unfold f_X12_goesWith
  refine T_qc (t_X12_begins hn a1 M hG (i_rng (lo := 0) (hi := 255) rfl (by omega) (by omega))) ?_
  rintro rv37 mv38 ⟨hq39_, gq40_, kq41_⟩
  have kq42_ := Sm.call hS kq41_ rfl
  exact (t_X12_goesWith_8 hn) n a2 a3 (0 : Int32) mv38 gq40_ kq42_ (i_rng (lo := 0) (hi := 10) rfl (by omega) (by omega)) (i_rng (lo := 0) (hi := 9) rfl (by omega) (by omega)) (i_rng (lo := 0) (hi := 10) l_0 (by omega) (by omega)) (by have e2 : ((0 : Int32)).toInt = _ := l_0; omega)
abbrev l_X12_greaterBy : List Bx := [(118, 119, 0, 0)]
abbrev po_X12_greaterBy (a1 a2 a3 a4 : Int32) (M : qM) (v : Int32) (M' : qM) : Prop := G M' ∧ Sm l_X12_greaterBy M M'
theorem t_X12_greaterBy_9 {n : Nat} (hn : 200000 ≤ n) {oa1 oa2 oa3 oa4 : Int32} {M0 : qM} : ∀ (m : Nat) (a1 a2 a3 a4 a5 a6 a7 : Int32) (M : qM), G M → Sm l_X12_greaterBy M0 M → 0 ≤ a1.toInt ∧ a1.toInt ≤ 3 → 4 ≤ a2.toInt ∧ a2.toInt ≤ 256 → 0 ≤ a3.toInt ∧ a3.toInt ≤ 10 → 0 ≤ a4.toInt ∧ a4.toInt ≤ 9 → 0 ≤ a7.toInt ∧ a7.toInt ≤ 256 → 256 - a7.toInt < (m : Int) → qT (f_X12_greaterBy_9 n m a1 a2 a3 a4 a5 a6 a7 M) (po_X12_greaterBy oa1 oa2 oa3 oa4 M0) := by
  intro m
  induction m with
  | zero =>
    intro a1 a2 a3 a4 a5 a6 a7 M hG hS i0 i1 i2 i3 i4 i5
    exfalso; omega
  | succ m ih =>
    intro a1 a2 a3 a4 a5 a6 a7 M hG hS i0 i1 i2 i3 i4 i5
    show qT (b_X12_greaterBy_9 n (f_X12_greaterBy_9 n m) a1 a2 a3 a4 a5 a6 a7 M) _
    unfold b_X12_greaterBy_9
    refine T_le rfl rfl (fun hq7_ => ?_) (fun hq7_ => ?_)
    · have hq10_ := i_full (a6)
      have hq11_ := i_full (a5)
      refine T_qc (t_X12_max hn a5 (a6 - a5) M hG ) ?_
      rintro rv8 mv9 ⟨gq12_, kq13_⟩
      have hq14_ := kq13_.nil
      subst hq14_
      exact T_ret ⟨hG, hS⟩
    · refine T_qg rfl (by omega) (by omega) ?_
      have hq15_ := r_119 hG a7.toNatClampNeg
      refine T_eq rfl l_0 (fun hq16_ => ?_) (fun hq16_ => ?_)
      · refine T_ql (i_add rfl l_1 (by omega) (by omega)) ?_
        intro xv17 hq18_
        exact ih a1 a2 a3 a4 a5 a6 xv17 M hG hS (i_rng (lo := 0) (hi := 3) rfl (by omega) (by omega)) (i_rng (lo := 4) (hi := 256) rfl (by omega) (by omega)) (i_rng (lo := 0) (hi := 10) rfl (by omega) (by omega)) (i_rng (lo := 0) (hi := 9) rfl (by omega) (by omega)) (i_rng (lo := 0) (hi := 256) rfl (by omega) (by omega)) (by omega)
      · refine T_qc (t_X12_goesWith hn a7 a3 a4 M hG (i_rng (lo := 0) (hi := 255) rfl (by omega) (by omega)) (i_rng (lo := 0) (hi := 10) rfl (by omega) (by omega)) (i_rng (lo := 0) (hi := 9) rfl (by omega) (by omega))) ?_
        rintro rv19 mv20 ⟨hq21_, gq22_, kq23_⟩
        have kq24_ := Sm.call hS kq23_ rfl
        have hq25_ : (mv20 119 a7.toNatClampNeg).toInt = (M 119 a7.toNatClampNeg).toInt := by rw [kq23_ 119 _ (outc rfl)]
        have hq26_ := i_full (a6)
        refine T_ql rfl ?_
        intro xv27 hq28_
        refine T_qc (t_X12_pastCounts hn a1 a4 mv20 gq22_ (i_rng (lo := 0) (hi := 3) rfl (by omega) (by omega)) (i_rng (lo := 0) (hi := 9) rfl (by omega) (by omega))) ?_
        rintro rv29 mv30 ⟨hq31_, gq32_, kq33_⟩
        have hq34_ := kq33_.nil
        subst hq34_
        refine T_eq rfl l_0 (fun hq35_ => ?_) (fun hq35_ => ?_)
        · unfold f_X12_greaterBy_61
          have hq36_ := i_full (a5)
          refine T_ql (i_add rfl l_0 (by omega) (by omega)) ?_
          intro xv37 hq38_
          refine T_ql (i_add rfl l_1 (by omega) (by omega)) ?_
          intro xv39 hq40_
          exact ih a1 a2 a3 a4 xv37 xv27 xv39 mv20 gq22_ kq24_ (i_rng (lo := 0) (hi := 3) rfl (by omega) (by omega)) (i_rng (lo := 4) (hi := 256) rfl (by omega) (by omega)) (i_rng (lo := 0) (hi := 10) rfl (by omega) (by omega)) (i_rng (lo := 0) (hi := 9) rfl (by omega) (by omega)) (i_rng (lo := 0) (hi := 256) rfl (by omega) (by omega)) (by omega)
        · unfold f_X12_greaterBy_61
          have hq41_ := i_full (a5)
          refine T_ql rfl ?_
          intro xv42 hq43_
          refine T_ql (i_add rfl l_1 (by omega) (by omega)) ?_
          intro xv44 hq45_
          exact ih a1 a2 a3 a4 xv42 xv27 xv44 mv20 gq22_ kq24_ (i_rng (lo := 0) (hi := 3) rfl (by omega) (by omega)) (i_rng (lo := 4) (hi := 256) rfl (by omega) (by omega)) (i_rng (lo := 0) (hi := 10) rfl (by omega) (by omega)) (i_rng (lo := 0) (hi := 9) rfl (by omega) (by omega)) (i_rng (lo := 0) (hi := 256) rfl (by omega) (by omega)) (by omega)
theorem t_X12_greaterBy {n : Nat} (hn : 200000 ≤ n) (a1 a2 a3 a4 : Int32) (M : qM) (hG : G M) (pa1 : 0 ≤ a1.toInt ∧ a1.toInt ≤ 3) (pa2 : 4 ≤ a2.toInt ∧ a2.toInt ≤ 256) (pa3 : 0 ≤ a3.toInt ∧ a3.toInt ≤ 10) (pa4 : 0 ≤ a4.toInt ∧ a4.toInt ≤ 9) : qT (f_X12_greaterBy n a1 a2 a3 a4 M) (po_X12_greaterBy a1 a2 a3 a4 M) := by
  have hS : Sm l_X12_greaterBy M M := Sm.rf
  unfold f_X12_greaterBy
  exact (t_X12_greaterBy_9 hn) n a1 a2 a3 a4 (0 : Int32) (0 : Int32) (0 : Int32) M hG hS (i_rng (lo := 0) (hi := 3) rfl (by omega) (by omega)) (i_rng (lo := 4) (hi := 256) rfl (by omega) (by omega)) (i_rng (lo := 0) (hi := 10) rfl (by omega) (by omega)) (i_rng (lo := 0) (hi := 9) rfl (by omega) (by omega)) (i_rng (lo := 0) (hi := 256) l_0 (by omega) (by omega)) (by have e4 : ((0 : Int32)).toInt = _ := l_0; have e5 : ((0 : Int32)).toInt = _ := l_0; have e6 : ((0 : Int32)).toInt = _ := l_0; omega)
abbrev l_X12_histories : List Bx := [(77, 78, 8, 9), (77, 78, 61, 62), (96, 98, 0, 0), (116, 120, 0, 0)]
abbrev po_X12_histories (a1 a2 a3 a4 : Int32) (M : qM) (v : Int32) (M' : qM) : Prop := G M' ∧ Sm l_X12_histories M M'
theorem t_X12_histories_184 {n : Nat} (hn : 200000 ≤ n) {oa1 oa2 oa3 oa4 : Int32} {M0 : qM} : ∀ (m : Nat) (a1 a2 a3 a5 a8 a9 : Int32) (M : qM), G M → Sm l_X12_histories M0 M → 1 ≤ a1.toInt ∧ a1.toInt ≤ 4 → 0 ≤ a2.toInt ∧ a2.toInt ≤ 10 → 0 ≤ a3.toInt ∧ a3.toInt ≤ 9 → 4 ≤ a5.toInt ∧ a5.toInt ≤ 256 → 0 ≤ a8.toInt ∧ a8.toInt ≤ 3 → 1 ≤ a9.toInt ∧ a9.toInt ≤ 4 → 4 - a9.toInt < (m : Int) → qT (f_X12_histories_184 n m a1 a2 a3 a5 a8 a9 M) (po_X12_histories oa1 oa2 oa3 oa4 M0) := by
  intro m
  induction m with
  | zero =>
    intro a1 a2 a3 a5 a8 a9 M hG hS i0 i1 i2 i3 i4 i5 i6
    exfalso; omega
  | succ m ih =>
    intro a1 a2 a3 a5 a8 a9 M hG hS i0 i1 i2 i3 i4 i5 i6
    show qT (b_X12_histories_184 n (f_X12_histories_184 n m) a1 a2 a3 a5 a8 a9 M) _
    unfold b_X12_histories_184
    refine T_le rfl rfl (fun hq3_ => ?_) (fun hq3_ => ?_)
    · exact T_ret ⟨hG, hS⟩
    · refine T_qc (t_X12_greaterBy hn a9 a5 a2 a3 M hG (i_rng (lo := 0) (hi := 3) rfl (by omega) (by omega)) (i_rng (lo := 4) (hi := 256) rfl (by omega) (by omega)) (i_rng (lo := 0) (hi := 10) rfl (by omega) (by omega)) (i_rng (lo := 0) (hi := 9) rfl (by omega) (by omega))) ?_
      rintro rv4 mv5 ⟨gq6_, kq7_⟩
      have kq8_ := Sm.call hS kq7_ rfl
      refine T_qc (t_X12_greaterBy hn a8 a5 a2 a3 mv5 gq6_ (i_rng (lo := 0) (hi := 3) rfl (by omega) (by omega)) (i_rng (lo := 4) (hi := 256) rfl (by omega) (by omega)) (i_rng (lo := 0) (hi := 10) rfl (by omega) (by omega)) (i_rng (lo := 0) (hi := 9) rfl (by omega) (by omega))) ?_
      rintro rv9 mv10 ⟨gq11_, kq12_⟩
      have kq13_ := Sm.call kq8_ kq12_ rfl
      refine T_le rfl rfl (fun hq14_ => ?_) (fun hq14_ => ?_)
      · refine T_ql (i_add rfl l_1 (by omega) (by omega)) ?_
        intro xv15 hq16_
        exact ih a1 a2 a3 a5 a8 xv15 mv10 gq11_ kq13_ (i_rng (lo := 1) (hi := 4) rfl (by omega) (by omega)) (i_rng (lo := 0) (hi := 10) rfl (by omega) (by omega)) (i_rng (lo := 0) (hi := 9) rfl (by omega) (by omega)) (i_rng (lo := 4) (hi := 256) rfl (by omega) (by omega)) (i_rng (lo := 0) (hi := 3) rfl (by omega) (by omega)) (i_rng (lo := 1) (hi := 4) rfl (by omega) (by omega)) (by omega)
      · refine T_ql (i_add rfl l_1 (by omega) (by omega)) ?_
        intro xv17 hq18_
        exact ih a1 a2 a3 a5 a9 xv17 mv10 gq11_ kq13_ (i_rng (lo := 1) (hi := 4) rfl (by omega) (by omega)) (i_rng (lo := 0) (hi := 10) rfl (by omega) (by omega)) (i_rng (lo := 0) (hi := 9) rfl (by omega) (by omega)) (i_rng (lo := 4) (hi := 256) rfl (by omega) (by omega)) (i_rng (lo := 0) (hi := 3) rfl (by omega) (by omega)) (i_rng (lo := 1) (hi := 4) rfl (by omega) (by omega)) (by omega)
theorem t_X12_histories_87 {n : Nat} (hn : 200000 ≤ n) {oa1 oa2 oa3 oa4 : Int32} {M0 : qM} : ∀ (m : Nat) (a1 a2 a3 a4 a5 a6 a7 a8 : Int32) (M : qM), G M → Sm l_X12_histories M0 M → 1 ≤ a1.toInt ∧ a1.toInt ≤ 4 → 0 ≤ a2.toInt ∧ a2.toInt ≤ 10 → 0 ≤ a3.toInt ∧ a3.toInt ≤ 9 → 0 ≤ a4.toInt ∧ a4.toInt ≤ 2 → 4 ≤ a5.toInt ∧ a5.toInt ≤ 256 → (-2) ≤ a7.toInt ∧ a7.toInt ≤ 255 → 0 ≤ a8.toInt ∧ a8.toInt ≤ 256 → 256 - a8.toInt < (m : Int) → qT (f_X12_histories_87 n m a1 a2 a3 a4 a5 a6 a7 a8 M) (po_X12_histories oa1 oa2 oa3 oa4 M0) := by
  intro m
  induction m with
  | zero =>
    intro a1 a2 a3 a4 a5 a6 a7 a8 M hG hS i0 i1 i2 i3 i4 i5 i6 i7
    exfalso; omega
  | succ m ih =>
    intro a1 a2 a3 a4 a5 a6 a7 a8 M hG hS i0 i1 i2 i3 i4 i5 i6 i7
    show qT (b_X12_histories_87 n (f_X12_histories_87 n m) a1 a2 a3 a4 a5 a6 a7 a8 M) _
    unfold b_X12_histories_87
    refine T_le rfl rfl (fun hq31_ => ?_) (fun hq31_ => ?_)
    · refine T_le l_2 rfl (fun hq32_ => ?_) (fun hq32_ => ?_)
      · exact (t_X12_histories_184 hn) n a1 a2 a3 a5 (0 : Int32) (1 : Int32) M hG hS (i_rng (lo := 1) (hi := 4) rfl (by omega) (by omega)) (i_rng (lo := 0) (hi := 10) rfl (by omega) (by omega)) (i_rng (lo := 0) (hi := 9) rfl (by omega) (by omega)) (i_rng (lo := 4) (hi := 256) rfl (by omega) (by omega)) (i_rng (lo := 0) (hi := 3) l_0 (by omega) (by omega)) (i_rng (lo := 1) (hi := 4) l_1 (by omega) (by omega)) (by have e4 : ((0 : Int32)).toInt = _ := l_0; have e5 : ((1 : Int32)).toInt = _ := l_1; omega)
      · refine T_eq rfl l_0 (fun hq33_ => ?_) (fun hq33_ => ?_)
        · exact T_ret ⟨hG, hS⟩
        · exact T_ret ⟨hG, hS⟩
    · refine T_qc (t_X12_goesWith hn a8 a2 a3 M hG (i_rng (lo := 0) (hi := 255) rfl (by omega) (by omega)) (i_rng (lo := 0) (hi := 10) rfl (by omega) (by omega)) (i_rng (lo := 0) (hi := 9) rfl (by omega) (by omega))) ?_
      rintro rv34 mv35 ⟨hq36_, gq37_, kq38_⟩
      have kq39_ := Sm.call hS kq38_ rfl
      refine T_qg rfl (by omega) (by omega) ?_
      have hq41_ := i_bool rv34
      refine T_mu gq37_ kq39_ (i_rng (lo := 0) (hi := 1) rfl (by omega) (by omega)) (nw_119 _) (i := 3) rfl ⟨by decide, by decide, Or.inl rfl⟩ ?_
      intro mv40 hq42_ gq43_ kq44_
      have hq45_ : (mv40 119 a8.toNatClampNeg).toInt = (vp_nar .boolean rv34).toInt := by rw [hq42_, mu_at]
      refine T_qg rfl (by omega) (by omega) ?_
      have hq46_ := r_119 gq43_ a8.toNatClampNeg
      refine T_eq rfl l_0 (fun hq47_ => ?_) (fun hq47_ => ?_)
      · unfold f_X12_histories_129
        unfold f_X12_histories_131
        refine T_qg rfl (by omega) (by omega) ?_
        refine T_eq rfl l_0 (fun hq48_ => ?_) (fun hq48_ => ?_)
        · unfold f_X12_histories_150
          have hq49_ := i_full (a6)
          refine T_ql (i_add rfl l_0 (by omega) (by omega)) ?_
          intro xv50 hq51_
          refine T_ql (i_add rfl l_1 (by omega) (by omega)) ?_
          intro xv52 hq53_
          exact ih a1 a2 a3 a4 a5 xv50 a7 xv52 mv40 gq43_ kq44_ (i_rng (lo := 1) (hi := 4) rfl (by omega) (by omega)) (i_rng (lo := 0) (hi := 10) rfl (by omega) (by omega)) (i_rng (lo := 0) (hi := 9) rfl (by omega) (by omega)) (i_rng (lo := 0) (hi := 2) rfl (by omega) (by omega)) (i_rng (lo := 4) (hi := 256) rfl (by omega) (by omega)) (i_rng (lo := (-2)) (hi := 255) rfl (by omega) (by omega)) (i_rng (lo := 0) (hi := 256) rfl (by omega) (by omega)) (by omega)
        · exfalso; omega
      · refine T_eq rfl l_0 (fun hq54_ => ?_) (fun hq54_ => ?_)
        · unfold f_X12_histories_131
          refine T_qg rfl (by omega) (by omega) ?_
          refine T_eq rfl l_0 (fun hq55_ => ?_) (fun hq55_ => ?_)
          · exfalso; omega
          · unfold f_X12_histories_150
            refine T_ql (i_add rfl l_1 (by omega) (by omega)) ?_
            intro xv56 hq57_
            refine T_ql (i_add rfl l_1 (by omega) (by omega)) ?_
            intro xv58 hq59_
            exact ih a1 a2 a3 a4 a5 xv56 a8 xv58 mv40 gq43_ kq44_ (i_rng (lo := 1) (hi := 4) rfl (by omega) (by omega)) (i_rng (lo := 0) (hi := 10) rfl (by omega) (by omega)) (i_rng (lo := 0) (hi := 9) rfl (by omega) (by omega)) (i_rng (lo := 0) (hi := 2) rfl (by omega) (by omega)) (i_rng (lo := 4) (hi := 256) rfl (by omega) (by omega)) (i_rng (lo := (-2)) (hi := 255) rfl (by omega) (by omega)) (i_rng (lo := 0) (hi := 256) rfl (by omega) (by omega)) (by omega)
        · unfold f_X12_histories_129
          unfold f_X12_histories_131
          refine T_qg rfl (by omega) (by omega) ?_
          refine T_eq rfl l_0 (fun hq60_ => ?_) (fun hq60_ => ?_)
          · exfalso; omega
          · unfold f_X12_histories_150
            have hq61_ := i_full (a6)
            refine T_ql rfl ?_
            intro xv62 hq63_
            refine T_ql (i_add rfl l_1 (by omega) (by omega)) ?_
            intro xv64 hq65_
            exact ih a1 a2 a3 a4 a5 xv62 a7 xv64 mv40 gq43_ kq44_ (i_rng (lo := 1) (hi := 4) rfl (by omega) (by omega)) (i_rng (lo := 0) (hi := 10) rfl (by omega) (by omega)) (i_rng (lo := 0) (hi := 9) rfl (by omega) (by omega)) (i_rng (lo := 0) (hi := 2) rfl (by omega) (by omega)) (i_rng (lo := 4) (hi := 256) rfl (by omega) (by omega)) (i_rng (lo := (-2)) (hi := 255) rfl (by omega) (by omega)) (i_rng (lo := 0) (hi := 256) rfl (by omega) (by omega)) (by omega)
theorem t_X12_histories {n : Nat} (hn : 200000 ≤ n) (a1 a2 a3 a4 : Int32) (M : qM) (hG : G M) : qT (f_X12_histories n a1 a2 a3 a4 M) (po_X12_histories a1 a2 a3 a4 M) := by
  sorry
abbrev l_X11_isHeap : List Bx := []
abbrev po_X11_isHeap (a0 : Int32) (M : qM) (v : Int32) (M' : qM) : Prop := (0 ≤ v.toInt ∧ v.toInt ≤ 1) ∧ G M' ∧ Sm l_X11_isHeap M M'
theorem t_X11_isHeap {n : Nat} (hn : 200000 ≤ n) (a0 : Int32) (M : qM) (hG : G M) : qT (f_X11_isHeap n a0 M) (po_X11_isHeap a0 M) := by
  have hS : Sm l_X11_isHeap M M := Sm.rf
  unfold f_X11_isHeap
  refine T_lt rfl l_0 (fun hq1_ => ?_) (fun hq1_ => ?_)
  · exact T_ret ⟨(i_rng (lo := 0) (hi := 1) l_0 (by omega) (by omega)), hG, hS⟩
  · refine T_lt l_7 rfl (fun hq2_ => ?_) (fun hq2_ => ?_)
    · exact T_ret ⟨(i_rng (lo := 0) (hi := 1) l_0 (by omega) (by omega)), hG, hS⟩
    · exact T_ret ⟨(i_rng (lo := 0) (hi := 1) l_1 (by omega) (by omega)), hG, hS⟩
abbrev l_X11_nextOneWins : List Bx := []
abbrev po_X11_nextOneWins (a0 a1 : Int32) (M : qM) (v : Int32) (M' : qM) : Prop := (0 ≤ v.toInt ∧ v.toInt ≤ 1) ∧ G M' ∧ Sm l_X11_nextOneWins M M'
theorem t_X11_nextOneWins {n : Nat} (hn : 200000 ≤ n) (a0 a1 : Int32) (M : qM) (hG : G M) (pa1 : 0 ≤ a1.toInt ∧ a1.toInt ≤ 1) : qT (f_X11_nextOneWins n a0 a1 M) (po_X11_nextOneWins a0 a1 M) := by
  have hS : Sm l_X11_nextOneWins M M := Sm.rf
  unfold f_X11_nextOneWins
  have hq1_ := i_and (a := (a0 ^^^ (a0 >>> ((3 : Int32) &&& 31))) ^^^ (a0 >>> ((6 : Int32) &&& 31))) (b := (3 : Int32)) l_3 (by omega)
  refine T_eq rfl l_0 (fun hq2_ => ?_) (fun hq2_ => ?_)
  · unfold f_X11_nextOneWins_20
    refine T_eq rfl l_0 (fun hq3_ => ?_) (fun hq3_ => ?_)
    · refine T_eq rfl l_0 (fun hq4_ => ?_) (fun hq4_ => ?_)
      · exact T_ret ⟨(i_rng (lo := 0) (hi := 1) l_0 (by omega) (by omega)), hG, hS⟩
      · refine T_eq l_0 l_0 (fun hq5_ => ?_) (fun hq5_ => ?_)
        · exact T_ret ⟨(i_rng (lo := 0) (hi := 1) l_1 (by omega) (by omega)), hG, hS⟩
        · exfalso; omega
    · refine T_qb l_0 (by omega) (by omega) ?_
      exact T_ret ⟨(i_rng (lo := 0) (hi := 1) l_0 (by omega) (by omega)), hG, hS⟩
  · unfold f_X11_nextOneWins_20
    refine T_eq rfl l_0 (fun hq6_ => ?_) (fun hq6_ => ?_)
    · refine T_eq rfl l_0 (fun hq7_ => ?_) (fun hq7_ => ?_)
      · exact T_ret ⟨(i_rng (lo := 0) (hi := 1) l_0 (by omega) (by omega)), hG, hS⟩
      · refine T_eq l_1 l_0 (fun hq8_ => ?_) (fun hq8_ => ?_)
        · exfalso; omega
        · exact T_ret ⟨(i_rng (lo := 0) (hi := 1) l_0 (by omega) (by omega)), hG, hS⟩
    · refine T_qb l_1 (by omega) (by omega) ?_
      exact T_ret ⟨(i_rng (lo := 0) (hi := 1) l_1 (by omega) (by omega)), hG, hS⟩
abbrev l_X11_bestMove : List Bx := []
abbrev po_X11_bestMove (a0 a1 a2 : Int32) (M : qM) (v : Int32) (M' : qM) : Prop := ((-2) ≤ v.toInt ∧ v.toInt ≤ 23) ∧ G M' ∧ Sm l_X11_bestMove M M'
theorem t_X11_bestMove_20 {n : Nat} (hn : 200000 ≤ n) {oa0 oa1 oa2 : Int32} {M0 : qM} {K2 : Int32 → Int32 → Int32 → Int32 → qM → qR} {BK2 : Nat} (hK2 : ∀ (a0 a1 a2 a3 : Int32) (M : qM), G M → Sm l_X11_bestMove M0 M → 0 ≤ a1.toInt ∧ a1.toInt ≤ 1 → 0 ≤ a2.toInt ∧ a2.toInt ≤ 1 → 0 ≤ a3.toInt ∧ a3.toInt ≤ 3 → 3 - a3.toInt < (BK2 : Int) → qT (K2 a0 a1 a2 a3 M) (po_X11_bestMove oa0 oa1 oa2 M0)) : ∀ (m : Nat) (a0 a1 a2 a3 a4 a5 : Int32) (M : qM), G M → Sm l_X11_bestMove M0 M → 0 ≤ a1.toInt ∧ a1.toInt ≤ 1 → 0 ≤ a2.toInt ∧ a2.toInt ≤ 1 → 0 ≤ a3.toInt ∧ a3.toInt ≤ 2 → 0 ≤ a4.toInt ∧ a4.toInt ≤ 7 → 1 ≤ a5.toInt ∧ a5.toInt ≤ 4 → 3 - a3.toInt < (BK2 : Int) + 1 → 4 - a5.toInt < (m : Int) → qT (f_X11_bestMove_20 n K2 m a0 a1 a2 a3 a4 a5 M) (po_X11_bestMove oa0 oa1 oa2 M0) := by
  intro m
  induction m with
  | zero =>
    intro a0 a1 a2 a3 a4 a5 M hG hS i0 i1 i2 i3 i4 i5 i6
    exfalso; omega
  | succ m ih =>
    intro a0 a1 a2 a3 a4 a5 M hG hS i0 i1 i2 i3 i4 i5 i6
    show qT (b_X11_bestMove_20 n K2 (f_X11_bestMove_20 n K2 m) a0 a1 a2 a3 a4 a5 M) _
    unfold b_X11_bestMove_20
    refine T_lt l_3 rfl (fun hq15_ => ?_) (fun hq15_ => ?_)
    · refine T_ql (i_add rfl l_1 (by omega) (by omega)) ?_
      intro xv16 hq17_
      exact hK2 a0 a1 a2 xv16 M hG hS (i_rng (lo := 0) (hi := 1) rfl (by omega) (by omega)) (i_rng (lo := 0) (hi := 1) rfl (by omega) (by omega)) (i_rng (lo := 0) (hi := 3) rfl (by omega) (by omega)) (by omega)
    · refine T_lt rfl rfl (fun hq18_ => ?_) (fun hq18_ => ?_)
      · refine T_ql (i_add rfl l_1 (by omega) (by omega)) ?_
        intro xv19 hq20_
        exact hK2 a0 a1 a2 xv19 M hG hS (i_rng (lo := 0) (hi := 1) rfl (by omega) (by omega)) (i_rng (lo := 0) (hi := 1) rfl (by omega) (by omega)) (i_rng (lo := 0) (hi := 3) rfl (by omega) (by omega)) (by omega)
      · refine T_eq rfl l_0 (fun hq21_ => ?_) (fun hq21_ => ?_)
        · unfold f_X11_bestMove_49
          refine T_qc (t_X11_nextOneWins hn a0 a2 M hG (i_rng (lo := 0) (hi := 1) rfl (by omega) (by omega))) ?_
          rintro rv22 mv23 ⟨hq24_, gq25_, kq26_⟩
          have hq27_ := kq26_.nil
          subst hq27_
          refine T_eq rfl l_0 (fun hq28_ => ?_) (fun hq28_ => ?_)
          · exact T_ret ⟨(i_rng (lo := (-2)) (hi := 23) (i_add (i_mul l_10 rfl (by omega) (by omega)) rfl (by omega) (by omega)) (by omega) (by omega)), hG, hS⟩
          · refine T_ql (i_add rfl l_1 (by omega) (by omega)) ?_
            intro xv29 hq30_
            exact ih a0 a1 a2 a3 a4 xv29 M hG hS (i_rng (lo := 0) (hi := 1) rfl (by omega) (by omega)) (i_rng (lo := 0) (hi := 1) rfl (by omega) (by omega)) (i_rng (lo := 0) (hi := 2) rfl (by omega) (by omega)) (i_rng (lo := 0) (hi := 7) rfl (by omega) (by omega)) (i_rng (lo := 1) (hi := 4) rfl (by omega) (by omega)) (by omega) (by omega)
        · unfold f_X11_bestMove_49
          have hq33_ := i_full (a0)
          have hq34_ := i_full (a5 <<< (((3 : Int32) * a3) &&& 31))
          refine T_qc (t_X11_nextOneWins hn (a0 - (a5 <<< (((3 : Int32) * a3) &&& 31))) a2 M hG (i_rng (lo := 0) (hi := 1) rfl (by omega) (by omega))) ?_
          rintro rv31 mv32 ⟨hq35_, gq36_, kq37_⟩
          have hq38_ := kq37_.nil
          subst hq38_
          refine T_eq rfl l_0 (fun hq39_ => ?_) (fun hq39_ => ?_)
          · exact T_ret ⟨(i_rng (lo := (-2)) (hi := 23) (i_add (i_mul l_10 rfl (by omega) (by omega)) rfl (by omega) (by omega)) (by omega) (by omega)), hG, hS⟩
          · refine T_ql (i_add rfl l_1 (by omega) (by omega)) ?_
            intro xv40 hq41_
            exact ih a0 a1 a2 a3 a4 xv40 M hG hS (i_rng (lo := 0) (hi := 1) rfl (by omega) (by omega)) (i_rng (lo := 0) (hi := 1) rfl (by omega) (by omega)) (i_rng (lo := 0) (hi := 2) rfl (by omega) (by omega)) (i_rng (lo := 0) (hi := 7) rfl (by omega) (by omega)) (i_rng (lo := 1) (hi := 4) rfl (by omega) (by omega)) (by omega) (by omega)
theorem t_X11_bestMove_2 {n : Nat} (hn : 200000 ≤ n) {oa0 oa1 oa2 : Int32} {M0 : qM} : ∀ (m : Nat) (a0 a1 a2 a3 : Int32) (M : qM), G M → Sm l_X11_bestMove M0 M → 0 ≤ a1.toInt ∧ a1.toInt ≤ 1 → 0 ≤ a2.toInt ∧ a2.toInt ≤ 1 → 0 ≤ a3.toInt ∧ a3.toInt ≤ 3 → 3 - a3.toInt < (m : Int) → qT (f_X11_bestMove_2 n m a0 a1 a2 a3 M) (po_X11_bestMove oa0 oa1 oa2 M0) := by
  intro m
  induction m with
  | zero =>
    intro a0 a1 a2 a3 M hG hS i0 i1 i2 i3
    exfalso; omega
  | succ m ih =>
    intro a0 a1 a2 a3 M hG hS i0 i1 i2 i3
    show qT (b_X11_bestMove_2 n (f_X11_bestMove_2 n m) a0 a1 a2 a3 M) _
    unfold b_X11_bestMove_2
    refine T_le l_3 rfl (fun hq47_ => ?_) (fun hq47_ => ?_)
    · exact T_ret ⟨(i_rng (lo := (-2)) (hi := 23) l_m2 (by omega) (by omega)), hG, hS⟩
    · have hq48_ := i_and (a := a0 >>> (((3 : Int32) * a3) &&& 31)) (b := (7 : Int32)) l_7 (by omega)
      refine T_ql rfl ?_
      intro xv49 hq50_
      exact (t_X11_bestMove_20 hn ih) n a0 a1 a2 a3 xv49 (1 : Int32) M hG hS (i_rng (lo := 0) (hi := 1) rfl (by omega) (by omega)) (i_rng (lo := 0) (hi := 1) rfl (by omega) (by omega)) (i_rng (lo := 0) (hi := 2) rfl (by omega) (by omega)) (i_rng (lo := 0) (hi := 7) rfl (by omega) (by omega)) (i_rng (lo := 1) (hi := 4) l_1 (by omega) (by omega)) (by omega) (by have e5 : ((1 : Int32)).toInt = _ := l_1; omega)
theorem t_X11_bestMove {n : Nat} (hn : 200000 ≤ n) (a0 a1 a2 : Int32) (M : qM) (hG : G M) (pa1 : 0 ≤ a1.toInt ∧ a1.toInt ≤ 1) (pa2 : 0 ≤ a2.toInt ∧ a2.toInt ≤ 1) : qT (f_X11_bestMove n a0 a1 a2 M) (po_X11_bestMove a0 a1 a2 M) := by
  have hS : Sm l_X11_bestMove M M := Sm.rf
  unfold f_X11_bestMove
  exact (t_X11_bestMove_2 hn) n a0 a1 a2 (0 : Int32) M hG hS (i_rng (lo := 0) (hi := 1) rfl (by omega) (by omega)) (i_rng (lo := 0) (hi := 1) rfl (by omega) (by omega)) (i_rng (lo := 0) (hi := 3) l_0 (by omega) (by omega)) (by have e3 : ((0 : Int32)).toInt = _ := l_0; omega)
abbrev l_X11_game : List Bx := []
abbrev po_X11_game (a1 a2 a3 a4 a5 a6 : Int32) (M : qM) (v : Int32) (M' : qM) : Prop := ((-2) ≤ v.toInt ∧ v.toInt ≤ 23) ∧ G M' ∧ Sm l_X11_game M M'
theorem t_X11_game {n : Nat} (hn : 200000 ≤ n) (a1 a2 a3 a4 a5 a6 : Int32) (M : qM) (hG : G M) (pa4 : 0 ≤ a4.toInt ∧ a4.toInt ≤ 1) (pa5 : 0 ≤ a5.toInt ∧ a5.toInt ≤ 1) : qT (f_X11_game n a1 a2 a3 a4 a5 a6 M) (po_X11_game a1 a2 a3 a4 a5 a6 M) := by
  have hS : Sm l_X11_game M M := Sm.rf
  unfold f_X11_game
  refine T_qc (t_X11_isHeap hn a1 M hG ) ?_
  rintro rv1 mv2 ⟨hq3_, gq4_, kq5_⟩
  have hq6_ := kq5_.nil
  subst hq6_
  refine T_eq rfl l_0 (fun hq7_ => ?_) (fun hq7_ => ?_)
  · exact T_ret ⟨(i_rng (lo := (-2)) (hi := 23) l_m1 (by omega) (by omega)), hG, hS⟩
  · refine T_qc (t_X11_isHeap hn a2 M hG ) ?_
    rintro rv8 mv9 ⟨hq10_, gq11_, kq12_⟩
    have hq13_ := kq12_.nil
    subst hq13_
    refine T_eq rfl l_0 (fun hq14_ => ?_) (fun hq14_ => ?_)
    · exact T_ret ⟨(i_rng (lo := (-2)) (hi := 23) l_m1 (by omega) (by omega)), hG, hS⟩
    · refine T_qc (t_X11_isHeap hn a3 M hG ) ?_
      rintro rv15 mv16 ⟨hq17_, gq18_, kq19_⟩
      have hq20_ := kq19_.nil
      subst hq20_
      refine T_eq rfl l_0 (fun hq21_ => ?_) (fun hq21_ => ?_)
      · exact T_ret ⟨(i_rng (lo := (-2)) (hi := 23) l_m1 (by omega) (by omega)), hG, hS⟩
      · refine T_lt rfl l_0 (fun hq22_ => ?_) (fun hq22_ => ?_)
        · exact T_ret ⟨(i_rng (lo := (-2)) (hi := 23) l_m1 (by omega) (by omega)), hG, hS⟩
        · refine T_le rfl l_1 (fun hq23_ => ?_) (fun hq23_ => ?_)
          · refine T_qc (t_X11_bestMove hn ((a1 ||| (a2 <<< ((3 : Int32) &&& 31))) ||| (a3 <<< ((6 : Int32) &&& 31))) a4 a5 M hG (i_rng (lo := 0) (hi := 1) rfl (by omega) (by omega)) (i_rng (lo := 0) (hi := 1) rfl (by omega) (by omega))) ?_
            rintro rv24 mv25 ⟨hq26_, gq27_, kq28_⟩
            have hq29_ := kq28_.nil
            subst hq29_
            refine T_eq rfl l_1 (fun hq30_ => ?_) (fun hq30_ => ?_)
            · exact T_ret ⟨(i_rng (lo := (-2)) (hi := 23) rfl (by omega) (by omega)), hG, hS⟩
            · refine T_eq rfl l_m2 (fun hq31_ => ?_) (fun hq31_ => ?_)
              · exact T_ret ⟨(i_rng (lo := (-2)) (hi := 23) l_0 (by omega) (by omega)), hG, hS⟩
              · exact T_ret ⟨(i_rng (lo := (-2)) (hi := 23) l_1 (by omega) (by omega)), hG, hS⟩
          · exact T_ret ⟨(i_rng (lo := (-2)) (hi := 23) l_m1 (by omega) (by omega)), hG, hS⟩
abbrev l_X12_heapIn : List Bx := []
abbrev po_X12_heapIn (a0 a1 : Int32) (M : qM) (v : Int32) (M' : qM) : Prop := (0 ≤ v.toInt ∧ v.toInt ≤ 33554431) ∧ G M' ∧ Sm l_X12_heapIn M M'
theorem t_X12_heapIn {n : Nat} (hn : 200000 ≤ n) (a0 a1 : Int32) (M : qM) (hG : G M) (pa0 : 0 ≤ a0.toInt ∧ a0.toInt ≤ 2147483647) (pa1 : 0 ≤ a1.toInt ∧ a1.toInt ≤ 2) : qT (f_X12_heapIn n a0 a1 M) (po_X12_heapIn a0 a1 M) := by
  have hS : Sm l_X12_heapIn M M := Sm.rf
  unfold f_X12_heapIn
  refine T_eq rfl l_0 (fun hq1_ => ?_) (fun hq1_ => ?_)
  · have hq2_ := i_full (a0)
    exact T_ret ⟨(i_rng (lo := 0) (hi := 33554431) (i_div rfl l_64 (by omega) (by omega)) (by omega) (by omega)), hG, hS⟩
  · refine T_eq rfl l_1 (fun hq3_ => ?_) (fun hq3_ => ?_)
    · have hq4_ := i_full (a0)
      exact T_ret ⟨(i_rng (lo := 0) (hi := 33554431) (i_sub (i_div rfl l_8 (by omega) (by omega)) (i_mul (i_div (i_div rfl l_8 (by omega) (by omega)) l_8 (by omega) (by omega)) l_8 (by omega) (by omega)) (by omega) (by omega)) (by omega) (by omega)), hG, hS⟩
    · have hq5_ := i_full (a0)
      exact T_ret ⟨(i_rng (lo := 0) (hi := 33554431) (i_sub rfl (i_mul (i_div rfl l_8 (by omega) (by omega)) l_8 (by omega) (by omega)) (by omega) (by omega)) (by omega) (by omega)), hG, hS⟩
