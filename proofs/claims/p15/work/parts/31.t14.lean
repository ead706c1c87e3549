abbrev l_X12_byLaw : List Bx := [(96, 97, 0, 0)]
abbrev po_X12_byLaw (a1 a2 a3 : Int32) (M : qM) (v : Int32) (M' : qM) : Prop := (0 ≤ v.toInt ∧ v.toInt ≤ 999) ∧ G M' ∧ Sm l_X12_byLaw M M'
theorem t_X12_byLaw_6 {n : Nat} (hn : 200000 ≤ n) {oa1 oa2 oa3 : Int32} {M0 : qM} : ∀ (m : Nat) (a1 a2 a4 a5 : Int32) (M : qM), G M → Sm l_X12_byLaw M0 M → 99 ≤ a1.toInt ∧ a1.toInt ≤ 118 → 99 ≤ a2.toInt ∧ a2.toInt ≤ 999 → 0 ≤ a4.toInt ∧ a4.toInt ≤ 1 → 0 ≤ a5.toInt ∧ a5.toInt ≤ 16 → 16 - a5.toInt < (m : Int) → qT (f_X12_byLaw_6 n m a1 a2 a4 a5 M) (po_X12_byLaw oa1 oa2 oa3 M0) := by
  intro m
  induction m with
  | zero =>
    intro a1 a2 a4 a5 M hG hS i0 i1 i2 i3 i6
    exfalso; omega
  | succ m ih =>
    intro a1 a2 a4 a5 M hG hS i0 i1 i2 i3 i6
    show qT (b_X12_byLaw_6 n (f_X12_byLaw_6 n m) a1 a2 a4 a5 M) _
    unfold b_X12_byLaw_6
    have hq3_ := r_77_17 hG
    refine T_le rfl rfl (fun hq4_ => ?_) (fun hq4_ => ?_)
    · exact T_ret ⟨(i_rng (lo := 0) (hi := 999) rfl (by omega) (by omega)), hG, hS⟩
    · refine T_qg rfl (by omega) (by omega) ?_
      refine T_eq rfl rfl (fun hq5_ => ?_) (fun hq5_ => ?_)
      · refine T_qg rfl (by omega) (by omega) ?_
        refine T_qg rfl (by omega) (by omega) ?_
        have hq8_ := r_94 hG a5.toNatClampNeg
        have hq9_ := r_95 hG a5.toNatClampNeg
        refine T_qc (t_X12_comesTo hn (M 94 a5.toNatClampNeg) (M 95 a5.toNatClampNeg) M hG (i_rng (lo := 0) (hi := 250) rfl (by omega) (by omega)) (i_rng (lo := 0) (hi := 250) rfl (by omega) (by omega)) (hG.2.2.1 a5.toNatClampNeg (by rw [tnc]; omega)).2) ?_
        rintro rv6 mv7 ⟨gq10_, kq11_⟩
        have kq12_ := Sm.call hS kq11_ rfl
        have hq13_ : (mv7 77 17).toInt = (M 77 17).toInt := by rw [kq11_ 77 17 (by decide)]
        have hq14_ : (mv7 92 a5.toNatClampNeg).toInt = (M 92 a5.toNatClampNeg).toInt := by rw [kq11_ 92 _ (outc rfl)]
        refine T_eq rfl l_1 (fun hq15_ => ?_) (fun hq15_ => ?_)
        · refine T_qg rfl (by omega) (by omega) ?_
          refine T_qg rfl (by omega) (by omega) ?_
          have hq18_ := r_93 gq10_ a5.toNatClampNeg
          have hq19_ := r_94 gq10_ a5.toNatClampNeg
          refine T_qc (t_X12_comesTo hn (mv7 93 a5.toNatClampNeg) (mv7 94 a5.toNatClampNeg) mv7 gq10_ (i_rng (lo := 0) (hi := 250) rfl (by omega) (by omega)) (i_rng (lo := 0) (hi := 250) rfl (by omega) (by omega)) (gq10_.2.2.1 a5.toNatClampNeg (by rw [tnc]; omega)).1) ?_
          rintro rv16 mv17 ⟨gq20_, kq21_⟩
          have kq22_ := Sm.call kq12_ kq21_ rfl
          have hq23_ : (mv17 77 17).toInt = (mv7 77 17).toInt := by rw [kq21_ 77 17 (by decide)]
          have hq24_ : (mv17 92 a5.toNatClampNeg).toInt = (mv7 92 a5.toNatClampNeg).toInt := by rw [kq21_ 92 _ (outc rfl)]
          refine T_le l_0 rfl (fun hq25_ => ?_) (fun hq25_ => ?_)
          · refine T_le rfl rfl (fun hq26_ => ?_) (fun hq26_ => ?_)
            · exact T_ret ⟨(i_rng (lo := 0) (hi := 999) rfl (by omega) (by omega)), gq20_, kq22_⟩
            · exact T_ret ⟨(i_rng (lo := 0) (hi := 999) rfl (by omega) (by omega)), gq20_, kq22_⟩
          · exact T_ret ⟨(i_rng (lo := 0) (hi := 999) l_0 (by omega) (by omega)), gq20_, kq22_⟩
        · refine T_ql (i_add rfl l_1 (by omega) (by omega)) ?_
          intro xv27 hq28_
          exact ih a1 a2 (0 : Int32) xv27 mv7 gq10_ kq12_ (i_rng (lo := 99) (hi := 118) rfl (by omega) (by omega)) (i_rng (lo := 99) (hi := 999) rfl (by omega) (by omega)) (i_rng (lo := 0) (hi := 1) l_0 (by omega) (by omega)) (i_rng (lo := 0) (hi := 16) rfl (by omega) (by omega)) (by have e2 : ((0 : Int32)).toInt = _ := l_0; omega)
      · refine T_ql (i_add rfl l_1 (by omega) (by omega)) ?_
        intro xv29 hq30_
        exact ih a1 a2 a4 xv29 M hG hS (i_rng (lo := 99) (hi := 118) rfl (by omega) (by omega)) (i_rng (lo := 99) (hi := 999) rfl (by omega) (by omega)) (i_rng (lo := 0) (hi := 1) rfl (by omega) (by omega)) (i_rng (lo := 0) (hi := 16) rfl (by omega) (by omega)) (by omega)
theorem t_X12_byLaw {n : Nat} (hn : 200000 ≤ n) (a1 a2 a3 : Int32) (M : qM) (hG : G M) (pa1 : 99 ≤ a1.toInt ∧ a1.toInt ≤ 118) (pa2 : 99 ≤ a2.toInt ∧ a2.toInt ≤ 999) (pa3 : 0 ≤ a3.toInt ∧ a3.toInt ≤ 1) : qT (f_X12_byLaw n a1 a2 a3 M) (po_X12_byLaw a1 a2 a3 M) := by
  have hS : Sm l_X12_byLaw M M := Sm.rf
  unfold f_X12_byLaw
  exact (t_X12_byLaw_6 hn) n a1 a2 a3 (0 : Int32) M hG hS (i_rng (lo := 99) (hi := 118) rfl (by omega) (by omega)) (i_rng (lo := 99) (hi := 999) rfl (by omega) (by omega)) (i_rng (lo := 0) (hi := 1) rfl (by omega) (by omega)) (i_rng (lo := 0) (hi := 16) l_0 (by omega) (by omega)) (by have e3 : ((0 : Int32)).toInt = _ := l_0; omega)
abbrev l_X12_forgets : List Bx := [(78, 79, 0, 192), (96, 98, 0, 0)]
abbrev po_X12_forgets (a1 a2 : Int32) (M : qM) (v : Int32) (M' : qM) : Prop := (0 ≤ v.toInt ∧ v.toInt ≤ 0) ∧ G M' ∧ Sm l_X12_forgets M M'
theorem t_X12_forgets_2 {n : Nat} (hn : 200000 ≤ n) {oa1 oa2 : Int32} {M0 : qM} : ∀ (m : Nat) (a1 a2 a3 : Int32) (M : qM), G M → Sm l_X12_forgets M0 M → 0 ≤ a1.toInt ∧ a1.toInt ≤ 7 → 0 ≤ a2.toInt ∧ a2.toInt ≤ 11 → 0 ≤ a3.toInt ∧ a3.toInt ≤ 12 → 12 - a3.toInt < (m : Int) → qT (f_X12_forgets_2 n m a1 a2 a3 M) (po_X12_forgets oa1 oa2 M0) := by
  intro m
  induction m with
  | zero =>
    intro a1 a2 a3 M hG hS i0 i1 i2 i5
    exfalso; omega
  | succ m ih =>
    intro a1 a2 a3 M hG hS i0 i1 i2 i5
    show qT (b_X12_forgets_2 n (f_X12_forgets_2 n m) a1 a2 a3 M) _
    unfold b_X12_forgets_2
    refine T_le l_12 rfl (fun hq7_ => ?_) (fun hq7_ => ?_)
    · exact T_ret ⟨(i_rng (lo := 0) (hi := 0) l_0 (by omega) (by omega)), hG, hS⟩
    · refine T_qc (t_X12_at hn a1 a3 M hG (i_rng (lo := 0) (hi := 7) rfl (by omega) (by omega)) (i_rng (lo := 0) (hi := 11) rfl (by omega) (by omega))) ?_
      rintro rv8 mv9 ⟨hq10_, hq11_, gq12_, kq13_⟩
      have hq14_ := kq13_.nil
      subst hq14_
      refine T_qc (t_X12_isKind hn a3 M hG ) ?_
      rintro rv15 mv16 ⟨hq17_, hq18_, gq19_, kq20_⟩
      have hq21_ := kq20_.nil
      subst hq21_
      refine T_eq rfl l_0 (fun hq22_ => ?_) (fun hq22_ => ?_)
      · refine T_ql (i_add rfl l_1 (by omega) (by omega)) ?_
        intro xv23 hq24_
        exact ih a1 a2 xv23 M hG hS (i_rng (lo := 0) (hi := 7) rfl (by omega) (by omega)) (i_rng (lo := 0) (hi := 11) rfl (by omega) (by omega)) (i_rng (lo := 0) (hi := 12) rfl (by omega) (by omega)) (by omega)
      · refine T_qg (i_add l_0 rfl (by omega) (by omega)) (by omega) (by omega) ?_
        refine T_eq rfl l_0 (fun hq25_ => ?_) (fun hq25_ => ?_)
        · refine T_ql (i_add rfl l_1 (by omega) (by omega)) ?_
          intro xv26 hq27_
          exact ih a1 a2 xv26 M hG hS (i_rng (lo := 0) (hi := 7) rfl (by omega) (by omega)) (i_rng (lo := 0) (hi := 11) rfl (by omega) (by omega)) (i_rng (lo := 0) (hi := 12) rfl (by omega) (by omega)) (by omega)
        · refine T_qc (t_X12_isLike hn a2 a3 M hG (i_rng (lo := 0) (hi := 12) rfl (by omega) (by omega)) (i_rng (lo := 0) (hi := 11) rfl (by omega) (by omega))) ?_
          rintro rv28 mv29 ⟨hq30_, gq31_, kq32_⟩
          have kq33_ := Sm.call hS kq32_ rfl
          have hq34_ : (mv29 78 (((0 : Int32) + rv8).toNatClampNeg)).toInt = (M 78 (((0 : Int32) + rv8).toNatClampNeg)).toInt := by rw [kq32_ 78 _ (out78 (lo := 0) (hi := 96) rfl (by rw [tnc, (i_add l_0 rfl (by omega) (by omega))]; omega) (by rw [tnc, (i_add l_0 rfl (by omega) (by omega))]; omega))]
          refine T_eq rfl l_0 (fun hq35_ => ?_) (fun hq35_ => ?_)
          · refine T_ql (i_add rfl l_1 (by omega) (by omega)) ?_
            intro xv36 hq37_
            exact ih a1 a2 xv36 mv29 gq31_ kq33_ (i_rng (lo := 0) (hi := 7) rfl (by omega) (by omega)) (i_rng (lo := 0) (hi := 11) rfl (by omega) (by omega)) (i_rng (lo := 0) (hi := 12) rfl (by omega) (by omega)) (by omega)
          · refine T_qc (t_X12_feels hn a1 a3 (8 : Int32) mv29 gq31_ (i_rng (lo := 0) (hi := 7) rfl (by omega) (by omega)) (i_rng (lo := 0) (hi := 11) rfl (by omega) (by omega)) (i_rng (lo := 0) (hi := 8) l_8 (by omega) (by omega))) ?_
            rintro rv38 mv39 ⟨hq40_, gq41_, kq42_⟩
            have kq43_ := Sm.call kq33_ kq42_ rfl
            have hq44_ : (mv39 78 (((0 : Int32) + rv8).toNatClampNeg)).toInt = (mv29 78 (((0 : Int32) + rv8).toNatClampNeg)).toInt := by rw [kq42_ 78 _ (out78 (lo := 0) (hi := 96) rfl (by rw [tnc, (i_add l_0 rfl (by omega) (by omega))]; omega) (by rw [tnc, (i_add l_0 rfl (by omega) (by omega))]; omega))]
            refine T_qc (t_X12_byLaw hn (102 : Int32) (999 : Int32) (0 : Int32) mv39 gq41_ (i_rng (lo := 99) (hi := 118) l_102 (by omega) (by omega)) (i_rng (lo := 99) (hi := 999) l_999 (by omega) (by omega)) (i_rng (lo := 0) (hi := 1) l_0 (by omega) (by omega))) ?_
            rintro rv45 mv46 ⟨hq47_, gq48_, kq49_⟩
            have kq50_ := Sm.call kq43_ kq49_ rfl
            have hq51_ : (mv46 78 (((0 : Int32) + rv8).toNatClampNeg)).toInt = (mv39 78 (((0 : Int32) + rv8).toNatClampNeg)).toInt := by rw [kq49_ 78 _ (out78 (lo := 0) (hi := 96) rfl (by rw [tnc, (i_add l_0 rfl (by omega) (by omega))]; omega) (by rw [tnc, (i_add l_0 rfl (by omega) (by omega))]; omega))]
            refine T_eq rfl l_0 (fun hq52_ => ?_) (fun hq52_ => ?_)
            · refine T_ql (i_add rfl l_1 (by omega) (by omega)) ?_
              intro xv53 hq54_
              exact ih a1 a2 xv53 mv46 gq48_ kq50_ (i_rng (lo := 0) (hi := 7) rfl (by omega) (by omega)) (i_rng (lo := 0) (hi := 11) rfl (by omega) (by omega)) (i_rng (lo := 0) (hi := 12) rfl (by omega) (by omega)) (by omega)
            · refine T_qg (i_add l_96 rfl (by omega) (by omega)) (by omega) (by omega) ?_
              have hq55_ := i_full (mv46 78 313)
              have hq56_ := i_full (mv46 78 (((96 : Int32) + rv8).toNatClampNeg))
              refine T_le rfl rfl (fun hq57_ => ?_) (fun hq57_ => ?_)
              · refine T_qg (i_add l_0 rfl (by omega) (by omega)) (by omega) (by omega) ?_
                refine T_mu gq48_ kq50_ (ro78 (by decide) (by rw [tnc, (i_add l_0 rfl (by omega) (by omega))]; omega)) (nw_78 _) (i := 0) rfl ⟨by decide, by decide, Or.inr ⟨(show 0 ≤ _ by rw [tnc, (i_add l_0 rfl (by omega) (by omega))]; omega), (show _ < 192 by rw [tnc, (i_add l_0 rfl (by omega) (by omega))]; omega)⟩⟩ ?_
                intro mv58 hq59_ gq60_ kq61_
                have hq62_ : (mv58 78 (((0 : Int32) + rv8).toNatClampNeg)).toInt = 0 := by rw [hq59_, mu_at]; exact l_0
                refine T_qg (i_add l_96 rfl (by omega) (by omega)) (by omega) (by omega) ?_
                refine T_mu gq60_ kq61_ (ro78 (by decide) (by rw [tnc, (i_add l_96 rfl (by omega) (by omega))]; omega)) (nw_78 _) (i := 0) rfl ⟨by decide, by decide, Or.inr ⟨(show 0 ≤ _ by rw [tnc, (i_add l_96 rfl (by omega) (by omega))]; omega), (show _ < 192 by rw [tnc, (i_add l_96 rfl (by omega) (by omega))]; omega)⟩⟩ ?_
                intro mv63 hq64_ gq65_ kq66_
                have hq67_ : (mv63 78 (((96 : Int32) + rv8).toNatClampNeg)).toInt = (-2) := by rw [hq64_, mu_at]; exact l_m2
                refine T_ql (i_add rfl l_1 (by omega) (by omega)) ?_
                intro xv68 hq69_
                exact ih a1 a2 xv68 mv63 gq65_ kq66_ (i_rng (lo := 0) (hi := 7) rfl (by omega) (by omega)) (i_rng (lo := 0) (hi := 11) rfl (by omega) (by omega)) (i_rng (lo := 0) (hi := 12) rfl (by omega) (by omega)) (by omega)
              · refine T_ql (i_add rfl l_1 (by omega) (by omega)) ?_
                intro xv70 hq71_
                exact ih a1 a2 xv70 mv46 gq48_ kq50_ (i_rng (lo := 0) (hi := 7) rfl (by omega) (by omega)) (i_rng (lo := 0) (hi := 11) rfl (by omega) (by omega)) (i_rng (lo := 0) (hi := 12) rfl (by omega) (by omega)) (by omega)
theorem t_X12_forgets {n : Nat} (hn : 200000 ≤ n) (a1 a2 : Int32) (M : qM) (hG : G M) (pa1 : 0 ≤ a1.toInt ∧ a1.toInt ≤ 7) (pa2 : 0 ≤ a2.toInt ∧ a2.toInt ≤ 11) : qT (f_X12_forgets n a1 a2 M) (po_X12_forgets a1 a2 M) := by
  have hS : Sm l_X12_forgets M M := Sm.rf
  unfold f_X12_forgets
  exact (t_X12_forgets_2 hn) n a1 a2 (0 : Int32) M hG hS (i_rng (lo := 0) (hi := 7) rfl (by omega) (by omega)) (i_rng (lo := 0) (hi := 11) rfl (by omega) (by omega)) (i_rng (lo := 0) (hi := 12) l_0 (by omega) (by omega)) (by have e2 : ((0 : Int32)).toInt = _ := l_0; omega)
abbrev l_X12_oldOnes : List Bx := [(96, 98, 0, 0)]
abbrev po_X12_oldOnes (a1 a2 : Int32) (M : qM) (v : Int32) (M' : qM) : Prop := G M' ∧ Sm l_X12_oldOnes M M'
theorem t_X12_oldOnes_5 {n : Nat} (hn : 200000 ≤ n) {oa1 oa2 : Int32} {M0 : qM} : ∀ (m : Nat) (a1 a2 a3 a4 : Int32) (M : qM), G M → Sm l_X12_oldOnes M0 M → 0 ≤ a1.toInt ∧ a1.toInt ≤ 7 → 0 ≤ a2.toInt ∧ a2.toInt ≤ 11 → 0 ≤ a4.toInt ∧ a4.toInt ≤ 12 → 12 - a4.toInt < (m : Int) → qT (f_X12_oldOnes_5 n m a1 a2 a3 a4 M) (po_X12_oldOnes oa1 oa2 M0) := by
  intro m
  induction m with
  | zero =>
    intro a1 a2 a3 a4 M hG hS i0 i1 i2 i5
    exfalso; omega
  | succ m ih =>
    intro a1 a2 a3 a4 M hG hS i0 i1 i2 i5
    show qT (b_X12_oldOnes_5 n (f_X12_oldOnes_5 n m) a1 a2 a3 a4 M) _
    unfold b_X12_oldOnes_5
    refine T_le l_12 rfl (fun hq6_ => ?_) (fun hq6_ => ?_)
    · exact T_ret ⟨hG, hS⟩
    · refine T_qc (t_X12_isKind hn a4 M hG ) ?_
      rintro rv7 mv8 ⟨hq9_, hq10_, gq11_, kq12_⟩
      have hq13_ := kq12_.nil
      subst hq13_
      refine T_eq rfl l_0 (fun hq14_ => ?_) (fun hq14_ => ?_)
      · refine T_ql (i_add rfl l_1 (by omega) (by omega)) ?_
        intro xv15 hq16_
        exact ih a1 a2 a3 xv15 M hG hS (i_rng (lo := 0) (hi := 7) rfl (by omega) (by omega)) (i_rng (lo := 0) (hi := 11) rfl (by omega) (by omega)) (i_rng (lo := 0) (hi := 12) rfl (by omega) (by omega)) (by omega)
      · refine T_qc (t_X12_at hn a1 a4 M hG (i_rng (lo := 0) (hi := 7) rfl (by omega) (by omega)) (i_rng (lo := 0) (hi := 11) rfl (by omega) (by omega))) ?_
        rintro rv17 mv18 ⟨hq19_, hq20_, gq21_, kq22_⟩
        have hq23_ := kq22_.nil
        subst hq23_
        refine T_qg (i_add l_0 rfl (by omega) (by omega)) (by omega) (by omega) ?_
        refine T_le rfl l_0 (fun hq24_ => ?_) (fun hq24_ => ?_)
        · refine T_ql (i_add rfl l_1 (by omega) (by omega)) ?_
          intro xv25 hq26_
          exact ih a1 a2 a3 xv25 M hG hS (i_rng (lo := 0) (hi := 7) rfl (by omega) (by omega)) (i_rng (lo := 0) (hi := 11) rfl (by omega) (by omega)) (i_rng (lo := 0) (hi := 12) rfl (by omega) (by omega)) (by omega)
        · refine T_qc (t_X12_isLike hn a2 a4 M hG (i_rng (lo := 0) (hi := 12) rfl (by omega) (by omega)) (i_rng (lo := 0) (hi := 11) rfl (by omega) (by omega))) ?_
          rintro rv27 mv28 ⟨hq29_, gq30_, kq31_⟩
          have kq32_ := Sm.call hS kq31_ rfl
          have hq33_ : (mv28 78 (((0 : Int32) + rv17).toNatClampNeg)).toInt = (M 78 (((0 : Int32) + rv17).toNatClampNeg)).toInt := by rw [kq31_ 78 _ (out78 (lo := 0) (hi := 96) rfl (by rw [tnc, (i_add l_0 rfl (by omega) (by omega))]; omega) (by rw [tnc, (i_add l_0 rfl (by omega) (by omega))]; omega))]
          refine T_eq rfl l_0 (fun hq34_ => ?_) (fun hq34_ => ?_)
          · refine T_ql (i_add rfl l_1 (by omega) (by omega)) ?_
            intro xv35 hq36_
            exact ih a1 a2 a3 xv35 mv28 gq30_ kq32_ (i_rng (lo := 0) (hi := 7) rfl (by omega) (by omega)) (i_rng (lo := 0) (hi := 11) rfl (by omega) (by omega)) (i_rng (lo := 0) (hi := 12) rfl (by omega) (by omega)) (by omega)
          · refine T_qc (t_X12_at hn a1 a4 mv28 gq30_ (i_rng (lo := 0) (hi := 7) rfl (by omega) (by omega)) (i_rng (lo := 0) (hi := 11) rfl (by omega) (by omega))) ?_
            rintro rv37 mv38 ⟨hq39_, hq40_, gq41_, kq42_⟩
            have hq43_ := kq42_.nil
            subst hq43_
            refine T_qg (i_add l_0 rfl (by omega) (by omega)) (by omega) (by omega) ?_
            have hq44_ := i_full (a3)
            have hq45_ := i_full (mv28 78 (((0 : Int32) + rv37).toNatClampNeg))
            refine T_ql rfl ?_
            intro xv46 hq47_
            refine T_ql (i_add rfl l_1 (by omega) (by omega)) ?_
            intro xv48 hq49_
            exact ih a1 a2 xv46 xv48 mv28 gq30_ kq32_ (i_rng (lo := 0) (hi := 7) rfl (by omega) (by omega)) (i_rng (lo := 0) (hi := 11) rfl (by omega) (by omega)) (i_rng (lo := 0) (hi := 12) rfl (by omega) (by omega)) (by omega)
theorem t_X12_oldOnes {n : Nat} (hn : 200000 ≤ n) (a1 a2 : Int32) (M : qM) (hG : G M) (pa1 : 0 ≤ a1.toInt ∧ a1.toInt ≤ 7) (pa2 : 0 ≤ a2.toInt ∧ a2.toInt ≤ 11) : qT (f_X12_oldOnes n a1 a2 M) (po_X12_oldOnes a1 a2 M) := by
  have hS : Sm l_X12_oldOnes M M := Sm.rf
  unfold f_X12_oldOnes
  exact (t_X12_oldOnes_5 hn) n a1 a2 (0 : Int32) (0 : Int32) M hG hS (i_rng (lo := 0) (hi := 7) rfl (by omega) (by omega)) (i_rng (lo := 0) (hi := 11) rfl (by omega) (by omega)) (i_rng (lo := 0) (hi := 12) l_0 (by omega) (by omega)) (by have e2 : ((0 : Int32)).toInt = _ := l_0; have e3 : ((0 : Int32)).toInt = _ := l_0; omega)
abbrev l_X12_voidFor : List Bx := [(96, 98, 0, 0)]
abbrev po_X12_voidFor (a1 a2 a3 : Int32) (M : qM) (v : Int32) (M' : qM) : Prop := (0 ≤ v.toInt ∧ v.toInt ≤ 999) ∧ G M' ∧ Sm l_X12_voidFor M M'
theorem t_X12_voidFor {n : Nat} (hn : 200000 ≤ n) (a1 a2 a3 : Int32) (M : qM) (hG : G M) (pa1 : 0 ≤ a1.toInt ∧ a1.toInt ≤ 7) (pa2 : 0 ≤ a2.toInt ∧ a2.toInt ≤ 11) (pa3 : 0 ≤ a3.toInt ∧ a3.toInt ≤ 8) : qT (f_X12_voidFor n a1 a2 a3 M) (po_X12_voidFor a1 a2 a3 M) := by
  have hS : Sm l_X12_voidFor M M := Sm.rf
  unfold f_X12_voidFor
  refine T_qc (t_X12_feels hn a1 a2 a3 M hG (i_rng (lo := 0) (hi := 7) rfl (by omega) (by omega)) (i_rng (lo := 0) (hi := 11) rfl (by omega) (by omega)) (i_rng (lo := 0) (hi := 8) rfl (by omega) (by omega))) ?_
  rintro rv1 mv2 ⟨hq3_, gq4_, kq5_⟩
  have kq6_ := Sm.call hS kq5_ rfl
  refine T_qc (t_X12_byLaw hn (118 : Int32) (99 : Int32) (1 : Int32) mv2 gq4_ (i_rng (lo := 99) (hi := 118) l_118 (by omega) (by omega)) (i_rng (lo := 99) (hi := 999) l_99 (by omega) (by omega)) (i_rng (lo := 0) (hi := 1) l_1 (by omega) (by omega))) ?_
  rintro rv7 mv8 ⟨hq9_, gq10_, kq11_⟩
  have kq12_ := Sm.call kq6_ kq11_ rfl
  exact T_ret ⟨(i_rng (lo := 0) (hi := 999) rfl (by omega) (by omega)), gq10_, kq12_⟩
abbrev l_X12_hasNeeds : List Bx := []
abbrev po_X12_hasNeeds (a1 a2 : Int32) (M : qM) (v : Int32) (M' : qM) : Prop := (0 ≤ v.toInt ∧ v.toInt ≤ 1) ∧ G M' ∧ Sm l_X12_hasNeeds M M'
theorem t_X12_hasNeeds_2 {n : Nat} (hn : 200000 ≤ n) {oa1 oa2 : Int32} {M0 : qM} : ∀ (m : Nat) (a1 a2 a3 : Int32) (M : qM), G M → Sm l_X12_hasNeeds M0 M → 0 ≤ a1.toInt ∧ a1.toInt ≤ 7 → 0 ≤ a2.toInt ∧ a2.toInt ≤ 11 → 0 ≤ a3.toInt ∧ a3.toInt ≤ 12 → 12 - a3.toInt < (m : Int) → qT (f_X12_hasNeeds_2 n m a1 a2 a3 M) (po_X12_hasNeeds oa1 oa2 M0) := by
  intro m
  induction m with
  | zero =>
    intro a1 a2 a3 M hG hS i0 i1 i2 i5
    exfalso; omega
  | succ m ih =>
    intro a1 a2 a3 M hG hS i0 i1 i2 i5
    show qT (b_X12_hasNeeds_2 n (f_X12_hasNeeds_2 n m) a1 a2 a3 M) _
    unfold b_X12_hasNeeds_2
    refine T_le l_12 rfl (fun hq3_ => ?_) (fun hq3_ => ?_)
    · exact T_ret ⟨(i_rng (lo := 0) (hi := 1) l_1 (by omega) (by omega)), hG, hS⟩
    · refine T_qg rfl (by omega) (by omega) ?_
      refine T_qc (t_X12_has0 hn (M 83 a2.toNatClampNeg) a3 M hG (i_rng (lo := 0) (hi := 11) rfl (by omega) (by omega))) ?_
      rintro rv4 mv5 ⟨hq6_, hq7_, gq8_, kq9_⟩
      have hq10_ := kq9_.nil
      subst hq10_
      refine T_eq rfl l_0 (fun hq11_ => ?_) (fun hq11_ => ?_)
      · refine T_ql (i_add rfl l_1 (by omega) (by omega)) ?_
        intro xv12 hq13_
        exact ih a1 a2 xv12 M hG hS (i_rng (lo := 0) (hi := 7) rfl (by omega) (by omega)) (i_rng (lo := 0) (hi := 11) rfl (by omega) (by omega)) (i_rng (lo := 0) (hi := 12) rfl (by omega) (by omega)) (by omega)
      · refine T_qc (t_X12_at hn a1 a3 M hG (i_rng (lo := 0) (hi := 7) rfl (by omega) (by omega)) (i_rng (lo := 0) (hi := 11) rfl (by omega) (by omega))) ?_
        rintro rv14 mv15 ⟨hq16_, hq17_, gq18_, kq19_⟩
        have hq20_ := kq19_.nil
        subst hq20_
        refine T_qg (i_add l_192 rfl (by omega) (by omega)) (by omega) (by omega) ?_
        refine T_eq rfl l_0 (fun hq21_ => ?_) (fun hq21_ => ?_)
        · exact T_ret ⟨(i_rng (lo := 0) (hi := 1) l_0 (by omega) (by omega)), hG, hS⟩
        · refine T_ql (i_add rfl l_1 (by omega) (by omega)) ?_
          intro xv22 hq23_
          exact ih a1 a2 xv22 M hG hS (i_rng (lo := 0) (hi := 7) rfl (by omega) (by omega)) (i_rng (lo := 0) (hi := 11) rfl (by omega) (by omega)) (i_rng (lo := 0) (hi := 12) rfl (by omega) (by omega)) (by omega)
theorem t_X12_hasNeeds {n : Nat} (hn : 200000 ≤ n) (a1 a2 : Int32) (M : qM) (hG : G M) (pa1 : 0 ≤ a1.toInt ∧ a1.toInt ≤ 7) (pa2 : 0 ≤ a2.toInt ∧ a2.toInt ≤ 11) : qT (f_X12_hasNeeds n a1 a2 M) (po_X12_hasNeeds a1 a2 M) := by
  have hS : Sm l_X12_hasNeeds M M := Sm.rf
  unfold f_X12_hasNeeds
  exact (t_X12_hasNeeds_2 hn) n a1 a2 (0 : Int32) M hG hS (i_rng (lo := 0) (hi := 7) rfl (by omega) (by omega)) (i_rng (lo := 0) (hi := 11) rfl (by omega) (by omega)) (i_rng (lo := 0) (hi := 12) l_0 (by omega) (by omega)) (by have e2 : ((0 : Int32)).toInt = _ := l_0; omega)
abbrev l_X12_min : List Bx := []
abbrev po_X12_min (a0 a1 : Int32) (M : qM) (v : Int32) (M' : qM) : Prop := ((-2147483648) ≤ v.toInt ∧ v.toInt ≤ 1000000000) ∧ G M' ∧ Sm l_X12_min M M'
theorem t_X12_min {n : Nat} (hn : 200000 ≤ n) (a0 a1 : Int32) (M : qM) (hG : G M) (pa0 : (-2147483648) ≤ a0.toInt ∧ a0.toInt ≤ 1000000000) : qT (f_X12_min n a0 a1 M) (po_X12_min a0 a1 M) := by
  have hS : Sm l_X12_min M M := Sm.rf
  unfold f_X12_min
  refine T_le rfl rfl (fun hq1_ => ?_) (fun hq1_ => ?_)
  · have hq2_ := i_full (a1)
    exact T_ret ⟨(i_rng (lo := (-2147483648)) (hi := 1000000000) rfl (by omega) (by omega)), hG, hS⟩
  · have hq3_ := i_full (a0)
    exact T_ret ⟨(i_rng (lo := (-2147483648)) (hi := 1000000000) rfl (by omega) (by omega)), hG, hS⟩
