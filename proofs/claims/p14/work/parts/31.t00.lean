abbrev l_X2_knows : List Bx := []
abbrev po_X2_knows (a1 : Int32) (M : qM) (v : Int32) (M' : qM) : Prop := (0 ≤ v.toInt ∧ v.toInt ≤ 1) ∧ (v.toInt = 0 ∨ (0 ≤ a1.toInt ∧ a1.toInt ≤ 11)) ∧ G M' ∧ Sm l_X2_knows M M'
theorem t_X2_knows {n : Nat} (hn : 200000 ≤ n) (a1 : Int32) (M : qM) (hG : G M) : qT (f_X2_knows n a1 M) (po_X2_knows a1 M) := by
  have hS : Sm l_X2_knows M M := Sm.rf
  unfold f_X2_knows
  refine T_lt rfl l_0 (fun hq1_ => ?_) (fun hq1_ => ?_)
  · exact T_ret ⟨(i_rng (lo := 0) (hi := 1) l_0 (by omega) (by omega)), (by have e9 : ((0 : Int32)).toInt = _ := l_0; omega), hG, hS⟩
  · refine T_le l_12 rfl (fun hq2_ => ?_) (fun hq2_ => ?_)
    · exact T_ret ⟨(i_rng (lo := 0) (hi := 1) l_0 (by omega) (by omega)), (by have e9 : ((0 : Int32)).toInt = _ := l_0; omega), hG, hS⟩
    · have hq3_ := i_and (a := (M 3 3) >>> (a1 &&& 31)) (b := (1 : Int32)) l_1 (by omega)
      refine T_eq rfl l_1 (fun hq4_ => ?_) (fun hq4_ => ?_)
      · exact T_ret ⟨(i_rng (lo := 0) (hi := 1) l_1 (by omega) (by omega)), (by have e9 : ((1 : Int32)).toInt = _ := l_1; omega), hG, hS⟩
      · exact T_ret ⟨(i_rng (lo := 0) (hi := 1) l_0 (by omega) (by omega)), (by have e9 : ((0 : Int32)).toInt = _ := l_0; omega), hG, hS⟩
abbrev l_X2_knowsAll : List Bx := []
abbrev po_X2_knowsAll (a1 : Int32) (M : qM) (v : Int32) (M' : qM) : Prop := (0 ≤ v.toInt ∧ v.toInt ≤ 1) ∧ G M' ∧ Sm l_X2_knowsAll M M'
theorem t_X2_knowsAll {n : Nat} (hn : 200000 ≤ n) (a1 : Int32) (M : qM) (hG : G M) : qT (f_X2_knowsAll n a1 M) (po_X2_knowsAll a1 M) := by
  have hS : Sm l_X2_knowsAll M M := Sm.rf
  unfold f_X2_knowsAll
  refine T_eq rfl l_0 (fun hq1_ => ?_) (fun hq1_ => ?_)
  · exact T_ret ⟨(i_rng (lo := 0) (hi := 1) l_1 (by omega) (by omega)), hG, hS⟩
  · exact T_ret ⟨(i_rng (lo := 0) (hi := 1) l_0 (by omega) (by omega)), hG, hS⟩
abbrev l_X2_tell : List Bx := [(3, 4, 3, 4), (4, 7, 0, 0)]
abbrev po_X2_tell (a1 a2 a3 a4 : Int32) (M : qM) (v : Int32) (M' : qM) : Prop := (0 ≤ v.toInt ∧ v.toInt ≤ 1) ∧ G M' ∧ Sm l_X2_tell M M'
theorem t_X2_tell {n : Nat} (hn : 200000 ≤ n) (a1 a2 a3 a4 : Int32) (M : qM) (hG : G M) : qT (f_X2_tell n a1 a2 a3 a4 M) (po_X2_tell a1 a2 a3 a4 M) := by
  have hS : Sm l_X2_tell M M := Sm.rf
  unfold f_X2_tell
  refine T_lt rfl l_0 (fun hq1_ => ?_) (fun hq1_ => ?_)
  · exact T_ret ⟨(i_rng (lo := 0) (hi := 1) l_0 (by omega) (by omega)), hG, hS⟩
  · refine T_le l_12 rfl (fun hq2_ => ?_) (fun hq2_ => ?_)
    · exact T_ret ⟨(i_rng (lo := 0) (hi := 1) l_0 (by omega) (by omega)), hG, hS⟩
    · refine T_qc (t_X2_knows hn a1 M hG ) ?_
      rintro rv3 mv4 ⟨hq5_, hq6_, gq7_, kq8_⟩
      have hq9_ := kq8_.nil
      subst hq9_
      refine T_eq rfl l_0 (fun hq10_ => ?_) (fun hq10_ => ?_)
      · refine T_lt rfl l_1 (fun hq11_ => ?_) (fun hq11_ => ?_)
        · exact T_ret ⟨(i_rng (lo := 0) (hi := 1) l_0 (by omega) (by omega)), hG, hS⟩
        · refine T_le rfl l_12 (fun hq12_ => ?_) (fun hq12_ => ?_)
          · refine T_lt rfl l_0 (fun hq13_ => ?_) (fun hq13_ => ?_)
            · exact T_ret ⟨(i_rng (lo := 0) (hi := 1) l_0 (by omega) (by omega)), hG, hS⟩
            · refine T_lt l_255 rfl (fun hq14_ => ?_) (fun hq14_ => ?_)
              · exact T_ret ⟨(i_rng (lo := 0) (hi := 1) l_0 (by omega) (by omega)), hG, hS⟩
              · refine T_eq rfl l_0 (fun hq15_ => ?_) (fun hq15_ => ?_)
                · refine T_qc (t_X2_knowsAll hn a4 M hG ) ?_
                  rintro rv16 mv17 ⟨hq18_, gq19_, kq20_⟩
                  have hq21_ := kq20_.nil
                  subst hq21_
                  refine T_eq rfl l_0 (fun hq22_ => ?_) (fun hq22_ => ?_)
                  · exact T_ret ⟨(i_rng (lo := 0) (hi := 1) l_0 (by omega) (by omega)), hG, hS⟩
                  · refine T_qg rfl (by omega) (by omega) ?_
                    refine T_mu hG hS (rn_4 _ _) (nw_4 _) (i := 1) rfl ⟨by decide, by decide, Or.inl rfl⟩ ?_
                    intro mv23 hq24_ gq25_ kq26_
                    have hq27_ : (mv23 4 a1.toNatClampNeg).toInt = a2.toInt := by rw [hq24_, mu_at]
                    refine T_qg rfl (by omega) (by omega) ?_
                    refine T_mu gq25_ kq26_ (rn_5 _ _) (nw_5 _) (i := 1) rfl ⟨by decide, by decide, Or.inl rfl⟩ ?_
                    intro mv28 hq29_ gq30_ kq31_
                    have hq32_ : (mv28 4 a1.toNatClampNeg).toInt = (mv23 4 a1.toNatClampNeg).toInt := by rw [hq29_, mu_ne (Or.inl (by decide))]
                    have hq33_ : (mv28 5 a1.toNatClampNeg).toInt = a3.toInt := by rw [hq29_, mu_at]
                    refine T_qg rfl (by omega) (by omega) ?_
                    refine T_mu gq30_ kq31_ (rn_6 _ _) (nw_6 _) (i := 1) rfl ⟨by decide, by decide, Or.inl rfl⟩ ?_
                    intro mv34 hq35_ gq36_ kq37_
                    have hq38_ : (mv34 4 a1.toNatClampNeg).toInt = (mv28 4 a1.toNatClampNeg).toInt := by rw [hq35_, mu_ne (Or.inl (by decide))]
                    have hq39_ : (mv34 5 a1.toNatClampNeg).toInt = (mv28 5 a1.toNatClampNeg).toInt := by rw [hq35_, mu_ne (Or.inl (by decide))]
                    have hq40_ : (mv34 6 a1.toNatClampNeg).toInt = a4.toInt := by rw [hq35_, mu_at]
                    have hq42_ := i_shl1 (c := 11) (k := a1) (by decide) rfl (by omega) (by omega)
                    refine T_mu gq36_ kq37_ (rn_3_3 _) (nw_3 _) (i := 0) rfl ⟨by decide, by decide, Or.inr ⟨by decide, by decide⟩⟩ ?_
                    intro mv41 hq43_ gq44_ kq45_
                    have hq46_ : (mv41 4 a1.toNatClampNeg).toInt = (mv34 4 a1.toNatClampNeg).toInt := by rw [hq43_, mu_ne (Or.inl (by decide))]
                    have hq47_ : (mv41 5 a1.toNatClampNeg).toInt = (mv34 5 a1.toNatClampNeg).toInt := by rw [hq43_, mu_ne (Or.inl (by decide))]
                    have hq48_ : (mv41 6 a1.toNatClampNeg).toInt = (mv34 6 a1.toNatClampNeg).toInt := by rw [hq43_, mu_ne (Or.inl (by decide))]
                    have hq49_ : (mv41 3 3).toInt = ((mv34 3 3) ||| ((1 : Int32) <<< (a1 &&& 31))).toInt := by rw [hq43_, mu_at]
                    exact T_ret ⟨(i_rng (lo := 0) (hi := 1) l_1 (by omega) (by omega)), gq44_, kq45_⟩
                · exact T_ret ⟨(i_rng (lo := 0) (hi := 1) l_0 (by omega) (by omega)), hG, hS⟩
          · exact T_ret ⟨(i_rng (lo := 0) (hi := 1) l_0 (by omega) (by omega)), hG, hS⟩
      · exact T_ret ⟨(i_rng (lo := 0) (hi := 1) l_0 (by omega) (by omega)), hG, hS⟩
abbrev l_X11_kind : List Bx := [(3, 4, 3, 4), (4, 7, 0, 0)]
abbrev po_X11_kind (a1 a2 a3 a4 : Int32) (M : qM) (v : Int32) (M' : qM) : Prop := (0 ≤ v.toInt ∧ v.toInt ≤ 1) ∧ G M' ∧ Sm l_X11_kind M M'
theorem t_X11_kind {n : Nat} (hn : 200000 ≤ n) (a1 a2 a3 a4 : Int32) (M : qM) (hG : G M) : qT (f_X11_kind n a1 a2 a3 a4 M) (po_X11_kind a1 a2 a3 a4 M) := by
  have hS : Sm l_X11_kind M M := Sm.rf
  unfold f_X11_kind
  refine T_qc (t_X2_tell hn a1 a2 a3 a4 M hG ) ?_
  rintro rv1 mv2 ⟨hq3_, gq4_, kq5_⟩
  have kq6_ := Sm.call hS kq5_ rfl
  refine T_qb rfl (by omega) (by omega) ?_
  exact T_ret ⟨(i_rng (lo := 0) (hi := 1) rfl (by omega) (by omega)), gq4_, kq6_⟩
abbrev l_X12_in : List Bx := []
abbrev po_X12_in (a0 a1 a2 : Int32) (M : qM) (v : Int32) (M' : qM) : Prop := (0 ≤ v.toInt ∧ v.toInt ≤ 1) ∧ ((v.toInt = 0 ∧ ¬ (a1.toInt ≤ a0.toInt ∧ a0.toInt ≤ a2.toInt)) ∨ (v.toInt = 1 ∧ a1.toInt ≤ a0.toInt ∧ a0.toInt ≤ a2.toInt)) ∧ G M' ∧ Sm l_X12_in M M'
theorem t_X12_in {n : Nat} (hn : 200000 ≤ n) (a0 a1 a2 : Int32) (M : qM) (hG : G M) (pa1 : 0 ≤ a1.toInt ∧ a1.toInt ≤ 70) (pa2 : 0 ≤ a2.toInt ∧ a2.toInt ≤ 99999) : qT (f_X12_in n a0 a1 a2 M) (po_X12_in a0 a1 a2 M) := by
  have hS : Sm l_X12_in M M := Sm.rf
  unfold f_X12_in
  refine T_lt rfl rfl (fun hq1_ => ?_) (fun hq1_ => ?_)
  · exact T_ret ⟨(i_rng (lo := 0) (hi := 1) l_0 (by omega) (by omega)), (by have e9 : ((0 : Int32)).toInt = _ := l_0; omega), hG, hS⟩
  · refine T_lt rfl rfl (fun hq2_ => ?_) (fun hq2_ => ?_)
    · exact T_ret ⟨(i_rng (lo := 0) (hi := 1) l_0 (by omega) (by omega)), (by have e9 : ((0 : Int32)).toInt = _ := l_0; omega), hG, hS⟩
    · exact T_ret ⟨(i_rng (lo := 0) (hi := 1) l_1 (by omega) (by omega)), (by have e9 : ((1 : Int32)).toInt = _ := l_1; omega), hG, hS⟩
abbrev l_X12_has0 : List Bx := []
abbrev po_X12_has0 (a0 a1 : Int32) (M : qM) (v : Int32) (M' : qM) : Prop := (0 ≤ v.toInt ∧ v.toInt ≤ 1) ∧ (v.toInt = ((a0 >>> (a1 &&& 31)) &&& (1 : Int32)).toInt) ∧ G M' ∧ Sm l_X12_has0 M M'
theorem t_X12_has0 {n : Nat} (hn : 200000 ≤ n) (a0 a1 : Int32) (M : qM) (hG : G M) (pa1 : 0 ≤ a1.toInt ∧ a1.toInt ≤ 11) : qT (f_X12_has0 n a0 a1 M) (po_X12_has0 a0 a1 M) := by
  have hS : Sm l_X12_has0 M M := Sm.rf
  unfold f_X12_has0
  have hq1_ := i_and (a := a0 >>> (a1 &&& 31)) (b := (1 : Int32)) l_1 (by omega)
  refine T_eq rfl l_1 (fun hq2_ => ?_) (fun hq2_ => ?_)
  · exact T_ret ⟨(i_rng (lo := 0) (hi := 1) l_1 (by omega) (by omega)), (by have e9 : ((1 : Int32)).toInt = _ := l_1; omega), hG, hS⟩
  · exact T_ret ⟨(i_rng (lo := 0) (hi := 1) l_0 (by omega) (by omega)), (by have e9 : ((0 : Int32)).toInt = _ := l_0; omega), hG, hS⟩
abbrev l_X12_isKind : List Bx := []
abbrev po_X12_isKind (a1 : Int32) (M : qM) (v : Int32) (M' : qM) : Prop := (0 ≤ v.toInt ∧ v.toInt ≤ 1) ∧ (v.toInt = 0 ∨ (0 ≤ a1.toInt ∧ a1.toInt ≤ 11)) ∧ G M' ∧ Sm l_X12_isKind M M'
theorem t_X12_isKind {n : Nat} (hn : 200000 ≤ n) (a1 : Int32) (M : qM) (hG : G M) : qT (f_X12_isKind n a1 M) (po_X12_isKind a1 M) := by
  have hS : Sm l_X12_isKind M M := Sm.rf
  unfold f_X12_isKind
  refine T_lt rfl l_0 (fun hq1_ => ?_) (fun hq1_ => ?_)
  · exact T_ret ⟨(i_rng (lo := 0) (hi := 1) l_0 (by omega) (by omega)), (by have e9 : ((0 : Int32)).toInt = _ := l_0; omega), hG, hS⟩
  · refine T_le l_12 rfl (fun hq2_ => ?_) (fun hq2_ => ?_)
    · exact T_ret ⟨(i_rng (lo := 0) (hi := 1) l_0 (by omega) (by omega)), (by have e9 : ((0 : Int32)).toInt = _ := l_0; omega), hG, hS⟩
    · refine T_qc (t_X12_has0 hn (M 77 6) a1 M hG (i_rng (lo := 0) (hi := 11) rfl (by omega) (by omega))) ?_
      rintro rv3 mv4 ⟨hq5_, hq6_, gq7_, kq8_⟩
      have hq9_ := kq8_.nil
      subst hq9_
      refine T_eq rfl l_0 (fun hq10_ => ?_) (fun hq10_ => ?_)
      · exact T_ret ⟨(i_rng (lo := 0) (hi := 1) l_0 (by omega) (by omega)), (by have e9 : ((0 : Int32)).toInt = _ := l_0; omega), hG, hS⟩
      · exact T_ret ⟨(i_rng (lo := 0) (hi := 1) l_1 (by omega) (by omega)), (by have e9 : ((1 : Int32)).toInt = _ := l_1; omega), hG, hS⟩
abbrev l_X12_kind : List Bx := [(77, 78, 6, 7), (81, 84, 0, 0)]
abbrev po_X12_kind (a1 a2 a3 a4 : Int32) (M : qM) (v : Int32) (M' : qM) : Prop := (0 ≤ v.toInt ∧ v.toInt ≤ 1) ∧ G M' ∧ Sm l_X12_kind M M'
theorem t_X12_kind {n : Nat} (hn : 200000 ≤ n) (a1 a2 a3 a4 : Int32) (M : qM) (hG : G M) : qT (f_X12_kind n a1 a2 a3 a4 M) (po_X12_kind a1 a2 a3 a4 M) := by
  have hS : Sm l_X12_kind M M := Sm.rf
  unfold f_X12_kind
  have hq3_ := (show ((0 : Int32)).toInt = _ from l_0)
  have hq4_ := (show ((11 : Int32)).toInt = _ from l_11)
  refine T_qc (t_X12_in hn a1 (0 : Int32) (11 : Int32) M hG (i_rng (lo := 0) (hi := 70) l_0 (by omega) (by omega)) (i_rng (lo := 0) (hi := 99999) l_11 (by omega) (by omega))) ?_
  rintro rv1 mv2 ⟨hq5_, hq6_, gq7_, kq8_⟩
  have hq9_ := kq8_.nil
  subst hq9_
  refine T_eq rfl l_0 (fun hq10_ => ?_) (fun hq10_ => ?_)
  · exact T_ret ⟨(i_rng (lo := 0) (hi := 1) l_0 (by omega) (by omega)), hG, hS⟩
  · refine T_qc (t_X12_isKind hn a1 M hG ) ?_
    rintro rv11 mv12 ⟨hq13_, hq14_, gq15_, kq16_⟩
    have hq17_ := kq16_.nil
    subst hq17_
    refine T_eq rfl l_0 (fun hq18_ => ?_) (fun hq18_ => ?_)
    · have hq21_ := (show ((1 : Int32)).toInt = _ from l_1)
      have hq22_ := (show ((12 : Int32)).toInt = _ from l_12)
      refine T_qc (t_X12_in hn a2 (1 : Int32) (12 : Int32) M hG (i_rng (lo := 0) (hi := 70) l_1 (by omega) (by omega)) (i_rng (lo := 0) (hi := 99999) l_12 (by omega) (by omega))) ?_
      rintro rv19 mv20 ⟨hq23_, hq24_, gq25_, kq26_⟩
      have hq27_ := kq26_.nil
      subst hq27_
      refine T_eq rfl l_0 (fun hq28_ => ?_) (fun hq28_ => ?_)
      · exact T_ret ⟨(i_rng (lo := 0) (hi := 1) l_0 (by omega) (by omega)), hG, hS⟩
      · have hq31_ := (show ((255 : Int32)).toInt = _ from l_255)
        refine T_qc (t_X12_in hn a3 (0 : Int32) (255 : Int32) M hG (i_rng (lo := 0) (hi := 70) l_0 (by omega) (by omega)) (i_rng (lo := 0) (hi := 99999) l_255 (by omega) (by omega))) ?_
        rintro rv29 mv30 ⟨hq32_, hq33_, gq34_, kq35_⟩
        have hq36_ := kq35_.nil
        subst hq36_
        refine T_eq rfl l_0 (fun hq37_ => ?_) (fun hq37_ => ?_)
        · exact T_ret ⟨(i_rng (lo := 0) (hi := 1) l_0 (by omega) (by omega)), hG, hS⟩
        · refine T_lt rfl l_0 (fun hq38_ => ?_) (fun hq38_ => ?_)
          · exact T_ret ⟨(i_rng (lo := 0) (hi := 1) l_0 (by omega) (by omega)), hG, hS⟩
          · have hq39_ := i_shl1 (c := 11) (k := a1) (by decide) rfl (by omega) (by omega)
            refine T_le rfl rfl (fun hq40_ => ?_) (fun hq40_ => ?_)
            · exact T_ret ⟨(i_rng (lo := 0) (hi := 1) l_0 (by omega) (by omega)), hG, hS⟩
            · have hq41_ := i_andl (a := a4) (b := (M 77 6) ^^^ (-1 : Int32)) rfl (by omega)
              refine T_eq rfl l_0 (fun hq42_ => ?_) (fun hq42_ => ?_)
              · refine T_mu hG hS (rn_77_6 _) nw_77_6 (i := 0) rfl ⟨by decide, by decide, Or.inr ⟨by decide, by decide⟩⟩ ?_
                intro mv43 hq44_ gq45_ kq46_
                have hq47_ : (mv43 77 6).toInt = ((M 77 6) ||| ((1 : Int32) <<< (a1 &&& 31))).toInt := by rw [hq44_, mu_at]
                refine T_qg rfl (by omega) (by omega) ?_
                refine T_mu gq45_ kq46_ (rn_81 _ _) (nw_81 _) (i := 1) rfl ⟨by decide, by decide, Or.inl rfl⟩ ?_
                intro mv48 hq49_ gq50_ kq51_
                have hq52_ : (mv48 77 6).toInt = (mv43 77 6).toInt := by rw [hq49_, mu_ne (Or.inl (by decide))]
                have hq53_ : (mv48 81 a1.toNatClampNeg).toInt = a2.toInt := by rw [hq49_, mu_at]
                refine T_qg rfl (by omega) (by omega) ?_
                refine T_mu gq50_ kq51_ (rn_82 _ _) (nw_82 _) (i := 1) rfl ⟨by decide, by decide, Or.inl rfl⟩ ?_
                intro mv54 hq55_ gq56_ kq57_
                have hq58_ : (mv54 77 6).toInt = (mv48 77 6).toInt := by rw [hq55_, mu_ne (Or.inl (by decide))]
                have hq59_ : (mv54 81 a1.toNatClampNeg).toInt = (mv48 81 a1.toNatClampNeg).toInt := by rw [hq55_, mu_ne (Or.inl (by decide))]
                have hq60_ : (mv54 82 a1.toNatClampNeg).toInt = a3.toInt := by rw [hq55_, mu_at]
                refine T_qg rfl (by omega) (by omega) ?_
                refine T_mu gq56_ kq57_ (rn_83 _ _) (nw_83 _) (i := 1) rfl ⟨by decide, by decide, Or.inl rfl⟩ ?_
                intro mv61 hq62_ gq63_ kq64_
                have hq65_ : (mv61 77 6).toInt = (mv54 77 6).toInt := by rw [hq62_, mu_ne (Or.inl (by decide))]
                have hq66_ : (mv61 81 a1.toNatClampNeg).toInt = (mv54 81 a1.toNatClampNeg).toInt := by rw [hq62_, mu_ne (Or.inl (by decide))]
                have hq67_ : (mv61 82 a1.toNatClampNeg).toInt = (mv54 82 a1.toNatClampNeg).toInt := by rw [hq62_, mu_ne (Or.inl (by decide))]
                have hq68_ : (mv61 83 a1.toNatClampNeg).toInt = a4.toInt := by rw [hq62_, mu_at]
                exact T_ret ⟨(i_rng (lo := 0) (hi := 1) l_1 (by omega) (by omega)), gq63_, kq64_⟩
              · exact T_ret ⟨(i_rng (lo := 0) (hi := 1) l_0 (by omega) (by omega)), hG, hS⟩
    · exact T_ret ⟨(i_rng (lo := 0) (hi := 1) l_0 (by omega) (by omega)), hG, hS⟩
abbrev l_X11_person : List Bx := [(7, 8, 8, 9), (8, 9, 0, 0)]
abbrev po_X11_person (a1 a2 : Int32) (M : qM) (v : Int32) (M' : qM) : Prop := (0 ≤ v.toInt ∧ v.toInt ≤ 1) ∧ ((v.toInt = 1 ∧ (0 ≤ a1.toInt ∧ a1.toInt ≤ 7 ∧ 0 ≤ a2.toInt ∧ a2.toInt ≤ 99999) ∧ (M' 7 8).toInt = ((M 7 8) ||| ((1 : Int32) <<< (a1 &&& 31))).toInt) ∨ (v.toInt = 0 ∧ ¬ (0 ≤ a1.toInt ∧ a1.toInt ≤ 7 ∧ 0 ≤ a2.toInt ∧ a2.toInt ≤ 99999) ∧ (M' 7 8).toInt = (M 7 8).toInt)) ∧ G M' ∧ Sm l_X11_person M M'
theorem t_X11_person {n : Nat} (hn : 200000 ≤ n) (a1 a2 : Int32) (M : qM) (hG : G M) : qT (f_X11_person n a1 a2 M) (po_X11_person a1 a2 M) := by
  have hS : Sm l_X11_person M M := Sm.rf
  unfold f_X11_person
  refine T_lt rfl l_0 (fun hq1_ => ?_) (fun hq1_ => ?_)
  · exact T_ret ⟨(i_rng (lo := 0) (hi := 1) l_0 (by omega) (by omega)), (by have e9 : ((0 : Int32)).toInt = _ := l_0; omega), hG, hS⟩
  · refine T_le l_8 rfl (fun hq2_ => ?_) (fun hq2_ => ?_)
    · exact T_ret ⟨(i_rng (lo := 0) (hi := 1) l_0 (by omega) (by omega)), (by have e9 : ((0 : Int32)).toInt = _ := l_0; omega), hG, hS⟩
    · refine T_lt rfl l_0 (fun hq3_ => ?_) (fun hq3_ => ?_)
      · exact T_ret ⟨(i_rng (lo := 0) (hi := 1) l_0 (by omega) (by omega)), (by have e9 : ((0 : Int32)).toInt = _ := l_0; omega), hG, hS⟩
      · refine T_le rfl l_99999 (fun hq4_ => ?_) (fun hq4_ => ?_)
        · have hq6_ := i_shl1 (c := 7) (k := a1) (by decide) rfl (by omega) (by omega)
          refine T_mu hG hS (rn_7_8 _) (nw_7 _) (i := 0) rfl ⟨by decide, by decide, Or.inr ⟨by decide, by decide⟩⟩ ?_
          intro mv5 hq7_ gq8_ kq9_
          have hq10_ : (mv5 7 8).toInt = ((M 7 8) ||| ((1 : Int32) <<< (a1 &&& 31))).toInt := by rw [hq7_, mu_at]
          refine T_qg rfl (by omega) (by omega) ?_
          refine T_mu gq8_ kq9_ (rn_8 _ _) (nw_8 _) (i := 1) rfl ⟨by decide, by decide, Or.inl rfl⟩ ?_
          intro mv11 hq12_ gq13_ kq14_
          have hq15_ : (mv11 7 8).toInt = (mv5 7 8).toInt := by rw [hq12_, mu_ne (Or.inl (by decide))]
          have hq16_ : (mv11 8 a1.toNatClampNeg).toInt = a2.toInt := by rw [hq12_, mu_at]
          exact T_ret ⟨(i_rng (lo := 0) (hi := 1) l_1 (by omega) (by omega)), (by have e9 : ((1 : Int32)).toInt = _ := l_1; omega), gq13_, kq14_⟩
        · exact T_ret ⟨(i_rng (lo := 0) (hi := 1) l_0 (by omega) (by omega)), (by have e9 : ((0 : Int32)).toInt = _ := l_0; omega), hG, hS⟩
abbrev l_X12_person : List Bx := [(78, 79, 288, 296), (78, 79, 312, 313)]
abbrev po_X12_person (a1 a2 : Int32) (M : qM) (v : Int32) (M' : qM) : Prop := (0 ≤ v.toInt ∧ v.toInt ≤ 1) ∧ ((v.toInt = 1 ∧ (0 ≤ a1.toInt ∧ a1.toInt ≤ 7 ∧ 0 ≤ a2.toInt ∧ a2.toInt ≤ 99999) ∧ (M' 78 312).toInt = ((M 78 312) ||| ((1 : Int32) <<< (a1 &&& 31))).toInt) ∨ (v.toInt = 0 ∧ ¬ (0 ≤ a1.toInt ∧ a1.toInt ≤ 7 ∧ 0 ≤ a2.toInt ∧ a2.toInt ≤ 99999) ∧ (M' 78 312).toInt = (M 78 312).toInt)) ∧ G M' ∧ Sm l_X12_person M M'
theorem t_X12_person {n : Nat} (hn : 200000 ≤ n) (a1 a2 : Int32) (M : qM) (hG : G M) : qT (f_X12_person n a1 a2 M) (po_X12_person a1 a2 M) := by
  have hS : Sm l_X12_person M M := Sm.rf
  unfold f_X12_person
  have hq3_ := (show ((0 : Int32)).toInt = _ from l_0)
  have hq4_ := (show ((7 : Int32)).toInt = _ from l_7)
  refine T_qc (t_X12_in hn a1 (0 : Int32) (7 : Int32) M hG (i_rng (lo := 0) (hi := 70) l_0 (by omega) (by omega)) (i_rng (lo := 0) (hi := 99999) l_7 (by omega) (by omega))) ?_
  rintro rv1 mv2 ⟨hq5_, hq6_, gq7_, kq8_⟩
  have hq9_ := kq8_.nil
  subst hq9_
  refine T_eq rfl l_0 (fun hq10_ => ?_) (fun hq10_ => ?_)
  · exact T_ret ⟨(i_rng (lo := 0) (hi := 1) l_0 (by omega) (by omega)), (by have e9 : ((0 : Int32)).toInt = _ := l_0; omega), hG, hS⟩
  · have hq13_ := (show ((99999 : Int32)).toInt = _ from l_99999)
    refine T_qc (t_X12_in hn a2 (0 : Int32) (99999 : Int32) M hG (i_rng (lo := 0) (hi := 70) l_0 (by omega) (by omega)) (i_rng (lo := 0) (hi := 99999) l_99999 (by omega) (by omega))) ?_
    rintro rv11 mv12 ⟨hq14_, hq15_, gq16_, kq17_⟩
    have hq18_ := kq17_.nil
    subst hq18_
    refine T_eq rfl l_0 (fun hq19_ => ?_) (fun hq19_ => ?_)
    · exact T_ret ⟨(i_rng (lo := 0) (hi := 1) l_0 (by omega) (by omega)), (by have e9 : ((0 : Int32)).toInt = _ := l_0; omega), hG, hS⟩
    · have hq21_ := i_shl1 (c := 7) (k := a1) (by decide) rfl (by omega) (by omega)
      refine T_mu hG hS (ro78 (by decide) (by decide)) (nw_78 _) (i := 1) rfl ⟨by decide, by decide, Or.inr ⟨by decide, by decide⟩⟩ ?_
      intro mv20 hq22_ gq23_ kq24_
      have hq25_ : (mv20 78 312).toInt = ((M 78 312) ||| ((1 : Int32) <<< (a1 &&& 31))).toInt := by rw [hq22_, mu_at]
      refine T_qg (i_add l_288 rfl (by omega) (by omega)) (by omega) (by omega) ?_
      refine T_mu gq23_ kq24_ (ro78 (by decide) (by rw [tnc, (i_add l_288 rfl (by omega) (by omega))]; omega)) (nw_78 _) (i := 0) rfl ⟨by decide, by decide, Or.inr ⟨(show 288 ≤ _ by rw [tnc, (i_add l_288 rfl (by omega) (by omega))]; omega), (show _ < 296 by rw [tnc, (i_add l_288 rfl (by omega) (by omega))]; omega)⟩⟩ ?_
      intro mv26 hq27_ gq28_ kq29_
      have hq30_ : (mv26 78 312).toInt = (mv20 78 312).toInt := by rw [hq27_, mu_ne (Or.inr (by rw [tnc, (i_add l_288 rfl (by omega) (by omega))]; omega))]
      have hq31_ : (mv26 78 (((288 : Int32) + a1).toNatClampNeg)).toInt = a2.toInt := by rw [hq27_, mu_at]
      exact T_ret ⟨(i_rng (lo := 0) (hi := 1) l_1 (by omega) (by omega)), (by have e9 : ((1 : Int32)).toInt = _ := l_1; omega), gq28_, kq29_⟩
abbrev l_X9_put : List Bx := [(1, 2, 1, 2), (2, 3, 0, 0)]
abbrev po_X9_put (a1 : Int32) (M : qM) (v : Int32) (M' : qM) : Prop := (0 ≤ v.toInt ∧ v.toInt ≤ 0) ∧ ((M' 1 1).toInt = (M 1 1).toInt + 4) ∧ G M' ∧ Sm l_X9_put M M'
theorem t_X9_put_3 {n : Nat} (hn : 200000 ≤ n) {oa1 : Int32} {M0 : qM} : ∀ (m : Nat) (a1 a2 : Int32) (M : qM), G M → Sm l_X9_put M0 M → (-8) ≤ a2.toInt ∧ a2.toInt ≤ 24 → (((a2.toInt = 24 ∧ (M 1 1).toInt = (M0 1 1).toInt + 0) ∨ (a2.toInt = 16 ∧ (M 1 1).toInt = (M0 1 1).toInt + 1) ∨ (a2.toInt = 8 ∧ (M 1 1).toInt = (M0 1 1).toInt + 2) ∨ (a2.toInt = 0 ∧ (M 1 1).toInt = (M0 1 1).toInt + 3) ∨ (a2.toInt = -8 ∧ (M 1 1).toInt = (M0 1 1).toInt + 4)) ∧ (M0 1 1).toInt ≤ 256) → 24 - (0 - a2.toInt) < (m : Int) → qT (f_X9_put_3 n m a1 a2 M) (po_X9_put oa1 M0) := by
  intro m
  induction m with
  | zero =>
    intro a1 a2 M hG hS i0 hE i4
    have hq1_ := r_1_1 hG
    exfalso; omega
  | succ m ih =>
    intro a1 a2 M hG hS i0 hE i4
    show qT (b_X9_put_3 n (f_X9_put_3 n m) a1 a2 M) _
    unfold b_X9_put_3
    have hq1_ := r_1_1 hG
    refine T_lt rfl l_0 (fun hq2_ => ?_) (fun hq2_ => ?_)
    · exact T_ret ⟨(i_rng (lo := 0) (hi := 0) l_0 (by omega) (by omega)), (by have e9 : (0 : Int32).toInt = _ := l_0; omega), hG, hS⟩
    · refine T_le l_260 rfl (fun hq3_ => ?_) (fun hq3_ => ?_)
      · exact T_ret ⟨(i_rng (lo := 0) (hi := 0) l_0 (by omega) (by omega)), (by have e9 : (0 : Int32).toInt = _ := l_0; omega), hG, hS⟩
      · refine T_qg rfl (by omega) (by omega) ?_
        have hq5_ := i_and (a := a1 >>> (a2 &&& 31)) (b := (255 : Int32)) l_255 (by omega)
        refine T_mu hG hS (i_rng (lo := 0) (hi := 255) rfl (by omega) (by omega)) (nw_2 _) (i := 1) rfl ⟨by decide, by decide, Or.inl rfl⟩ ?_
        intro mv4 hq6_ gq7_ kq8_
        have hq9_ : (mv4 1 1).toInt = (M 1 1).toInt := by rw [hq6_, mu_ne (Or.inl (by decide))]
        have hq10_ : (mv4 2 ((M 1 1).toNatClampNeg)).toInt = ((a1 >>> (a2 &&& 31)) &&& (255 : Int32)).toInt := by rw [hq6_, mu_at]
        have hq12_ := r_1_1 gq7_
        refine T_mu gq7_ kq8_ (i_rng (lo := 0) (hi := 260) (i_add rfl l_1 (by omega) (by omega)) (by omega) (by omega)) (nw_1 _) (i := 0) rfl ⟨by decide, by decide, Or.inr ⟨by decide, by decide⟩⟩ ?_
        intro mv11 hq13_ gq14_ kq15_
        have hq16_ : (mv11 2 ((M 1 1).toNatClampNeg)).toInt = (mv4 2 ((M 1 1).toNatClampNeg)).toInt := by rw [hq13_, mu_ne (Or.inl (by decide))]
        have hq17_ : (mv11 1 1).toInt = ((mv4 1 1).toInt + 1) := by rw [hq13_, mu_at]; exact (i_add rfl l_1 (by omega) (by omega))
        refine T_ql (i_add rfl l_m8 (by omega) (by omega)) ?_
        intro xv18 hq19_
        have hq20_ := r_1_1 gq14_
        exact ih a1 xv18 mv11 gq14_ kq15_ (i_rng (lo := (-8)) (hi := 24) rfl (by omega) (by omega)) (by omega) (by omega)
theorem t_X9_put {n : Nat} (hn : 200000 ≤ n) (a1 : Int32) (M : qM) (hG : G M) (pe : (M 1 1).toInt ≤ 256) : qT (f_X9_put n a1 M) (po_X9_put a1 M) := by
  have hS : Sm l_X9_put M M := Sm.rf
  unfold f_X9_put
  have hq21_ := r_1_1 hG
  exact (t_X9_put_3 hn) n a1 (24 : Int32) M hG hS (i_rng (lo := (-8)) (hi := 24) l_24 (by omega) (by omega)) (by have e1 : ((24 : Int32)).toInt = _ := l_24; omega) (by have e1 : ((24 : Int32)).toInt = _ := l_24; omega)
abbrev l_X11_feed : List Bx := [(1, 2, 1, 2), (2, 3, 0, 0)]
abbrev po_X11_feed (a1 a2 a3 a4 a5 : Int32) (M : qM) (v : Int32) (M' : qM) : Prop := ((-1) ≤ v.toInt ∧ v.toInt ≤ 260) ∧ (((M 1 1).toInt + 20 ≤ 260 ∧ v.toInt = (M 1 1).toInt + 20 ∧ (M' 1 1).toInt = (M 1 1).toInt + 20) ∨ (260 < (M 1 1).toInt + 20 ∧ v.toInt = -1 ∧ (M' 1 1).toInt = (M 1 1).toInt)) ∧ G M' ∧ Sm l_X11_feed M M'
theorem t_X11_feed {n : Nat} (hn : 200000 ≤ n) (a1 a2 a3 a4 a5 : Int32) (M : qM) (hG : G M) : qT (f_X11_feed n a1 a2 a3 a4 a5 M) (po_X11_feed a1 a2 a3 a4 a5 M) := by
  have hS : Sm l_X11_feed M M := Sm.rf
  unfold f_X11_feed
  have hq1_ := r_1_1 hG
  refine T_le (i_add rfl l_20 (by omega) (by omega)) l_260 (fun hq2_ => ?_) (fun hq2_ => ?_)
  · refine T_qc (t_X9_put hn a1 M hG (by omega)) ?_
    rintro rv3 mv4 ⟨hq5_, hq6_, gq7_, kq8_⟩
    have kq9_ := Sm.call hS kq8_ rfl
    have hq10_ := r_1_1 gq7_
    refine T_qc (t_X9_put hn a2 mv4 gq7_ (by omega)) ?_
    rintro rv11 mv12 ⟨hq13_, hq14_, gq15_, kq16_⟩
    have kq17_ := Sm.call kq9_ kq16_ rfl
    have hq18_ := r_1_1 gq15_
    refine T_qc (t_X9_put hn a3 mv12 gq15_ (by omega)) ?_
    rintro rv19 mv20 ⟨hq21_, hq22_, gq23_, kq24_⟩
    have kq25_ := Sm.call kq17_ kq24_ rfl
    have hq26_ := r_1_1 gq23_
    refine T_qc (t_X9_put hn a4 mv20 gq23_ (by omega)) ?_
    rintro rv27 mv28 ⟨hq29_, hq30_, gq31_, kq32_⟩
    have kq33_ := Sm.call kq25_ kq32_ rfl
    have hq34_ := r_1_1 gq31_
    refine T_qc (t_X9_put hn a5 mv28 gq31_ (by omega)) ?_
    rintro rv35 mv36 ⟨hq37_, hq38_, gq39_, kq40_⟩
    have kq41_ := Sm.call kq33_ kq40_ rfl
    have hq42_ := r_1_1 gq39_
    exact T_ret ⟨(i_rng (lo := (-1)) (hi := 260) rfl (by omega) (by omega)), (by have e9 : (mv36 1 1).toInt = _ := rfl; omega), gq39_, kq41_⟩
  · exact T_ret ⟨(i_rng (lo := (-1)) (hi := 260) l_m1 (by omega) (by omega)), (by have e9 : ((-1 : Int32)).toInt = _ := l_m1; omega), hG, hS⟩
abbrev l_X12_types : List Bx := [(77, 78, 8, 9), (84, 85, 0, 0)]
abbrev po_X12_types (a1 : Int32) (M : qM) (v : Int32) (M' : qM) : Prop := (0 ≤ v.toInt ∧ v.toInt ≤ 0) ∧ ((M' 77 8).toInt = (M 77 8).toInt + 4) ∧ G M' ∧ Sm l_X12_types M M'
theorem t_X12_types_2 {n : Nat} (hn : 200000 ≤ n) {oa1 : Int32} {M0 : qM} : ∀ (m : Nat) (a1 a2 : Int32) (M : qM), G M → Sm l_X12_types M0 M → (-1) ≤ a2.toInt ∧ a2.toInt ≤ 3 → (M 77 8).toInt + a2.toInt + 1 = (M0 77 8).toInt + 4 ∧ (M0 77 8).toInt ≤ 256 → a2.toInt - (-1) < (m : Int) → qT (f_X12_types_2 n m a1 a2 M) (po_X12_types oa1 M0) := by
  intro m
  induction m with
  | zero =>
    intro a1 a2 M hG hS i0 hE i4
    have hq2_ := r_77_8 hG
    exfalso; omega
  | succ m ih =>
    intro a1 a2 M hG hS i0 hE i4
    show qT (b_X12_types_2 n (f_X12_types_2 n m) a1 a2 M) _
    unfold b_X12_types_2
    have hq2_ := r_77_8 hG
    refine T_lt rfl l_0 (fun hq3_ => ?_) (fun hq3_ => ?_)
    · exact T_ret ⟨(i_rng (lo := 0) (hi := 0) l_0 (by omega) (by omega)), (by have e9 : (0 : Int32).toInt = _ := l_0; omega), hG, hS⟩
    · refine T_qg rfl (by omega) (by omega) ?_
      have hq5_ := i_byte (((a1 >>> (((8 : Int32) * a2) &&& 31)).toInt8).toInt32)
      refine T_mu hG hS (i_rng (lo := (-128)) (hi := 127) rfl (by omega) (by omega)) (nw_84 _) (i := 1) rfl ⟨by decide, by decide, Or.inl rfl⟩ ?_
      intro mv4 hq6_ gq7_ kq8_
      have hq9_ : (mv4 77 8).toInt = (M 77 8).toInt := by rw [hq6_, mu_ne (Or.inl (by decide))]
      have hq10_ : (mv4 84 ((M 77 8).toNatClampNeg)).toInt = (vp_nar .byte (((a1 >>> (((8 : Int32) * a2) &&& 31)).toInt8).toInt32)).toInt := by rw [hq6_, mu_at]
      have hq12_ := r_77_8 gq7_
      refine T_mu gq7_ kq8_ (i_rng (lo := 0) (hi := 260) (i_add rfl l_1 (by omega) (by omega)) (by omega) (by omega)) nw_77_8 (i := 0) rfl ⟨by decide, by decide, Or.inr ⟨by decide, by decide⟩⟩ ?_
      intro mv11 hq13_ gq14_ kq15_
      have hq16_ : (mv11 84 ((M 77 8).toNatClampNeg)).toInt = (mv4 84 ((M 77 8).toNatClampNeg)).toInt := by rw [hq13_, mu_ne (Or.inl (by decide))]
      have hq17_ : (mv11 77 8).toInt = ((mv4 77 8).toInt + 1) := by rw [hq13_, mu_at]; exact (i_add rfl l_1 (by omega) (by omega))
      refine T_ql (i_add rfl l_m1 (by omega) (by omega)) ?_
      intro xv18 hq19_
      have hq20_ := r_77_8 gq14_
      exact ih a1 xv18 mv11 gq14_ kq15_ (i_rng (lo := (-1)) (hi := 3) rfl (by omega) (by omega)) (by omega) (by omega)
theorem t_X12_types {n : Nat} (hn : 200000 ≤ n) (a1 : Int32) (M : qM) (hG : G M) (pe : (M 77 8).toInt ≤ 256) : qT (f_X12_types n a1 M) (po_X12_types a1 M) := by
  have hS : Sm l_X12_types M M := Sm.rf
  unfold f_X12_types
  have hq21_ := r_77_8 hG
  exact (t_X12_types_2 hn) n a1 (3 : Int32) M hG hS (i_rng (lo := (-1)) (hi := 3) l_3 (by omega) (by omega)) (by have e1 : ((3 : Int32)).toInt = _ := l_3; omega) (by have e1 : ((3 : Int32)).toInt = _ := l_3; omega)

abbrev l_X12_feed : List Bx := [(77, 78, 8, 9), (84, 85, 0, 0)]
abbrev po_X12_feed (a1 a2 a3 a4 a5 : Int32) (M : qM) (v : Int32) (M' : qM) : Prop := ((-1) ≤ v.toInt ∧ v.toInt ≤ 260) ∧ (((M 77 8).toInt + 20 ≤ 260 ∧ v.toInt = (M 77 8).toInt + 20 ∧ (M' 77 8).toInt = (M 77 8).toInt + 20) ∨ (260 < (M 77 8).toInt + 20 ∧ v.toInt = -1 ∧ (M' 77 8).toInt = (M 77 8).toInt)) ∧ G M' ∧ Sm l_X12_feed M M'
theorem t_X12_feed {n : Nat} (hn : 200000 ≤ n) (a1 a2 a3 a4 a5 : Int32) (M : qM) (hG : G M) : qT (f_X12_feed n a1 a2 a3 a4 a5 M) (po_X12_feed a1 a2 a3 a4 a5 M) := by
  have hS : Sm l_X12_feed M M := Sm.rf
  unfold f_X12_feed
  have hq1_ := r_77_8 hG
  refine T_le (i_add rfl l_20 (by omega) (by omega)) l_260 (fun hq2_ => ?_) (fun hq2_ => ?_)
  · refine T_qc (t_X12_types hn a1 M hG (by omega)) ?_
    rintro rv3 mv4 ⟨hq5_, hq6_, gq7_, kq8_⟩
    have kq9_ := Sm.call hS kq8_ rfl
    have hq10_ := r_77_8 gq7_
    refine T_qc (t_X12_types hn a2 mv4 gq7_ (by omega)) ?_
    rintro rv11 mv12 ⟨hq13_, hq14_, gq15_, kq16_⟩
    have kq17_ := Sm.call kq9_ kq16_ rfl
    have hq18_ := r_77_8 gq15_
    refine T_qc (t_X12_types hn a3 mv12 gq15_ (by omega)) ?_
    rintro rv19 mv20 ⟨hq21_, hq22_, gq23_, kq24_⟩
    have kq25_ := Sm.call kq17_ kq24_ rfl
    have hq26_ := r_77_8 gq23_
    refine T_qc (t_X12_types hn a4 mv20 gq23_ (by omega)) ?_
    rintro rv27 mv28 ⟨hq29_, hq30_, gq31_, kq32_⟩
    have kq33_ := Sm.call kq25_ kq32_ rfl
    have hq34_ := r_77_8 gq31_
    refine T_qc (t_X12_types hn a5 mv28 gq31_ (by omega)) ?_
    rintro rv35 mv36 ⟨hq37_, hq38_, gq39_, kq40_⟩
    have kq41_ := Sm.call kq33_ kq40_ rfl
    have hq42_ := r_77_8 gq39_
    exact T_ret ⟨(i_rng (lo := (-1)) (hi := 260) rfl (by omega) (by omega)), (by have e9 : (mv36 77 8).toInt = _ := rfl; omega), gq39_, kq41_⟩
  · exact T_ret ⟨(i_rng (lo := (-1)) (hi := 260) l_m1 (by omega) (by omega)), (by have e9 : ((-1 : Int32)).toInt = _ := l_m1; omega), hG, hS⟩
abbrev l_X3_clear : List Bx := [(37, 53, 0, 0)]
abbrev po_X3_clear (w : Nat) (M : qM) (v : Int32) (M' : qM) : Prop := (0 ≤ v.toInt ∧ v.toInt ≤ 0) ∧ ((M' w 6).toInt = 0) ∧ G M' ∧ Sm l_X3_clear M M'
theorem G_lw {M : qM} {w s : Nat} {v : Int32} (hw : q_isLaw w) (hG : G M) (h6 : s = 6 → 0 ≤ v.toInt ∧ v.toInt ≤ 240) (h7 : s = 7 → 0 ≤ v.toInt ∧ v.toInt ≤ 16) (hs : s = 6 ∨ s = 7) : G (mu M w s v) := by
  rcases hs with rfl | rfl
  · rcases hw with rfl | rfl
    · exact G_mu hG (h6 rfl) (nw_37 _)
    · exact G_mu hG (h6 rfl) (nw_46 _)
  · rcases hw with rfl | rfl
    · exact G_mu hG (h7 rfl) (nw_37 _)
    · exact G_mu hG (h7 rfl) (nw_46 _)
theorem lwin {w k s : Nat} (hw : q_isLaw w) (hk : k < 7) : inB (37, 53, 0, 0) (w + k) s := by
  rcases hw with rfl | rfl
  · exact ⟨by show 37 ≤ 37 + k; omega, by show 37 + k < 53; omega, Or.inl rfl⟩
  · exact ⟨by show 37 ≤ 46 + k; omega, by show 46 + k < 53; omega, Or.inl rfl⟩
theorem t_X3_clear {n : Nat} (hn : 200000 ≤ n) {w : Nat} (hw : q_isLaw w) (M : qM) (hG : G M) : qT (f_X3_clear n w M) (po_X3_clear w M) := by
  have z0 : (0 : Int32).toInt = 0 := rfl
  unfold f_X3_clear
  refine T_qlm (T_qlm (T_ret ⟨⟨by decide, by decide⟩, ?_, ?_, ?_⟩))
  · rw [mu_ne (Or.inr (by decide)), mu_at]; rfl
  · exact G_lw hw (G_lw hw hG (fun _ => by omega) (fun _ => by omega) (Or.inl rfl)) (fun _ => by omega) (fun _ => by omega) (Or.inr rfl)
  · exact ((Sm.rf).mu (i := 0) rfl (lwin (k := 0) hw (by decide))).mu (i := 0) rfl (lwin (k := 0) hw (by decide))

abbrev l_X9_openText : List Bx := [(1, 2, 2, 5)]
abbrev po_X9_openText (a1 : Int32) (M : qM) (v : Int32) (M' : qM) : Prop := (0 ≤ v.toInt ∧ v.toInt ≤ 0) ∧ ((M' 1 3).toInt = 0) ∧ G M' ∧ Sm l_X9_openText M M'
theorem t_X9_openText {n : Nat} (hn : 200000 ≤ n) (a1 : Int32) (M : qM) (hG : G M) (pa1 : 1 ≤ a1.toInt ∧ a1.toInt ≤ 240) : qT (f_X9_openText n a1 M) (po_X9_openText a1 M) := by
  have hS : Sm l_X9_openText M M := Sm.rf
  unfold f_X9_openText
  have hq2_ := r_1_1 hG
  have hq3_ := i_min (a := a1) (b := M 1 1) rfl rfl
  refine T_mu hG hS (i_rng (lo := 0) (hi := 240) rfl (by omega) (by omega)) (nw_1 _) (i := 0) rfl ⟨by decide, by decide, Or.inr ⟨by decide, by decide⟩⟩ ?_
  intro mv1 hq4_ gq5_ kq6_
  have hq7_ : (mv1 1 2).toInt = (qmin a1 (M 1 1)).toInt := by rw [hq4_, mu_at]
  refine T_mu gq5_ kq6_ (i_rng (lo := 0) (hi := 240) l_0 (by omega) (by omega)) (nw_1 _) (i := 0) rfl ⟨by decide, by decide, Or.inr ⟨by decide, by decide⟩⟩ ?_
  intro mv8 hq9_ gq10_ kq11_
  have hq12_ : (mv8 1 2).toInt = (mv1 1 2).toInt := by rw [hq9_, mu_ne (Or.inr (by decide))]
  have hq13_ : (mv8 1 3).toInt = 0 := by rw [hq9_, mu_at]; exact l_0
  refine T_mu gq10_ kq11_ (rn_1_4 _) (nw_1 _) (i := 0) rfl ⟨by decide, by decide, Or.inr ⟨by decide, by decide⟩⟩ ?_
  intro mv14 hq15_ gq16_ kq17_
  have hq18_ : (mv14 1 2).toInt = (mv8 1 2).toInt := by rw [hq15_, mu_ne (Or.inr (by decide))]
  have hq19_ : (mv14 1 3).toInt = (mv8 1 3).toInt := by rw [hq15_, mu_ne (Or.inr (by decide))]
  have hq20_ : (mv14 1 4).toInt = 0 := by rw [hq15_, mu_at]; exact l_0
  exact T_ret ⟨(i_rng (lo := 0) (hi := 0) l_0 (by omega) (by omega)), (by have e9 : (0 : Int32).toInt = _ := l_0; omega), gq16_, kq17_⟩
abbrev l_X9_sign : List Bx := []
abbrev po_X9_sign (M : qM) (v : Int32) (M' : qM) : Prop := ((-1) ≤ v.toInt ∧ v.toInt ≤ 255) ∧ (((0 ≤ (M 1 3).toInt ∧ (M 1 3).toInt < (M 1 2).toInt) ∧ v.toInt = (M 2 (M 1 3).toNatClampNeg).toInt) ∨ (¬ (0 ≤ (M 1 3).toInt ∧ (M 1 3).toInt < (M 1 2).toInt) ∧ v.toInt = -1)) ∧ G M' ∧ Sm l_X9_sign M M'
theorem t_X9_sign {n : Nat} (hn : 200000 ≤ n) (M : qM) (hG : G M) : qT (f_X9_sign n  M) (po_X9_sign  M) := by
  have hS : Sm l_X9_sign M M := Sm.rf
  unfold f_X9_sign
  have hq1_ := r_1_3 hG
  have hq2_ := r_1_2 hG
  refine T_lt rfl l_0 (fun hq3_ => ?_) (fun hq3_ => ?_)
  · exfalso; omega
  · refine T_le rfl rfl (fun hq4_ => ?_) (fun hq4_ => ?_)
    · exact T_ret ⟨(i_rng (lo := (-1)) (hi := 255) l_m1 (by omega) (by omega)), (by have e9 : ((-1 : Int32)).toInt = _ := l_m1; omega), hG, hS⟩
    · refine T_qg rfl (by omega) (by omega) ?_
      have hq5_ := r_2 hG ((M 1 3).toNatClampNeg)
      exact T_ret ⟨(i_rng (lo := (-1)) (hi := 255) rfl (by omega) (by omega)), (by have e9 : (M 2 ((M 1 3).toNatClampNeg)).toInt = _ := rfl; omega), hG, hS⟩
abbrev l_X9_takes : List Bx := [(1, 2, 3, 4)]
abbrev po_X9_takes (a1 : Int32) (M : qM) (v : Int32) (M' : qM) : Prop := (0 ≤ v.toInt ∧ v.toInt ≤ 1) ∧ ((v.toInt = 0 ∧ (M' 1 3).toInt = (M 1 3).toInt) ∨ (v.toInt ≠ 0 ∧ (M' 1 3).toInt = (M 1 3).toInt + 1 ∧ (M 1 3).toInt < (M 1 2).toInt)) ∧ G M' ∧ Sm l_X9_takes M M'
theorem t_X9_takes {n : Nat} (hn : 200000 ≤ n) (a1 : Int32) (M : qM) (hG : G M) (pa1 : 0 ≤ a1.toInt ∧ a1.toInt ≤ 255) : qT (f_X9_takes n a1 M) (po_X9_takes a1 M) := by
  have hS : Sm l_X9_takes M M := Sm.rf
  unfold f_X9_takes
  have hq1_ := r_1_3 hG
  have hq2_ := r_1_2 hG
  refine T_qc (t_X9_sign hn  M hG ) ?_
  rintro rv3 mv4 ⟨hq5_, hq6_, gq7_, kq8_⟩
  have hq9_ := r_2 hG ((M 1 3).toNatClampNeg)
  have hq10_ := kq8_.nil
  subst hq10_
  refine T_eq rfl rfl (fun hq11_ => ?_) (fun hq11_ => ?_)
  · refine T_mu hG hS (i_rng (lo := 0) (hi := 240) (i_add rfl l_1 (by omega) (by omega)) (by omega) (by omega)) (nw_1 _) (i := 0) rfl ⟨by decide, by decide, Or.inr ⟨by decide, by decide⟩⟩ ?_
    intro mv12 hq13_ gq14_ kq15_
    have hq16_ : (mv12 1 2).toInt = (M 1 2).toInt := by rw [hq13_, mu_ne (Or.inr (by decide))]
    have hq17_ : (mv12 1 3).toInt = ((M 1 3).toInt + 1) := by rw [hq13_, mu_at]; exact (i_add rfl l_1 (by omega) (by omega))
    exact T_ret ⟨(i_rng (lo := 0) (hi := 1) l_1 (by omega) (by omega)), (by have e9 : ((1 : Int32)).toInt = _ := l_1; omega), gq14_, kq15_⟩
  · exact T_ret ⟨(i_rng (lo := 0) (hi := 1) l_0 (by omega) (by omega)), (by have e9 : ((0 : Int32)).toInt = _ := l_0; omega), hG, hS⟩
abbrev l_X9_fails : List Bx := [(1, 2, 4, 5)]
abbrev po_X9_fails (a1 a2 : Int32) (M : qM) (v : Int32) (M' : qM) : Prop := (0 ≤ v.toInt ∧ v.toInt ≤ 0) ∧ G M' ∧ Sm l_X9_fails M M'
theorem t_X9_fails {n : Nat} (hn : 200000 ≤ n) (a1 a2 : Int32) (M : qM) (hG : G M) (pa1 : 1 ≤ a1.toInt ∧ a1.toInt ≤ 6) (pa2 : 0 ≤ a2.toInt ∧ a2.toInt ≤ 240) : qT (f_X9_fails n a1 a2 M) (po_X9_fails a1 a2 M) := by
  have hS : Sm l_X9_fails M M := Sm.rf
  unfold f_X9_fails
  refine T_mu hG hS (rn_1_4 _) (nw_1 _) (i := 0) rfl ⟨by decide, by decide, Or.inr ⟨by decide, by decide⟩⟩ ?_
  intro mv1 hq2_ gq3_ kq4_
  have hq5_ : (mv1 1 4).toInt = (((-1000) * a1.toInt) - a2.toInt) := by rw [hq2_, mu_at]; exact (i_sub (i_mul l_m1000 rfl (by omega) (by omega)) rfl (by omega) (by omega))
  exact T_ret ⟨(i_rng (lo := 0) (hi := 0) l_0 (by omega) (by omega)), gq3_, kq4_⟩
abbrev l_X9_mustTake : List Bx := [(1, 2, 3, 5)]
abbrev po_X9_mustTake (a1 : Int32) (M : qM) (v : Int32) (M' : qM) : Prop := (0 ≤ v.toInt ∧ v.toInt ≤ 1) ∧ ((v.toInt = 0 ∧ (M' 1 3).toInt = (M 1 3).toInt) ∨ (v.toInt ≠ 0 ∧ (M' 1 3).toInt = (M 1 3).toInt + 1 ∧ (M 1 3).toInt < (M 1 2).toInt)) ∧ G M' ∧ Sm l_X9_mustTake M M'
theorem t_X9_mustTake {n : Nat} (hn : 200000 ≤ n) (a1 : Int32) (M : qM) (hG : G M) (pa1 : 0 ≤ a1.toInt ∧ a1.toInt ≤ 255) : qT (f_X9_mustTake n a1 M) (po_X9_mustTake a1 M) := by
  have hS : Sm l_X9_mustTake M M := Sm.rf
  unfold f_X9_mustTake
  have hq1_ := r_1_3 hG
  have hq2_ := r_1_2 hG
  refine T_qc (t_X9_takes hn a1 M hG (i_rng (lo := 0) (hi := 255) rfl (by omega) (by omega))) ?_
  rintro rv3 mv4 ⟨hq5_, hq6_, gq7_, kq8_⟩
  have kq9_ := Sm.call hS kq8_ rfl
  have hq10_ : (mv4 1 2).toInt = (M 1 2).toInt := by rw [kq8_ 1 2 (by decide)]
  have hq11_ := r_1_3 gq7_
  refine T_eq rfl l_0 (fun hq12_ => ?_) (fun hq12_ => ?_)
  · refine T_qc (t_X9_fails hn (1 : Int32) (mv4 1 3) mv4 gq7_ (i_rng (lo := 1) (hi := 6) l_1 (by omega) (by omega)) (i_rng (lo := 0) (hi := 240) rfl (by omega) (by omega))) ?_
    rintro rv13 mv14 ⟨hq15_, gq16_, kq17_⟩
    have kq18_ := Sm.call kq9_ kq17_ rfl
    have hq19_ : (mv14 1 2).toInt = (mv4 1 2).toInt := by rw [kq17_ 1 2 (by decide)]
    have hq20_ : (mv14 1 3).toInt = (mv4 1 3).toInt := by rw [kq17_ 1 3 (by decide)]
    refine T_eq rfl l_0 (fun hq21_ => ?_) (fun hq21_ => ?_)
    · exact T_ret ⟨(i_rng (lo := 0) (hi := 1) l_0 (by omega) (by omega)), (by have e9 : ((0 : Int32)).toInt = _ := l_0; omega), gq16_, kq18_⟩
    · exfalso; omega
  · exact T_ret ⟨(i_rng (lo := 0) (hi := 1) l_1 (by omega) (by omega)), (by have e9 : ((1 : Int32)).toInt = _ := l_1; omega), gq7_, kq9_⟩
abbrev l_X4_opens : List Bx := [(1, 2, 3, 5)]
abbrev po_X4_opens (a1 : Int32) (M : qM) (v : Int32) (M' : qM) : Prop := (0 ≤ v.toInt ∧ v.toInt ≤ 1) ∧ (v.toInt = 0 ∨ (a1.toInt < 6 ∧ (M' 1 3).toInt = (M 1 3).toInt + 1)) ∧ G M' ∧ Sm l_X4_opens M M'
theorem t_X4_opens {n : Nat} (hn : 200000 ≤ n) (a1 : Int32) (M : qM) (hG : G M) (pa1 : 0 ≤ a1.toInt ∧ a1.toInt ≤ 6) (pe : (M 1 3).toInt < (M 1 2).toInt) : qT (f_X4_opens n a1 M) (po_X4_opens a1 M) := by
  have hS : Sm l_X4_opens M M := Sm.rf
  unfold f_X4_opens
  have hq1_ := r_1_3 hG
  have hq2_ := r_1_2 hG
  refine T_lt rfl l_6 (fun hq3_ => ?_) (fun hq3_ => ?_)
  · refine T_mu hG hS (i_rng (lo := 0) (hi := 240) (i_add rfl l_1 (by omega) (by omega)) (by omega) (by omega)) (nw_1 _) (i := 0) rfl ⟨by decide, by decide, Or.inr ⟨by decide, by decide⟩⟩ ?_
    intro mv4 hq5_ gq6_ kq7_
    have hq8_ : (mv4 1 2).toInt = (M 1 2).toInt := by rw [hq5_, mu_ne (Or.inr (by decide))]
    have hq9_ : (mv4 1 3).toInt = ((M 1 3).toInt + 1) := by rw [hq5_, mu_at]; exact (i_add rfl l_1 (by omega) (by omega))
    exact T_ret ⟨(i_rng (lo := 0) (hi := 1) l_1 (by omega) (by omega)), (by have e9 : ((1 : Int32)).toInt = _ := l_1; omega), gq6_, kq7_⟩
  · refine T_qc (t_X9_fails hn (5 : Int32) (M 1 3) M hG (i_rng (lo := 1) (hi := 6) l_5 (by omega) (by omega)) (i_rng (lo := 0) (hi := 240) rfl (by omega) (by omega))) ?_
    rintro rv10 mv11 ⟨hq12_, gq13_, kq14_⟩
    have kq15_ := Sm.call hS kq14_ rfl
    have hq16_ : (mv11 1 3).toInt = (M 1 3).toInt := by rw [kq14_ 1 3 (by decide)]
    have hq17_ : (mv11 1 2).toInt = (M 1 2).toInt := by rw [kq14_ 1 2 (by decide)]
    refine T_qb rfl (by omega) (by omega) ?_
    exact T_ret ⟨(i_rng (lo := 0) (hi := 1) rfl (by omega) (by omega)), (by have e9 : (rv10).toInt = _ := rfl; omega), gq13_, kq15_⟩
abbrev l_X3_add : List Bx := [(37, 53, 0, 0)]
abbrev po_X3_add (w : Nat) (a1 a2 : Int32) (M : qM) (v : Int32) (M' : qM) : Prop := ((-1) ≤ v.toInt ∧ v.toInt ≤ 239) ∧ ((240 ≤ (M w 6).toInt ∧ (M' w 6).toInt = (M w 6).toInt) ∨ ((M w 6).toInt < 240 ∧ v.toInt = (M w 6).toInt ∧ (M' w 6).toInt = (M w 6).toInt + 1 ∧ (M' (w + 1) v.toNatClampNeg).toInt = a1.toInt)) ∧ Lf w M M' ∧ G M' ∧ Sm l_X3_add M M'
theorem t_X3_add {n : Nat} (hn : 200000 ≤ n) {w : Nat} (hw : q_isLaw w) (a1 a2 : Int32) (M : qM) (hG : G M) (pa2 : 0 ≤ a2.toInt ∧ a2.toInt ≤ 1000000) (pe : a1.toInt = 1 → a2.toInt ≤ 11) : qT (f_X3_add n w a1 a2 M) (po_X3_add w a1 a2 M) := by
  have h6 := rw_0_6 hw hG
  unfold f_X3_add
  refine T_le l_240 rfl (fun c => ?_) (fun c => ?_)
  · exact T_ret ⟨i_rng (i_sub rfl l_1 (by omega) (by omega)) (by omega) (by omega), Or.inl ⟨c, rfl⟩, Lf.rf, hG, Sm.rf⟩
  · refine T_qg rfl (by omega) (by omega) ?_
    refine T_qlm ?_
    have e1 : mu M (w + 1) (M w 6).toNatClampNeg a1 w 6 = M w 6 := mu_ne (Or.inl (by omega))
    rw [e1]
    refine T_qg rfl (by omega) (by omega) ?_
    refine T_qlm ?_
    have e2 : mu (mu M (w + 1) (M w 6).toNatClampNeg a1) (w + 2) (M w 6).toNatClampNeg a2 w 6 = M w 6 := by rw [mu_ne (Or.inl (by omega)), e1]
    have hG2 := G_law hw hG (s := (M w 6).toNatClampNeg) (a1 := a1) (a2 := a2) pa2 pe
    have hS2 : Sm l_X3_add M (mu (mu M (w + 1) (M w 6).toNatClampNeg a1) (w + 2) (M w 6).toNatClampNeg a2) := ((Sm.rf).mu (i := 0) rfl (lwin (k := 1) hw (by decide))).mu (i := 0) rfl (lwin (k := 2) hw (by decide))
    have e3 : mu (mu M (w + 1) (M w 6).toNatClampNeg a1) (w + 2) (M w 6).toNatClampNeg a2 (w + 1) = mu M (w + 1) (M w 6).toNatClampNeg a1 (w + 1) := mu_nc (by omega)
    have e7 : mu (mu M (w + 1) (M w 6).toNatClampNeg a1) (w + 2) (M w 6).toNatClampNeg a2 w 7 = M w 7 := by rw [mu_ne (Or.inl (by omega)), mu_ne (Or.inl (by omega))]
    have e8 : ∀ k, 3 ≤ k → mu (mu M (w + 1) (M w 6).toNatClampNeg a1) (w + 2) (M w 6).toNatClampNeg a2 (w + k) = M (w + k) := fun k h3 => by rw [mu_nc (by omega), mu_nc (by omega)]
    generalize mu (mu M (w + 1) (M w 6).toNatClampNeg a1) (w + 2) (M w 6).toNatClampNeg a2 = m2 at e2 hG2 hS2 e3 e7 e8 ⊢
    refine T_qlm ?_
    rw [e2, mu_at]
    have e4 : (M w 6 + 1).toInt = (M w 6).toInt + 1 := i_add rfl l_1 (by omega) (by omega)
    have e5 : (M w 6 + 1 - 1).toInt = (M w 6).toInt + 1 - 1 := i_sub e4 l_1 (by omega) (by omega)
    have e6 : M w 6 + 1 - 1 = M w 6 := Int32.toInt_inj.mp (by rw [e5]; omega)
    rw [e6]
    refine T_ret ⟨⟨by omega, by omega⟩, Or.inr ⟨c, rfl, ?_, ?_⟩, ⟨?_, fun s hs => ?_, ?_, fun k h3 _ => ?_⟩, G_lw hw hG2 (fun _ => by rw [e4]; omega) (fun q => absurd q (by decide)) (Or.inl rfl), hS2.mu (i := 0) rfl (lwin (k := 0) hw (by decide))⟩
    · rw [mu_at]; exact e4
    · rw [mu_ne (Or.inl (by omega)), e3, mu_at]
    · rw [mu_at, e4]; omega
    · rw [mu_ne (Or.inl (by omega)), e3, mu_ne (Or.inr (by rw [tnc]; omega))]
    · rw [mu_ne (Or.inr (by decide)), e7]
    · rw [mu_nc (by omega), e8 k h3]

abbrev l_X9_digit : List Bx := []
abbrev po_X9_digit (M : qM) (v : Int32) (M' : qM) : Prop := ((-1) ≤ v.toInt ∧ v.toInt ≤ 9) ∧ (((0 ≤ (M 1 3).toInt ∧ (M 1 3).toInt < (M 1 2).toInt) ∧ 48 ≤ (M 2 (M 1 3).toNatClampNeg).toInt ∧ (M 2 (M 1 3).toNatClampNeg).toInt ≤ 57 ∧ v.toInt = (M 2 (M 1 3).toNatClampNeg).toInt - 48) ∨ (v.toInt = -1 ∧ ¬ ((0 ≤ (M 1 3).toInt ∧ (M 1 3).toInt < (M 1 2).toInt) ∧ 48 ≤ (M 2 (M 1 3).toNatClampNeg).toInt ∧ (M 2 (M 1 3).toNatClampNeg).toInt ≤ 57))) ∧ G M' ∧ Sm l_X9_digit M M'
theorem t_X9_digit {n : Nat} (hn : 200000 ≤ n) (M : qM) (hG : G M) : qT (f_X9_digit n  M) (po_X9_digit  M) := by
  have hS : Sm l_X9_digit M M := Sm.rf
  unfold f_X9_digit
  have hq1_ := r_1_3 hG
  have hq2_ := r_1_2 hG
  refine T_qc (t_X9_sign hn  M hG ) ?_
  rintro rv3 mv4 ⟨hq5_, hq6_, gq7_, kq8_⟩
  have hq9_ := r_2 hG ((M 1 3).toNatClampNeg)
  have hq10_ := kq8_.nil
  subst hq10_
  refine T_lt rfl l_48 (fun hq11_ => ?_) (fun hq11_ => ?_)
  · exact T_ret ⟨(i_rng (lo := (-1)) (hi := 9) l_m1 (by omega) (by omega)), (by have e9 : ((-1 : Int32)).toInt = _ := l_m1; omega), hG, hS⟩
  · refine T_lt l_57 rfl (fun hq12_ => ?_) (fun hq12_ => ?_)
    · exact T_ret ⟨(i_rng (lo := (-1)) (hi := 9) l_m1 (by omega) (by omega)), (by have e9 : ((-1 : Int32)).toInt = _ := l_m1; omega), hG, hS⟩
    · exact T_ret ⟨(i_rng (lo := (-1)) (hi := 9) (i_sub rfl l_48 (by omega) (by omega)) (by omega) (by omega)), (by have e9 : (rv3 - (48 : Int32)).toInt = _ := (i_sub rfl l_48 (by omega) (by omega)); omega), hG, hS⟩
abbrev l_X4_readNumber : List Bx := [(1, 2, 3, 5), (37, 53, 0, 0)]
abbrev po_X4_readNumber (r : Nat) (M : qM) (v : Int32) (M' : qM) : Prop := (0 ≤ v.toInt ∧ v.toInt ≤ 1) ∧ (v.toInt = 0 ∨ ((M 1 3).toInt - (M r 6).toInt ≤ (M' 1 3).toInt - (M' r 6).toInt ∧ (M' 1 3).toInt ≤ (M' 1 2).toInt ∧ (M' r 6).toInt ≤ (M' 1 3).toInt)) ∧ Lf r M M' ∧ G M' ∧ Sm l_X4_readNumber M M'
theorem t_X4_readNumber_4 {n : Nat} (hn : 200000 ≤ n) {r : Nat} (hr : q_isLaw r) {M0 : qM} : ∀ (m : Nat) (a1 a2 : Int32) (M : qM), G M → Sm l_X4_readNumber M0 M → 0 ≤ a1.toInt ∧ a1.toInt ≤ 99999 → 0 ≤ a2.toInt ∧ a2.toInt ≤ 5 → ((M r 6).toInt = (M0 r 6).toInt ∧ (M 1 3).toInt = (M0 1 3).toInt + a2.toInt ∧ (M r 6).toInt ≤ (M0 1 3).toInt ∧ (M 1 3).toInt ≤ (M 1 2).toInt ∧ (1 ≤ a2.toInt ∨ (a2.toInt = 0 ∧ 48 ≤ (M 2 (M 1 3).toNatClampNeg).toInt ∧ (M 2 (M 1 3).toNatClampNeg).toInt ≤ 57 ∧ (M 1 3).toInt < (M 1 2).toInt)) ∧ ((a2.toInt = 0 ∧ a1.toInt ≤ 0) ∨ (a2.toInt = 1 ∧ a1.toInt ≤ 9) ∨ (a2.toInt = 2 ∧ a1.toInt ≤ 99) ∨ (a2.toInt = 3 ∧ a1.toInt ≤ 999) ∨ (a2.toInt = 4 ∧ a1.toInt ≤ 9999) ∨ (a2.toInt = 5 ∧ a1.toInt ≤ 99999))) → Lf r M0 M → 5 - a2.toInt < (m : Int) → qT (f_X4_readNumber_4 n r m a1 a2 M) (po_X4_readNumber r  M0) := by
  intro m
  induction m with
  | zero =>
    intro a1 a2 M hG hS i0 i1 hE hR i6
    have hq3_ := r_1_3 hG
    have hq4_ := r_1_2 hG
    have hq5_ := rw_0_6 hr hG
    exfalso; omega
  | succ m ih =>
    intro a1 a2 M hG hS i0 i1 hE hR i6
    show qT (b_X4_readNumber_4 n r (f_X4_readNumber_4 n r m) a1 a2 M) _
    unfold b_X4_readNumber_4
    have hq3_ := r_1_3 hG
    have hq4_ := r_1_2 hG
    have hq5_ := rw_0_6 hr hG
    refine T_le l_5 rfl (fun hq6_ => ?_) (fun hq6_ => ?_)
    · unfold f_X4_readNumber_52
      refine T_qc (t_X9_digit hn  M hG ) ?_
      rintro rv7 mv8 ⟨hq9_, hq10_, gq11_, kq12_⟩
      have hq13_ := r_2 hG ((M 1 3).toNatClampNeg)
      have hq14_ := kq12_.nil
      subst hq14_
      refine T_eq rfl l_m1 (fun hq15_ => ?_) (fun hq15_ => ?_)
      · have hq18_ := (show ((0 : Int32)).toInt = _ from l_0)
        refine T_qc (t_X3_add hn hr (0 : Int32) a1 M hG (i_rng (lo := 0) (hi := 1000000) rfl (by omega) (by omega)) (by have e0 : ((0 : Int32)).toInt = _ := l_0; omega)) ?_
        rintro rv16 mv17 ⟨hq19_, hq20_, hq21_, gq22_, kq23_⟩
        have kq24_ := Sm.call hS kq23_ rfl
        have hq25_ := Lf.tr (M := M0) hR hq21_
        have hq26_ : (mv17 1 3).toInt = (M 1 3).toInt := by rw [kq23_ 1 3 (by decide)]
        have hq27_ : (mv17 1 2).toInt = (M 1 2).toInt := by rw [kq23_ 1 2 (by decide)]
        have hq28_ := rw_0_6 hr gq22_
        exact T_ret ⟨(i_rng (lo := 0) (hi := 1) l_1 (by omega) (by omega)), (by have e9 : ((1 : Int32)).toInt = _ := l_1; omega), hq25_, gq22_, kq24_⟩
      · refine T_qc (t_X9_fails hn (2 : Int32) (M 1 3) M hG (i_rng (lo := 1) (hi := 6) l_2 (by omega) (by omega)) (i_rng (lo := 0) (hi := 240) rfl (by omega) (by omega))) ?_
        rintro rv29 mv30 ⟨hq31_, gq32_, kq33_⟩
        have kq34_ := Sm.call hS kq33_ rfl
        have hq35_ := Lf.out hr (M0 := M0) hR kq33_ rfl
        have hq36_ : (mv30 r 6).toInt = (M r 6).toInt := by rw [kq33_ r 6 (outl (lawin hr).1 rfl)]
        have hq37_ : (mv30 1 3).toInt = (M 1 3).toInt := by rw [kq33_ 1 3 (by decide)]
        have hq38_ : (mv30 1 2).toInt = (M 1 2).toInt := by rw [kq33_ 1 2 (by decide)]
        refine T_qb rfl (by omega) (by omega) ?_
        exact T_ret ⟨(i_rng (lo := 0) (hi := 1) rfl (by omega) (by omega)), (by have e9 : (rv29).toInt = _ := rfl; omega), hq35_, gq32_, kq34_⟩
    · refine T_qc (t_X9_digit hn  M hG ) ?_
      rintro rv39 mv40 ⟨hq41_, hq42_, gq43_, kq44_⟩
      have hq45_ := r_2 hG ((M 1 3).toNatClampNeg)
      have hq46_ := kq44_.nil
      subst hq46_
      refine T_eq rfl l_m1 (fun hq47_ => ?_) (fun hq47_ => ?_)
      · unfold f_X4_readNumber_52
        refine T_qc (t_X9_digit hn  M hG ) ?_
        rintro rv48 mv49 ⟨hq50_, hq51_, gq52_, kq53_⟩
        have hq54_ := kq53_.nil
        subst hq54_
        refine T_eq rfl l_m1 (fun hq55_ => ?_) (fun hq55_ => ?_)
        · have hq58_ := (show ((0 : Int32)).toInt = _ from l_0)
          refine T_qc (t_X3_add hn hr (0 : Int32) a1 M hG (i_rng (lo := 0) (hi := 1000000) rfl (by omega) (by omega)) (by have e0 : ((0 : Int32)).toInt = _ := l_0; omega)) ?_
          rintro rv56 mv57 ⟨hq59_, hq60_, hq61_, gq62_, kq63_⟩
          have kq64_ := Sm.call hS kq63_ rfl
          have hq65_ := Lf.tr (M := M0) hR hq61_
          have hq66_ : (mv57 1 3).toInt = (M 1 3).toInt := by rw [kq63_ 1 3 (by decide)]
          have hq67_ : (mv57 1 2).toInt = (M 1 2).toInt := by rw [kq63_ 1 2 (by decide)]
          have hq68_ := rw_0_6 hr gq62_
          exact T_ret ⟨(i_rng (lo := 0) (hi := 1) l_1 (by omega) (by omega)), (by have e9 : ((1 : Int32)).toInt = _ := l_1; omega), hq65_, gq62_, kq64_⟩
        · refine T_qc (t_X9_fails hn (2 : Int32) (M 1 3) M hG (i_rng (lo := 1) (hi := 6) l_2 (by omega) (by omega)) (i_rng (lo := 0) (hi := 240) rfl (by omega) (by omega))) ?_
          rintro rv69 mv70 ⟨hq71_, gq72_, kq73_⟩
          have kq74_ := Sm.call hS kq73_ rfl
          have hq75_ := Lf.out hr (M0 := M0) hR kq73_ rfl
          have hq76_ : (mv70 r 6).toInt = (M r 6).toInt := by rw [kq73_ r 6 (outl (lawin hr).1 rfl)]
          have hq77_ : (mv70 1 3).toInt = (M 1 3).toInt := by rw [kq73_ 1 3 (by decide)]
          have hq78_ : (mv70 1 2).toInt = (M 1 2).toInt := by rw [kq73_ 1 2 (by decide)]
          refine T_qb rfl (by omega) (by omega) ?_
          exact T_ret ⟨(i_rng (lo := 0) (hi := 1) rfl (by omega) (by omega)), (by have e9 : (rv69).toInt = _ := rfl; omega), hq75_, gq72_, kq74_⟩
      · refine T_qc (t_X9_digit hn  M hG ) ?_
        rintro rv79 mv80 ⟨hq81_, hq82_, gq83_, kq84_⟩
        have hq85_ := kq84_.nil
        subst hq85_
        refine T_ql (i_add (i_mul l_10 rfl (by omega) (by omega)) rfl (by omega) (by omega)) ?_
        intro xv86 hq87_
        refine T_mu hG hS (i_rng (lo := 0) (hi := 240) (i_add rfl l_1 (by omega) (by omega)) (by omega) (by omega)) (nw_1 _) (i := 0) rfl ⟨by decide, by decide, Or.inr ⟨by decide, by decide⟩⟩ ?_
        intro mv88 hq89_ gq90_ kq91_
        have hq92_ := Lf.mu hr (M0 := M0) hR hq89_ (by decide)
        have hq93_ : (mv88 1 2).toInt = (M 1 2).toInt := by rw [hq89_, mu_ne (Or.inr (by decide))]
        have hq94_ : (mv88 r 6).toInt = (M r 6).toInt := by rw [hq89_, mu_ne (Or.inl (lawne hr (by decide)).1)]
        have hq95_ : (mv88 1 3).toInt = ((M 1 3).toInt + 1) := by rw [hq89_, mu_at]; exact (i_add rfl l_1 (by omega) (by omega))
        refine T_ql (i_add rfl l_1 (by omega) (by omega)) ?_
        intro xv96 hq97_
        have hq98_ := r_1_3 gq90_
        have hq99_ := r_1_2 gq90_
        have hq100_ := rw_0_6 hr gq90_
        exact ih xv86 xv96 mv88 gq90_ kq91_ (i_rng (lo := 0) (hi := 99999) rfl (by omega) (by omega)) (i_rng (lo := 0) (hi := 5) rfl (by omega) (by omega)) (by omega) hq92_ (by omega)
theorem t_X4_readNumber {n : Nat} (hn : 200000 ≤ n) {r : Nat} (hr : q_isLaw r) (M : qM) (hG : G M) (pe : (M 1 3).toInt ≤ (M 1 2).toInt ∧ (M r 6).toInt ≤ (M 1 3).toInt ∧ (M 1 3).toInt < (M 1 2).toInt ∧ 48 ≤ (M 2 (M 1 3).toNatClampNeg).toInt ∧ (M 2 (M 1 3).toNatClampNeg).toInt ≤ 57) : qT (f_X4_readNumber n r  M) (po_X4_readNumber r  M) := by
  have hS : Sm l_X4_readNumber M M := Sm.rf
  unfold f_X4_readNumber
  have hq101_ := r_1_3 hG
  have hq102_ := r_1_2 hG
  have hq103_ := rw_0_6 hr hG
  exact (t_X4_readNumber_4 hn hr) n (0 : Int32) (0 : Int32) M hG hS (i_rng (lo := 0) (hi := 99999) l_0 (by omega) (by omega)) (i_rng (lo := 0) (hi := 5) l_0 (by omega) (by omega)) (by have e0 : ((0 : Int32)).toInt = _ := l_0; have e1 : ((0 : Int32)).toInt = _ := l_0; omega) Lf.rf (by have e0 : ((0 : Int32)).toInt = _ := l_0; have e1 : ((0 : Int32)).toInt = _ := l_0; omega)

abbrev l_X4_readFactor : List Bx := [(1, 2, 3, 5), (37, 53, 0, 0)]
abbrev po_X4_readFactor (r : Nat) (a1 : Int32) (M : qM) (v : Int32) (M' : qM) : Prop := (0 ≤ v.toInt ∧ v.toInt ≤ 1) ∧ (v.toInt = 0 ∨ ((M 1 3).toInt - (M r 6).toInt ≤ (M' 1 3).toInt - (M' r 6).toInt ∧ (M' 1 3).toInt ≤ (M' 1 2).toInt ∧ (M' r 6).toInt ≤ (M' 1 3).toInt)) ∧ Lf r M M' ∧ G M' ∧ Sm l_X4_readFactor M M'
abbrev l_X4_readProduct : List Bx := [(1, 2, 3, 5), (37, 53, 0, 0)]
abbrev po_X4_readProduct (r : Nat) (a1 : Int32) (M : qM) (v : Int32) (M' : qM) : Prop := (0 ≤ v.toInt ∧ v.toInt ≤ 1) ∧ (v.toInt = 0 ∨ ((M 1 3).toInt - (M r 6).toInt ≤ (M' 1 3).toInt - (M' r 6).toInt ∧ (M' 1 3).toInt ≤ (M' 1 2).toInt ∧ (M' r 6).toInt ≤ (M' 1 3).toInt)) ∧ Lf r M M' ∧ G M' ∧ Sm l_X4_readProduct M M'
abbrev l_X4_readSum : List Bx := [(1, 2, 3, 5), (37, 53, 0, 0)]
abbrev po_X4_readSum (r : Nat) (a1 : Int32) (M : qM) (v : Int32) (M' : qM) : Prop := (0 ≤ v.toInt ∧ v.toInt ≤ 1) ∧ (v.toInt = 0 ∨ ((M 1 3).toInt - (M r 6).toInt ≤ (M' 1 3).toInt - (M' r 6).toInt ∧ (M' 1 3).toInt ≤ (M' 1 2).toInt ∧ (M' r 6).toInt ≤ (M' 1 3).toInt)) ∧ Lf r M M' ∧ G M' ∧ Sm l_X4_readSum M M'
theorem t_X4_readFactor_68 {n : Nat} (hn : 200000 ≤ n) {r : Nat} (hr : q_isLaw r) {B : Nat} {F_X4_readSum : Int32 → qM → qR} (hF_X4_readSum : ∀ (a1 : Int32) (M : qM), G M → 0 ≤ a1.toInt ∧ a1.toInt ≤ 6 → (M 1 3).toInt ≤ (M 1 2).toInt ∧ (M r 6).toInt ≤ (M 1 3).toInt → 3 * (6 - a1.toInt) + 2 < (B : Int) → qT (F_X4_readSum a1 M) (po_X4_readSum r a1 M)) {oa1 : Int32} {M0 : qM} : ∀ (m : Nat) (a2 a3 : Int32) (M : qM), G M → Sm l_X4_readFactor M0 M → 0 ≤ a3.toInt ∧ a3.toInt ≤ 12 → ((M0 1 3).toInt = (M 1 3).toInt ∧ (M0 r 6).toInt = (M r 6).toInt ∧ (M 1 3).toInt ≤ (M 1 2).toInt ∧ (M r 6).toInt ≤ (M 1 3).toInt ∧ (a2.toInt = -1 ∨ (M 1 3).toInt < (M 1 2).toInt)) → Lf r M0 M → 3 * (6 - oa1.toInt) + 0 < (B : Int) + 1 → 12 - a3.toInt < (m : Int) → qT (f_X4_readFactor_68 n r F_X4_readSum m a2 a3 M) (po_X4_readFactor r oa1 M0) := by
  intro m
  induction m with
  | zero =>
    intro a2 a3 M hG hS i0 hE hR i5 i6
    have hq2_ := r_1_3 hG
    have hq3_ := r_1_2 hG
    have hq4_ := rw_0_6 hr hG
    exfalso; omega
  | succ m ih =>
    intro a2 a3 M hG hS i0 hE hR i5 i6
    show qT (b_X4_readFactor_68 n r F_X4_readSum (f_X4_readFactor_68 n r F_X4_readSum m) a2 a3 M) _
    unfold b_X4_readFactor_68
    have hq2_ := r_1_3 hG
    have hq3_ := r_1_2 hG
    have hq4_ := rw_0_6 hr hG
    refine T_le l_12 rfl (fun hq5_ => ?_) (fun hq5_ => ?_)
    · refine T_qc (t_X9_fails hn (1 : Int32) (M 1 3) M hG (i_rng (lo := 1) (hi := 6) l_1 (by omega) (by omega)) (i_rng (lo := 0) (hi := 240) rfl (by omega) (by omega))) ?_
      rintro rv6 mv7 ⟨hq8_, gq9_, kq10_⟩
      have kq11_ := Sm.call hS kq10_ rfl
      have hq12_ := Lf.out hr (M0 := M0) hR kq10_ rfl
      have hq13_ : (mv7 r 6).toInt = (M r 6).toInt := by rw [kq10_ r 6 (outl (lawin hr).1 rfl)]
      have hq14_ : (mv7 1 3).toInt = (M 1 3).toInt := by rw [kq10_ 1 3 (by decide)]
      have hq15_ : (mv7 1 2).toInt = (M 1 2).toInt := by rw [kq10_ 1 2 (by decide)]
      refine T_qb rfl (by omega) (by omega) ?_
      exact T_ret ⟨(i_rng (lo := 0) (hi := 1) rfl (by omega) (by omega)), (by have e9 : (rv6).toInt = _ := rfl; omega), hq12_, gq9_, kq11_⟩
    · refine T_qg rfl (by omega) (by omega) ?_
      have hq16_ := q_let_r a3.toNatClampNeg (by rw [tnc]; omega)
      refine T_eq rfl rfl (fun hq17_ => ?_) (fun hq17_ => ?_)
      · refine T_mu hG hS (i_rng (lo := 0) (hi := 240) (i_add rfl l_1 (by omega) (by omega)) (by omega) (by omega)) (nw_1 _) (i := 0) rfl ⟨by decide, by decide, Or.inr ⟨by decide, by decide⟩⟩ ?_
        intro mv18 hq19_ gq20_ kq21_
        have hq22_ := Lf.mu hr (M0 := M0) hR hq19_ (by decide)
        have hq23_ : (mv18 1 2).toInt = (M 1 2).toInt := by rw [hq19_, mu_ne (Or.inr (by decide))]
        have hq24_ : (mv18 r 6).toInt = (M r 6).toInt := by rw [hq19_, mu_ne (Or.inl (lawne hr (by decide)).1)]
        have hq25_ : (mv18 1 3).toInt = ((M 1 3).toInt + 1) := by rw [hq19_, mu_at]; exact (i_add rfl l_1 (by omega) (by omega))
        have hq28_ := (show ((1 : Int32)).toInt = _ from l_1)
        refine T_qc (t_X3_add hn hr (1 : Int32) a3 mv18 gq20_ (i_rng (lo := 0) (hi := 1000000) rfl (by omega) (by omega)) (by have e0 : ((1 : Int32)).toInt = _ := l_1; omega)) ?_
        rintro rv26 mv27 ⟨hq29_, hq30_, hq31_, gq32_, kq33_⟩
        have hq34_ := rw_0_6 hr gq20_
        have kq35_ := Sm.call kq21_ kq33_ rfl
        have hq36_ := Lf.tr (M := M0) hq22_ hq31_
        have hq37_ : (mv27 1 2).toInt = (mv18 1 2).toInt := by rw [kq33_ 1 2 (by decide)]
        have hq38_ : (mv27 1 3).toInt = (mv18 1 3).toInt := by rw [kq33_ 1 3 (by decide)]
        have hq39_ := rw_0_6 hr gq32_
        exact T_ret ⟨(i_rng (lo := 0) (hi := 1) l_1 (by omega) (by omega)), (by have e9 : ((1 : Int32)).toInt = _ := l_1; omega), hq36_, gq32_, kq35_⟩
      · refine T_ql (i_add rfl l_1 (by omega) (by omega)) ?_
        intro xv40 hq41_
        exact ih a2 xv40 M hG hS (i_rng (lo := 0) (hi := 12) rfl (by omega) (by omega)) (by omega) hR (by omega) (by omega)
theorem to_X4_readFactor {n : Nat} (hn : 200000 ≤ n) {r : Nat} (hr : q_isLaw r) {B : Nat} {F_X4_readSum : Int32 → qM → qR} (hF_X4_readSum : ∀ (a1 : Int32) (M : qM), G M → 0 ≤ a1.toInt ∧ a1.toInt ≤ 6 → (M 1 3).toInt ≤ (M 1 2).toInt ∧ (M r 6).toInt ≤ (M 1 3).toInt → 3 * (6 - a1.toInt) + 2 < (B : Int) → qT (F_X4_readSum a1 M) (po_X4_readSum r a1 M)) (a1 : Int32) (M : qM) (hG : G M) (pa1 : 0 ≤ a1.toInt ∧ a1.toInt ≤ 6) (pe : (M 1 3).toInt ≤ (M 1 2).toInt ∧ (M r 6).toInt ≤ (M 1 3).toInt) (hb : 3 * (6 - a1.toInt) + 0 < (B : Int) + 1) : qT (fo_X4_readFactor n r F_X4_readSum a1 M) (po_X4_readFactor r a1 M) := by
  have hS : Sm l_X4_readFactor M M := Sm.rf
  unfold fo_X4_readFactor
  have hq42_ := r_1_3 hG
  have hq43_ := r_1_2 hG
  have hq44_ := rw_0_6 hr hG
  refine T_qc (t_X9_sign hn  M hG ) ?_
  rintro rv45 mv46 ⟨hq47_, hq48_, gq49_, kq50_⟩
  have hq51_ := r_2 hG ((M 1 3).toNatClampNeg)
  have hq52_ := kq50_.nil
  subst hq52_
  refine T_eq rfl l_91 (fun hq53_ => ?_) (fun hq53_ => ?_)
  · refine T_qc (t_X4_opens hn a1 M hG (i_rng (lo := 0) (hi := 6) rfl (by omega) (by omega)) (by omega)) ?_
    rintro rv54 mv55 ⟨hq56_, hq57_, gq58_, kq59_⟩
    have kq60_ := Sm.call hS kq59_ rfl
    have hq61_ := Lf.out hr (M0 := M) Lf.rf kq59_ rfl
    have hq62_ : (mv55 r 6).toInt = (M r 6).toInt := by rw [kq59_ r 6 (outl (lawin hr).1 rfl)]
    have hq63_ : (mv55 1 2).toInt = (M 1 2).toInt := by rw [kq59_ 1 2 (by decide)]
    have hq64_ := r_1_3 gq58_
    refine T_eq rfl l_0 (fun hq65_ => ?_) (fun hq65_ => ?_)
    · exact T_ret ⟨(i_rng (lo := 0) (hi := 1) l_0 (by omega) (by omega)), (by have e9 : ((0 : Int32)).toInt = _ := l_0; omega), hq61_, gq58_, kq60_⟩
    · have hq68_ := (show (a1 + (1 : Int32)).toInt = _ from (i_add rfl l_1 (by omega) (by omega)))
      refine T_qc (hF_X4_readSum (a1 + (1 : Int32)) mv55 gq58_ (i_rng (lo := 0) (hi := 6) (i_add rfl l_1 (by omega) (by omega)) (by omega) (by omega)) (by have e0 : (a1 + (1 : Int32)).toInt = _ := (i_add rfl l_1 (by omega) (by omega)); omega) (by have e0 : (a1 + (1 : Int32)).toInt = _ := (i_add rfl l_1 (by omega) (by omega)); omega)) ?_
      rintro rv66 mv67 ⟨hq69_, hq70_, hq71_, gq72_, kq73_⟩
      have hq74_ := r_1_2 gq58_
      have hq75_ := rw_0_6 hr gq58_
      have kq76_ := Sm.call kq60_ kq73_ rfl
      have hq77_ := Lf.tr (M := M) hq61_ hq71_
      have hq78_ : (mv67 1 2).toInt = (mv55 1 2).toInt := by rw [kq73_ 1 2 (by decide)]
      have hq79_ := r_1_3 gq72_
      have hq80_ := rw_0_6 hr gq72_
      have hq81_ := r_1_2 gq72_
      refine T_eq rfl l_0 (fun hq82_ => ?_) (fun hq82_ => ?_)
      · exact T_ret ⟨(i_rng (lo := 0) (hi := 1) l_0 (by omega) (by omega)), (by have e9 : ((0 : Int32)).toInt = _ := l_0; omega), hq77_, gq72_, kq76_⟩
      · have hq85_ := (show ((93 : Int32)).toInt = _ from l_93)
        refine T_qc (t_X9_mustTake hn (93 : Int32) mv67 gq72_ (i_rng (lo := 0) (hi := 255) l_93 (by omega) (by omega))) ?_
        rintro rv83 mv84 ⟨hq86_, hq87_, gq88_, kq89_⟩
        have kq90_ := Sm.call kq76_ kq89_ rfl
        have hq91_ := Lf.out hr (M0 := M) hq77_ kq89_ rfl
        have hq92_ : (mv84 r 6).toInt = (mv67 r 6).toInt := by rw [kq89_ r 6 (outl (lawin hr).1 rfl)]
        have hq93_ : (mv84 1 2).toInt = (mv67 1 2).toInt := by rw [kq89_ 1 2 (by decide)]
        have hq94_ := r_1_3 gq88_
        refine T_eq rfl l_0 (fun hq95_ => ?_) (fun hq95_ => ?_)
        · exact T_ret ⟨(i_rng (lo := 0) (hi := 1) l_0 (by omega) (by omega)), (by have e9 : ((0 : Int32)).toInt = _ := l_0; omega), hq91_, gq88_, kq90_⟩
        · exact T_ret ⟨(i_rng (lo := 0) (hi := 1) l_1 (by omega) (by omega)), (by have e9 : ((1 : Int32)).toInt = _ := l_1; omega), hq91_, gq88_, kq90_⟩
  · refine T_qc (t_X9_digit hn  M hG ) ?_
    rintro rv96 mv97 ⟨hq98_, hq99_, gq100_, kq101_⟩
    have hq102_ := kq101_.nil
    subst hq102_
    refine T_eq rfl l_m1 (fun hq103_ => ?_) (fun hq103_ => ?_)
    · exact (t_X4_readFactor_68 hn hr hF_X4_readSum) n rv45 (0 : Int32) M hG hS (i_rng (lo := 0) (hi := 12) l_0 (by omega) (by omega)) (by have e1 : ((0 : Int32)).toInt = _ := l_0; omega) Lf.rf (by omega) (by have e1 : ((0 : Int32)).toInt = _ := l_0; omega)
    · refine T_qc (t_X4_readNumber hn hr  M hG (by omega)) ?_
      rintro rv104 mv105 ⟨hq106_, hq107_, hq108_, gq109_, kq110_⟩
      have kq111_ := Sm.call hS kq110_ rfl
      have hq112_ := Lf.tr (M := M) Lf.rf hq108_
      have hq113_ : (mv105 1 2).toInt = (M 1 2).toInt := by rw [kq110_ 1 2 (by decide)]
      have hq114_ := r_1_3 gq109_
      have hq115_ := rw_0_6 hr gq109_
      have hq116_ := r_1_2 gq109_
      refine T_qb rfl (by omega) (by omega) ?_
      exact T_ret ⟨(i_rng (lo := 0) (hi := 1) rfl (by omega) (by omega)), (by have e9 : (rv104).toInt = _ := rfl; omega), hq112_, gq109_, kq111_⟩
theorem t_X4_readProduct_8 {n : Nat} (hn : 200000 ≤ n) {r : Nat} (hr : q_isLaw r) {B : Nat} {F_X4_readFactor : Int32 → qM → qR} (hF_X4_readFactor : ∀ (a1 : Int32) (M : qM), G M → 0 ≤ a1.toInt ∧ a1.toInt ≤ 6 → (M 1 3).toInt ≤ (M 1 2).toInt ∧ (M r 6).toInt ≤ (M 1 3).toInt → 3 * (6 - a1.toInt) + 0 < (B : Int) → qT (F_X4_readFactor a1 M) (po_X4_readFactor r a1 M)) {oa1 : Int32} {M0 : qM} : ∀ (m : Nat) (a1 a2 a3 : Int32) (M : qM), G M → Sm l_X4_readProduct M0 M → 0 ≤ a1.toInt ∧ a1.toInt ≤ 6 → 0 ≤ a2.toInt ∧ a2.toInt ≤ 1 → 0 ≤ a3.toInt ∧ a3.toInt ≤ 240 → (a2.toInt = 0 ∨ ((M0 1 3).toInt - (M0 r 6).toInt ≤ (M 1 3).toInt - (M r 6).toInt ∧ (M 1 3).toInt ≤ (M 1 2).toInt ∧ (M r 6).toInt ≤ (M 1 3).toInt)) → Lf r M0 M → 3 * (6 - a1.toInt) + 1 < (B : Int) + 1 → 240 - a3.toInt < (m : Int) → qT (f_X4_readProduct_8 n r F_X4_readFactor m a1 a2 a3 M) (po_X4_readProduct r oa1 M0) := by
  intro m
  induction m with
  | zero =>
    intro a1 a2 a3 M hG hS i0 i1 i2 hE hR i7 i8
    have hq1_ := r_1_3 hG
    have hq2_ := r_1_2 hG
    have hq3_ := rw_0_6 hr hG
    exfalso; omega
  | succ m ih =>
    intro a1 a2 a3 M hG hS i0 i1 i2 hE hR i7 i8
    show qT (b_X4_readProduct_8 n r F_X4_readFactor (f_X4_readProduct_8 n r F_X4_readFactor m) a1 a2 a3 M) _
    unfold b_X4_readProduct_8
    have hq1_ := r_1_3 hG
    have hq2_ := r_1_2 hG
    have hq3_ := rw_0_6 hr hG
    refine T_le l_240 rfl (fun hq4_ => ?_) (fun hq4_ => ?_)
    · refine T_qb rfl (by omega) (by omega) ?_
      exact T_ret ⟨(i_rng (lo := 0) (hi := 1) rfl (by omega) (by omega)), (by have e9 : (a2).toInt = _ := rfl; omega), hR, hG, hS⟩
    · refine T_eq rfl l_0 (fun hq5_ => ?_) (fun hq5_ => ?_)
      · refine T_qb rfl (by omega) (by omega) ?_
        exact T_ret ⟨(i_rng (lo := 0) (hi := 1) rfl (by omega) (by omega)), (by have e9 : (a2).toInt = _ := rfl; omega), hR, hG, hS⟩
      · refine T_qc (t_X9_sign hn  M hG ) ?_
        rintro rv6 mv7 ⟨hq8_, hq9_, gq10_, kq11_⟩
        have hq12_ := r_2 hG ((M 1 3).toNatClampNeg)
        have hq13_ := kq11_.nil
        subst hq13_
        refine T_eq rfl l_42 (fun hq14_ => ?_) (fun hq14_ => ?_)
        · unfold f_X4_readProduct_51
          refine T_mu hG hS (i_rng (lo := 0) (hi := 240) (i_add rfl l_1 (by omega) (by omega)) (by omega) (by omega)) (nw_1 _) (i := 0) rfl ⟨by decide, by decide, Or.inr ⟨by decide, by decide⟩⟩ ?_
          intro mv15 hq16_ gq17_ kq18_
          have hq19_ := Lf.mu hr (M0 := M0) hR hq16_ (by decide)
          have hq20_ : (mv15 1 2).toInt = (M 1 2).toInt := by rw [hq16_, mu_ne (Or.inr (by decide))]
          have hq21_ : (mv15 r 6).toInt = (M r 6).toInt := by rw [hq16_, mu_ne (Or.inl (lawne hr (by decide)).1)]
          have hq22_ : (mv15 1 3).toInt = ((M 1 3).toInt + 1) := by rw [hq16_, mu_at]; exact (i_add rfl l_1 (by omega) (by omega))
          refine T_qc (hF_X4_readFactor a1 mv15 gq17_ (i_rng (lo := 0) (hi := 6) rfl (by omega) (by omega)) (by omega) (by omega)) ?_
          rintro rv23 mv24 ⟨hq25_, hq26_, hq27_, gq28_, kq29_⟩
          have hq30_ := r_1_3 gq17_
          have hq31_ := r_1_2 gq17_
          have hq32_ := rw_0_6 hr gq17_
          have kq33_ := Sm.call kq18_ kq29_ rfl
          have hq34_ := Lf.tr (M := M0) hq19_ hq27_
          have hq35_ : (mv24 1 2).toInt = (mv15 1 2).toInt := by rw [kq29_ 1 2 (by decide)]
          have hq36_ := r_1_3 gq28_
          have hq37_ := rw_0_6 hr gq28_
          have hq38_ := r_1_2 gq28_
          have hq41_ := (show ((0 : Int32)).toInt = _ from l_0)
          refine T_qc (t_X3_add hn hr rv6 (0 : Int32) mv24 gq28_ (i_rng (lo := 0) (hi := 1000000) l_0 (by omega) (by omega)) (by have e1 : ((0 : Int32)).toInt = _ := l_0; omega)) ?_
          rintro rv39 mv40 ⟨hq42_, hq43_, hq44_, gq45_, kq46_⟩
          have kq47_ := Sm.call kq33_ kq46_ rfl
          have hq48_ := Lf.tr (M := M0) hq34_ hq44_
          have hq49_ : (mv40 1 2).toInt = (mv24 1 2).toInt := by rw [kq46_ 1 2 (by decide)]
          have hq50_ : (mv40 1 3).toInt = (mv24 1 3).toInt := by rw [kq46_ 1 3 (by decide)]
          have hq51_ := rw_0_6 hr gq45_
          refine T_ql (i_add rfl l_1 (by omega) (by omega)) ?_
          intro xv52 hq53_
          have hq54_ := r_1_3 gq45_
          have hq55_ := r_1_2 gq45_
          exact ih a1 rv23 xv52 mv40 gq45_ kq47_ (i_rng (lo := 0) (hi := 6) rfl (by omega) (by omega)) (i_rng (lo := 0) (hi := 1) rfl (by omega) (by omega)) (i_rng (lo := 0) (hi := 240) rfl (by omega) (by omega)) (by omega) hq48_ (by omega) (by omega)
        · refine T_eq rfl l_47 (fun hq56_ => ?_) (fun hq56_ => ?_)
          · unfold f_X4_readProduct_51
            refine T_mu hG hS (i_rng (lo := 0) (hi := 240) (i_add rfl l_1 (by omega) (by omega)) (by omega) (by omega)) (nw_1 _) (i := 0) rfl ⟨by decide, by decide, Or.inr ⟨by decide, by decide⟩⟩ ?_
            intro mv57 hq58_ gq59_ kq60_
            have hq61_ := Lf.mu hr (M0 := M0) hR hq58_ (by decide)
            have hq62_ : (mv57 1 2).toInt = (M 1 2).toInt := by rw [hq58_, mu_ne (Or.inr (by decide))]
            have hq63_ : (mv57 r 6).toInt = (M r 6).toInt := by rw [hq58_, mu_ne (Or.inl (lawne hr (by decide)).1)]
            have hq64_ : (mv57 1 3).toInt = ((M 1 3).toInt + 1) := by rw [hq58_, mu_at]; exact (i_add rfl l_1 (by omega) (by omega))
            refine T_qc (hF_X4_readFactor a1 mv57 gq59_ (i_rng (lo := 0) (hi := 6) rfl (by omega) (by omega)) (by omega) (by omega)) ?_
            rintro rv65 mv66 ⟨hq67_, hq68_, hq69_, gq70_, kq71_⟩
            have hq72_ := r_1_3 gq59_
            have hq73_ := r_1_2 gq59_
            have hq74_ := rw_0_6 hr gq59_
            have kq75_ := Sm.call kq60_ kq71_ rfl
            have hq76_ := Lf.tr (M := M0) hq61_ hq69_
            have hq77_ : (mv66 1 2).toInt = (mv57 1 2).toInt := by rw [kq71_ 1 2 (by decide)]
            have hq78_ := r_1_3 gq70_
            have hq79_ := rw_0_6 hr gq70_
            have hq80_ := r_1_2 gq70_
            have hq83_ := (show ((0 : Int32)).toInt = _ from l_0)
            refine T_qc (t_X3_add hn hr rv6 (0 : Int32) mv66 gq70_ (i_rng (lo := 0) (hi := 1000000) l_0 (by omega) (by omega)) (by have e1 : ((0 : Int32)).toInt = _ := l_0; omega)) ?_
            rintro rv81 mv82 ⟨hq84_, hq85_, hq86_, gq87_, kq88_⟩
            have kq89_ := Sm.call kq75_ kq88_ rfl
            have hq90_ := Lf.tr (M := M0) hq76_ hq86_
            have hq91_ : (mv82 1 2).toInt = (mv66 1 2).toInt := by rw [kq88_ 1 2 (by decide)]
            have hq92_ : (mv82 1 3).toInt = (mv66 1 3).toInt := by rw [kq88_ 1 3 (by decide)]
            have hq93_ := rw_0_6 hr gq87_
            refine T_ql (i_add rfl l_1 (by omega) (by omega)) ?_
            intro xv94 hq95_
            have hq96_ := r_1_3 gq87_
            have hq97_ := r_1_2 gq87_
            exact ih a1 rv65 xv94 mv82 gq87_ kq89_ (i_rng (lo := 0) (hi := 6) rfl (by omega) (by omega)) (i_rng (lo := 0) (hi := 1) rfl (by omega) (by omega)) (i_rng (lo := 0) (hi := 240) rfl (by omega) (by omega)) (by omega) hq90_ (by omega) (by omega)
          · refine T_eq rfl l_37 (fun hq98_ => ?_) (fun hq98_ => ?_)
            · unfold f_X4_readProduct_51
              refine T_mu hG hS (i_rng (lo := 0) (hi := 240) (i_add rfl l_1 (by omega) (by omega)) (by omega) (by omega)) (nw_1 _) (i := 0) rfl ⟨by decide, by decide, Or.inr ⟨by decide, by decide⟩⟩ ?_
              intro mv99 hq100_ gq101_ kq102_
              have hq103_ := Lf.mu hr (M0 := M0) hR hq100_ (by decide)
              have hq104_ : (mv99 1 2).toInt = (M 1 2).toInt := by rw [hq100_, mu_ne (Or.inr (by decide))]
              have hq105_ : (mv99 r 6).toInt = (M r 6).toInt := by rw [hq100_, mu_ne (Or.inl (lawne hr (by decide)).1)]
              have hq106_ : (mv99 1 3).toInt = ((M 1 3).toInt + 1) := by rw [hq100_, mu_at]; exact (i_add rfl l_1 (by omega) (by omega))
              refine T_qc (hF_X4_readFactor a1 mv99 gq101_ (i_rng (lo := 0) (hi := 6) rfl (by omega) (by omega)) (by omega) (by omega)) ?_
              rintro rv107 mv108 ⟨hq109_, hq110_, hq111_, gq112_, kq113_⟩
              have hq114_ := r_1_3 gq101_
              have hq115_ := r_1_2 gq101_
              have hq116_ := rw_0_6 hr gq101_
              have kq117_ := Sm.call kq102_ kq113_ rfl
              have hq118_ := Lf.tr (M := M0) hq103_ hq111_
              have hq119_ : (mv108 1 2).toInt = (mv99 1 2).toInt := by rw [kq113_ 1 2 (by decide)]
              have hq120_ := r_1_3 gq112_
              have hq121_ := rw_0_6 hr gq112_
              have hq122_ := r_1_2 gq112_
              have hq125_ := (show ((0 : Int32)).toInt = _ from l_0)
              refine T_qc (t_X3_add hn hr rv6 (0 : Int32) mv108 gq112_ (i_rng (lo := 0) (hi := 1000000) l_0 (by omega) (by omega)) (by have e1 : ((0 : Int32)).toInt = _ := l_0; omega)) ?_
              rintro rv123 mv124 ⟨hq126_, hq127_, hq128_, gq129_, kq130_⟩
              have kq131_ := Sm.call kq117_ kq130_ rfl
              have hq132_ := Lf.tr (M := M0) hq118_ hq128_
              have hq133_ : (mv124 1 2).toInt = (mv108 1 2).toInt := by rw [kq130_ 1 2 (by decide)]
              have hq134_ : (mv124 1 3).toInt = (mv108 1 3).toInt := by rw [kq130_ 1 3 (by decide)]
              have hq135_ := rw_0_6 hr gq129_
              refine T_ql (i_add rfl l_1 (by omega) (by omega)) ?_
              intro xv136 hq137_
              have hq138_ := r_1_3 gq129_
              have hq139_ := r_1_2 gq129_
              exact ih a1 rv107 xv136 mv124 gq129_ kq131_ (i_rng (lo := 0) (hi := 6) rfl (by omega) (by omega)) (i_rng (lo := 0) (hi := 1) rfl (by omega) (by omega)) (i_rng (lo := 0) (hi := 240) rfl (by omega) (by omega)) (by omega) hq132_ (by omega) (by omega)
            · exact T_ret ⟨(i_rng (lo := 0) (hi := 1) l_1 (by omega) (by omega)), (by have e9 : ((1 : Int32)).toInt = _ := l_1; omega), hR, hG, hS⟩
theorem to_X4_readProduct {n : Nat} (hn : 200000 ≤ n) {r : Nat} (hr : q_isLaw r) {B : Nat} {F_X4_readFactor : Int32 → qM → qR} (hF_X4_readFactor : ∀ (a1 : Int32) (M : qM), G M → 0 ≤ a1.toInt ∧ a1.toInt ≤ 6 → (M 1 3).toInt ≤ (M 1 2).toInt ∧ (M r 6).toInt ≤ (M 1 3).toInt → 3 * (6 - a1.toInt) + 0 < (B : Int) → qT (F_X4_readFactor a1 M) (po_X4_readFactor r a1 M)) (a1 : Int32) (M : qM) (hG : G M) (pa1 : 0 ≤ a1.toInt ∧ a1.toInt ≤ 6) (pe : (M 1 3).toInt ≤ (M 1 2).toInt ∧ (M r 6).toInt ≤ (M 1 3).toInt) (hb : 3 * (6 - a1.toInt) + 1 < (B : Int) + 1) : qT (fo_X4_readProduct n r F_X4_readFactor a1 M) (po_X4_readProduct r a1 M) := by
  have hS : Sm l_X4_readProduct M M := Sm.rf
  unfold fo_X4_readProduct
  have hq140_ := r_1_3 hG
  have hq141_ := r_1_2 hG
  have hq142_ := rw_0_6 hr hG
  refine T_qc (hF_X4_readFactor a1 M hG (i_rng (lo := 0) (hi := 6) rfl (by omega) (by omega)) (by omega) (by omega)) ?_
  rintro rv143 mv144 ⟨hq145_, hq146_, hq147_, gq148_, kq149_⟩
  have kq150_ := Sm.call hS kq149_ rfl
  have hq151_ := Lf.tr (M := M) Lf.rf hq147_
  have hq152_ : (mv144 1 2).toInt = (M 1 2).toInt := by rw [kq149_ 1 2 (by decide)]
  have hq153_ := r_1_3 gq148_
  have hq154_ := rw_0_6 hr gq148_
  have hq155_ := r_1_2 gq148_
  exact (t_X4_readProduct_8 hn hr hF_X4_readFactor) n a1 rv143 (0 : Int32) mv144 gq148_ kq150_ (i_rng (lo := 0) (hi := 6) rfl (by omega) (by omega)) (i_rng (lo := 0) (hi := 1) rfl (by omega) (by omega)) (i_rng (lo := 0) (hi := 240) l_0 (by omega) (by omega)) (by have e2 : ((0 : Int32)).toInt = _ := l_0; omega) hq151_ (by omega) (by have e2 : ((0 : Int32)).toInt = _ := l_0; omega)
theorem t_X4_readSum_8 {n : Nat} (hn : 200000 ≤ n) {r : Nat} (hr : q_isLaw r) {B : Nat} {F_X4_readProduct : Int32 → qM → qR} (hF_X4_readProduct : ∀ (a1 : Int32) (M : qM), G M → 0 ≤ a1.toInt ∧ a1.toInt ≤ 6 → (M 1 3).toInt ≤ (M 1 2).toInt ∧ (M r 6).toInt ≤ (M 1 3).toInt → 3 * (6 - a1.toInt) + 1 < (B : Int) → qT (F_X4_readProduct a1 M) (po_X4_readProduct r a1 M)) {oa1 : Int32} {M0 : qM} : ∀ (m : Nat) (a1 a2 a3 : Int32) (M : qM), G M → Sm l_X4_readSum M0 M → 0 ≤ a1.toInt ∧ a1.toInt ≤ 6 → 0 ≤ a2.toInt ∧ a2.toInt ≤ 1 → 0 ≤ a3.toInt ∧ a3.toInt ≤ 240 → (a2.toInt = 0 ∨ ((M0 1 3).toInt - (M0 r 6).toInt ≤ (M 1 3).toInt - (M r 6).toInt ∧ (M 1 3).toInt ≤ (M 1 2).toInt ∧ (M r 6).toInt ≤ (M 1 3).toInt)) → Lf r M0 M → 3 * (6 - a1.toInt) + 2 < (B : Int) + 1 → 240 - a3.toInt < (m : Int) → qT (f_X4_readSum_8 n r F_X4_readProduct m a1 a2 a3 M) (po_X4_readSum r oa1 M0) := by
  intro m
  induction m with
  | zero =>
    intro a1 a2 a3 M hG hS i0 i1 i2 hE hR i7 i8
    have hq1_ := r_1_3 hG
    have hq2_ := r_1_2 hG
    have hq3_ := rw_0_6 hr hG
    exfalso; omega
  | succ m ih =>
    intro a1 a2 a3 M hG hS i0 i1 i2 hE hR i7 i8
    show qT (b_X4_readSum_8 n r F_X4_readProduct (f_X4_readSum_8 n r F_X4_readProduct m) a1 a2 a3 M) _
    unfold b_X4_readSum_8
    have hq1_ := r_1_3 hG
    have hq2_ := r_1_2 hG
    have hq3_ := rw_0_6 hr hG
    refine T_le l_240 rfl (fun hq4_ => ?_) (fun hq4_ => ?_)
    · refine T_qb rfl (by omega) (by omega) ?_
      exact T_ret ⟨(i_rng (lo := 0) (hi := 1) rfl (by omega) (by omega)), (by have e9 : (a2).toInt = _ := rfl; omega), hR, hG, hS⟩
    · refine T_eq rfl l_0 (fun hq5_ => ?_) (fun hq5_ => ?_)
      · refine T_qb rfl (by omega) (by omega) ?_
        exact T_ret ⟨(i_rng (lo := 0) (hi := 1) rfl (by omega) (by omega)), (by have e9 : (a2).toInt = _ := rfl; omega), hR, hG, hS⟩
      · refine T_qc (t_X9_sign hn  M hG ) ?_
        rintro rv6 mv7 ⟨hq8_, hq9_, gq10_, kq11_⟩
        have hq12_ := r_2 hG ((M 1 3).toNatClampNeg)
        have hq13_ := kq11_.nil
        subst hq13_
        refine T_eq rfl l_43 (fun hq14_ => ?_) (fun hq14_ => ?_)
        · unfold f_X4_readSum_44
          refine T_mu hG hS (i_rng (lo := 0) (hi := 240) (i_add rfl l_1 (by omega) (by omega)) (by omega) (by omega)) (nw_1 _) (i := 0) rfl ⟨by decide, by decide, Or.inr ⟨by decide, by decide⟩⟩ ?_
          intro mv15 hq16_ gq17_ kq18_
          have hq19_ := Lf.mu hr (M0 := M0) hR hq16_ (by decide)
          have hq20_ : (mv15 1 2).toInt = (M 1 2).toInt := by rw [hq16_, mu_ne (Or.inr (by decide))]
          have hq21_ : (mv15 r 6).toInt = (M r 6).toInt := by rw [hq16_, mu_ne (Or.inl (lawne hr (by decide)).1)]
          have hq22_ : (mv15 1 3).toInt = ((M 1 3).toInt + 1) := by rw [hq16_, mu_at]; exact (i_add rfl l_1 (by omega) (by omega))
          refine T_qc (hF_X4_readProduct a1 mv15 gq17_ (i_rng (lo := 0) (hi := 6) rfl (by omega) (by omega)) (by omega) (by omega)) ?_
          rintro rv23 mv24 ⟨hq25_, hq26_, hq27_, gq28_, kq29_⟩
          have hq30_ := r_1_3 gq17_
          have hq31_ := r_1_2 gq17_
          have hq32_ := rw_0_6 hr gq17_
          have kq33_ := Sm.call kq18_ kq29_ rfl
          have hq34_ := Lf.tr (M := M0) hq19_ hq27_
          have hq35_ : (mv24 1 2).toInt = (mv15 1 2).toInt := by rw [kq29_ 1 2 (by decide)]
          have hq36_ := r_1_3 gq28_
          have hq37_ := rw_0_6 hr gq28_
          have hq38_ := r_1_2 gq28_
          have hq41_ := (show ((0 : Int32)).toInt = _ from l_0)
          refine T_qc (t_X3_add hn hr rv6 (0 : Int32) mv24 gq28_ (i_rng (lo := 0) (hi := 1000000) l_0 (by omega) (by omega)) (by have e1 : ((0 : Int32)).toInt = _ := l_0; omega)) ?_
          rintro rv39 mv40 ⟨hq42_, hq43_, hq44_, gq45_, kq46_⟩
          have kq47_ := Sm.call kq33_ kq46_ rfl
          have hq48_ := Lf.tr (M := M0) hq34_ hq44_
          have hq49_ : (mv40 1 2).toInt = (mv24 1 2).toInt := by rw [kq46_ 1 2 (by decide)]
          have hq50_ : (mv40 1 3).toInt = (mv24 1 3).toInt := by rw [kq46_ 1 3 (by decide)]
          have hq51_ := rw_0_6 hr gq45_
          refine T_ql (i_add rfl l_1 (by omega) (by omega)) ?_
          intro xv52 hq53_
          have hq54_ := r_1_3 gq45_
          have hq55_ := r_1_2 gq45_
          exact ih a1 rv23 xv52 mv40 gq45_ kq47_ (i_rng (lo := 0) (hi := 6) rfl (by omega) (by omega)) (i_rng (lo := 0) (hi := 1) rfl (by omega) (by omega)) (i_rng (lo := 0) (hi := 240) rfl (by omega) (by omega)) (by omega) hq48_ (by omega) (by omega)
        · refine T_eq rfl l_45 (fun hq56_ => ?_) (fun hq56_ => ?_)
          · unfold f_X4_readSum_44
            refine T_mu hG hS (i_rng (lo := 0) (hi := 240) (i_add rfl l_1 (by omega) (by omega)) (by omega) (by omega)) (nw_1 _) (i := 0) rfl ⟨by decide, by decide, Or.inr ⟨by decide, by decide⟩⟩ ?_
            intro mv57 hq58_ gq59_ kq60_
            have hq61_ := Lf.mu hr (M0 := M0) hR hq58_ (by decide)
            have hq62_ : (mv57 1 2).toInt = (M 1 2).toInt := by rw [hq58_, mu_ne (Or.inr (by decide))]
            have hq63_ : (mv57 r 6).toInt = (M r 6).toInt := by rw [hq58_, mu_ne (Or.inl (lawne hr (by decide)).1)]
            have hq64_ : (mv57 1 3).toInt = ((M 1 3).toInt + 1) := by rw [hq58_, mu_at]; exact (i_add rfl l_1 (by omega) (by omega))
            refine T_qc (hF_X4_readProduct a1 mv57 gq59_ (i_rng (lo := 0) (hi := 6) rfl (by omega) (by omega)) (by omega) (by omega)) ?_
            rintro rv65 mv66 ⟨hq67_, hq68_, hq69_, gq70_, kq71_⟩
            have hq72_ := r_1_3 gq59_
            have hq73_ := r_1_2 gq59_
            have hq74_ := rw_0_6 hr gq59_
            have kq75_ := Sm.call kq60_ kq71_ rfl
            have hq76_ := Lf.tr (M := M0) hq61_ hq69_
            have hq77_ : (mv66 1 2).toInt = (mv57 1 2).toInt := by rw [kq71_ 1 2 (by decide)]
            have hq78_ := r_1_3 gq70_
            have hq79_ := rw_0_6 hr gq70_
            have hq80_ := r_1_2 gq70_
            have hq83_ := (show ((0 : Int32)).toInt = _ from l_0)
            refine T_qc (t_X3_add hn hr rv6 (0 : Int32) mv66 gq70_ (i_rng (lo := 0) (hi := 1000000) l_0 (by omega) (by omega)) (by have e1 : ((0 : Int32)).toInt = _ := l_0; omega)) ?_
            rintro rv81 mv82 ⟨hq84_, hq85_, hq86_, gq87_, kq88_⟩
            have kq89_ := Sm.call kq75_ kq88_ rfl
            have hq90_ := Lf.tr (M := M0) hq76_ hq86_
            have hq91_ : (mv82 1 2).toInt = (mv66 1 2).toInt := by rw [kq88_ 1 2 (by decide)]
            have hq92_ : (mv82 1 3).toInt = (mv66 1 3).toInt := by rw [kq88_ 1 3 (by decide)]
            have hq93_ := rw_0_6 hr gq87_
            refine T_ql (i_add rfl l_1 (by omega) (by omega)) ?_
            intro xv94 hq95_
            have hq96_ := r_1_3 gq87_
            have hq97_ := r_1_2 gq87_
            exact ih a1 rv65 xv94 mv82 gq87_ kq89_ (i_rng (lo := 0) (hi := 6) rfl (by omega) (by omega)) (i_rng (lo := 0) (hi := 1) rfl (by omega) (by omega)) (i_rng (lo := 0) (hi := 240) rfl (by omega) (by omega)) (by omega) hq90_ (by omega) (by omega)
          · exact T_ret ⟨(i_rng (lo := 0) (hi := 1) l_1 (by omega) (by omega)), (by have e9 : ((1 : Int32)).toInt = _ := l_1; omega), hR, hG, hS⟩
theorem to_X4_readSum {n : Nat} (hn : 200000 ≤ n) {r : Nat} (hr : q_isLaw r) {B : Nat} {F_X4_readProduct : Int32 → qM → qR} (hF_X4_readProduct : ∀ (a1 : Int32) (M : qM), G M → 0 ≤ a1.toInt ∧ a1.toInt ≤ 6 → (M 1 3).toInt ≤ (M 1 2).toInt ∧ (M r 6).toInt ≤ (M 1 3).toInt → 3 * (6 - a1.toInt) + 1 < (B : Int) → qT (F_X4_readProduct a1 M) (po_X4_readProduct r a1 M)) (a1 : Int32) (M : qM) (hG : G M) (pa1 : 0 ≤ a1.toInt ∧ a1.toInt ≤ 6) (pe : (M 1 3).toInt ≤ (M 1 2).toInt ∧ (M r 6).toInt ≤ (M 1 3).toInt) (hb : 3 * (6 - a1.toInt) + 2 < (B : Int) + 1) : qT (fo_X4_readSum n r F_X4_readProduct a1 M) (po_X4_readSum r a1 M) := by
  have hS : Sm l_X4_readSum M M := Sm.rf
  unfold fo_X4_readSum
  have hq98_ := r_1_3 hG
  have hq99_ := r_1_2 hG
  have hq100_ := rw_0_6 hr hG
  refine T_qc (hF_X4_readProduct a1 M hG (i_rng (lo := 0) (hi := 6) rfl (by omega) (by omega)) (by omega) (by omega)) ?_
  rintro rv101 mv102 ⟨hq103_, hq104_, hq105_, gq106_, kq107_⟩
  have kq108_ := Sm.call hS kq107_ rfl
  have hq109_ := Lf.tr (M := M) Lf.rf hq105_
  have hq110_ : (mv102 1 2).toInt = (M 1 2).toInt := by rw [kq107_ 1 2 (by decide)]
  have hq111_ := r_1_3 gq106_
  have hq112_ := rw_0_6 hr gq106_
  have hq113_ := r_1_2 gq106_
  exact (t_X4_readSum_8 hn hr hF_X4_readProduct) n a1 rv101 (0 : Int32) mv102 gq106_ kq108_ (i_rng (lo := 0) (hi := 6) rfl (by omega) (by omega)) (i_rng (lo := 0) (hi := 1) rfl (by omega) (by omega)) (i_rng (lo := 0) (hi := 240) l_0 (by omega) (by omega)) (by have e2 : ((0 : Int32)).toInt = _ := l_0; omega) hq109_ (by omega) (by have e2 : ((0 : Int32)).toInt = _ := l_0; omega)
theorem trc_X4_readFactor {n : Nat} (hn : 200000 ≤ n) {r : Nat} (hr : q_isLaw r) : ∀ m : Nat, (∀ (a1 : Int32) (M : qM), G M → 0 ≤ a1.toInt ∧ a1.toInt ≤ 6 → (M 1 3).toInt ≤ (M 1 2).toInt ∧ (M r 6).toInt ≤ (M 1 3).toInt → 3 * (6 - a1.toInt) + 0 < (m : Int) → qT (rc_X4_readFactor n r m 0 a1 M) (po_X4_readFactor r a1 M)) ∧ (∀ (a1 : Int32) (M : qM), G M → 0 ≤ a1.toInt ∧ a1.toInt ≤ 6 → (M 1 3).toInt ≤ (M 1 2).toInt ∧ (M r 6).toInt ≤ (M 1 3).toInt → 3 * (6 - a1.toInt) + 1 < (m : Int) → qT (rc_X4_readFactor n r m 1 a1 M) (po_X4_readProduct r a1 M)) ∧ (∀ (a1 : Int32) (M : qM), G M → 0 ≤ a1.toInt ∧ a1.toInt ≤ 6 → (M 1 3).toInt ≤ (M 1 2).toInt ∧ (M r 6).toInt ≤ (M 1 3).toInt → 3 * (6 - a1.toInt) + 2 < (m : Int) → qT (rc_X4_readFactor n r m 2 a1 M) (po_X4_readSum r a1 M)) := by
  intro m
  induction m with
  | zero =>
    exact ⟨(fun a1 M q0 q1 q2 q3 => by exfalso; omega), (fun a1 M q0 q1 q2 q3 => by exfalso; omega), (fun a1 M q0 q1 q2 q3 => by exfalso; omega)⟩
  | succ m ih =>
    refine ⟨?_, ?_, ?_⟩
    · exact fun a1 M q0 q1 q2 q3 => to_X4_readFactor hn hr (B := m) (ih.2.2) a1 M q0 q1 q2 (by omega)
    · exact fun a1 M q0 q1 q2 q3 => to_X4_readProduct hn hr (B := m) (ih.1) a1 M q0 q1 q2 (by omega)
    · exact fun a1 M q0 q1 q2 q3 => to_X4_readSum hn hr (B := m) (ih.2.1) a1 M q0 q1 q2 (by omega)
theorem t_X4_readFactor {n : Nat} (hn : 200000 ≤ n) {r : Nat} (hr : q_isLaw r) (a1 : Int32) (M : qM) (hG : G M) (pa1 : 0 ≤ a1.toInt ∧ a1.toInt ≤ 6) (pe : (M 1 3).toInt ≤ (M 1 2).toInt ∧ (M r 6).toInt ≤ (M 1 3).toInt) : qT (f_X4_readFactor n r a1 M) (po_X4_readFactor r a1 M) := by
  unfold f_X4_readFactor
  exact (trc_X4_readFactor hn hr 30).1 a1 M hG pa1 pe (by omega)
theorem t_X4_readProduct {n : Nat} (hn : 200000 ≤ n) {r : Nat} (hr : q_isLaw r) (a1 : Int32) (M : qM) (hG : G M) (pa1 : 0 ≤ a1.toInt ∧ a1.toInt ≤ 6) (pe : (M 1 3).toInt ≤ (M 1 2).toInt ∧ (M r 6).toInt ≤ (M 1 3).toInt) : qT (f_X4_readProduct n r a1 M) (po_X4_readProduct r a1 M) := by
  unfold f_X4_readProduct
  exact (trc_X4_readFactor hn hr 30).2.1 a1 M hG pa1 pe (by omega)
theorem t_X4_readSum {n : Nat} (hn : 200000 ≤ n) {r : Nat} (hr : q_isLaw r) (a1 : Int32) (M : qM) (hG : G M) (pa1 : 0 ≤ a1.toInt ∧ a1.toInt ≤ 6) (pe : (M 1 3).toInt ≤ (M 1 2).toInt ∧ (M r 6).toInt ≤ (M 1 3).toInt) : qT (f_X4_readSum n r a1 M) (po_X4_readSum r a1 M) := by
  unfold f_X4_readSum
  exact (trc_X4_readFactor hn hr 30).2.2 a1 M hG pa1 pe (by omega)

abbrev l_X3_skipToHere : List Bx := [(37, 53, 0, 0)]
abbrev po_X3_skipToHere (w : Nat) (a1 : Int32) (M : qM) (v : Int32) (M' : qM) : Prop := (0 ≤ v.toInt ∧ v.toInt ≤ 0) ∧ ((M' w 6).toInt = (M w 6).toInt) ∧ Lf w M M' ∧ G M' ∧ Sm l_X3_skipToHere M M'
theorem t_X3_skipToHere {n : Nat} (hn : 200000 ≤ n) {w : Nat} (hw : q_isLaw w) (a1 : Int32) (M : qM) (hG : G M) (pa1 : (-1) ≤ a1.toInt ∧ a1.toInt ≤ 239) (pe : 0 ≤ a1.toInt → a1.toInt < (M w 6).toInt → (M (w + 1) a1.toNatClampNeg).toInt ≠ 1) : qT (f_X3_skipToHere n w a1 M) (po_X3_skipToHere w a1 M) := by
  have h6 := rw_0_6 hw hG
  have z : ((0 : Int32).toInt : Int) = 0 := rfl
  unfold f_X3_skipToHere
  refine T_lt rfl l_0 (fun c => ?_) (fun c => ?_)
  · exact T_ret ⟨⟨by decide, by decide⟩, rfl, Lf.rf, hG, Sm.rf⟩
  · refine T_le rfl rfl (fun d => ?_) (fun d => ?_)
    · exact T_ret ⟨⟨by decide, by decide⟩, rfl, Lf.rf, hG, Sm.rf⟩
    · refine T_qg rfl (by omega) (by omega) (T_qlm ?_)
      have e4 : (M w 6 - 1).toInt = (M w 6).toInt - 1 := i_sub rfl l_1 (by omega) (by omega)
      have hG2 := G_law hw hG (s := a1.toNatClampNeg) (a1 := M (w + 1) a1.toNatClampNeg) (a2 := M w 6 - 1) (by rw [e4]; omega) (fun q => absurd q (pe c d))
      have e0 : mu M (w + 1) a1.toNatClampNeg (M (w + 1) a1.toNatClampNeg) = M := by
        funext c2 s2
        unfold mu
        by_cases q : c2 = w + 1 ∧ s2 = a1.toNatClampNeg
        · rw [if_pos q, q.1, q.2]
        · rw [if_neg q]
      rw [e0] at hG2
      refine T_ret ⟨⟨by decide, by decide⟩, ?_, ⟨?_, fun s hs => mu_ne (Or.inl (by omega)), mu_ne (Or.inl (by omega)), fun k h3 _ => mu_nc (by omega)⟩, hG2, (Sm.rf).mu (i := 0) rfl (lwin (k := 2) hw (by decide))⟩
      · rw [mu_ne (Or.inl (by omega))]
      · rw [mu_ne (Or.inl (by omega))]; exact Int.le_refl _


abbrev l_X4_readPiece : List Bx := [(1, 2, 3, 5), (37, 53, 0, 0)]
abbrev po_X4_readPiece (r : Nat) (a1 : Int32) (M : qM) (v : Int32) (M' : qM) : Prop := (0 ≤ v.toInt ∧ v.toInt ≤ 1) ∧ (v.toInt = 0 ∨ ((M 1 3).toInt - (M r 6).toInt ≤ (M' 1 3).toInt - (M' r 6).toInt ∧ (M' 1 3).toInt ≤ (M' 1 2).toInt ∧ (M' r 6).toInt ≤ (M' 1 3).toInt)) ∧ Lf r M M' ∧ G M' ∧ Sm l_X4_readPiece M M'
abbrev l_X4_readPart : List Bx := [(1, 2, 3, 5), (37, 53, 0, 0)]
abbrev po_X4_readPart (r : Nat) (a1 : Int32) (M : qM) (v : Int32) (M' : qM) : Prop := (0 ≤ v.toInt ∧ v.toInt ≤ 1) ∧ (v.toInt = 0 ∨ ((M 1 3).toInt - (M r 6).toInt ≤ (M' 1 3).toInt - (M' r 6).toInt ∧ (M' 1 3).toInt ≤ (M' 1 2).toInt ∧ (M' r 6).toInt ≤ (M' 1 3).toInt)) ∧ Lf r M M' ∧ G M' ∧ Sm l_X4_readPart M M'
abbrev l_X4_readCondition : List Bx := [(1, 2, 3, 5), (37, 53, 0, 0)]
abbrev po_X4_readCondition (r : Nat) (a1 : Int32) (M : qM) (v : Int32) (M' : qM) : Prop := (0 ≤ v.toInt ∧ v.toInt ≤ 1) ∧ (v.toInt = 0 ∨ ((M 1 3).toInt - (M r 6).toInt ≤ (M' 1 3).toInt - (M' r 6).toInt ∧ (M' 1 3).toInt ≤ (M' 1 2).toInt ∧ (M' r 6).toInt ≤ (M' 1 3).toInt)) ∧ Lf r M M' ∧ G M' ∧ Sm l_X4_readCondition M M'
theorem to_X4_readPiece {n : Nat} (hn : 200000 ≤ n) {r : Nat} (hr : q_isLaw r) {B : Nat} {F_X4_readCondition : Int32 → qM → qR} (hF_X4_readCondition : ∀ (a1 : Int32) (M : qM), G M → 0 ≤ a1.toInt ∧ a1.toInt ≤ 6 → (M 1 3).toInt ≤ (M 1 2).toInt ∧ (M r 6).toInt ≤ (M 1 3).toInt → 3 * (6 - a1.toInt) + 2 < (B : Int) → qT (F_X4_readCondition a1 M) (po_X4_readCondition r a1 M)) {F_X4_readPiece : Int32 → qM → qR} (hF_X4_readPiece : ∀ (a1 : Int32) (M : qM), G M → 0 ≤ a1.toInt ∧ a1.toInt ≤ 6 → (M 1 3).toInt ≤ (M 1 2).toInt ∧ (M r 6).toInt ≤ (M 1 3).toInt → 3 * (6 - a1.toInt) + 0 < (B : Int) → qT (F_X4_readPiece a1 M) (po_X4_readPiece r a1 M)) (a1 : Int32) (M : qM) (hG : G M) (pa1 : 0 ≤ a1.toInt ∧ a1.toInt ≤ 6) (pe : (M 1 3).toInt ≤ (M 1 2).toInt ∧ (M r 6).toInt ≤ (M 1 3).toInt) (hb : 3 * (6 - a1.toInt) + 0 < (B : Int) + 1) : qT (fo_X4_readPiece n r F_X4_readCondition F_X4_readPiece a1 M) (po_X4_readPiece r a1 M) := by
  have hS : Sm l_X4_readPiece M M := Sm.rf
  unfold fo_X4_readPiece
  have hq1_ := r_1_3 hG
  have hq2_ := r_1_2 hG
  have hq3_ := rw_0_6 hr hG
  refine T_qc (t_X9_sign hn  M hG ) ?_
  rintro rv4 mv5 ⟨hq6_, hq7_, gq8_, kq9_⟩
  have hq10_ := r_2 hG ((M 1 3).toNatClampNeg)
  have hq11_ := kq9_.nil
  subst hq11_
  refine T_eq rfl l_40 (fun hq12_ => ?_) (fun hq12_ => ?_)
  · refine T_qc (t_X4_opens hn a1 M hG (i_rng (lo := 0) (hi := 6) rfl (by omega) (by omega)) (by omega)) ?_
    rintro rv13 mv14 ⟨hq15_, hq16_, gq17_, kq18_⟩
    have kq19_ := Sm.call hS kq18_ rfl
    have hq20_ := Lf.out hr (M0 := M) Lf.rf kq18_ rfl
    have hq21_ : (mv14 r 6).toInt = (M r 6).toInt := by rw [kq18_ r 6 (outl (lawin hr).1 rfl)]
    have hq22_ : (mv14 1 2).toInt = (M 1 2).toInt := by rw [kq18_ 1 2 (by decide)]
    have hq23_ := r_1_3 gq17_
    refine T_eq rfl l_0 (fun hq24_ => ?_) (fun hq24_ => ?_)
    · exact T_ret ⟨(i_rng (lo := 0) (hi := 1) l_0 (by omega) (by omega)), (by have e9 : ((0 : Int32)).toInt = _ := l_0; omega), hq20_, gq17_, kq19_⟩
    · have hq27_ := (show (a1 + (1 : Int32)).toInt = _ from (i_add rfl l_1 (by omega) (by omega)))
      refine T_qc (hF_X4_readCondition (a1 + (1 : Int32)) mv14 gq17_ (i_rng (lo := 0) (hi := 6) (i_add rfl l_1 (by omega) (by omega)) (by omega) (by omega)) (by have e0 : (a1 + (1 : Int32)).toInt = _ := (i_add rfl l_1 (by omega) (by omega)); omega) (by have e0 : (a1 + (1 : Int32)).toInt = _ := (i_add rfl l_1 (by omega) (by omega)); omega)) ?_
      rintro rv25 mv26 ⟨hq28_, hq29_, hq30_, gq31_, kq32_⟩
      have hq33_ := r_1_2 gq17_
      have hq34_ := rw_0_6 hr gq17_
      have kq35_ := Sm.call kq19_ kq32_ rfl
      have hq36_ := Lf.tr (M := M) hq20_ hq30_
      have hq37_ : (mv26 1 2).toInt = (mv14 1 2).toInt := by rw [kq32_ 1 2 (by decide)]
      have hq38_ := r_1_3 gq31_
      have hq39_ := rw_0_6 hr gq31_
      have hq40_ := r_1_2 gq31_
      refine T_eq rfl l_0 (fun hq41_ => ?_) (fun hq41_ => ?_)
      · exact T_ret ⟨(i_rng (lo := 0) (hi := 1) l_0 (by omega) (by omega)), (by have e9 : ((0 : Int32)).toInt = _ := l_0; omega), hq36_, gq31_, kq35_⟩
      · have hq44_ := (show ((41 : Int32)).toInt = _ from l_41)
        refine T_qc (t_X9_mustTake hn (41 : Int32) mv26 gq31_ (i_rng (lo := 0) (hi := 255) l_41 (by omega) (by omega))) ?_
        rintro rv42 mv43 ⟨hq45_, hq46_, gq47_, kq48_⟩
        have kq49_ := Sm.call kq35_ kq48_ rfl
        have hq50_ := Lf.out hr (M0 := M) hq36_ kq48_ rfl
        have hq51_ : (mv43 r 6).toInt = (mv26 r 6).toInt := by rw [kq48_ r 6 (outl (lawin hr).1 rfl)]
        have hq52_ : (mv43 1 2).toInt = (mv26 1 2).toInt := by rw [kq48_ 1 2 (by decide)]
        have hq53_ := r_1_3 gq47_
        refine T_eq rfl l_0 (fun hq54_ => ?_) (fun hq54_ => ?_)
        · exact T_ret ⟨(i_rng (lo := 0) (hi := 1) l_0 (by omega) (by omega)), (by have e9 : ((0 : Int32)).toInt = _ := l_0; omega), hq50_, gq47_, kq49_⟩
        · exact T_ret ⟨(i_rng (lo := 0) (hi := 1) l_1 (by omega) (by omega)), (by have e9 : ((1 : Int32)).toInt = _ := l_1; omega), hq50_, gq47_, kq49_⟩
  · refine T_qc (t_X9_sign hn  M hG ) ?_
    rintro rv55 mv56 ⟨hq57_, hq58_, gq59_, kq60_⟩
    have hq61_ := kq60_.nil
    subst hq61_
    refine T_eq rfl l_33 (fun hq62_ => ?_) (fun hq62_ => ?_)
    · refine T_qc (t_X4_opens hn a1 M hG (i_rng (lo := 0) (hi := 6) rfl (by omega) (by omega)) (by omega)) ?_
      rintro rv63 mv64 ⟨hq65_, hq66_, gq67_, kq68_⟩
      have kq69_ := Sm.call hS kq68_ rfl
      have hq70_ := Lf.out hr (M0 := M) Lf.rf kq68_ rfl
      have hq71_ : (mv64 r 6).toInt = (M r 6).toInt := by rw [kq68_ r 6 (outl (lawin hr).1 rfl)]
      have hq72_ : (mv64 1 2).toInt = (M 1 2).toInt := by rw [kq68_ 1 2 (by decide)]
      have hq73_ := r_1_3 gq67_
      refine T_eq rfl l_0 (fun hq74_ => ?_) (fun hq74_ => ?_)
      · unfold f_X4_readPiece_82
        unfold f_X4_readPiece_83
        have hq77_ := (show ((2 : Int32)).toInt = _ from l_2)
        have hq78_ := (show ((0 : Int32)).toInt = _ from l_0)
        refine T_qc (t_X3_add hn hr (2 : Int32) (0 : Int32) mv64 gq67_ (i_rng (lo := 0) (hi := 1000000) l_0 (by omega) (by omega)) (by have e0 : ((2 : Int32)).toInt = _ := l_2; have e1 : ((0 : Int32)).toInt = _ := l_0; omega)) ?_
        rintro rv75 mv76 ⟨hq79_, hq80_, hq81_, gq82_, kq83_⟩
        have hq84_ := rw_0_6 hr gq67_
        have kq85_ := Sm.call kq69_ kq83_ rfl
        have hq86_ := Lf.tr (M := M) hq70_ hq81_
        have hq87_ : (mv76 1 2).toInt = (mv64 1 2).toInt := by rw [kq83_ 1 2 (by decide)]
        have hq88_ : (mv76 1 3).toInt = (mv64 1 3).toInt := by rw [kq83_ 1 3 (by decide)]
        have hq89_ := rw_0_6 hr gq82_
        refine T_qb l_0 (by omega) (by omega) ?_
        exact T_ret ⟨(i_rng (lo := 0) (hi := 1) l_0 (by omega) (by omega)), (by have e9 : ((0 : Int32)).toInt = _ := l_0; omega), hq86_, gq82_, kq85_⟩
      · have hq92_ := (show (a1 + (1 : Int32)).toInt = _ from (i_add rfl l_1 (by omega) (by omega)))
        refine T_qc (hF_X4_readPiece (a1 + (1 : Int32)) mv64 gq67_ (i_rng (lo := 0) (hi := 6) (i_add rfl l_1 (by omega) (by omega)) (by omega) (by omega)) (by have e0 : (a1 + (1 : Int32)).toInt = _ := (i_add rfl l_1 (by omega) (by omega)); omega) (by have e0 : (a1 + (1 : Int32)).toInt = _ := (i_add rfl l_1 (by omega) (by omega)); omega)) ?_
        rintro rv90 mv91 ⟨hq93_, hq94_, hq95_, gq96_, kq97_⟩
        have hq98_ := r_1_2 gq67_
        have hq99_ := rw_0_6 hr gq67_
        have kq100_ := Sm.call kq69_ kq97_ rfl
        have hq101_ := Lf.tr (M := M) hq70_ hq95_
        have hq102_ : (mv91 1 2).toInt = (mv64 1 2).toInt := by rw [kq97_ 1 2 (by decide)]
        have hq103_ := r_1_3 gq96_
        have hq104_ := rw_0_6 hr gq96_
        have hq105_ := r_1_2 gq96_
        refine T_eq rfl l_0 (fun hq106_ => ?_) (fun hq106_ => ?_)
        · unfold f_X4_readPiece_82
          unfold f_X4_readPiece_83
          have hq109_ := (show ((2 : Int32)).toInt = _ from l_2)
          have hq110_ := (show ((0 : Int32)).toInt = _ from l_0)
          refine T_qc (t_X3_add hn hr (2 : Int32) (0 : Int32) mv91 gq96_ (i_rng (lo := 0) (hi := 1000000) l_0 (by omega) (by omega)) (by have e0 : ((2 : Int32)).toInt = _ := l_2; have e1 : ((0 : Int32)).toInt = _ := l_0; omega)) ?_
          rintro rv107 mv108 ⟨hq111_, hq112_, hq113_, gq114_, kq115_⟩
          have kq116_ := Sm.call kq100_ kq115_ rfl
          have hq117_ := Lf.tr (M := M) hq101_ hq113_
          have hq118_ : (mv108 1 2).toInt = (mv91 1 2).toInt := by rw [kq115_ 1 2 (by decide)]
          have hq119_ : (mv108 1 3).toInt = (mv91 1 3).toInt := by rw [kq115_ 1 3 (by decide)]
          have hq120_ := rw_0_6 hr gq114_
          refine T_qb l_0 (by omega) (by omega) ?_
          exact T_ret ⟨(i_rng (lo := 0) (hi := 1) l_0 (by omega) (by omega)), (by have e9 : ((0 : Int32)).toInt = _ := l_0; omega), hq117_, gq114_, kq116_⟩
        · unfold f_X4_readPiece_83
          have hq123_ := (show ((2 : Int32)).toInt = _ from l_2)
          have hq124_ := (show ((0 : Int32)).toInt = _ from l_0)
          refine T_qc (t_X3_add hn hr (2 : Int32) (0 : Int32) mv91 gq96_ (i_rng (lo := 0) (hi := 1000000) l_0 (by omega) (by omega)) (by have e0 : ((2 : Int32)).toInt = _ := l_2; have e1 : ((0 : Int32)).toInt = _ := l_0; omega)) ?_
          rintro rv121 mv122 ⟨hq125_, hq126_, hq127_, gq128_, kq129_⟩
          have kq130_ := Sm.call kq100_ kq129_ rfl
          have hq131_ := Lf.tr (M := M) hq101_ hq127_
          have hq132_ : (mv122 1 2).toInt = (mv91 1 2).toInt := by rw [kq129_ 1 2 (by decide)]
          have hq133_ : (mv122 1 3).toInt = (mv91 1 3).toInt := by rw [kq129_ 1 3 (by decide)]
          have hq134_ := rw_0_6 hr gq128_
          refine T_qb l_1 (by omega) (by omega) ?_
          exact T_ret ⟨(i_rng (lo := 0) (hi := 1) l_1 (by omega) (by omega)), (by have e9 : ((1 : Int32)).toInt = _ := l_1; omega), hq131_, gq128_, kq130_⟩
    · refine T_qc (t_X4_readSum hn hr a1 M hG (i_rng (lo := 0) (hi := 6) rfl (by omega) (by omega)) (by omega)) ?_
      rintro rv135 mv136 ⟨hq137_, hq138_, hq139_, gq140_, kq141_⟩
      have kq142_ := Sm.call hS kq141_ rfl
      have hq143_ := Lf.tr (M := M) Lf.rf hq139_
      have hq144_ : (mv136 1 2).toInt = (M 1 2).toInt := by rw [kq141_ 1 2 (by decide)]
      have hq145_ := r_1_3 gq140_
      have hq146_ := rw_0_6 hr gq140_
      have hq147_ := r_1_2 gq140_
      refine T_eq rfl l_0 (fun hq148_ => ?_) (fun hq148_ => ?_)
      · exact T_ret ⟨(i_rng (lo := 0) (hi := 1) l_0 (by omega) (by omega)), (by have e9 : ((0 : Int32)).toInt = _ := l_0; omega), hq143_, gq140_, kq142_⟩
      · refine T_qc (t_X9_sign hn  mv136 gq140_ ) ?_
        rintro rv149 mv150 ⟨hq151_, hq152_, gq153_, kq154_⟩
        have hq155_ := r_2 gq140_ ((mv136 1 3).toNatClampNeg)
        have hq156_ := kq154_.nil
        subst hq156_
        refine T_eq rfl l_60 (fun hq157_ => ?_) (fun hq157_ => ?_)
        · unfold f_X4_readPiece_148
          refine T_mu gq140_ kq142_ (i_rng (lo := 0) (hi := 240) (i_add rfl l_1 (by omega) (by omega)) (by omega) (by omega)) (nw_1 _) (i := 0) rfl ⟨by decide, by decide, Or.inr ⟨by decide, by decide⟩⟩ ?_
          intro mv158 hq159_ gq160_ kq161_
          have hq162_ := Lf.mu hr (M0 := M) hq143_ hq159_ (by decide)
          have hq163_ : (mv158 1 2).toInt = (mv136 1 2).toInt := by rw [hq159_, mu_ne (Or.inr (by decide))]
          have hq164_ : (mv158 r 6).toInt = (mv136 r 6).toInt := by rw [hq159_, mu_ne (Or.inl (lawne hr (by decide)).1)]
          have hq165_ : (mv158 1 3).toInt = ((mv136 1 3).toInt + 1) := by rw [hq159_, mu_at]; exact (i_add rfl l_1 (by omega) (by omega))
          refine T_qc (t_X4_readSum hn hr a1 mv158 gq160_ (i_rng (lo := 0) (hi := 6) rfl (by omega) (by omega)) (by omega)) ?_
          rintro rv166 mv167 ⟨hq168_, hq169_, hq170_, gq171_, kq172_⟩
          have hq173_ := r_1_3 gq160_
          have hq174_ := r_1_2 gq160_
          have hq175_ := rw_0_6 hr gq160_
          have kq176_ := Sm.call kq161_ kq172_ rfl
          have hq177_ := Lf.tr (M := M) hq162_ hq170_
          have hq178_ : (mv167 1 2).toInt = (mv158 1 2).toInt := by rw [kq172_ 1 2 (by decide)]
          have hq179_ := r_1_3 gq171_
          have hq180_ := rw_0_6 hr gq171_
          have hq181_ := r_1_2 gq171_
          have hq184_ := (show ((0 : Int32)).toInt = _ from l_0)
          refine T_qc (t_X3_add hn hr rv149 (0 : Int32) mv167 gq171_ (i_rng (lo := 0) (hi := 1000000) l_0 (by omega) (by omega)) (by have e1 : ((0 : Int32)).toInt = _ := l_0; omega)) ?_
          rintro rv182 mv183 ⟨hq185_, hq186_, hq187_, gq188_, kq189_⟩
          have kq190_ := Sm.call kq176_ kq189_ rfl
          have hq191_ := Lf.tr (M := M) hq177_ hq187_
          have hq192_ : (mv183 1 2).toInt = (mv167 1 2).toInt := by rw [kq189_ 1 2 (by decide)]
          have hq193_ : (mv183 1 3).toInt = (mv167 1 3).toInt := by rw [kq189_ 1 3 (by decide)]
          have hq194_ := rw_0_6 hr gq188_
          refine T_qb rfl (by omega) (by omega) ?_
          exact T_ret ⟨(i_rng (lo := 0) (hi := 1) rfl (by omega) (by omega)), (by have e9 : (rv166).toInt = _ := rfl; omega), hq191_, gq188_, kq190_⟩
        · refine T_eq rfl l_62 (fun hq195_ => ?_) (fun hq195_ => ?_)
          · unfold f_X4_readPiece_148
            refine T_mu gq140_ kq142_ (i_rng (lo := 0) (hi := 240) (i_add rfl l_1 (by omega) (by omega)) (by omega) (by omega)) (nw_1 _) (i := 0) rfl ⟨by decide, by decide, Or.inr ⟨by decide, by decide⟩⟩ ?_
            intro mv196 hq197_ gq198_ kq199_
            have hq200_ := Lf.mu hr (M0 := M) hq143_ hq197_ (by decide)
            have hq201_ : (mv196 1 2).toInt = (mv136 1 2).toInt := by rw [hq197_, mu_ne (Or.inr (by decide))]
            have hq202_ : (mv196 r 6).toInt = (mv136 r 6).toInt := by rw [hq197_, mu_ne (Or.inl (lawne hr (by decide)).1)]
            have hq203_ : (mv196 1 3).toInt = ((mv136 1 3).toInt + 1) := by rw [hq197_, mu_at]; exact (i_add rfl l_1 (by omega) (by omega))
            refine T_qc (t_X4_readSum hn hr a1 mv196 gq198_ (i_rng (lo := 0) (hi := 6) rfl (by omega) (by omega)) (by omega)) ?_
            rintro rv204 mv205 ⟨hq206_, hq207_, hq208_, gq209_, kq210_⟩
            have hq211_ := r_1_3 gq198_
            have hq212_ := r_1_2 gq198_
            have hq213_ := rw_0_6 hr gq198_
            have kq214_ := Sm.call kq199_ kq210_ rfl
            have hq215_ := Lf.tr (M := M) hq200_ hq208_
            have hq216_ : (mv205 1 2).toInt = (mv196 1 2).toInt := by rw [kq210_ 1 2 (by decide)]
            have hq217_ := r_1_3 gq209_
            have hq218_ := rw_0_6 hr gq209_
            have hq219_ := r_1_2 gq209_
            have hq222_ := (show ((0 : Int32)).toInt = _ from l_0)
            refine T_qc (t_X3_add hn hr rv149 (0 : Int32) mv205 gq209_ (i_rng (lo := 0) (hi := 1000000) l_0 (by omega) (by omega)) (by have e1 : ((0 : Int32)).toInt = _ := l_0; omega)) ?_
            rintro rv220 mv221 ⟨hq223_, hq224_, hq225_, gq226_, kq227_⟩
            have kq228_ := Sm.call kq214_ kq227_ rfl
            have hq229_ := Lf.tr (M := M) hq215_ hq225_
            have hq230_ : (mv221 1 2).toInt = (mv205 1 2).toInt := by rw [kq227_ 1 2 (by decide)]
            have hq231_ : (mv221 1 3).toInt = (mv205 1 3).toInt := by rw [kq227_ 1 3 (by decide)]
            have hq232_ := rw_0_6 hr gq226_
            refine T_qb rfl (by omega) (by omega) ?_
            exact T_ret ⟨(i_rng (lo := 0) (hi := 1) rfl (by omega) (by omega)), (by have e9 : (rv204).toInt = _ := rfl; omega), hq229_, gq226_, kq228_⟩
          · refine T_eq rfl l_61 (fun hq233_ => ?_) (fun hq233_ => ?_)
            · unfold f_X4_readPiece_148
              refine T_mu gq140_ kq142_ (i_rng (lo := 0) (hi := 240) (i_add rfl l_1 (by omega) (by omega)) (by omega) (by omega)) (nw_1 _) (i := 0) rfl ⟨by decide, by decide, Or.inr ⟨by decide, by decide⟩⟩ ?_
              intro mv234 hq235_ gq236_ kq237_
              have hq238_ := Lf.mu hr (M0 := M) hq143_ hq235_ (by decide)
              have hq239_ : (mv234 1 2).toInt = (mv136 1 2).toInt := by rw [hq235_, mu_ne (Or.inr (by decide))]
              have hq240_ : (mv234 r 6).toInt = (mv136 r 6).toInt := by rw [hq235_, mu_ne (Or.inl (lawne hr (by decide)).1)]
              have hq241_ : (mv234 1 3).toInt = ((mv136 1 3).toInt + 1) := by rw [hq235_, mu_at]; exact (i_add rfl l_1 (by omega) (by omega))
              refine T_qc (t_X4_readSum hn hr a1 mv234 gq236_ (i_rng (lo := 0) (hi := 6) rfl (by omega) (by omega)) (by omega)) ?_
              rintro rv242 mv243 ⟨hq244_, hq245_, hq246_, gq247_, kq248_⟩
              have hq249_ := r_1_3 gq236_
              have hq250_ := r_1_2 gq236_
              have hq251_ := rw_0_6 hr gq236_
              have kq252_ := Sm.call kq237_ kq248_ rfl
              have hq253_ := Lf.tr (M := M) hq238_ hq246_
              have hq254_ : (mv243 1 2).toInt = (mv234 1 2).toInt := by rw [kq248_ 1 2 (by decide)]
              have hq255_ := r_1_3 gq247_
              have hq256_ := rw_0_6 hr gq247_
              have hq257_ := r_1_2 gq247_
              have hq260_ := (show ((0 : Int32)).toInt = _ from l_0)
              refine T_qc (t_X3_add hn hr rv149 (0 : Int32) mv243 gq247_ (i_rng (lo := 0) (hi := 1000000) l_0 (by omega) (by omega)) (by have e1 : ((0 : Int32)).toInt = _ := l_0; omega)) ?_
              rintro rv258 mv259 ⟨hq261_, hq262_, hq263_, gq264_, kq265_⟩
              have kq266_ := Sm.call kq252_ kq265_ rfl
              have hq267_ := Lf.tr (M := M) hq253_ hq263_
              have hq268_ : (mv259 1 2).toInt = (mv243 1 2).toInt := by rw [kq265_ 1 2 (by decide)]
              have hq269_ : (mv259 1 3).toInt = (mv243 1 3).toInt := by rw [kq265_ 1 3 (by decide)]
              have hq270_ := rw_0_6 hr gq264_
              refine T_qb rfl (by omega) (by omega) ?_
              exact T_ret ⟨(i_rng (lo := 0) (hi := 1) rfl (by omega) (by omega)), (by have e9 : (rv242).toInt = _ := rfl; omega), hq267_, gq264_, kq266_⟩
            · refine T_qc (t_X9_fails hn (1 : Int32) (mv136 1 3) mv136 gq140_ (i_rng (lo := 1) (hi := 6) l_1 (by omega) (by omega)) (i_rng (lo := 0) (hi := 240) rfl (by omega) (by omega))) ?_
              rintro rv271 mv272 ⟨hq273_, gq274_, kq275_⟩
              have kq276_ := Sm.call kq142_ kq275_ rfl
              have hq277_ := Lf.out hr (M0 := M) hq143_ kq275_ rfl
              have hq278_ : (mv272 r 6).toInt = (mv136 r 6).toInt := by rw [kq275_ r 6 (outl (lawin hr).1 rfl)]
              have hq279_ : (mv272 1 2).toInt = (mv136 1 2).toInt := by rw [kq275_ 1 2 (by decide)]
              have hq280_ : (mv272 1 3).toInt = (mv136 1 3).toInt := by rw [kq275_ 1 3 (by decide)]
              refine T_qb rfl (by omega) (by omega) ?_
              exact T_ret ⟨(i_rng (lo := 0) (hi := 1) rfl (by omega) (by omega)), (by have e9 : (rv271).toInt = _ := rfl; omega), hq277_, gq274_, kq276_⟩
theorem t_X4_readPart_12 {n : Nat} (hn : 200000 ≤ n) {r : Nat} (hr : q_isLaw r) {B : Nat} {F_X4_readPiece : Int32 → qM → qR} (hF_X4_readPiece : ∀ (a1 : Int32) (M : qM), G M → 0 ≤ a1.toInt ∧ a1.toInt ≤ 6 → (M 1 3).toInt ≤ (M 1 2).toInt ∧ (M r 6).toInt ≤ (M 1 3).toInt → 3 * (6 - a1.toInt) + 0 < (B : Int) → qT (F_X4_readPiece a1 M) (po_X4_readPiece r a1 M)) {oa1 : Int32} {M0 : qM} : ∀ (m : Nat) (a1 a2 : Int32) (M : qM), G M → Sm l_X4_readPart M0 M → 0 ≤ a1.toInt ∧ a1.toInt ≤ 6 → 0 ≤ a2.toInt ∧ a2.toInt ≤ 240 → ((M0 1 3).toInt - (M0 r 6).toInt ≤ (M 1 3).toInt - (M r 6).toInt ∧ (M 1 3).toInt ≤ (M 1 2).toInt ∧ (M r 6).toInt ≤ (M 1 3).toInt) → Lf r M0 M → 3 * (6 - a1.toInt) + 1 < (B : Int) + 1 → 240 - a2.toInt < (m : Int) → qT (f_X4_readPart_12 n r F_X4_readPiece m a1 a2 M) (po_X4_readPart r oa1 M0) := by
  intro m
  induction m with
  | zero =>
    intro a1 a2 M hG hS i0 i1 hE hR i6 i7
    have hq1_ := r_1_3 hG
    have hq2_ := r_1_2 hG
    have hq3_ := rw_0_6 hr hG
    exfalso; omega
  | succ m ih =>
    intro a1 a2 M hG hS i0 i1 hE hR i6 i7
    show qT (b_X4_readPart_12 n r F_X4_readPiece (f_X4_readPart_12 n r F_X4_readPiece m) a1 a2 M) _
    unfold b_X4_readPart_12
    have hq1_ := r_1_3 hG
    have hq2_ := r_1_2 hG
    have hq3_ := rw_0_6 hr hG
    refine T_le l_240 rfl (fun hq4_ => ?_) (fun hq4_ => ?_)
    · exact T_ret ⟨(i_rng (lo := 0) (hi := 1) l_1 (by omega) (by omega)), (by have e9 : ((1 : Int32)).toInt = _ := l_1; omega), hR, hG, hS⟩
    · have hq7_ := (show ((38 : Int32)).toInt = _ from l_38)
      refine T_qc (t_X9_takes hn (38 : Int32) M hG (i_rng (lo := 0) (hi := 255) l_38 (by omega) (by omega))) ?_
      rintro rv5 mv6 ⟨hq8_, hq9_, gq10_, kq11_⟩
      have kq12_ := Sm.call hS kq11_ rfl
      have hq13_ := Lf.out hr (M0 := M0) hR kq11_ rfl
      have hq14_ : (mv6 r 6).toInt = (M r 6).toInt := by rw [kq11_ r 6 (outl (lawin hr).1 rfl)]
      have hq15_ : (mv6 1 2).toInt = (M 1 2).toInt := by rw [kq11_ 1 2 (by decide)]
      have hq16_ := r_1_3 gq10_
      refine T_eq rfl l_0 (fun hq17_ => ?_) (fun hq17_ => ?_)
      · exact T_ret ⟨(i_rng (lo := 0) (hi := 1) l_1 (by omega) (by omega)), (by have e9 : ((1 : Int32)).toInt = _ := l_1; omega), hq13_, gq10_, kq12_⟩
      · have hq20_ := (show ((3 : Int32)).toInt = _ from l_3)
        have hq21_ := (show ((0 : Int32)).toInt = _ from l_0)
        refine T_qc (t_X3_add hn hr (3 : Int32) (0 : Int32) mv6 gq10_ (i_rng (lo := 0) (hi := 1000000) l_0 (by omega) (by omega)) (by have e0 : ((3 : Int32)).toInt = _ := l_3; have e1 : ((0 : Int32)).toInt = _ := l_0; omega)) ?_
        rintro rv18 mv19 ⟨hq22_, hq23_, hq24_, gq25_, kq26_⟩
        have hq27_ := rw_0_6 hr gq10_
        have kq28_ := Sm.call kq12_ kq26_ rfl
        have hq29_ := Lf.tr (M := M0) hq13_ hq24_
        have hq30_ : (mv19 1 2).toInt = (mv6 1 2).toInt := by rw [kq26_ 1 2 (by decide)]
        have hq31_ : (mv19 1 3).toInt = (mv6 1 3).toInt := by rw [kq26_ 1 3 (by decide)]
        have hq32_ := rw_0_6 hr gq25_
        refine T_qc (hF_X4_readPiece a1 mv19 gq25_ (i_rng (lo := 0) (hi := 6) rfl (by omega) (by omega)) (by omega) (by omega)) ?_
        rintro rv33 mv34 ⟨hq35_, hq36_, hq37_, gq38_, kq39_⟩
        have hq40_ := r_1_3 gq25_
        have hq41_ := r_1_2 gq25_
        have kq42_ := Sm.call kq28_ kq39_ rfl
        have hq43_ := Lf.tr (M := M0) hq29_ hq37_
        have hq44_ : (mv34 1 2).toInt = (mv19 1 2).toInt := by rw [kq39_ 1 2 (by decide)]
        have hq45_ := r_1_3 gq38_
        have hq46_ := rw_0_6 hr gq38_
        have hq47_ := r_1_2 gq38_
        refine T_eq rfl l_0 (fun hq48_ => ?_) (fun hq48_ => ?_)
        · exact T_ret ⟨(i_rng (lo := 0) (hi := 1) l_0 (by omega) (by omega)), (by have e9 : ((0 : Int32)).toInt = _ := l_0; omega), hq43_, gq38_, kq42_⟩
        · refine T_qc (t_X3_skipToHere hn hr rv18 mv34 gq38_ (i_rng (lo := (-1)) (hi := 239) rfl (by omega) (by omega)) (fun h0_ h1_ => by rw [hq37_.2.1 _ (by rw [tnc]; omega)]; omega)) ?_
          rintro rv49 mv50 ⟨hq51_, hq52_, hq53_, gq54_, kq55_⟩
          have kq56_ := Sm.call kq42_ kq55_ rfl
          have hq57_ := Lf.tr (M := M0) hq43_ hq53_
          have hq58_ : (mv50 1 2).toInt = (mv34 1 2).toInt := by rw [kq55_ 1 2 (by decide)]
          have hq59_ : (mv50 1 3).toInt = (mv34 1 3).toInt := by rw [kq55_ 1 3 (by decide)]
          have hq60_ := rw_0_6 hr gq54_
          refine T_ql (i_add rfl l_1 (by omega) (by omega)) ?_
          intro xv61 hq62_
          have hq63_ := r_1_3 gq54_
          have hq64_ := r_1_2 gq54_
          exact ih a1 xv61 mv50 gq54_ kq56_ (i_rng (lo := 0) (hi := 6) rfl (by omega) (by omega)) (i_rng (lo := 0) (hi := 240) rfl (by omega) (by omega)) (by omega) hq57_ (by omega) (by omega)
theorem to_X4_readPart {n : Nat} (hn : 200000 ≤ n) {r : Nat} (hr : q_isLaw r) {B : Nat} {F_X4_readPiece : Int32 → qM → qR} (hF_X4_readPiece : ∀ (a1 : Int32) (M : qM), G M → 0 ≤ a1.toInt ∧ a1.toInt ≤ 6 → (M 1 3).toInt ≤ (M 1 2).toInt ∧ (M r 6).toInt ≤ (M 1 3).toInt → 3 * (6 - a1.toInt) + 0 < (B : Int) → qT (F_X4_readPiece a1 M) (po_X4_readPiece r a1 M)) (a1 : Int32) (M : qM) (hG : G M) (pa1 : 0 ≤ a1.toInt ∧ a1.toInt ≤ 6) (pe : (M 1 3).toInt ≤ (M 1 2).toInt ∧ (M r 6).toInt ≤ (M 1 3).toInt) (hb : 3 * (6 - a1.toInt) + 1 < (B : Int) + 1) : qT (fo_X4_readPart n r F_X4_readPiece a1 M) (po_X4_readPart r a1 M) := by
  have hS : Sm l_X4_readPart M M := Sm.rf
  unfold fo_X4_readPart
  have hq65_ := r_1_3 hG
  have hq66_ := r_1_2 hG
  have hq67_ := rw_0_6 hr hG
  refine T_qc (hF_X4_readPiece a1 M hG (i_rng (lo := 0) (hi := 6) rfl (by omega) (by omega)) (by omega) (by omega)) ?_
  rintro rv68 mv69 ⟨hq70_, hq71_, hq72_, gq73_, kq74_⟩
  have kq75_ := Sm.call hS kq74_ rfl
  have hq76_ := Lf.tr (M := M) Lf.rf hq72_
  have hq77_ : (mv69 1 2).toInt = (M 1 2).toInt := by rw [kq74_ 1 2 (by decide)]
  have hq78_ := r_1_3 gq73_
  have hq79_ := rw_0_6 hr gq73_
  have hq80_ := r_1_2 gq73_
  refine T_eq rfl l_0 (fun hq81_ => ?_) (fun hq81_ => ?_)
  · exact T_ret ⟨(i_rng (lo := 0) (hi := 1) l_0 (by omega) (by omega)), (by have e9 : ((0 : Int32)).toInt = _ := l_0; omega), hq76_, gq73_, kq75_⟩
  · exact (t_X4_readPart_12 hn hr hF_X4_readPiece) n a1 (0 : Int32) mv69 gq73_ kq75_ (i_rng (lo := 0) (hi := 6) rfl (by omega) (by omega)) (i_rng (lo := 0) (hi := 240) l_0 (by omega) (by omega)) (by have e1 : ((0 : Int32)).toInt = _ := l_0; omega) hq76_ (by omega) (by have e1 : ((0 : Int32)).toInt = _ := l_0; omega)
theorem t_X4_readCondition_12 {n : Nat} (hn : 200000 ≤ n) {r : Nat} (hr : q_isLaw r) {B : Nat} {F_X4_readPart : Int32 → qM → qR} (hF_X4_readPart : ∀ (a1 : Int32) (M : qM), G M → 0 ≤ a1.toInt ∧ a1.toInt ≤ 6 → (M 1 3).toInt ≤ (M 1 2).toInt ∧ (M r 6).toInt ≤ (M 1 3).toInt → 3 * (6 - a1.toInt) + 1 < (B : Int) → qT (F_X4_readPart a1 M) (po_X4_readPart r a1 M)) {oa1 : Int32} {M0 : qM} : ∀ (m : Nat) (a1 a2 : Int32) (M : qM), G M → Sm l_X4_readCondition M0 M → 0 ≤ a1.toInt ∧ a1.toInt ≤ 6 → 0 ≤ a2.toInt ∧ a2.toInt ≤ 240 → ((M0 1 3).toInt - (M0 r 6).toInt ≤ (M 1 3).toInt - (M r 6).toInt ∧ (M 1 3).toInt ≤ (M 1 2).toInt ∧ (M r 6).toInt ≤ (M 1 3).toInt) → Lf r M0 M → 3 * (6 - a1.toInt) + 2 < (B : Int) + 1 → 240 - a2.toInt < (m : Int) → qT (f_X4_readCondition_12 n r F_X4_readPart m a1 a2 M) (po_X4_readCondition r oa1 M0) := by
  intro m
  induction m with
  | zero =>
    intro a1 a2 M hG hS i0 i1 hE hR i6 i7
    have hq1_ := r_1_3 hG
    have hq2_ := r_1_2 hG
    have hq3_ := rw_0_6 hr hG
    exfalso; omega
  | succ m ih =>
    intro a1 a2 M hG hS i0 i1 hE hR i6 i7
    show qT (b_X4_readCondition_12 n r F_X4_readPart (f_X4_readCondition_12 n r F_X4_readPart m) a1 a2 M) _
    unfold b_X4_readCondition_12
    have hq1_ := r_1_3 hG
    have hq2_ := r_1_2 hG
    have hq3_ := rw_0_6 hr hG
    refine T_le l_240 rfl (fun hq4_ => ?_) (fun hq4_ => ?_)
    · exact T_ret ⟨(i_rng (lo := 0) (hi := 1) l_1 (by omega) (by omega)), (by have e9 : ((1 : Int32)).toInt = _ := l_1; omega), hR, hG, hS⟩
    · have hq7_ := (show ((124 : Int32)).toInt = _ from l_124)
      refine T_qc (t_X9_takes hn (124 : Int32) M hG (i_rng (lo := 0) (hi := 255) l_124 (by omega) (by omega))) ?_
      rintro rv5 mv6 ⟨hq8_, hq9_, gq10_, kq11_⟩
      have kq12_ := Sm.call hS kq11_ rfl
      have hq13_ := Lf.out hr (M0 := M0) hR kq11_ rfl
      have hq14_ : (mv6 r 6).toInt = (M r 6).toInt := by rw [kq11_ r 6 (outl (lawin hr).1 rfl)]
      have hq15_ : (mv6 1 2).toInt = (M 1 2).toInt := by rw [kq11_ 1 2 (by decide)]
      have hq16_ := r_1_3 gq10_
      refine T_eq rfl l_0 (fun hq17_ => ?_) (fun hq17_ => ?_)
      · exact T_ret ⟨(i_rng (lo := 0) (hi := 1) l_1 (by omega) (by omega)), (by have e9 : ((1 : Int32)).toInt = _ := l_1; omega), hq13_, gq10_, kq12_⟩
      · have hq20_ := (show ((4 : Int32)).toInt = _ from l_4)
        have hq21_ := (show ((0 : Int32)).toInt = _ from l_0)
        refine T_qc (t_X3_add hn hr (4 : Int32) (0 : Int32) mv6 gq10_ (i_rng (lo := 0) (hi := 1000000) l_0 (by omega) (by omega)) (by have e0 : ((4 : Int32)).toInt = _ := l_4; have e1 : ((0 : Int32)).toInt = _ := l_0; omega)) ?_
        rintro rv18 mv19 ⟨hq22_, hq23_, hq24_, gq25_, kq26_⟩
        have hq27_ := rw_0_6 hr gq10_
        have kq28_ := Sm.call kq12_ kq26_ rfl
        have hq29_ := Lf.tr (M := M0) hq13_ hq24_
        have hq30_ : (mv19 1 2).toInt = (mv6 1 2).toInt := by rw [kq26_ 1 2 (by decide)]
        have hq31_ : (mv19 1 3).toInt = (mv6 1 3).toInt := by rw [kq26_ 1 3 (by decide)]
        have hq32_ := rw_0_6 hr gq25_
        refine T_qc (hF_X4_readPart a1 mv19 gq25_ (i_rng (lo := 0) (hi := 6) rfl (by omega) (by omega)) (by omega) (by omega)) ?_
        rintro rv33 mv34 ⟨hq35_, hq36_, hq37_, gq38_, kq39_⟩
        have hq40_ := r_1_3 gq25_
        have hq41_ := r_1_2 gq25_
        have kq42_ := Sm.call kq28_ kq39_ rfl
        have hq43_ := Lf.tr (M := M0) hq29_ hq37_
        have hq44_ : (mv34 1 2).toInt = (mv19 1 2).toInt := by rw [kq39_ 1 2 (by decide)]
        have hq45_ := r_1_3 gq38_
        have hq46_ := rw_0_6 hr gq38_
        have hq47_ := r_1_2 gq38_
        refine T_eq rfl l_0 (fun hq48_ => ?_) (fun hq48_ => ?_)
        · exact T_ret ⟨(i_rng (lo := 0) (hi := 1) l_0 (by omega) (by omega)), (by have e9 : ((0 : Int32)).toInt = _ := l_0; omega), hq43_, gq38_, kq42_⟩
        · refine T_qc (t_X3_skipToHere hn hr rv18 mv34 gq38_ (i_rng (lo := (-1)) (hi := 239) rfl (by omega) (by omega)) (fun h0_ h1_ => by rw [hq37_.2.1 _ (by rw [tnc]; omega)]; omega)) ?_
          rintro rv49 mv50 ⟨hq51_, hq52_, hq53_, gq54_, kq55_⟩
          have kq56_ := Sm.call kq42_ kq55_ rfl
          have hq57_ := Lf.tr (M := M0) hq43_ hq53_
          have hq58_ : (mv50 1 2).toInt = (mv34 1 2).toInt := by rw [kq55_ 1 2 (by decide)]
          have hq59_ : (mv50 1 3).toInt = (mv34 1 3).toInt := by rw [kq55_ 1 3 (by decide)]
          have hq60_ := rw_0_6 hr gq54_
          refine T_ql (i_add rfl l_1 (by omega) (by omega)) ?_
          intro xv61 hq62_
          have hq63_ := r_1_3 gq54_
          have hq64_ := r_1_2 gq54_
          exact ih a1 xv61 mv50 gq54_ kq56_ (i_rng (lo := 0) (hi := 6) rfl (by omega) (by omega)) (i_rng (lo := 0) (hi := 240) rfl (by omega) (by omega)) (by omega) hq57_ (by omega) (by omega)
theorem to_X4_readCondition {n : Nat} (hn : 200000 ≤ n) {r : Nat} (hr : q_isLaw r) {B : Nat} {F_X4_readPart : Int32 → qM → qR} (hF_X4_readPart : ∀ (a1 : Int32) (M : qM), G M → 0 ≤ a1.toInt ∧ a1.toInt ≤ 6 → (M 1 3).toInt ≤ (M 1 2).toInt ∧ (M r 6).toInt ≤ (M 1 3).toInt → 3 * (6 - a1.toInt) + 1 < (B : Int) → qT (F_X4_readPart a1 M) (po_X4_readPart r a1 M)) (a1 : Int32) (M : qM) (hG : G M) (pa1 : 0 ≤ a1.toInt ∧ a1.toInt ≤ 6) (pe : (M 1 3).toInt ≤ (M 1 2).toInt ∧ (M r 6).toInt ≤ (M 1 3).toInt) (hb : 3 * (6 - a1.toInt) + 2 < (B : Int) + 1) : qT (fo_X4_readCondition n r F_X4_readPart a1 M) (po_X4_readCondition r a1 M) := by
  have hS : Sm l_X4_readCondition M M := Sm.rf
  unfold fo_X4_readCondition
  have hq65_ := r_1_3 hG
  have hq66_ := r_1_2 hG
  have hq67_ := rw_0_6 hr hG
  refine T_qc (hF_X4_readPart a1 M hG (i_rng (lo := 0) (hi := 6) rfl (by omega) (by omega)) (by omega) (by omega)) ?_
  rintro rv68 mv69 ⟨hq70_, hq71_, hq72_, gq73_, kq74_⟩
  have kq75_ := Sm.call hS kq74_ rfl
  have hq76_ := Lf.tr (M := M) Lf.rf hq72_
  have hq77_ : (mv69 1 2).toInt = (M 1 2).toInt := by rw [kq74_ 1 2 (by decide)]
  have hq78_ := r_1_3 gq73_
  have hq79_ := rw_0_6 hr gq73_
  have hq80_ := r_1_2 gq73_
  refine T_eq rfl l_0 (fun hq81_ => ?_) (fun hq81_ => ?_)
  · exact T_ret ⟨(i_rng (lo := 0) (hi := 1) l_0 (by omega) (by omega)), (by have e9 : ((0 : Int32)).toInt = _ := l_0; omega), hq76_, gq73_, kq75_⟩
  · exact (t_X4_readCondition_12 hn hr hF_X4_readPart) n a1 (0 : Int32) mv69 gq73_ kq75_ (i_rng (lo := 0) (hi := 6) rfl (by omega) (by omega)) (i_rng (lo := 0) (hi := 240) l_0 (by omega) (by omega)) (by have e1 : ((0 : Int32)).toInt = _ := l_0; omega) hq76_ (by omega) (by have e1 : ((0 : Int32)).toInt = _ := l_0; omega)
theorem trc_X4_readPiece {n : Nat} (hn : 200000 ≤ n) {r : Nat} (hr : q_isLaw r) : ∀ m : Nat, (∀ (a1 : Int32) (M : qM), G M → 0 ≤ a1.toInt ∧ a1.toInt ≤ 6 → (M 1 3).toInt ≤ (M 1 2).toInt ∧ (M r 6).toInt ≤ (M 1 3).toInt → 3 * (6 - a1.toInt) + 0 < (m : Int) → qT (rc_X4_readPiece n r m 0 a1 M) (po_X4_readPiece r a1 M)) ∧ (∀ (a1 : Int32) (M : qM), G M → 0 ≤ a1.toInt ∧ a1.toInt ≤ 6 → (M 1 3).toInt ≤ (M 1 2).toInt ∧ (M r 6).toInt ≤ (M 1 3).toInt → 3 * (6 - a1.toInt) + 1 < (m : Int) → qT (rc_X4_readPiece n r m 1 a1 M) (po_X4_readPart r a1 M)) ∧ (∀ (a1 : Int32) (M : qM), G M → 0 ≤ a1.toInt ∧ a1.toInt ≤ 6 → (M 1 3).toInt ≤ (M 1 2).toInt ∧ (M r 6).toInt ≤ (M 1 3).toInt → 3 * (6 - a1.toInt) + 2 < (m : Int) → qT (rc_X4_readPiece n r m 2 a1 M) (po_X4_readCondition r a1 M)) := by
  intro m
  induction m with
  | zero =>
    exact ⟨(fun a1 M q0 q1 q2 q3 => by exfalso; omega), (fun a1 M q0 q1 q2 q3 => by exfalso; omega), (fun a1 M q0 q1 q2 q3 => by exfalso; omega)⟩
  | succ m ih =>
    refine ⟨?_, ?_, ?_⟩
    · exact fun a1 M q0 q1 q2 q3 => to_X4_readPiece hn hr (B := m) (ih.2.2) (ih.1) a1 M q0 q1 q2 (by omega)
    · exact fun a1 M q0 q1 q2 q3 => to_X4_readPart hn hr (B := m) (ih.1) a1 M q0 q1 q2 (by omega)
    · exact fun a1 M q0 q1 q2 q3 => to_X4_readCondition hn hr (B := m) (ih.2.1) a1 M q0 q1 q2 (by omega)
theorem t_X4_readPiece {n : Nat} (hn : 200000 ≤ n) {r : Nat} (hr : q_isLaw r) (a1 : Int32) (M : qM) (hG : G M) (pa1 : 0 ≤ a1.toInt ∧ a1.toInt ≤ 6) (pe : (M 1 3).toInt ≤ (M 1 2).toInt ∧ (M r 6).toInt ≤ (M 1 3).toInt) : qT (f_X4_readPiece n r a1 M) (po_X4_readPiece r a1 M) := by
  unfold f_X4_readPiece
  exact (trc_X4_readPiece hn hr 30).1 a1 M hG pa1 pe (by omega)
theorem t_X4_readPart {n : Nat} (hn : 200000 ≤ n) {r : Nat} (hr : q_isLaw r) (a1 : Int32) (M : qM) (hG : G M) (pa1 : 0 ≤ a1.toInt ∧ a1.toInt ≤ 6) (pe : (M 1 3).toInt ≤ (M 1 2).toInt ∧ (M r 6).toInt ≤ (M 1 3).toInt) : qT (f_X4_readPart n r a1 M) (po_X4_readPart r a1 M) := by
  unfold f_X4_readPart
  exact (trc_X4_readPiece hn hr 30).2.1 a1 M hG pa1 pe (by omega)
theorem t_X4_readCondition {n : Nat} (hn : 200000 ≤ n) {r : Nat} (hr : q_isLaw r) (a1 : Int32) (M : qM) (hG : G M) (pa1 : 0 ≤ a1.toInt ∧ a1.toInt ≤ 6) (pe : (M 1 3).toInt ≤ (M 1 2).toInt ∧ (M r 6).toInt ≤ (M 1 3).toInt) : qT (f_X4_readCondition n r a1 M) (po_X4_readCondition r a1 M) := by
  unfold f_X4_readCondition
  exact (trc_X4_readPiece hn hr 30).2.2 a1 M hG pa1 pe (by omega)

abbrev l_X3_addClause : List Bx := [(37, 53, 0, 0)]
abbrev po_X3_addClause (w : Nat) (a1 a2 a3 : Int32) (M : qM) (v : Int32) (M' : qM) : Prop := (0 ≤ v.toInt ∧ v.toInt ≤ 0) ∧ ((M' w 6).toInt = (M w 6).toInt) ∧ G M' ∧ Sm l_X3_addClause M M'
theorem G_lr {M : qM} {w k s : Nat} {v : Int32} (hw : q_isLaw w) (hG : G M) (hk : 3 ≤ k ∧ k ≤ 6) (hv : k = 3 ∨ (0 ≤ v.toInt ∧ v.toInt ≤ 240)) : G (mu M (w + k) s v) := by
  have hk2 : k = 3 ∨ k = 4 ∨ k = 5 ∨ k = 6 := by omega
  rcases hw with rfl | rfl <;> rcases hk2 with rfl | rfl | rfl | rfl
  · exact G_mu hG trivial (nw_40 _)
  · exact G_mu hG (hv.resolve_left (by decide)) (nw_41 _)
  · exact G_mu hG (hv.resolve_left (by decide)) (nw_42 _)
  · exact G_mu hG (hv.resolve_left (by decide)) (nw_43 _)
  · exact G_mu hG trivial (nw_49 _)
  · exact G_mu hG (hv.resolve_left (by decide)) (nw_50 _)
  · exact G_mu hG (hv.resolve_left (by decide)) (nw_51 _)
  · exact G_mu hG (hv.resolve_left (by decide)) (nw_52 _)
theorem t_X3_addClause {n : Nat} (hn : 200000 ≤ n) {w : Nat} (hw : q_isLaw w) (a1 a2 a3 : Int32) (M : qM) (hG : G M) (pa2 : 0 ≤ a2.toInt ∧ a2.toInt ≤ 240) (pa3 : 0 ≤ a3.toInt ∧ a3.toInt ≤ 240) : qT (f_X3_addClause n w a1 a2 a3 M) (po_X3_addClause w a1 a2 a3 M) := by
  have h6 := rw_0_6 hw hG
  have h7 := rw_0_7 hw hG
  unfold f_X3_addClause
  refine T_le l_16 rfl (fun c => ?_) (fun c => ?_)
  · exact T_ret ⟨⟨by decide, by decide⟩, rfl, hG, Sm.rf⟩
  · refine T_qg rfl (by omega) (by omega) (T_qlm ?_)
    have e1 : ∀ s, mu M (w + 3) (M w 7).toNatClampNeg a1 w s = M w s := fun s => mu_ne (Or.inl (by omega))
    have g1 := G_lr (k := 3) (s := (M w 7).toNatClampNeg) (v := a1) hw hG (by omega) (Or.inl rfl)
    have s1 : Sm l_X3_addClause M (mu M (w + 3) (M w 7).toNatClampNeg a1) := (Sm.rf).mu (i := 0) rfl (lwin (k := 3) hw (by decide))
    generalize mu M (w + 3) (M w 7).toNatClampNeg a1 = m1 at e1 g1 s1 ⊢
    rw [e1 7]
    refine T_qg rfl (by omega) (by omega) (T_qlm ?_)
    have e2 : ∀ s, mu m1 (w + 4) (M w 7).toNatClampNeg a2 w s = M w s := fun s => by rw [mu_ne (Or.inl (by omega)), e1]
    have g2 := G_lr (k := 4) (s := (M w 7).toNatClampNeg) (v := a2) hw g1 (by omega) (Or.inr pa2)
    have s2 : Sm l_X3_addClause M (mu m1 (w + 4) (M w 7).toNatClampNeg a2) := s1.mu (i := 0) rfl (lwin (k := 4) hw (by decide))
    generalize mu m1 (w + 4) (M w 7).toNatClampNeg a2 = m2 at e2 g2 s2 ⊢
    rw [e2 7]
    refine T_qg rfl (by omega) (by omega) (T_qlm ?_)
    have e3 : ∀ s, mu m2 (w + 5) (M w 7).toNatClampNeg a3 w s = M w s := fun s => by rw [mu_ne (Or.inl (by omega)), e2]
    have g3 := G_lr (k := 5) (s := (M w 7).toNatClampNeg) (v := a3) hw g2 (by omega) (Or.inr pa3)
    have s3 : Sm l_X3_addClause M (mu m2 (w + 5) (M w 7).toNatClampNeg a3) := s2.mu (i := 0) rfl (lwin (k := 5) hw (by decide))
    generalize mu m2 (w + 5) (M w 7).toNatClampNeg a3 = m3 at e3 g3 s3 ⊢
    rw [e3 7, e3 6]
    refine T_qg rfl (by omega) (by omega) (T_qlm ?_)
    have e4 : ∀ s, mu m3 (w + 6) (M w 7).toNatClampNeg (M w 6) w s = M w s := fun s => by rw [mu_ne (Or.inl (by omega)), e3]
    have g4 := G_lr (k := 6) (s := (M w 7).toNatClampNeg) (v := M w 6) hw g3 (by omega) (Or.inr h6)
    have s4 : Sm l_X3_addClause M (mu m3 (w + 6) (M w 7).toNatClampNeg (M w 6)) := s3.mu (i := 0) rfl (lwin (k := 6) hw (by decide))
    generalize mu m3 (w + 6) (M w 7).toNatClampNeg (M w 6) = m4 at e4 g4 s4 ⊢
    refine T_qlm ?_
    rw [e4 7]
    have e5 : (M w 7 + 1).toInt = (M w 7).toInt + 1 := i_add rfl l_1 (by omega) (by omega)
    refine T_ret ⟨⟨by decide, by decide⟩, ?_, G_lw hw g4 (fun q => absurd q (by decide)) (fun _ => by rw [e5]; omega) (Or.inr rfl), s4.mu (i := 0) rfl (lwin (k := 0) hw (by decide))⟩
    rw [mu_ne (Or.inr (by decide)), e4]

abbrev l_X4_readClause : List Bx := [(1, 2, 3, 5), (37, 53, 0, 0)]
abbrev po_X4_readClause (r : Nat) (M : qM) (v : Int32) (M' : qM) : Prop := (0 ≤ v.toInt ∧ v.toInt ≤ 1) ∧ (v.toInt = 0 ∨ ((M 1 3).toInt - (M r 6).toInt ≤ (M' 1 3).toInt - (M' r 6).toInt ∧ (M' 1 3).toInt ≤ (M' 1 2).toInt ∧ (M' r 6).toInt ≤ (M' 1 3).toInt)) ∧ G M' ∧ Sm l_X4_readClause M M'
theorem t_X4_readClause {n : Nat} (hn : 200000 ≤ n) {r : Nat} (hr : q_isLaw r) (M : qM) (hG : G M) (pe : (M 1 3).toInt ≤ (M 1 2).toInt ∧ (M r 6).toInt ≤ (M 1 3).toInt) : qT (f_X4_readClause n r  M) (po_X4_readClause r  M) := by
  have hS : Sm l_X4_readClause M M := Sm.rf
  unfold f_X4_readClause
  have hq1_ := r_1_3 hG
  have hq2_ := r_1_2 hG
  have hq3_ := rw_0_6 hr hG
  refine T_qc (t_X9_sign hn  M hG ) ?_
  rintro rv4 mv5 ⟨hq6_, hq7_, gq8_, kq9_⟩
  have hq10_ := r_2 hG ((M 1 3).toNatClampNeg)
  have hq11_ := kq9_.nil
  subst hq11_
  refine T_eq rfl l_97 (fun hq12_ => ?_) (fun hq12_ => ?_)
  · unfold f_X4_readClause_48
    have hq13_ := rw_0_7 hr hG
    refine T_lt rfl l_16 (fun hq14_ => ?_) (fun hq14_ => ?_)
    · refine T_mu hG hS (i_rng (lo := 0) (hi := 240) (i_add rfl l_1 (by omega) (by omega)) (by omega) (by omega)) (nw_1 _) (i := 0) rfl ⟨by decide, by decide, Or.inr ⟨by decide, by decide⟩⟩ ?_
      intro mv15 hq16_ gq17_ kq18_
      have hq19_ : (mv15 1 2).toInt = (M 1 2).toInt := by rw [hq16_, mu_ne (Or.inr (by decide))]
      have hq20_ : (mv15 r 6).toInt = (M r 6).toInt := by rw [hq16_, mu_ne (Or.inl (lawne hr (by decide)).1)]
      have hq21_ : (mv15 r 7).toInt = (M r 7).toInt := by rw [hq16_, mu_ne (Or.inl (lawne hr (by decide)).1)]
      have hq22_ : (mv15 1 3).toInt = ((M 1 3).toInt + 1) := by rw [hq16_, mu_at]; exact (i_add rfl l_1 (by omega) (by omega))
      have hq23_ := rw_0_6 hr gq17_
      refine T_ql rfl ?_
      intro xv24 hq25_
      refine T_eq rfl l_97 (fun hq26_ => ?_) (fun hq26_ => ?_)
      · unfold f_X4_readClause_113
        refine T_ql rfl ?_
        intro xv27 hq28_
        have hq31_ := (show ((40 : Int32)).toInt = _ from l_40)
        refine T_qc (t_X9_mustTake hn (40 : Int32) mv15 gq17_ (i_rng (lo := 0) (hi := 255) l_40 (by omega) (by omega))) ?_
        rintro rv29 mv30 ⟨hq32_, hq33_, gq34_, kq35_⟩
        have hq36_ := r_1_3 gq17_
        have hq37_ := r_1_2 gq17_
        have kq38_ := Sm.call kq18_ kq35_ rfl
        have hq39_ : (mv30 r 6).toInt = (mv15 r 6).toInt := by rw [kq35_ r 6 (outl (lawin hr).1 rfl)]
        have hq40_ : (mv30 r 7).toInt = (mv15 r 7).toInt := by rw [kq35_ r 7 (outl (lawin hr).1 rfl)]
        have hq41_ : (mv30 1 2).toInt = (mv15 1 2).toInt := by rw [kq35_ 1 2 (by decide)]
        have hq42_ := r_1_3 gq34_
        refine T_eq rfl l_0 (fun hq43_ => ?_) (fun hq43_ => ?_)
        · exact T_ret ⟨(i_rng (lo := 0) (hi := 1) l_0 (by omega) (by omega)), (by have e9 : ((0 : Int32)).toInt = _ := l_0; omega), gq34_, kq38_⟩
        · have hq46_ := (show ((1 : Int32)).toInt = _ from l_1)
          refine T_qc (t_X4_readCondition hn hr (1 : Int32) mv30 gq34_ (i_rng (lo := 0) (hi := 6) l_1 (by omega) (by omega)) (by have e0 : ((1 : Int32)).toInt = _ := l_1; omega)) ?_
          rintro rv44 mv45 ⟨hq47_, hq48_, hq49_, gq50_, kq51_⟩
          have hq52_ := r_1_2 gq34_
          have hq53_ := rw_0_6 hr gq34_
          have kq54_ := Sm.call kq38_ kq51_ rfl
          have hq55_ : (mv45 1 2).toInt = (mv30 1 2).toInt := by rw [kq51_ 1 2 (by decide)]
          have hq56_ := r_1_3 gq50_
          have hq57_ := rw_0_6 hr gq50_
          have hq58_ := r_1_2 gq50_
          refine T_eq rfl l_0 (fun hq59_ => ?_) (fun hq59_ => ?_)
          · exact T_ret ⟨(i_rng (lo := 0) (hi := 1) l_0 (by omega) (by omega)), (by have e9 : ((0 : Int32)).toInt = _ := l_0; omega), gq50_, kq54_⟩
          · have hq62_ := (show ((41 : Int32)).toInt = _ from l_41)
            refine T_qc (t_X9_mustTake hn (41 : Int32) mv45 gq50_ (i_rng (lo := 0) (hi := 255) l_41 (by omega) (by omega))) ?_
            rintro rv60 mv61 ⟨hq63_, hq64_, gq65_, kq66_⟩
            have kq67_ := Sm.call kq54_ kq66_ rfl
            have hq68_ : (mv61 r 6).toInt = (mv45 r 6).toInt := by rw [kq66_ r 6 (outl (lawin hr).1 rfl)]
            have hq69_ : (mv61 1 2).toInt = (mv45 1 2).toInt := by rw [kq66_ 1 2 (by decide)]
            have hq70_ := r_1_3 gq65_
            refine T_eq rfl l_0 (fun hq71_ => ?_) (fun hq71_ => ?_)
            · exact T_ret ⟨(i_rng (lo := 0) (hi := 1) l_0 (by omega) (by omega)), (by have e9 : ((0 : Int32)).toInt = _ := l_0; omega), gq65_, kq67_⟩
            · refine T_qc (t_X3_addClause hn hr rv4 xv24 xv27 mv61 gq65_ (i_rng (lo := 0) (hi := 240) rfl (by omega) (by omega)) (i_rng (lo := 0) (hi := 240) rfl (by omega) (by omega))) ?_
              rintro rv72 mv73 ⟨hq74_, hq75_, gq76_, kq77_⟩
              have kq78_ := Sm.call kq67_ kq77_ rfl
              have hq79_ : (mv73 1 2).toInt = (mv61 1 2).toInt := by rw [kq77_ 1 2 (by decide)]
              have hq80_ : (mv73 1 3).toInt = (mv61 1 3).toInt := by rw [kq77_ 1 3 (by decide)]
              have hq81_ := rw_0_6 hr gq76_
              exact T_ret ⟨(i_rng (lo := 0) (hi := 1) l_1 (by omega) (by omega)), (by have e9 : ((1 : Int32)).toInt = _ := l_1; omega), gq76_, kq78_⟩
      · exfalso; omega
    · refine T_qc (t_X9_fails hn (4 : Int32) (M 1 3) M hG (i_rng (lo := 1) (hi := 6) l_4 (by omega) (by omega)) (i_rng (lo := 0) (hi := 240) rfl (by omega) (by omega))) ?_
      rintro rv82 mv83 ⟨hq84_, gq85_, kq86_⟩
      have kq87_ := Sm.call hS kq86_ rfl
      have hq88_ : (mv83 r 6).toInt = (M r 6).toInt := by rw [kq86_ r 6 (outl (lawin hr).1 rfl)]
      have hq89_ : (mv83 r 7).toInt = (M r 7).toInt := by rw [kq86_ r 7 (outl (lawin hr).1 rfl)]
      have hq90_ : (mv83 1 3).toInt = (M 1 3).toInt := by rw [kq86_ 1 3 (by decide)]
      have hq91_ : (mv83 1 2).toInt = (M 1 2).toInt := by rw [kq86_ 1 2 (by decide)]
      refine T_qb rfl (by omega) (by omega) ?_
      exact T_ret ⟨(i_rng (lo := 0) (hi := 1) rfl (by omega) (by omega)), (by have e9 : (rv82).toInt = _ := rfl; omega), gq85_, kq87_⟩
  · refine T_eq rfl l_118 (fun hq92_ => ?_) (fun hq92_ => ?_)
    · unfold f_X4_readClause_48
      have hq93_ := rw_0_7 hr hG
      refine T_lt rfl l_16 (fun hq94_ => ?_) (fun hq94_ => ?_)
      · refine T_mu hG hS (i_rng (lo := 0) (hi := 240) (i_add rfl l_1 (by omega) (by omega)) (by omega) (by omega)) (nw_1 _) (i := 0) rfl ⟨by decide, by decide, Or.inr ⟨by decide, by decide⟩⟩ ?_
        intro mv95 hq96_ gq97_ kq98_
        have hq99_ : (mv95 1 2).toInt = (M 1 2).toInt := by rw [hq96_, mu_ne (Or.inr (by decide))]
        have hq100_ : (mv95 r 6).toInt = (M r 6).toInt := by rw [hq96_, mu_ne (Or.inl (lawne hr (by decide)).1)]
        have hq101_ : (mv95 r 7).toInt = (M r 7).toInt := by rw [hq96_, mu_ne (Or.inl (lawne hr (by decide)).1)]
        have hq102_ : (mv95 1 3).toInt = ((M 1 3).toInt + 1) := by rw [hq96_, mu_at]; exact (i_add rfl l_1 (by omega) (by omega))
        have hq103_ := rw_0_6 hr gq97_
        refine T_ql rfl ?_
        intro xv104 hq105_
        refine T_eq rfl l_97 (fun hq106_ => ?_) (fun hq106_ => ?_)
        · exfalso; omega
        · have hq109_ := (show ((0 : Int32)).toInt = _ from l_0)
          refine T_qc (t_X4_readSum hn hr (0 : Int32) mv95 gq97_ (i_rng (lo := 0) (hi := 6) l_0 (by omega) (by omega)) (by have e0 : ((0 : Int32)).toInt = _ := l_0; omega)) ?_
          rintro rv107 mv108 ⟨hq110_, hq111_, hq112_, gq113_, kq114_⟩
          have hq115_ := r_1_3 gq97_
          have hq116_ := r_1_2 gq97_
          have kq117_ := Sm.call kq98_ kq114_ rfl
          have hq118_ : (mv108 1 2).toInt = (mv95 1 2).toInt := by rw [kq114_ 1 2 (by decide)]
          have hq119_ := r_1_3 gq113_
          have hq120_ := rw_0_6 hr gq113_
          have hq121_ := r_1_2 gq113_
          refine T_eq rfl l_0 (fun hq122_ => ?_) (fun hq122_ => ?_)
          · exact T_ret ⟨(i_rng (lo := 0) (hi := 1) l_0 (by omega) (by omega)), (by have e9 : ((0 : Int32)).toInt = _ := l_0; omega), gq113_, kq117_⟩
          · unfold f_X4_readClause_113
            refine T_ql rfl ?_
            intro xv123 hq124_
            have hq127_ := (show ((40 : Int32)).toInt = _ from l_40)
            refine T_qc (t_X9_mustTake hn (40 : Int32) mv108 gq113_ (i_rng (lo := 0) (hi := 255) l_40 (by omega) (by omega))) ?_
            rintro rv125 mv126 ⟨hq128_, hq129_, gq130_, kq131_⟩
            have kq132_ := Sm.call kq117_ kq131_ rfl
            have hq133_ : (mv126 r 6).toInt = (mv108 r 6).toInt := by rw [kq131_ r 6 (outl (lawin hr).1 rfl)]
            have hq134_ : (mv126 1 2).toInt = (mv108 1 2).toInt := by rw [kq131_ 1 2 (by decide)]
            have hq135_ := r_1_3 gq130_
            refine T_eq rfl l_0 (fun hq136_ => ?_) (fun hq136_ => ?_)
            · exact T_ret ⟨(i_rng (lo := 0) (hi := 1) l_0 (by omega) (by omega)), (by have e9 : ((0 : Int32)).toInt = _ := l_0; omega), gq130_, kq132_⟩
            · have hq139_ := (show ((1 : Int32)).toInt = _ from l_1)
              refine T_qc (t_X4_readCondition hn hr (1 : Int32) mv126 gq130_ (i_rng (lo := 0) (hi := 6) l_1 (by omega) (by omega)) (by have e0 : ((1 : Int32)).toInt = _ := l_1; omega)) ?_
              rintro rv137 mv138 ⟨hq140_, hq141_, hq142_, gq143_, kq144_⟩
              have hq145_ := r_1_2 gq130_
              have hq146_ := rw_0_6 hr gq130_
              have kq147_ := Sm.call kq132_ kq144_ rfl
              have hq148_ : (mv138 1 2).toInt = (mv126 1 2).toInt := by rw [kq144_ 1 2 (by decide)]
              have hq149_ := r_1_3 gq143_
              have hq150_ := rw_0_6 hr gq143_
              have hq151_ := r_1_2 gq143_
              refine T_eq rfl l_0 (fun hq152_ => ?_) (fun hq152_ => ?_)
              · exact T_ret ⟨(i_rng (lo := 0) (hi := 1) l_0 (by omega) (by omega)), (by have e9 : ((0 : Int32)).toInt = _ := l_0; omega), gq143_, kq147_⟩
              · have hq155_ := (show ((41 : Int32)).toInt = _ from l_41)
                refine T_qc (t_X9_mustTake hn (41 : Int32) mv138 gq143_ (i_rng (lo := 0) (hi := 255) l_41 (by omega) (by omega))) ?_
                rintro rv153 mv154 ⟨hq156_, hq157_, gq158_, kq159_⟩
                have kq160_ := Sm.call kq147_ kq159_ rfl
                have hq161_ : (mv154 r 6).toInt = (mv138 r 6).toInt := by rw [kq159_ r 6 (outl (lawin hr).1 rfl)]
                have hq162_ : (mv154 1 2).toInt = (mv138 1 2).toInt := by rw [kq159_ 1 2 (by decide)]
                have hq163_ := r_1_3 gq158_
                refine T_eq rfl l_0 (fun hq164_ => ?_) (fun hq164_ => ?_)
                · exact T_ret ⟨(i_rng (lo := 0) (hi := 1) l_0 (by omega) (by omega)), (by have e9 : ((0 : Int32)).toInt = _ := l_0; omega), gq158_, kq160_⟩
                · refine T_qc (t_X3_addClause hn hr rv4 xv104 xv123 mv154 gq158_ (i_rng (lo := 0) (hi := 240) rfl (by omega) (by omega)) (i_rng (lo := 0) (hi := 240) rfl (by omega) (by omega))) ?_
                  rintro rv165 mv166 ⟨hq167_, hq168_, gq169_, kq170_⟩
                  have kq171_ := Sm.call kq160_ kq170_ rfl
                  have hq172_ : (mv166 1 2).toInt = (mv154 1 2).toInt := by rw [kq170_ 1 2 (by decide)]
                  have hq173_ : (mv166 1 3).toInt = (mv154 1 3).toInt := by rw [kq170_ 1 3 (by decide)]
                  have hq174_ := rw_0_6 hr gq169_
                  exact T_ret ⟨(i_rng (lo := 0) (hi := 1) l_1 (by omega) (by omega)), (by have e9 : ((1 : Int32)).toInt = _ := l_1; omega), gq169_, kq171_⟩
      · refine T_qc (t_X9_fails hn (4 : Int32) (M 1 3) M hG (i_rng (lo := 1) (hi := 6) l_4 (by omega) (by omega)) (i_rng (lo := 0) (hi := 240) rfl (by omega) (by omega))) ?_
        rintro rv175 mv176 ⟨hq177_, gq178_, kq179_⟩
        have kq180_ := Sm.call hS kq179_ rfl
        have hq181_ : (mv176 r 6).toInt = (M r 6).toInt := by rw [kq179_ r 6 (outl (lawin hr).1 rfl)]
        have hq182_ : (mv176 r 7).toInt = (M r 7).toInt := by rw [kq179_ r 7 (outl (lawin hr).1 rfl)]
        have hq183_ : (mv176 1 3).toInt = (M 1 3).toInt := by rw [kq179_ 1 3 (by decide)]
        have hq184_ : (mv176 1 2).toInt = (M 1 2).toInt := by rw [kq179_ 1 2 (by decide)]
        refine T_qb rfl (by omega) (by omega) ?_
        exact T_ret ⟨(i_rng (lo := 0) (hi := 1) rfl (by omega) (by omega)), (by have e9 : (rv175).toInt = _ := rfl; omega), gq178_, kq180_⟩
    · refine T_eq rfl l_102 (fun hq185_ => ?_) (fun hq185_ => ?_)
      · unfold f_X4_readClause_48
        have hq186_ := rw_0_7 hr hG
        refine T_lt rfl l_16 (fun hq187_ => ?_) (fun hq187_ => ?_)
        · refine T_mu hG hS (i_rng (lo := 0) (hi := 240) (i_add rfl l_1 (by omega) (by omega)) (by omega) (by omega)) (nw_1 _) (i := 0) rfl ⟨by decide, by decide, Or.inr ⟨by decide, by decide⟩⟩ ?_
          intro mv188 hq189_ gq190_ kq191_
          have hq192_ : (mv188 1 2).toInt = (M 1 2).toInt := by rw [hq189_, mu_ne (Or.inr (by decide))]
          have hq193_ : (mv188 r 6).toInt = (M r 6).toInt := by rw [hq189_, mu_ne (Or.inl (lawne hr (by decide)).1)]
          have hq194_ : (mv188 r 7).toInt = (M r 7).toInt := by rw [hq189_, mu_ne (Or.inl (lawne hr (by decide)).1)]
          have hq195_ : (mv188 1 3).toInt = ((M 1 3).toInt + 1) := by rw [hq189_, mu_at]; exact (i_add rfl l_1 (by omega) (by omega))
          have hq196_ := rw_0_6 hr gq190_
          refine T_ql rfl ?_
          intro xv197 hq198_
          refine T_eq rfl l_97 (fun hq199_ => ?_) (fun hq199_ => ?_)
          · exfalso; omega
          · have hq202_ := (show ((0 : Int32)).toInt = _ from l_0)
            refine T_qc (t_X4_readSum hn hr (0 : Int32) mv188 gq190_ (i_rng (lo := 0) (hi := 6) l_0 (by omega) (by omega)) (by have e0 : ((0 : Int32)).toInt = _ := l_0; omega)) ?_
            rintro rv200 mv201 ⟨hq203_, hq204_, hq205_, gq206_, kq207_⟩
            have hq208_ := r_1_3 gq190_
            have hq209_ := r_1_2 gq190_
            have kq210_ := Sm.call kq191_ kq207_ rfl
            have hq211_ : (mv201 1 2).toInt = (mv188 1 2).toInt := by rw [kq207_ 1 2 (by decide)]
            have hq212_ := r_1_3 gq206_
            have hq213_ := rw_0_6 hr gq206_
            have hq214_ := r_1_2 gq206_
            refine T_eq rfl l_0 (fun hq215_ => ?_) (fun hq215_ => ?_)
            · exact T_ret ⟨(i_rng (lo := 0) (hi := 1) l_0 (by omega) (by omega)), (by have e9 : ((0 : Int32)).toInt = _ := l_0; omega), gq206_, kq210_⟩
            · unfold f_X4_readClause_113
              refine T_ql rfl ?_
              intro xv216 hq217_
              have hq220_ := (show ((40 : Int32)).toInt = _ from l_40)
              refine T_qc (t_X9_mustTake hn (40 : Int32) mv201 gq206_ (i_rng (lo := 0) (hi := 255) l_40 (by omega) (by omega))) ?_
              rintro rv218 mv219 ⟨hq221_, hq222_, gq223_, kq224_⟩
              have kq225_ := Sm.call kq210_ kq224_ rfl
              have hq226_ : (mv219 r 6).toInt = (mv201 r 6).toInt := by rw [kq224_ r 6 (outl (lawin hr).1 rfl)]
              have hq227_ : (mv219 1 2).toInt = (mv201 1 2).toInt := by rw [kq224_ 1 2 (by decide)]
              have hq228_ := r_1_3 gq223_
              refine T_eq rfl l_0 (fun hq229_ => ?_) (fun hq229_ => ?_)
              · exact T_ret ⟨(i_rng (lo := 0) (hi := 1) l_0 (by omega) (by omega)), (by have e9 : ((0 : Int32)).toInt = _ := l_0; omega), gq223_, kq225_⟩
              · have hq232_ := (show ((1 : Int32)).toInt = _ from l_1)
                refine T_qc (t_X4_readCondition hn hr (1 : Int32) mv219 gq223_ (i_rng (lo := 0) (hi := 6) l_1 (by omega) (by omega)) (by have e0 : ((1 : Int32)).toInt = _ := l_1; omega)) ?_
                rintro rv230 mv231 ⟨hq233_, hq234_, hq235_, gq236_, kq237_⟩
                have hq238_ := r_1_2 gq223_
                have hq239_ := rw_0_6 hr gq223_
                have kq240_ := Sm.call kq225_ kq237_ rfl
                have hq241_ : (mv231 1 2).toInt = (mv219 1 2).toInt := by rw [kq237_ 1 2 (by decide)]
                have hq242_ := r_1_3 gq236_
                have hq243_ := rw_0_6 hr gq236_
                have hq244_ := r_1_2 gq236_
                refine T_eq rfl l_0 (fun hq245_ => ?_) (fun hq245_ => ?_)
                · exact T_ret ⟨(i_rng (lo := 0) (hi := 1) l_0 (by omega) (by omega)), (by have e9 : ((0 : Int32)).toInt = _ := l_0; omega), gq236_, kq240_⟩
                · have hq248_ := (show ((41 : Int32)).toInt = _ from l_41)
                  refine T_qc (t_X9_mustTake hn (41 : Int32) mv231 gq236_ (i_rng (lo := 0) (hi := 255) l_41 (by omega) (by omega))) ?_
                  rintro rv246 mv247 ⟨hq249_, hq250_, gq251_, kq252_⟩
                  have kq253_ := Sm.call kq240_ kq252_ rfl
                  have hq254_ : (mv247 r 6).toInt = (mv231 r 6).toInt := by rw [kq252_ r 6 (outl (lawin hr).1 rfl)]
                  have hq255_ : (mv247 1 2).toInt = (mv231 1 2).toInt := by rw [kq252_ 1 2 (by decide)]
                  have hq256_ := r_1_3 gq251_
                  refine T_eq rfl l_0 (fun hq257_ => ?_) (fun hq257_ => ?_)
                  · exact T_ret ⟨(i_rng (lo := 0) (hi := 1) l_0 (by omega) (by omega)), (by have e9 : ((0 : Int32)).toInt = _ := l_0; omega), gq251_, kq253_⟩
                  · refine T_qc (t_X3_addClause hn hr rv4 xv197 xv216 mv247 gq251_ (i_rng (lo := 0) (hi := 240) rfl (by omega) (by omega)) (i_rng (lo := 0) (hi := 240) rfl (by omega) (by omega))) ?_
                    rintro rv258 mv259 ⟨hq260_, hq261_, gq262_, kq263_⟩
                    have kq264_ := Sm.call kq253_ kq263_ rfl
                    have hq265_ : (mv259 1 2).toInt = (mv247 1 2).toInt := by rw [kq263_ 1 2 (by decide)]
                    have hq266_ : (mv259 1 3).toInt = (mv247 1 3).toInt := by rw [kq263_ 1 3 (by decide)]
                    have hq267_ := rw_0_6 hr gq262_
                    exact T_ret ⟨(i_rng (lo := 0) (hi := 1) l_1 (by omega) (by omega)), (by have e9 : ((1 : Int32)).toInt = _ := l_1; omega), gq262_, kq264_⟩
        · refine T_qc (t_X9_fails hn (4 : Int32) (M 1 3) M hG (i_rng (lo := 1) (hi := 6) l_4 (by omega) (by omega)) (i_rng (lo := 0) (hi := 240) rfl (by omega) (by omega))) ?_
          rintro rv268 mv269 ⟨hq270_, gq271_, kq272_⟩
          have kq273_ := Sm.call hS kq272_ rfl
          have hq274_ : (mv269 r 6).toInt = (M r 6).toInt := by rw [kq272_ r 6 (outl (lawin hr).1 rfl)]
          have hq275_ : (mv269 r 7).toInt = (M r 7).toInt := by rw [kq272_ r 7 (outl (lawin hr).1 rfl)]
          have hq276_ : (mv269 1 3).toInt = (M 1 3).toInt := by rw [kq272_ 1 3 (by decide)]
          have hq277_ : (mv269 1 2).toInt = (M 1 2).toInt := by rw [kq272_ 1 2 (by decide)]
          refine T_qb rfl (by omega) (by omega) ?_
          exact T_ret ⟨(i_rng (lo := 0) (hi := 1) rfl (by omega) (by omega)), (by have e9 : (rv268).toInt = _ := rfl; omega), gq271_, kq273_⟩
      · refine T_eq rfl l_99 (fun hq278_ => ?_) (fun hq278_ => ?_)
        · unfold f_X4_readClause_48
          have hq279_ := rw_0_7 hr hG
          refine T_lt rfl l_16 (fun hq280_ => ?_) (fun hq280_ => ?_)
          · refine T_mu hG hS (i_rng (lo := 0) (hi := 240) (i_add rfl l_1 (by omega) (by omega)) (by omega) (by omega)) (nw_1 _) (i := 0) rfl ⟨by decide, by decide, Or.inr ⟨by decide, by decide⟩⟩ ?_
            intro mv281 hq282_ gq283_ kq284_
            have hq285_ : (mv281 1 2).toInt = (M 1 2).toInt := by rw [hq282_, mu_ne (Or.inr (by decide))]
            have hq286_ : (mv281 r 6).toInt = (M r 6).toInt := by rw [hq282_, mu_ne (Or.inl (lawne hr (by decide)).1)]
            have hq287_ : (mv281 r 7).toInt = (M r 7).toInt := by rw [hq282_, mu_ne (Or.inl (lawne hr (by decide)).1)]
            have hq288_ : (mv281 1 3).toInt = ((M 1 3).toInt + 1) := by rw [hq282_, mu_at]; exact (i_add rfl l_1 (by omega) (by omega))
            have hq289_ := rw_0_6 hr gq283_
            refine T_ql rfl ?_
            intro xv290 hq291_
            refine T_eq rfl l_97 (fun hq292_ => ?_) (fun hq292_ => ?_)
            · exfalso; omega
            · have hq295_ := (show ((0 : Int32)).toInt = _ from l_0)
              refine T_qc (t_X4_readSum hn hr (0 : Int32) mv281 gq283_ (i_rng (lo := 0) (hi := 6) l_0 (by omega) (by omega)) (by have e0 : ((0 : Int32)).toInt = _ := l_0; omega)) ?_
              rintro rv293 mv294 ⟨hq296_, hq297_, hq298_, gq299_, kq300_⟩
              have hq301_ := r_1_3 gq283_
              have hq302_ := r_1_2 gq283_
              have kq303_ := Sm.call kq284_ kq300_ rfl
              have hq304_ : (mv294 1 2).toInt = (mv281 1 2).toInt := by rw [kq300_ 1 2 (by decide)]
              have hq305_ := r_1_3 gq299_
              have hq306_ := rw_0_6 hr gq299_
              have hq307_ := r_1_2 gq299_
              refine T_eq rfl l_0 (fun hq308_ => ?_) (fun hq308_ => ?_)
              · exact T_ret ⟨(i_rng (lo := 0) (hi := 1) l_0 (by omega) (by omega)), (by have e9 : ((0 : Int32)).toInt = _ := l_0; omega), gq299_, kq303_⟩
              · unfold f_X4_readClause_113
                refine T_ql rfl ?_
                intro xv309 hq310_
                have hq313_ := (show ((40 : Int32)).toInt = _ from l_40)
                refine T_qc (t_X9_mustTake hn (40 : Int32) mv294 gq299_ (i_rng (lo := 0) (hi := 255) l_40 (by omega) (by omega))) ?_
                rintro rv311 mv312 ⟨hq314_, hq315_, gq316_, kq317_⟩
                have kq318_ := Sm.call kq303_ kq317_ rfl
                have hq319_ : (mv312 r 6).toInt = (mv294 r 6).toInt := by rw [kq317_ r 6 (outl (lawin hr).1 rfl)]
                have hq320_ : (mv312 1 2).toInt = (mv294 1 2).toInt := by rw [kq317_ 1 2 (by decide)]
                have hq321_ := r_1_3 gq316_
                refine T_eq rfl l_0 (fun hq322_ => ?_) (fun hq322_ => ?_)
                · exact T_ret ⟨(i_rng (lo := 0) (hi := 1) l_0 (by omega) (by omega)), (by have e9 : ((0 : Int32)).toInt = _ := l_0; omega), gq316_, kq318_⟩
                · have hq325_ := (show ((1 : Int32)).toInt = _ from l_1)
                  refine T_qc (t_X4_readCondition hn hr (1 : Int32) mv312 gq316_ (i_rng (lo := 0) (hi := 6) l_1 (by omega) (by omega)) (by have e0 : ((1 : Int32)).toInt = _ := l_1; omega)) ?_
                  rintro rv323 mv324 ⟨hq326_, hq327_, hq328_, gq329_, kq330_⟩
                  have hq331_ := r_1_2 gq316_
                  have hq332_ := rw_0_6 hr gq316_
                  have kq333_ := Sm.call kq318_ kq330_ rfl
                  have hq334_ : (mv324 1 2).toInt = (mv312 1 2).toInt := by rw [kq330_ 1 2 (by decide)]
                  have hq335_ := r_1_3 gq329_
                  have hq336_ := rw_0_6 hr gq329_
                  have hq337_ := r_1_2 gq329_
                  refine T_eq rfl l_0 (fun hq338_ => ?_) (fun hq338_ => ?_)
                  · exact T_ret ⟨(i_rng (lo := 0) (hi := 1) l_0 (by omega) (by omega)), (by have e9 : ((0 : Int32)).toInt = _ := l_0; omega), gq329_, kq333_⟩
                  · have hq341_ := (show ((41 : Int32)).toInt = _ from l_41)
                    refine T_qc (t_X9_mustTake hn (41 : Int32) mv324 gq329_ (i_rng (lo := 0) (hi := 255) l_41 (by omega) (by omega))) ?_
                    rintro rv339 mv340 ⟨hq342_, hq343_, gq344_, kq345_⟩
                    have kq346_ := Sm.call kq333_ kq345_ rfl
                    have hq347_ : (mv340 r 6).toInt = (mv324 r 6).toInt := by rw [kq345_ r 6 (outl (lawin hr).1 rfl)]
                    have hq348_ : (mv340 1 2).toInt = (mv324 1 2).toInt := by rw [kq345_ 1 2 (by decide)]
                    have hq349_ := r_1_3 gq344_
                    refine T_eq rfl l_0 (fun hq350_ => ?_) (fun hq350_ => ?_)
                    · exact T_ret ⟨(i_rng (lo := 0) (hi := 1) l_0 (by omega) (by omega)), (by have e9 : ((0 : Int32)).toInt = _ := l_0; omega), gq344_, kq346_⟩
                    · refine T_qc (t_X3_addClause hn hr rv4 xv290 xv309 mv340 gq344_ (i_rng (lo := 0) (hi := 240) rfl (by omega) (by omega)) (i_rng (lo := 0) (hi := 240) rfl (by omega) (by omega))) ?_
                      rintro rv351 mv352 ⟨hq353_, hq354_, gq355_, kq356_⟩
                      have kq357_ := Sm.call kq346_ kq356_ rfl
                      have hq358_ : (mv352 1 2).toInt = (mv340 1 2).toInt := by rw [kq356_ 1 2 (by decide)]
                      have hq359_ : (mv352 1 3).toInt = (mv340 1 3).toInt := by rw [kq356_ 1 3 (by decide)]
                      have hq360_ := rw_0_6 hr gq355_
                      exact T_ret ⟨(i_rng (lo := 0) (hi := 1) l_1 (by omega) (by omega)), (by have e9 : ((1 : Int32)).toInt = _ := l_1; omega), gq355_, kq357_⟩
          · refine T_qc (t_X9_fails hn (4 : Int32) (M 1 3) M hG (i_rng (lo := 1) (hi := 6) l_4 (by omega) (by omega)) (i_rng (lo := 0) (hi := 240) rfl (by omega) (by omega))) ?_
            rintro rv361 mv362 ⟨hq363_, gq364_, kq365_⟩
            have kq366_ := Sm.call hS kq365_ rfl
            have hq367_ : (mv362 r 6).toInt = (M r 6).toInt := by rw [kq365_ r 6 (outl (lawin hr).1 rfl)]
            have hq368_ : (mv362 r 7).toInt = (M r 7).toInt := by rw [kq365_ r 7 (outl (lawin hr).1 rfl)]
            have hq369_ : (mv362 1 3).toInt = (M 1 3).toInt := by rw [kq365_ 1 3 (by decide)]
            have hq370_ : (mv362 1 2).toInt = (M 1 2).toInt := by rw [kq365_ 1 2 (by decide)]
            refine T_qb rfl (by omega) (by omega) ?_
            exact T_ret ⟨(i_rng (lo := 0) (hi := 1) rfl (by omega) (by omega)), (by have e9 : (rv361).toInt = _ := rfl; omega), gq364_, kq366_⟩
        · refine T_qc (t_X9_fails hn (1 : Int32) (M 1 3) M hG (i_rng (lo := 1) (hi := 6) l_1 (by omega) (by omega)) (i_rng (lo := 0) (hi := 240) rfl (by omega) (by omega))) ?_
          rintro rv371 mv372 ⟨hq373_, gq374_, kq375_⟩
          have kq376_ := Sm.call hS kq375_ rfl
          have hq377_ : (mv372 r 6).toInt = (M r 6).toInt := by rw [kq375_ r 6 (outl (lawin hr).1 rfl)]
          have hq378_ : (mv372 1 3).toInt = (M 1 3).toInt := by rw [kq375_ 1 3 (by decide)]
          have hq379_ : (mv372 1 2).toInt = (M 1 2).toInt := by rw [kq375_ 1 2 (by decide)]
          refine T_qb rfl (by omega) (by omega) ?_
          exact T_ret ⟨(i_rng (lo := 0) (hi := 1) rfl (by omega) (by omega)), (by have e9 : (rv371).toInt = _ := rfl; omega), gq374_, kq376_⟩

abbrev l_X9_mustEnd : List Bx := [(1, 2, 4, 5)]
abbrev po_X9_mustEnd (M : qM) (v : Int32) (M' : qM) : Prop := (0 ≤ v.toInt ∧ v.toInt ≤ 1) ∧ G M' ∧ Sm l_X9_mustEnd M M'
theorem t_X9_mustEnd {n : Nat} (hn : 200000 ≤ n) (M : qM) (hG : G M) : qT (f_X9_mustEnd n  M) (po_X9_mustEnd  M) := by
  have hS : Sm l_X9_mustEnd M M := Sm.rf
  unfold f_X9_mustEnd
  have hq1_ := r_1_2 hG
  have hq2_ := r_1_3 hG
  refine T_le rfl rfl (fun hq3_ => ?_) (fun hq3_ => ?_)
  · exact T_ret ⟨(i_rng (lo := 0) (hi := 1) l_1 (by omega) (by omega)), hG, hS⟩
  · refine T_qc (t_X9_fails hn (1 : Int32) (M 1 3) M hG (i_rng (lo := 1) (hi := 6) l_1 (by omega) (by omega)) (i_rng (lo := 0) (hi := 240) rfl (by omega) (by omega))) ?_
    rintro rv4 mv5 ⟨hq6_, gq7_, kq8_⟩
    have kq9_ := Sm.call hS kq8_ rfl
    have hq10_ : (mv5 1 3).toInt = (M 1 3).toInt := by rw [kq8_ 1 3 (by decide)]
    have hq11_ : (mv5 1 2).toInt = (M 1 2).toInt := by rw [kq8_ 1 2 (by decide)]
    refine T_eq rfl l_0 (fun hq12_ => ?_) (fun hq12_ => ?_)
    · exact T_ret ⟨(i_rng (lo := 0) (hi := 1) l_0 (by omega) (by omega)), gq7_, kq9_⟩
    · exfalso; omega
abbrev l_X4_read : List Bx := [(1, 2, 2, 5), (37, 53, 0, 0)]
abbrev po_X4_read (a1 : Int32) (M : qM) (v : Int32) (M' : qM) : Prop := G M' ∧ Sm l_X4_read M M'
theorem t_X4_read_17 {n : Nat} (hn : 200000 ≤ n) {r : Nat} (hr : q_isLaw r) {oa1 : Int32} {M0 : qM} : ∀ (m : Nat) (a2 : Int32) (M : qM), G M → Sm l_X4_read M0 M → 0 ≤ a2.toInt ∧ a2.toInt ≤ 17 → ((M 1 3).toInt ≤ (M 1 2).toInt ∧ (M r 6).toInt ≤ (M 1 3).toInt) → 17 - a2.toInt < (m : Int) → qT (f_X4_read_17 n r m a2 M) (po_X4_read oa1 M0) := by
  intro m
  induction m with
  | zero =>
    intro a2 M hG hS i0 hE i4
    have hq2_ := r_1_3 hG
    have hq3_ := r_1_2 hG
    have hq4_ := rw_0_6 hr hG
    exfalso; omega
  | succ m ih =>
    intro a2 M hG hS i0 hE i4
    show qT (b_X4_read_17 n r (f_X4_read_17 n r m) a2 M) _
    unfold b_X4_read_17
    have hq2_ := r_1_3 hG
    have hq3_ := r_1_2 hG
    have hq4_ := rw_0_6 hr hG
    refine T_lt l_16 rfl (fun hq5_ => ?_) (fun hq5_ => ?_)
    · exact T_ret ⟨hG, hS⟩
    · refine T_qc (t_X4_readClause hn hr  M hG (by omega)) ?_
      rintro rv6 mv7 ⟨hq8_, hq9_, gq10_, kq11_⟩
      have kq12_ := Sm.call hS kq11_ rfl
      have hq13_ : (mv7 1 2).toInt = (M 1 2).toInt := by rw [kq11_ 1 2 (by decide)]
      have hq14_ := r_1_3 gq10_
      have hq15_ := rw_0_6 hr gq10_
      have hq16_ := r_1_2 gq10_
      refine T_eq rfl l_0 (fun hq17_ => ?_) (fun hq17_ => ?_)
      · exact T_ret ⟨gq10_, kq12_⟩
      · have hq20_ := (show ((59 : Int32)).toInt = _ from l_59)
        refine T_qc (t_X9_takes hn (59 : Int32) mv7 gq10_ (i_rng (lo := 0) (hi := 255) l_59 (by omega) (by omega))) ?_
        rintro rv18 mv19 ⟨hq21_, hq22_, gq23_, kq24_⟩
        have kq25_ := Sm.call kq12_ kq24_ rfl
        have hq26_ : (mv19 r 6).toInt = (mv7 r 6).toInt := by rw [kq24_ r 6 (outl (lawin hr).1 rfl)]
        have hq27_ : (mv19 1 2).toInt = (mv7 1 2).toInt := by rw [kq24_ 1 2 (by decide)]
        have hq28_ := r_1_3 gq23_
        refine T_eq rfl l_0 (fun hq29_ => ?_) (fun hq29_ => ?_)
        · refine T_qc (t_X9_mustEnd hn  mv19 gq23_ ) ?_
          rintro rv30 mv31 ⟨hq32_, gq33_, kq34_⟩
          have kq35_ := Sm.call kq25_ kq34_ rfl
          have hq36_ : (mv31 r 6).toInt = (mv19 r 6).toInt := by rw [kq34_ r 6 (outl (lawin hr).1 rfl)]
          have hq37_ : (mv31 1 2).toInt = (mv19 1 2).toInt := by rw [kq34_ 1 2 (by decide)]
          have hq38_ : (mv31 1 3).toInt = (mv19 1 3).toInt := by rw [kq34_ 1 3 (by decide)]
          refine T_eq rfl l_0 (fun hq39_ => ?_) (fun hq39_ => ?_)
          · exact T_ret ⟨gq33_, kq35_⟩
          · have hq40_ := rw_0_7 hr gq33_
            exact T_ret ⟨gq33_, kq35_⟩
        · refine T_ql (i_add rfl l_1 (by omega) (by omega)) ?_
          intro xv41 hq42_
          have hq43_ := r_1_2 gq23_
          have hq44_ := rw_0_6 hr gq23_
          exact ih xv41 mv19 gq23_ kq25_ (i_rng (lo := 0) (hi := 17) rfl (by omega) (by omega)) (by omega) (by omega)
theorem t_X4_read {n : Nat} (hn : 200000 ≤ n) {r : Nat} (hr : q_isLaw r) (a1 : Int32) (M : qM) (hG : G M) (pa1 : 1 ≤ a1.toInt ∧ a1.toInt ≤ 240) : qT (f_X4_read n r a1 M) (po_X4_read a1 M) := by
  have hS : Sm l_X4_read M M := Sm.rf
  unfold f_X4_read
  refine T_qc (t_X3_clear hn hr  M hG ) ?_
  rintro rv45 mv46 ⟨hq47_, hq48_, gq49_, kq50_⟩
  have kq51_ := Sm.call hS kq50_ rfl
  have hq52_ := rw_0_6 hr gq49_
  refine T_qc (t_X9_openText hn a1 mv46 gq49_ (i_rng (lo := 1) (hi := 240) rfl (by omega) (by omega))) ?_
  rintro rv53 mv54 ⟨hq55_, hq56_, gq57_, kq58_⟩
  have kq59_ := Sm.call kq51_ kq58_ rfl
  have hq60_ : (mv54 r 6).toInt = (mv46 r 6).toInt := by rw [kq58_ r 6 (outl (lawin hr).1 rfl)]
  have hq61_ := r_1_3 gq57_
  have hq62_ := r_1_2 gq57_
  have hq63_ := rw_0_6 hr gq57_
  exact (t_X4_read_17 hn hr) n (0 : Int32) mv54 gq57_ kq59_ (i_rng (lo := 0) (hi := 17) l_0 (by omega) (by omega)) (by have e0 : ((0 : Int32)).toInt = _ := l_0; omega) (by have e0 : ((0 : Int32)).toInt = _ := l_0; omega)
abbrev l_X9_clear : List Bx := [(1, 2, 1, 2)]
abbrev po_X9_clear (M : qM) (v : Int32) (M' : qM) : Prop := (0 ≤ v.toInt ∧ v.toInt ≤ 0) ∧ ((M' 1 1).toInt = 0) ∧ G M' ∧ Sm l_X9_clear M M'
theorem t_X9_clear {n : Nat} (hn : 200000 ≤ n) (M : qM) (hG : G M) : qT (f_X9_clear n  M) (po_X9_clear  M) := by
  have hS : Sm l_X9_clear M M := Sm.rf
  unfold f_X9_clear
  refine T_mu hG hS (i_rng (lo := 0) (hi := 260) l_0 (by omega) (by omega)) (nw_1 _) (i := 0) rfl ⟨by decide, by decide, Or.inr ⟨by decide, by decide⟩⟩ ?_
  intro mv1 hq2_ gq3_ kq4_
  have hq5_ : (mv1 1 1).toInt = 0 := by rw [hq2_, mu_at]; exact l_0
  exact T_ret ⟨(i_rng (lo := 0) (hi := 0) l_0 (by omega) (by omega)), (by have e9 : (0 : Int32).toInt = _ := l_0; omega), gq3_, kq4_⟩
abbrev l_X12_here : List Bx := []
abbrev po_X12_here (M : qM) (v : Int32) (M' : qM) : Prop := ((-1) ≤ v.toInt ∧ v.toInt ≤ 255) ∧ ((v.toInt = -1 ∧ (M 77 10).toInt ≤ (M 77 9).toInt) ∨ ((M 77 9).toInt < (M 77 10).toInt ∧ v.toInt = ((M 84 (M 77 9).toNatClampNeg) &&& (255 : Int32)).toInt)) ∧ G M' ∧ Sm l_X12_here M M'
theorem t_X12_here {n : Nat} (hn : 200000 ≤ n) (M : qM) (hG : G M) : qT (f_X12_here n  M) (po_X12_here  M) := by
  have hS : Sm l_X12_here M M := Sm.rf
  unfold f_X12_here
  have hq1_ := r_77_9 hG
  have hq2_ := r_77_10 hG
  refine T_le rfl rfl (fun hq3_ => ?_) (fun hq3_ => ?_)
  · exact T_ret ⟨(i_rng (lo := (-1)) (hi := 255) l_m1 (by omega) (by omega)), (by have e9 : ((-1 : Int32)).toInt = _ := l_m1; omega), hG, hS⟩
  · refine T_qg rfl (by omega) (by omega) ?_
    have hq4_ := r_84 hG ((M 77 9).toNatClampNeg)
    have hq5_ := i_and (a := M 84 ((M 77 9).toNatClampNeg)) (b := (255 : Int32)) l_255 (by omega)
    exact T_ret ⟨(i_rng (lo := (-1)) (hi := 255) rfl (by omega) (by omega)), (by have e9 : ((M 84 ((M 77 9).toNatClampNeg)) &&& (255 : Int32)).toInt = _ := rfl; omega), hG, hS⟩
abbrev l_X12_isClause : List Bx := []
abbrev po_X12_isClause (a0 : Int32) (M : qM) (v : Int32) (M' : qM) : Prop := (0 ≤ v.toInt ∧ v.toInt ≤ 1) ∧ (v.toInt = 0 ∨ 0 ≤ a0.toInt) ∧ G M' ∧ Sm l_X12_isClause M M'
theorem t_X12_isClause {n : Nat} (hn : 200000 ≤ n) (a0 : Int32) (M : qM) (hG : G M) : qT (f_X12_isClause n a0 M) (po_X12_isClause a0 M) := by
  have hS : Sm l_X12_isClause M M := Sm.rf
  unfold f_X12_isClause
  refine T_eq rfl l_97 (fun hq1_ => ?_) (fun hq1_ => ?_)
  · exact T_ret ⟨(i_rng (lo := 0) (hi := 1) l_1 (by omega) (by omega)), (by have e9 : ((1 : Int32)).toInt = _ := l_1; omega), hG, hS⟩
  · refine T_eq rfl l_118 (fun hq2_ => ?_) (fun hq2_ => ?_)
    · exact T_ret ⟨(i_rng (lo := 0) (hi := 1) l_1 (by omega) (by omega)), (by have e9 : ((1 : Int32)).toInt = _ := l_1; omega), hG, hS⟩
    · refine T_eq rfl l_102 (fun hq3_ => ?_) (fun hq3_ => ?_)
      · exact T_ret ⟨(i_rng (lo := 0) (hi := 1) l_1 (by omega) (by omega)), (by have e9 : ((1 : Int32)).toInt = _ := l_1; omega), hG, hS⟩
      · refine T_eq rfl l_99 (fun hq4_ => ?_) (fun hq4_ => ?_)
        · exact T_ret ⟨(i_rng (lo := 0) (hi := 1) l_1 (by omega) (by omega)), (by have e9 : ((1 : Int32)).toInt = _ := l_1; omega), hG, hS⟩
        · exact T_ret ⟨(i_rng (lo := 0) (hi := 1) l_0 (by omega) (by omega)), (by have e9 : ((0 : Int32)).toInt = _ := l_0; omega), hG, hS⟩
abbrev l_X12_wrongAt : List Bx := [(77, 78, 11, 12)]
abbrev po_X12_wrongAt (a1 a2 : Int32) (M : qM) (v : Int32) (M' : qM) : Prop := (0 ≤ v.toInt ∧ v.toInt ≤ 0) ∧ G M' ∧ Sm l_X12_wrongAt M M'
theorem t_X12_wrongAt {n : Nat} (hn : 200000 ≤ n) (a1 a2 : Int32) (M : qM) (hG : G M) (pa1 : 1 ≤ a1.toInt ∧ a1.toInt ≤ 6) : qT (f_X12_wrongAt n a1 a2 M) (po_X12_wrongAt a1 a2 M) := by
  have hS : Sm l_X12_wrongAt M M := Sm.rf
  unfold f_X12_wrongAt
  have hq2_ := i_full (a2)
  refine T_mu hG hS (rn_77_11 _) nw_77_11 (i := 0) rfl ⟨by decide, by decide, Or.inr ⟨by decide, by decide⟩⟩ ?_
  intro mv1 hq3_ gq4_ kq5_
  have hq6_ : (mv1 77 11).toInt = (((-1000 : Int32) * a1) - a2).toInt := by rw [hq3_, mu_at]
  exact T_ret ⟨(i_rng (lo := 0) (hi := 0) l_0 (by omega) (by omega)), gq4_, kq5_⟩
abbrev l_X12_isDigit : List Bx := []
abbrev po_X12_isDigit (M : qM) (v : Int32) (M' : qM) : Prop := (0 ≤ v.toInt ∧ v.toInt ≤ 1) ∧ ((v.toInt ≠ 0 ∧ ((M 77 9).toInt < (M 77 10).toInt ∧ 48 ≤ ((M 84 (M 77 9).toNatClampNeg) &&& (255 : Int32)).toInt ∧ ((M 84 (M 77 9).toNatClampNeg) &&& (255 : Int32)).toInt ≤ 57)) ∨ (v.toInt = 0 ∧ ¬ ((M 77 9).toInt < (M 77 10).toInt ∧ 48 ≤ ((M 84 (M 77 9).toNatClampNeg) &&& (255 : Int32)).toInt ∧ ((M 84 (M 77 9).toNatClampNeg) &&& (255 : Int32)).toInt ≤ 57))) ∧ G M' ∧ Sm l_X12_isDigit M M'
theorem t_X12_isDigit {n : Nat} (hn : 200000 ≤ n) (M : qM) (hG : G M) : qT (f_X12_isDigit n  M) (po_X12_isDigit  M) := by
  have hS : Sm l_X12_isDigit M M := Sm.rf
  unfold f_X12_isDigit
  have hq1_ := r_77_9 hG
  have hq2_ := r_77_10 hG
  refine T_qc (t_X12_here hn  M hG ) ?_
  rintro rv3 mv4 ⟨hq5_, hq6_, gq7_, kq8_⟩
  have hq9_ := kq8_.nil
  subst hq9_
  refine T_lt rfl l_48 (fun hq10_ => ?_) (fun hq10_ => ?_)
  · exact T_ret ⟨(i_rng (lo := 0) (hi := 1) l_0 (by omega) (by omega)), (by have e9 : ((0 : Int32)).toInt = _ := l_0; omega), hG, hS⟩
  · refine T_qc (t_X12_here hn  M hG ) ?_
    rintro rv11 mv12 ⟨hq13_, hq14_, gq15_, kq16_⟩
    have hq17_ := kq16_.nil
    subst hq17_
    refine T_lt l_57 rfl (fun hq18_ => ?_) (fun hq18_ => ?_)
    · exact T_ret ⟨(i_rng (lo := 0) (hi := 1) l_0 (by omega) (by omega)), (by have e9 : ((0 : Int32)).toInt = _ := l_0; omega), hG, hS⟩
    · exact T_ret ⟨(i_rng (lo := 0) (hi := 1) l_1 (by omega) (by omega)), (by have e9 : ((1 : Int32)).toInt = _ := l_1; omega), hG, hS⟩
abbrev l_X12_factOf : List Bx := []
abbrev po_X12_factOf (a0 : Int32) (M : qM) (v : Int32) (M' : qM) : Prop := ((-1) ≤ v.toInt ∧ v.toInt ≤ 11) ∧ (v.toInt = -1 ∨ 0 ≤ a0.toInt) ∧ G M' ∧ Sm l_X12_factOf M M'
theorem t_X12_factOf {n : Nat} (hn : 200000 ≤ n) (a0 : Int32) (M : qM) (hG : G M) : qT (f_X12_factOf n a0 M) (po_X12_factOf a0 M) := by
  have hS : Sm l_X12_factOf M M := Sm.rf
  unfold f_X12_factOf
  refine T_sw rfl l_100 (fun hq1_ => ?_) (fun hq1_ => ?_)
  · exact T_ret ⟨(i_rng (lo := (-1)) (hi := 11) l_6 (by omega) (by omega)), (by have e9 : ((6 : Int32)).toInt = _ := l_6; omega), hG, hS⟩
  refine T_sw rfl l_101 (fun hq2_ => ?_) (fun hq2_ => ?_)
  · exact T_ret ⟨(i_rng (lo := (-1)) (hi := 11) l_m1 (by omega) (by omega)), (by have e9 : ((-1 : Int32)).toInt = _ := l_m1; omega), hG, hS⟩
  refine T_sw rfl l_102 (fun hq3_ => ?_) (fun hq3_ => ?_)
  · exact T_ret ⟨(i_rng (lo := (-1)) (hi := 11) l_m1 (by omega) (by omega)), (by have e9 : ((-1 : Int32)).toInt = _ := l_m1; omega), hG, hS⟩
  refine T_sw rfl l_103 (fun hq4_ => ?_) (fun hq4_ => ?_)
  · exact T_ret ⟨(i_rng (lo := (-1)) (hi := 11) l_m1 (by omega) (by omega)), (by have e9 : ((-1 : Int32)).toInt = _ := l_m1; omega), hG, hS⟩
  refine T_sw rfl l_104 (fun hq5_ => ?_) (fun hq5_ => ?_)
  · exact T_ret ⟨(i_rng (lo := (-1)) (hi := 11) l_1 (by omega) (by omega)), (by have e9 : ((1 : Int32)).toInt = _ := l_1; omega), hG, hS⟩
  refine T_sw rfl l_105 (fun hq6_ => ?_) (fun hq6_ => ?_)
  · exact T_ret ⟨(i_rng (lo := (-1)) (hi := 11) l_m1 (by omega) (by omega)), (by have e9 : ((-1 : Int32)).toInt = _ := l_m1; omega), hG, hS⟩
  refine T_sw rfl l_106 (fun hq7_ => ?_) (fun hq7_ => ?_)
  · exact T_ret ⟨(i_rng (lo := (-1)) (hi := 11) l_3 (by omega) (by omega)), (by have e9 : ((3 : Int32)).toInt = _ := l_3; omega), hG, hS⟩
  refine T_sw rfl l_107 (fun hq8_ => ?_) (fun hq8_ => ?_)
  · exact T_ret ⟨(i_rng (lo := (-1)) (hi := 11) l_0 (by omega) (by omega)), (by have e9 : ((0 : Int32)).toInt = _ := l_0; omega), hG, hS⟩
  refine T_sw rfl l_108 (fun hq9_ => ?_) (fun hq9_ => ?_)
  · exact T_ret ⟨(i_rng (lo := (-1)) (hi := 11) l_m1 (by omega) (by omega)), (by have e9 : ((-1 : Int32)).toInt = _ := l_m1; omega), hG, hS⟩
  refine T_sw rfl l_109 (fun hq10_ => ?_) (fun hq10_ => ?_)
  · exact T_ret ⟨(i_rng (lo := (-1)) (hi := 11) l_5 (by omega) (by omega)), (by have e9 : ((5 : Int32)).toInt = _ := l_5; omega), hG, hS⟩
  refine T_sw rfl l_110 (fun hq11_ => ?_) (fun hq11_ => ?_)
  · exact T_ret ⟨(i_rng (lo := (-1)) (hi := 11) l_9 (by omega) (by omega)), (by have e9 : ((9 : Int32)).toInt = _ := l_9; omega), hG, hS⟩
  refine T_sw rfl l_111 (fun hq12_ => ?_) (fun hq12_ => ?_)
  · exact T_ret ⟨(i_rng (lo := (-1)) (hi := 11) l_10 (by omega) (by omega)), (by have e9 : ((10 : Int32)).toInt = _ := l_10; omega), hG, hS⟩
  refine T_sw rfl l_112 (fun hq13_ => ?_) (fun hq13_ => ?_)
  · exact T_ret ⟨(i_rng (lo := (-1)) (hi := 11) l_7 (by omega) (by omega)), (by have e9 : ((7 : Int32)).toInt = _ := l_7; omega), hG, hS⟩
  refine T_sw rfl l_113 (fun hq14_ => ?_) (fun hq14_ => ?_)
  · exact T_ret ⟨(i_rng (lo := (-1)) (hi := 11) l_8 (by omega) (by omega)), (by have e9 : ((8 : Int32)).toInt = _ := l_8; omega), hG, hS⟩
  refine T_sw rfl l_114 (fun hq15_ => ?_) (fun hq15_ => ?_)
  · exact T_ret ⟨(i_rng (lo := (-1)) (hi := 11) l_m1 (by omega) (by omega)), (by have e9 : ((-1 : Int32)).toInt = _ := l_m1; omega), hG, hS⟩
  refine T_sw rfl l_115 (fun hq16_ => ?_) (fun hq16_ => ?_)
  · exact T_ret ⟨(i_rng (lo := (-1)) (hi := 11) l_m1 (by omega) (by omega)), (by have e9 : ((-1 : Int32)).toInt = _ := l_m1; omega), hG, hS⟩
  refine T_sw rfl l_116 (fun hq17_ => ?_) (fun hq17_ => ?_)
  · exact T_ret ⟨(i_rng (lo := (-1)) (hi := 11) l_m1 (by omega) (by omega)), (by have e9 : ((-1 : Int32)).toInt = _ := l_m1; omega), hG, hS⟩
  refine T_sw rfl l_117 (fun hq18_ => ?_) (fun hq18_ => ?_)
  · exact T_ret ⟨(i_rng (lo := (-1)) (hi := 11) l_m1 (by omega) (by omega)), (by have e9 : ((-1 : Int32)).toInt = _ := l_m1; omega), hG, hS⟩
  refine T_sw rfl l_118 (fun hq19_ => ?_) (fun hq19_ => ?_)
  · exact T_ret ⟨(i_rng (lo := (-1)) (hi := 11) l_m1 (by omega) (by omega)), (by have e9 : ((-1 : Int32)).toInt = _ := l_m1; omega), hG, hS⟩
  refine T_sw rfl l_119 (fun hq20_ => ?_) (fun hq20_ => ?_)
  · exact T_ret ⟨(i_rng (lo := (-1)) (hi := 11) l_11 (by omega) (by omega)), (by have e9 : ((11 : Int32)).toInt = _ := l_11; omega), hG, hS⟩
  refine T_sw rfl l_120 (fun hq21_ => ?_) (fun hq21_ => ?_)
  · exact T_ret ⟨(i_rng (lo := (-1)) (hi := 11) l_2 (by omega) (by omega)), (by have e9 : ((2 : Int32)).toInt = _ := l_2; omega), hG, hS⟩
  refine T_sw rfl l_121 (fun hq22_ => ?_) (fun hq22_ => ?_)
  · exact T_ret ⟨(i_rng (lo := (-1)) (hi := 11) l_4 (by omega) (by omega)), (by have e9 : ((4 : Int32)).toInt = _ := l_4; omega), hG, hS⟩
  refine T_sw0 ?_
  exact T_ret ⟨(i_rng (lo := (-1)) (hi := 11) l_m1 (by omega) (by omega)), (by have e9 : ((-1 : Int32)).toInt = _ := l_m1; omega), hG, hS⟩
abbrev l_X12_readsNumber : List Bx := [(77, 78, 9, 10), (77, 78, 11, 13)]
abbrev po_X12_readsNumber (M : qM) (v : Int32) (M' : qM) : Prop := (0 ≤ v.toInt ∧ v.toInt ≤ 1) ∧ (v.toInt = 0 ∨ ((M 77 9).toInt + 1 ≤ (M' 77 9).toInt ∧ (M' 77 9).toInt ≤ (M' 77 10).toInt ∧ 0 ≤ (M' 77 12).toInt ∧ (M' 77 12).toInt ≤ 99999)) ∧ G M' ∧ Sm l_X12_readsNumber M M'
theorem t_X12_readsNumber_10 {n : Nat} (hn : 200000 ≤ n) {M0 : qM} : ∀ (m : Nat) (a1 : Int32) (M : qM), G M → Sm l_X12_readsNumber M0 M → 0 ≤ a1.toInt ∧ a1.toInt ≤ 240 → ((M0 77 9).toInt = a1.toInt ∧ (M 77 9).toInt ≤ (M 77 10).toInt ∧ (((M 77 9).toInt = a1.toInt + 0 ∧ 0 ≤ (M 77 12).toInt ∧ (M 77 12).toInt ≤ 0 ∧ ((M 77 9).toInt < (M 77 10).toInt ∧ 48 ≤ ((M 84 (M 77 9).toNatClampNeg) &&& (255 : Int32)).toInt ∧ ((M 84 (M 77 9).toNatClampNeg) &&& (255 : Int32)).toInt ≤ 57)) ∨ ((M 77 9).toInt = a1.toInt + 1 ∧ 0 ≤ (M 77 12).toInt ∧ (M 77 12).toInt ≤ 9) ∨ ((M 77 9).toInt = a1.toInt + 2 ∧ 0 ≤ (M 77 12).toInt ∧ (M 77 12).toInt ≤ 99) ∨ ((M 77 9).toInt = a1.toInt + 3 ∧ 0 ≤ (M 77 12).toInt ∧ (M 77 12).toInt ≤ 999) ∨ ((M 77 9).toInt = a1.toInt + 4 ∧ 0 ≤ (M 77 12).toInt ∧ (M 77 12).toInt ≤ 9999) ∨ ((M 77 9).toInt = a1.toInt + 5 ∧ 0 ≤ (M 77 12).toInt ∧ (M 77 12).toInt ≤ 99999))) → 240 - (M 77 9).toInt < (m : Int) → qT (f_X12_readsNumber_10 n m a1 M) (po_X12_readsNumber  M0) := by
  intro m
  induction m with
  | zero =>
    intro a1 M hG hS i0 hE i4
    have hq1_ := r_77_9 hG
    have hq2_ := r_77_10 hG
    exfalso; omega
  | succ m ih =>
    intro a1 M hG hS i0 hE i4
    show qT (b_X12_readsNumber_10 n (f_X12_readsNumber_10 n m) a1 M) _
    unfold b_X12_readsNumber_10
    have hq1_ := r_77_9 hG
    have hq2_ := r_77_10 hG
    refine T_qc (t_X12_isDigit hn  M hG ) ?_
    rintro rv3 mv4 ⟨hq5_, hq6_, gq7_, kq8_⟩
    have hq9_ := kq8_.nil
    subst hq9_
    refine T_eq rfl l_0 (fun hq10_ => ?_) (fun hq10_ => ?_)
    · exact T_ret ⟨(i_rng (lo := 0) (hi := 1) l_1 (by omega) (by omega)), (by have e9 : ((1 : Int32)).toInt = _ := l_1; omega), hG, hS⟩
    · refine T_eq rfl (i_add rfl l_5 (by omega) (by omega)) (fun hq11_ => ?_) (fun hq11_ => ?_)
      · refine T_qc (t_X12_wrongAt hn (2 : Int32) (M 77 9) M hG (i_rng (lo := 1) (hi := 6) l_2 (by omega) (by omega))) ?_
        rintro rv12 mv13 ⟨hq14_, gq15_, kq16_⟩
        have kq17_ := Sm.call hS kq16_ rfl
        have hq18_ : (mv13 77 9).toInt = (M 77 9).toInt := by rw [kq16_ 77 9 (by decide)]
        have hq19_ : (mv13 77 10).toInt = (M 77 10).toInt := by rw [kq16_ 77 10 (by decide)]
        have hq20_ : (mv13 77 12).toInt = (M 77 12).toInt := by rw [kq16_ 77 12 (by decide)]
        refine T_qb rfl (by omega) (by omega) ?_
        exact T_ret ⟨(i_rng (lo := 0) (hi := 1) rfl (by omega) (by omega)), (by have e9 : (rv12).toInt = _ := rfl; omega), gq15_, kq17_⟩
      · refine T_qc (t_X12_here hn  M hG ) ?_
        rintro rv21 mv22 ⟨hq23_, hq24_, gq25_, kq26_⟩
        have hq27_ := kq26_.nil
        subst hq27_
        refine T_mu hG hS (rn_77_12 _) nw_77_12 (i := 1) rfl ⟨by decide, by decide, Or.inr ⟨by decide, by decide⟩⟩ ?_
        intro mv28 hq29_ gq30_ kq31_
        have hq32_ : (mv28 77 9).toInt = (M 77 9).toInt := by rw [hq29_, mu_ne (Or.inr (by decide))]
        have hq33_ : (mv28 77 10).toInt = (M 77 10).toInt := by rw [hq29_, mu_ne (Or.inr (by decide))]
        have hq34_ : (mv28 77 12).toInt = (((10 * (M 77 12).toInt) + rv21.toInt) - 48) := by rw [hq29_, mu_at]; exact (i_sub (i_add (i_mul l_10 rfl (by omega) (by omega)) rfl (by omega) (by omega)) l_48 (by omega) (by omega))
        have hq36_ := r_77_9 gq30_
        refine T_mu gq30_ kq31_ (i_rng (lo := 0) (hi := 240) (i_add rfl l_1 (by omega) (by omega)) (by omega) (by omega)) nw_77_9 (i := 0) rfl ⟨by decide, by decide, Or.inr ⟨by decide, by decide⟩⟩ ?_
        intro mv35 hq37_ gq38_ kq39_
        have hq40_ : (mv35 77 10).toInt = (mv28 77 10).toInt := by rw [hq37_, mu_ne (Or.inr (by decide))]
        have hq41_ : (mv35 77 12).toInt = (mv28 77 12).toInt := by rw [hq37_, mu_ne (Or.inr (by decide))]
        have hq42_ : (mv35 77 9).toInt = ((mv28 77 9).toInt + 1) := by rw [hq37_, mu_at]; exact (i_add rfl l_1 (by omega) (by omega))
        have hq43_ := r_77_9 gq38_
        have hq44_ := r_77_10 gq38_
        exact ih a1 mv35 gq38_ kq39_ (i_rng (lo := 0) (hi := 240) rfl (by omega) (by omega)) (by first | omega | (have q1_ : mv35 84 = M 84 := (by rw [hq37_, mu_nc (by decide)]; rw [hq29_, mu_nc (by decide)]); have q2_ : mv35 77 9 = M 77 9 := (by rw [hq37_, mu_ne (Or.inr (by decide))]; rw [hq29_, mu_ne (Or.inr (by decide))]); have q3_ : mv35 77 10 = M 77 10 := (by rw [hq37_, mu_ne (Or.inr (by decide))]; rw [hq29_, mu_ne (Or.inr (by decide))]); rw [q1_, q2_, q3_]; omega)) (by omega)
theorem t_X12_readsNumber {n : Nat} (hn : 200000 ≤ n) (M : qM) (hG : G M) (pe : ((M 77 9).toInt < (M 77 10).toInt ∧ 48 ≤ ((M 84 (M 77 9).toNatClampNeg) &&& (255 : Int32)).toInt ∧ ((M 84 (M 77 9).toNatClampNeg) &&& (255 : Int32)).toInt ≤ 57)) : qT (f_X12_readsNumber n  M) (po_X12_readsNumber  M) := by
  have hS : Sm l_X12_readsNumber M M := Sm.rf
  unfold f_X12_readsNumber
  have hq45_ := r_77_9 hG
  have hq46_ := r_77_10 hG
  refine T_ql rfl ?_
  intro xv47 hq48_
  refine T_mu hG hS (rn_77_12 _) nw_77_12 (i := 1) rfl ⟨by decide, by decide, Or.inr ⟨by decide, by decide⟩⟩ ?_
  intro mv49 hq50_ gq51_ kq52_
  have hq53_ : (mv49 77 9).toInt = (M 77 9).toInt := by rw [hq50_, mu_ne (Or.inr (by decide))]
  have hq54_ : (mv49 77 10).toInt = (M 77 10).toInt := by rw [hq50_, mu_ne (Or.inr (by decide))]
  have hq55_ : (mv49 77 12).toInt = 0 := by rw [hq50_, mu_at]; exact l_0
  have hq56_ := r_77_9 gq51_
  have hq57_ := r_77_10 gq51_
  exact (t_X12_readsNumber_10 hn) n xv47 mv49 gq51_ kq52_ (i_rng (lo := 0) (hi := 240) rfl (by omega) (by omega)) (by first | omega | (have q1_ : mv49 84 = M 84 := (by rw [hq50_, mu_nc (by decide)]); have q2_ : mv49 77 9 = M 77 9 := (by rw [hq50_, mu_ne (Or.inr (by decide))]); have q3_ : mv49 77 10 = M 77 10 := (by rw [hq50_, mu_ne (Or.inr (by decide))]); rw [q1_, q2_, q3_]; omega)) (by omega)
abbrev l_X12_sumSign : List Bx := []
abbrev po_X12_sumSign (a0 : Int32) (M : qM) (v : Int32) (M' : qM) : Prop := ((-1) ≤ v.toInt ∧ v.toInt ≤ 6) ∧ (v.toInt = -1 ∨ (2 ≤ v.toInt ∧ 0 ≤ a0.toInt)) ∧ G M' ∧ Sm l_X12_sumSign M M'
theorem t_X12_sumSign {n : Nat} (hn : 200000 ≤ n) (a0 : Int32) (M : qM) (hG : G M) : qT (f_X12_sumSign n a0 M) (po_X12_sumSign a0 M) := by
  have hS : Sm l_X12_sumSign M M := Sm.rf
  unfold f_X12_sumSign
  refine T_eq rfl l_43 (fun hq1_ => ?_) (fun hq1_ => ?_)
  · exact T_ret ⟨(i_rng (lo := (-1)) (hi := 6) l_2 (by omega) (by omega)), (by have e9 : ((2 : Int32)).toInt = _ := l_2; omega), hG, hS⟩
  · refine T_eq rfl l_45 (fun hq2_ => ?_) (fun hq2_ => ?_)
    · exact T_ret ⟨(i_rng (lo := (-1)) (hi := 6) l_3 (by omega) (by omega)), (by have e9 : ((3 : Int32)).toInt = _ := l_3; omega), hG, hS⟩
    · refine T_eq rfl l_42 (fun hq3_ => ?_) (fun hq3_ => ?_)
      · exact T_ret ⟨(i_rng (lo := (-1)) (hi := 6) l_4 (by omega) (by omega)), (by have e9 : ((4 : Int32)).toInt = _ := l_4; omega), hG, hS⟩
      · refine T_eq rfl l_47 (fun hq4_ => ?_) (fun hq4_ => ?_)
        · exact T_ret ⟨(i_rng (lo := (-1)) (hi := 6) l_5 (by omega) (by omega)), (by have e9 : ((5 : Int32)).toInt = _ := l_5; omega), hG, hS⟩
        · refine T_eq rfl l_37 (fun hq5_ => ?_) (fun hq5_ => ?_)
          · exact T_ret ⟨(i_rng (lo := (-1)) (hi := 6) l_6 (by omega) (by omega)), (by have e9 : ((6 : Int32)).toInt = _ := l_6; omega), hG, hS⟩
          · exact T_ret ⟨(i_rng (lo := (-1)) (hi := 6) l_m1 (by omega) (by omega)), (by have e9 : ((-1 : Int32)).toInt = _ := l_m1; omega), hG, hS⟩
abbrev l_X12_takes : List Bx := [(77, 78, 9, 10), (77, 78, 11, 12)]
abbrev po_X12_takes (a1 : Int32) (M : qM) (v : Int32) (M' : qM) : Prop := (0 ≤ v.toInt ∧ v.toInt ≤ 1) ∧ ((v.toInt = 0 ∧ (M' 77 9).toInt = (M 77 9).toInt) ∨ (v.toInt ≠ 0 ∧ (M' 77 9).toInt = (M 77 9).toInt + 1 ∧ (M 77 9).toInt < (M 77 10).toInt)) ∧ G M' ∧ Sm l_X12_takes M M'
theorem t_X12_takes {n : Nat} (hn : 200000 ≤ n) (a1 : Int32) (M : qM) (hG : G M) (pa1 : 44 ≤ a1.toInt ∧ a1.toInt ≤ 59) : qT (f_X12_takes n a1 M) (po_X12_takes a1 M) := by
  have hS : Sm l_X12_takes M M := Sm.rf
  unfold f_X12_takes
  have hq1_ := r_77_9 hG
  have hq2_ := r_77_10 hG
  refine T_qc (t_X12_here hn  M hG ) ?_
  rintro rv3 mv4 ⟨hq5_, hq6_, gq7_, kq8_⟩
  have hq9_ := kq8_.nil
  subst hq9_
  refine T_eq rfl rfl (fun hq10_ => ?_) (fun hq10_ => ?_)
  · refine T_mu hG hS (i_rng (lo := 0) (hi := 240) (i_add rfl l_1 (by omega) (by omega)) (by omega) (by omega)) nw_77_9 (i := 0) rfl ⟨by decide, by decide, Or.inr ⟨by decide, by decide⟩⟩ ?_
    intro mv11 hq12_ gq13_ kq14_
    have hq15_ : (mv11 77 10).toInt = (M 77 10).toInt := by rw [hq12_, mu_ne (Or.inr (by decide))]
    have hq16_ : (mv11 77 9).toInt = ((M 77 9).toInt + 1) := by rw [hq12_, mu_at]; exact (i_add rfl l_1 (by omega) (by omega))
    exact T_ret ⟨(i_rng (lo := 0) (hi := 1) l_1 (by omega) (by omega)), (by have e9 : ((1 : Int32)).toInt = _ := l_1; omega), gq13_, kq14_⟩
  · refine T_qc (t_X12_wrongAt hn (1 : Int32) (M 77 9) M hG (i_rng (lo := 1) (hi := 6) l_1 (by omega) (by omega))) ?_
    rintro rv17 mv18 ⟨hq19_, gq20_, kq21_⟩
    have kq22_ := Sm.call hS kq21_ rfl
    have hq23_ : (mv18 77 9).toInt = (M 77 9).toInt := by rw [kq21_ 77 9 (by decide)]
    have hq24_ : (mv18 77 10).toInt = (M 77 10).toInt := by rw [kq21_ 77 10 (by decide)]
    refine T_qb rfl (by omega) (by omega) ?_
    exact T_ret ⟨(i_rng (lo := 0) (hi := 1) rfl (by omega) (by omega)), (by have e9 : (rv17).toInt = _ := rfl; omega), gq20_, kq22_⟩
abbrev l_X10_knows_c7 : List Bx := []
abbrev po_X10_knows_c7 (a1 : Int32) (M : qM) (v : Int32) (M' : qM) : Prop := (0 ≤ v.toInt ∧ v.toInt ≤ 1) ∧ ((v.toInt = 1 ∧ (0 ≤ a1.toInt ∧ a1.toInt ≤ 7 ∧ (((M 7 8) >>> (a1 &&& 31)) &&& (1 : Int32)).toInt = 1)) ∨ (v.toInt = 0 ∧ ¬ (0 ≤ a1.toInt ∧ a1.toInt ≤ 7 ∧ (((M 7 8) >>> (a1 &&& 31)) &&& (1 : Int32)).toInt = 1))) ∧ G M' ∧ Sm l_X10_knows_c7 M M'
theorem t_X10_knows_c7 {n : Nat} (hn : 200000 ≤ n) (a1 : Int32) (M : qM) (hG : G M) : qT (f_X10_knows n 7 a1 M) (po_X10_knows_c7 a1 M) := by
  have hS : Sm l_X10_knows_c7 M M := Sm.rf
  unfold f_X10_knows
  try simp only [Nat.reduceAdd]
  refine T_lt rfl l_0 (fun hq1_ => ?_) (fun hq1_ => ?_)
  · exact T_ret ⟨(i_rng (lo := 0) (hi := 1) l_0 (by omega) (by omega)), (by have e9 : ((0 : Int32)).toInt = _ := l_0; omega), hG, hS⟩
  · refine T_le l_8 rfl (fun hq2_ => ?_) (fun hq2_ => ?_)
    · exact T_ret ⟨(i_rng (lo := 0) (hi := 1) l_0 (by omega) (by omega)), (by have e9 : ((0 : Int32)).toInt = _ := l_0; omega), hG, hS⟩
    · have hq3_ := i_and (a := (M 7 8) >>> (a1 &&& 31)) (b := (1 : Int32)) l_1 (by omega)
      refine T_eq rfl l_1 (fun hq4_ => ?_) (fun hq4_ => ?_)
      · exact T_ret ⟨(i_rng (lo := 0) (hi := 1) l_1 (by omega) (by omega)), (by have e9 : ((1 : Int32)).toInt = _ := l_1; omega), hG, hS⟩
      · exact T_ret ⟨(i_rng (lo := 0) (hi := 1) l_0 (by omega) (by omega)), (by have e9 : ((0 : Int32)).toInt = _ := l_0; omega), hG, hS⟩
abbrev l_X6_addStep : List Bx := [(53, 54, 3, 4), (54, 56, 0, 0)]
abbrev po_X6_addStep (a1 a2 : Int32) (M : qM) (v : Int32) (M' : qM) : Prop := (0 ≤ v.toInt ∧ v.toInt ≤ 1) ∧ G M' ∧ Sm l_X6_addStep M M'
theorem t_X6_addStep {n : Nat} (hn : 200000 ≤ n) (a1 a2 : Int32) (M : qM) (hG : G M) : qT (f_X6_addStep n a1 a2 M) (po_X6_addStep a1 a2 M) := by
  have hS : Sm l_X6_addStep M M := Sm.rf
  unfold f_X6_addStep
  have hq1_ := r_53_3 hG
  refine T_lt rfl l_40 (fun hq2_ => ?_) (fun hq2_ => ?_)
  · refine T_qg rfl (by omega) (by omega) ?_
    refine T_mu hG hS (rn_54 _ _) (nw_54 _) (i := 1) rfl ⟨by decide, by decide, Or.inl rfl⟩ ?_
    intro mv3 hq4_ gq5_ kq6_
    have hq7_ : (mv3 53 3).toInt = (M 53 3).toInt := by rw [hq4_, mu_ne (Or.inl (by decide))]
    have hq8_ : (mv3 54 ((M 53 3).toNatClampNeg)).toInt = a1.toInt := by rw [hq4_, mu_at]
    have hq9_ := r_53_3 gq5_
    refine T_qg rfl (by omega) (by omega) ?_
    refine T_mu gq5_ kq6_ (rn_55 _ _) (nw_55 _) (i := 1) rfl ⟨by decide, by decide, Or.inl rfl⟩ ?_
    intro mv10 hq11_ gq12_ kq13_
    have hq14_ : (mv10 53 3).toInt = (mv3 53 3).toInt := by rw [hq11_, mu_ne (Or.inl (by decide))]
    have hq15_ : (mv10 54 ((M 53 3).toNatClampNeg)).toInt = (mv3 54 ((M 53 3).toNatClampNeg)).toInt := by rw [hq11_, mu_ne (Or.inl (by decide))]
    have hq16_ : (mv10 55 ((mv3 53 3).toNatClampNeg)).toInt = a2.toInt := by rw [hq11_, mu_at]
    have hq18_ := r_53_3 gq12_
    refine T_mu gq12_ kq13_ (i_rng (lo := 0) (hi := 40) (i_add rfl l_1 (by omega) (by omega)) (by omega) (by omega)) (nw_53 _) (i := 0) rfl ⟨by decide, by decide, Or.inr ⟨by decide, by decide⟩⟩ ?_
    intro mv17 hq19_ gq20_ kq21_
    have hq22_ : (mv17 54 ((M 53 3).toNatClampNeg)).toInt = (mv10 54 ((M 53 3).toNatClampNeg)).toInt := by rw [hq19_, mu_ne (Or.inl (by decide))]
    have hq23_ : (mv17 55 ((mv3 53 3).toNatClampNeg)).toInt = (mv10 55 ((mv3 53 3).toNatClampNeg)).toInt := by rw [hq19_, mu_ne (Or.inl (by decide))]
    have hq24_ : (mv17 53 3).toInt = ((mv10 53 3).toInt + 1) := by rw [hq19_, mu_at]; exact (i_add rfl l_1 (by omega) (by omega))
    exact T_ret ⟨(i_rng (lo := 0) (hi := 1) l_1 (by omega) (by omega)), gq20_, kq21_⟩
  · exact T_ret ⟨(i_rng (lo := 0) (hi := 1) l_0 (by omega) (by omega)), hG, hS⟩

abbrev l_X6_repeatSteps : List Bx := [(53, 54, 3, 4), (54, 56, 0, 0)]
abbrev po_X6_repeatSteps (a1 a2 : Int32) (M : qM) (v : Int32) (M' : qM) : Prop := (0 ≤ v.toInt ∧ v.toInt ≤ 1) ∧ G M' ∧ Sm l_X6_repeatSteps M M'
theorem t_X6_repeatSteps_17 {n : Nat} (hn : 200000 ≤ n) {oa1 oa2 : Int32} {M0 : qM} {K8 : Int32 → Int32 → Int32 → Int32 → qM → qR} {BK8 : Nat} (hK8 : ∀ (a1 a2 a3 a4 : Int32) (M : qM), G M → Sm l_X6_repeatSteps M0 M → 0 ≤ a1.toInt ∧ a1.toInt ≤ 40 → 2 ≤ a2.toInt ∧ a2.toInt ≤ 9 → 0 ≤ a3.toInt ∧ a3.toInt ≤ 40 → 1 ≤ a4.toInt ∧ a4.toInt ≤ 10 → 10 - a4.toInt < (BK8 : Int) → qT (K8 a1 a2 a3 a4 M) (po_X6_repeatSteps oa1 oa2 M0)) : ∀ (m : Nat) (a1 a2 a3 a4 a5 : Int32) (M : qM), G M → Sm l_X6_repeatSteps M0 M → 0 ≤ a1.toInt ∧ a1.toInt ≤ 40 → 2 ≤ a2.toInt ∧ a2.toInt ≤ 9 → 0 ≤ a3.toInt ∧ a3.toInt ≤ 40 → 1 ≤ a4.toInt ∧ a4.toInt ≤ 9 → 0 ≤ a5.toInt ∧ a5.toInt ≤ 40 → 10 - a4.toInt < (BK8 : Int) + 1 → 40 - a5.toInt < (m : Int) → qT (f_X6_repeatSteps_17 n K8 m a1 a2 a3 a4 a5 M) (po_X6_repeatSteps oa1 oa2 M0) := by
  intro m
  induction m with
  | zero =>
    intro a1 a2 a3 a4 a5 M hG hS i0 i1 i2 i3 i4 i7 i8
    exfalso; omega
  | succ m ih =>
    intro a1 a2 a3 a4 a5 M hG hS i0 i1 i2 i3 i4 i7 i8
    show qT (b_X6_repeatSteps_17 n K8 (f_X6_repeatSteps_17 n K8 m) a1 a2 a3 a4 a5 M) _
    unfold b_X6_repeatSteps_17
    refine T_le rfl rfl (fun hq1_ => ?_) (fun hq1_ => ?_)
    · refine T_ql (i_add rfl l_1 (by omega) (by omega)) ?_
      intro xv2 hq3_
      exact hK8 a1 a2 a3 xv2 M hG hS (i_rng (lo := 0) (hi := 40) rfl (by omega) (by omega)) (i_rng (lo := 2) (hi := 9) rfl (by omega) (by omega)) (i_rng (lo := 0) (hi := 40) rfl (by omega) (by omega)) (i_rng (lo := 1) (hi := 10) rfl (by omega) (by omega)) (by omega)
    · refine T_qg rfl (by omega) (by omega) ?_
      refine T_qg rfl (by omega) (by omega) ?_
      refine T_qc (t_X6_addStep hn (M 54 a5.toNatClampNeg) (M 55 a5.toNatClampNeg) M hG ) ?_
      rintro rv4 mv5 ⟨hq6_, gq7_, kq8_⟩
      have kq9_ := Sm.call hS kq8_ rfl
      refine T_eq rfl l_0 (fun hq10_ => ?_) (fun hq10_ => ?_)
      · exact T_ret ⟨(i_rng (lo := 0) (hi := 1) l_0 (by omega) (by omega)), gq7_, kq9_⟩
      · refine T_ql (i_add rfl l_1 (by omega) (by omega)) ?_
        intro xv11 hq12_
        exact ih a1 a2 a3 a4 xv11 mv5 gq7_ kq9_ (i_rng (lo := 0) (hi := 40) rfl (by omega) (by omega)) (i_rng (lo := 2) (hi := 9) rfl (by omega) (by omega)) (i_rng (lo := 0) (hi := 40) rfl (by omega) (by omega)) (i_rng (lo := 1) (hi := 9) rfl (by omega) (by omega)) (i_rng (lo := 0) (hi := 40) rfl (by omega) (by omega)) (by omega) (by omega)
theorem t_X6_repeatSteps_8 {n : Nat} (hn : 200000 ≤ n) {oa1 oa2 : Int32} {M0 : qM} : ∀ (m : Nat) (a1 a2 a3 a4 : Int32) (M : qM), G M → Sm l_X6_repeatSteps M0 M → 0 ≤ a1.toInt ∧ a1.toInt ≤ 40 → 2 ≤ a2.toInt ∧ a2.toInt ≤ 9 → 0 ≤ a3.toInt ∧ a3.toInt ≤ 40 → 1 ≤ a4.toInt ∧ a4.toInt ≤ 10 → 10 - a4.toInt < (m : Int) → qT (f_X6_repeatSteps_8 n m a1 a2 a3 a4 M) (po_X6_repeatSteps oa1 oa2 M0) := by
  intro m
  induction m with
  | zero =>
    intro a1 a2 a3 a4 M hG hS i0 i1 i2 i3 i6
    exfalso; omega
  | succ m ih =>
    intro a1 a2 a3 a4 M hG hS i0 i1 i2 i3 i6
    show qT (b_X6_repeatSteps_8 n (f_X6_repeatSteps_8 n m) a1 a2 a3 a4 M) _
    unfold b_X6_repeatSteps_8
    refine T_le rfl rfl (fun hq13_ => ?_) (fun hq13_ => ?_)
    · exact T_ret ⟨(i_rng (lo := 0) (hi := 1) l_1 (by omega) (by omega)), hG, hS⟩
    · exact (t_X6_repeatSteps_17 hn ih) n a1 a2 a3 a4 a1 M hG hS (i_rng (lo := 0) (hi := 40) rfl (by omega) (by omega)) (i_rng (lo := 2) (hi := 9) rfl (by omega) (by omega)) (i_rng (lo := 0) (hi := 40) rfl (by omega) (by omega)) (i_rng (lo := 1) (hi := 9) rfl (by omega) (by omega)) (i_rng (lo := 0) (hi := 40) rfl (by omega) (by omega)) (by omega) (by omega)
theorem t_X6_repeatSteps {n : Nat} (hn : 200000 ≤ n) (a1 a2 : Int32) (M : qM) (hG : G M) (pa1 : 0 ≤ a1.toInt ∧ a1.toInt ≤ 40) (pa2 : 2 ≤ a2.toInt ∧ a2.toInt ≤ 9) : qT (f_X6_repeatSteps n a1 a2 M) (po_X6_repeatSteps a1 a2 M) := by
  have hS : Sm l_X6_repeatSteps M M := Sm.rf
  unfold f_X6_repeatSteps
  have hq14_ := r_53_3 hG
  refine T_ql rfl ?_
  intro xv15 hq16_
  exact (t_X6_repeatSteps_8 hn) n a1 a2 xv15 (1 : Int32) M hG hS (i_rng (lo := 0) (hi := 40) rfl (by omega) (by omega)) (i_rng (lo := 2) (hi := 9) rfl (by omega) (by omega)) (i_rng (lo := 0) (hi := 40) rfl (by omega) (by omega)) (i_rng (lo := 1) (hi := 10) l_1 (by omega) (by omega)) (by have e3 : ((1 : Int32)).toInt = _ := l_1; omega)
abbrev l_X6_readTry : List Bx := [(1, 2, 3, 5), (53, 54, 3, 4), (54, 56, 0, 0)]
abbrev po_X6_readTry (M : qM) (v : Int32) (M' : qM) : Prop := (0 ≤ v.toInt ∧ v.toInt ≤ 1) ∧ G M' ∧ Sm l_X6_readTry M M'
theorem t_X6_readTry {n : Nat} (hn : 200000 ≤ n) (M : qM) (hG : G M) : qT (f_X6_readTry n  M) (po_X6_readTry  M) := by
  have hS : Sm l_X6_readTry M M := Sm.rf
  unfold f_X6_readTry
  have hq1_ := r_1_3 hG
  refine T_ql rfl ?_
  intro xv2 hq3_
  refine T_qc (t_X9_digit hn  M hG ) ?_
  rintro rv4 mv5 ⟨hq6_, hq7_, gq8_, kq9_⟩
  have hq10_ := r_1_2 hG
  have hq11_ := r_2 hG ((M 1 3).toNatClampNeg)
  have hq12_ := kq9_.nil
  subst hq12_
  refine T_eq rfl l_m1 (fun hq13_ => ?_) (fun hq13_ => ?_)
  · refine T_qc (t_X9_fails hn (1 : Int32) xv2 M hG (i_rng (lo := 1) (hi := 6) l_1 (by omega) (by omega)) (i_rng (lo := 0) (hi := 240) rfl (by omega) (by omega))) ?_
    rintro rv14 mv15 ⟨hq16_, gq17_, kq18_⟩
    have kq19_ := Sm.call hS kq18_ rfl
    refine T_qb rfl (by omega) (by omega) ?_
    exact T_ret ⟨(i_rng (lo := 0) (hi := 1) rfl (by omega) (by omega)), gq17_, kq19_⟩
  · refine T_mu hG hS (i_rng (lo := 0) (hi := 240) (i_add rfl l_1 (by omega) (by omega)) (by omega) (by omega)) (nw_1 _) (i := 0) rfl ⟨by decide, by decide, Or.inr ⟨by decide, by decide⟩⟩ ?_
    intro mv20 hq21_ gq22_ kq23_
    have hq24_ : (mv20 1 3).toInt = ((M 1 3).toInt + 1) := by rw [hq21_, mu_at]; exact (i_add rfl l_1 (by omega) (by omega))
    refine T_qc (t_X9_digit hn  mv20 gq22_ ) ?_
    rintro rv25 mv26 ⟨hq27_, hq28_, gq29_, kq30_⟩
    have hq31_ := r_1_3 gq22_
    have hq32_ := r_1_2 gq22_
    have hq33_ := r_2 gq22_ ((mv20 1 3).toNatClampNeg)
    have hq34_ := kq30_.nil
    subst hq34_
    refine T_eq rfl l_m1 (fun hq35_ => ?_) (fun hq35_ => ?_)
    · unfold f_X6_readTry_81
      refine T_lt rfl l_12 (fun hq36_ => ?_) (fun hq36_ => ?_)
      · have hq39_ := (show ((38 : Int32)).toInt = _ from l_38)
        refine T_qc (t_X9_takes hn (38 : Int32) mv20 gq22_ (i_rng (lo := 0) (hi := 255) l_38 (by omega) (by omega))) ?_
        rintro rv37 mv38 ⟨hq40_, hq41_, gq42_, kq43_⟩
        have kq44_ := Sm.call kq23_ kq43_ rfl
        have hq45_ := r_1_3 gq42_
        refine T_eq rfl l_0 (fun hq46_ => ?_) (fun hq46_ => ?_)
        · unfold f_X6_readTry_169
          refine T_qc (t_X6_addStep hn rv4 (8 : Int32) mv38 gq42_ ) ?_
          rintro rv47 mv48 ⟨hq49_, gq50_, kq51_⟩
          have kq52_ := Sm.call kq44_ kq51_ rfl
          have hq53_ : (mv48 1 3).toInt = (mv38 1 3).toInt := by rw [kq51_ 1 3 (by decide)]
          refine T_eq rfl l_0 (fun hq54_ => ?_) (fun hq54_ => ?_)
          · refine T_qc (t_X9_fails hn (6 : Int32) xv2 mv48 gq50_ (i_rng (lo := 1) (hi := 6) l_6 (by omega) (by omega)) (i_rng (lo := 0) (hi := 240) rfl (by omega) (by omega))) ?_
            rintro rv55 mv56 ⟨hq57_, gq58_, kq59_⟩
            have kq60_ := Sm.call kq52_ kq59_ rfl
            have hq61_ : (mv56 1 3).toInt = (mv48 1 3).toInt := by rw [kq59_ 1 3 (by decide)]
            refine T_eq rfl l_0 (fun hq62_ => ?_) (fun hq62_ => ?_)
            · exact T_ret ⟨(i_rng (lo := 0) (hi := 1) l_0 (by omega) (by omega)), gq58_, kq60_⟩
            · exfalso; omega
          · exact T_ret ⟨(i_rng (lo := 0) (hi := 1) l_1 (by omega) (by omega)), gq50_, kq52_⟩
        · refine T_qc (t_X9_digit hn  mv38 gq42_ ) ?_
          rintro rv63 mv64 ⟨hq65_, hq66_, gq67_, kq68_⟩
          have hq69_ := r_1_2 gq42_
          have hq70_ := r_2 gq42_ ((mv38 1 3).toNatClampNeg)
          have hq71_ := kq68_.nil
          subst hq71_
          refine T_eq rfl l_m1 (fun hq72_ => ?_) (fun hq72_ => ?_)
          · unfold f_X6_readTry_131
            refine T_eq rfl l_m1 (fun hq73_ => ?_) (fun hq73_ => ?_)
            · unfold f_X6_readTry_145
              refine T_qc (t_X9_fails hn (1 : Int32) (mv38 1 3) mv38 gq42_ (i_rng (lo := 1) (hi := 6) l_1 (by omega) (by omega)) (i_rng (lo := 0) (hi := 240) rfl (by omega) (by omega))) ?_
              rintro rv74 mv75 ⟨hq76_, gq77_, kq78_⟩
              have kq79_ := Sm.call kq44_ kq78_ rfl
              have hq80_ : (mv75 1 3).toInt = (mv38 1 3).toInt := by rw [kq78_ 1 3 (by decide)]
              refine T_qb rfl (by omega) (by omega) ?_
              exact T_ret ⟨(i_rng (lo := 0) (hi := 1) rfl (by omega) (by omega)), gq77_, kq79_⟩
            · exfalso; omega
          · refine T_lt rfl l_8 (fun hq81_ => ?_) (fun hq81_ => ?_)
            · refine T_mu gq42_ kq44_ (i_rng (lo := 0) (hi := 240) (i_add rfl l_1 (by omega) (by omega)) (by omega) (by omega)) (nw_1 _) (i := 0) rfl ⟨by decide, by decide, Or.inr ⟨by decide, by decide⟩⟩ ?_
              intro mv82 hq83_ gq84_ kq85_
              have hq86_ : (mv82 1 3).toInt = ((mv38 1 3).toInt + 1) := by rw [hq83_, mu_at]; exact (i_add rfl l_1 (by omega) (by omega))
              unfold f_X6_readTry_169
              refine T_qc (t_X6_addStep hn rv4 rv63 mv82 gq84_ ) ?_
              rintro rv87 mv88 ⟨hq89_, gq90_, kq91_⟩
              have kq92_ := Sm.call kq85_ kq91_ rfl
              have hq93_ : (mv88 1 3).toInt = (mv82 1 3).toInt := by rw [kq91_ 1 3 (by decide)]
              refine T_eq rfl l_0 (fun hq94_ => ?_) (fun hq94_ => ?_)
              · refine T_qc (t_X9_fails hn (6 : Int32) xv2 mv88 gq90_ (i_rng (lo := 1) (hi := 6) l_6 (by omega) (by omega)) (i_rng (lo := 0) (hi := 240) rfl (by omega) (by omega))) ?_
                rintro rv95 mv96 ⟨hq97_, gq98_, kq99_⟩
                have kq100_ := Sm.call kq92_ kq99_ rfl
                have hq101_ : (mv96 1 3).toInt = (mv88 1 3).toInt := by rw [kq99_ 1 3 (by decide)]
                refine T_eq rfl l_0 (fun hq102_ => ?_) (fun hq102_ => ?_)
                · exact T_ret ⟨(i_rng (lo := 0) (hi := 1) l_0 (by omega) (by omega)), gq98_, kq100_⟩
                · exfalso; omega
              · exact T_ret ⟨(i_rng (lo := 0) (hi := 1) l_1 (by omega) (by omega)), gq90_, kq92_⟩
            · unfold f_X6_readTry_131
              refine T_eq rfl l_m1 (fun hq103_ => ?_) (fun hq103_ => ?_)
              · exfalso; omega
              · unfold f_X6_readTry_145
                refine T_qc (t_X9_fails hn (3 : Int32) (mv38 1 3) mv38 gq42_ (i_rng (lo := 1) (hi := 6) l_3 (by omega) (by omega)) (i_rng (lo := 0) (hi := 240) rfl (by omega) (by omega))) ?_
                rintro rv104 mv105 ⟨hq106_, gq107_, kq108_⟩
                have kq109_ := Sm.call kq44_ kq108_ rfl
                have hq110_ : (mv105 1 3).toInt = (mv38 1 3).toInt := by rw [kq108_ 1 3 (by decide)]
                refine T_qb rfl (by omega) (by omega) ?_
                exact T_ret ⟨(i_rng (lo := 0) (hi := 1) rfl (by omega) (by omega)), gq107_, kq109_⟩
      · exfalso; omega
    · refine T_qc (t_X9_digit hn  mv20 gq22_ ) ?_
      rintro rv111 mv112 ⟨hq113_, hq114_, gq115_, kq116_⟩
      have hq117_ := kq116_.nil
      subst hq117_
      refine T_ql (i_add (i_mul l_10 rfl (by omega) (by omega)) rfl (by omega) (by omega)) ?_
      intro xv118 hq119_
      refine T_mu gq22_ kq23_ (i_rng (lo := 0) (hi := 240) (i_add rfl l_1 (by omega) (by omega)) (by omega) (by omega)) (nw_1 _) (i := 0) rfl ⟨by decide, by decide, Or.inr ⟨by decide, by decide⟩⟩ ?_
      intro mv120 hq121_ gq122_ kq123_
      have hq124_ : (mv120 1 3).toInt = ((mv20 1 3).toInt + 1) := by rw [hq121_, mu_at]; exact (i_add rfl l_1 (by omega) (by omega))
      unfold f_X6_readTry_81
      refine T_lt rfl l_12 (fun hq125_ => ?_) (fun hq125_ => ?_)
      · have hq128_ := (show ((38 : Int32)).toInt = _ from l_38)
        refine T_qc (t_X9_takes hn (38 : Int32) mv120 gq122_ (i_rng (lo := 0) (hi := 255) l_38 (by omega) (by omega))) ?_
        rintro rv126 mv127 ⟨hq129_, hq130_, gq131_, kq132_⟩
        have hq133_ := r_1_3 gq122_
        have hq134_ := r_1_2 gq122_
        have kq135_ := Sm.call kq123_ kq132_ rfl
        have hq136_ := r_1_3 gq131_
        refine T_eq rfl l_0 (fun hq137_ => ?_) (fun hq137_ => ?_)
        · unfold f_X6_readTry_169
          refine T_qc (t_X6_addStep hn xv118 (8 : Int32) mv127 gq131_ ) ?_
          rintro rv138 mv139 ⟨hq140_, gq141_, kq142_⟩
          have kq143_ := Sm.call kq135_ kq142_ rfl
          have hq144_ : (mv139 1 3).toInt = (mv127 1 3).toInt := by rw [kq142_ 1 3 (by decide)]
          refine T_eq rfl l_0 (fun hq145_ => ?_) (fun hq145_ => ?_)
          · refine T_qc (t_X9_fails hn (6 : Int32) xv2 mv139 gq141_ (i_rng (lo := 1) (hi := 6) l_6 (by omega) (by omega)) (i_rng (lo := 0) (hi := 240) rfl (by omega) (by omega))) ?_
            rintro rv146 mv147 ⟨hq148_, gq149_, kq150_⟩
            have kq151_ := Sm.call kq143_ kq150_ rfl
            have hq152_ : (mv147 1 3).toInt = (mv139 1 3).toInt := by rw [kq150_ 1 3 (by decide)]
            refine T_eq rfl l_0 (fun hq153_ => ?_) (fun hq153_ => ?_)
            · exact T_ret ⟨(i_rng (lo := 0) (hi := 1) l_0 (by omega) (by omega)), gq149_, kq151_⟩
            · exfalso; omega
          · exact T_ret ⟨(i_rng (lo := 0) (hi := 1) l_1 (by omega) (by omega)), gq141_, kq143_⟩
        · refine T_qc (t_X9_digit hn  mv127 gq131_ ) ?_
          rintro rv154 mv155 ⟨hq156_, hq157_, gq158_, kq159_⟩
          have hq160_ := r_1_2 gq131_
          have hq161_ := r_2 gq131_ ((mv127 1 3).toNatClampNeg)
          have hq162_ := kq159_.nil
          subst hq162_
          refine T_eq rfl l_m1 (fun hq163_ => ?_) (fun hq163_ => ?_)
          · unfold f_X6_readTry_131
            refine T_eq rfl l_m1 (fun hq164_ => ?_) (fun hq164_ => ?_)
            · unfold f_X6_readTry_145
              refine T_qc (t_X9_fails hn (1 : Int32) (mv127 1 3) mv127 gq131_ (i_rng (lo := 1) (hi := 6) l_1 (by omega) (by omega)) (i_rng (lo := 0) (hi := 240) rfl (by omega) (by omega))) ?_
              rintro rv165 mv166 ⟨hq167_, gq168_, kq169_⟩
              have kq170_ := Sm.call kq135_ kq169_ rfl
              have hq171_ : (mv166 1 3).toInt = (mv127 1 3).toInt := by rw [kq169_ 1 3 (by decide)]
              refine T_qb rfl (by omega) (by omega) ?_
              exact T_ret ⟨(i_rng (lo := 0) (hi := 1) rfl (by omega) (by omega)), gq168_, kq170_⟩
            · exfalso; omega
          · refine T_lt rfl l_8 (fun hq172_ => ?_) (fun hq172_ => ?_)
            · refine T_mu gq131_ kq135_ (i_rng (lo := 0) (hi := 240) (i_add rfl l_1 (by omega) (by omega)) (by omega) (by omega)) (nw_1 _) (i := 0) rfl ⟨by decide, by decide, Or.inr ⟨by decide, by decide⟩⟩ ?_
              intro mv173 hq174_ gq175_ kq176_
              have hq177_ : (mv173 1 3).toInt = ((mv127 1 3).toInt + 1) := by rw [hq174_, mu_at]; exact (i_add rfl l_1 (by omega) (by omega))
              unfold f_X6_readTry_169
              refine T_qc (t_X6_addStep hn xv118 rv154 mv173 gq175_ ) ?_
              rintro rv178 mv179 ⟨hq180_, gq181_, kq182_⟩
              have kq183_ := Sm.call kq176_ kq182_ rfl
              have hq184_ : (mv179 1 3).toInt = (mv173 1 3).toInt := by rw [kq182_ 1 3 (by decide)]
              refine T_eq rfl l_0 (fun hq185_ => ?_) (fun hq185_ => ?_)
              · refine T_qc (t_X9_fails hn (6 : Int32) xv2 mv179 gq181_ (i_rng (lo := 1) (hi := 6) l_6 (by omega) (by omega)) (i_rng (lo := 0) (hi := 240) rfl (by omega) (by omega))) ?_
                rintro rv186 mv187 ⟨hq188_, gq189_, kq190_⟩
                have kq191_ := Sm.call kq183_ kq190_ rfl
                have hq192_ : (mv187 1 3).toInt = (mv179 1 3).toInt := by rw [kq190_ 1 3 (by decide)]
                refine T_eq rfl l_0 (fun hq193_ => ?_) (fun hq193_ => ?_)
                · exact T_ret ⟨(i_rng (lo := 0) (hi := 1) l_0 (by omega) (by omega)), gq189_, kq191_⟩
                · exfalso; omega
              · exact T_ret ⟨(i_rng (lo := 0) (hi := 1) l_1 (by omega) (by omega)), gq181_, kq183_⟩
            · unfold f_X6_readTry_131
              refine T_eq rfl l_m1 (fun hq194_ => ?_) (fun hq194_ => ?_)
              · exfalso; omega
              · unfold f_X6_readTry_145
                refine T_qc (t_X9_fails hn (3 : Int32) (mv127 1 3) mv127 gq131_ (i_rng (lo := 1) (hi := 6) l_3 (by omega) (by omega)) (i_rng (lo := 0) (hi := 240) rfl (by omega) (by omega))) ?_
                rintro rv195 mv196 ⟨hq197_, gq198_, kq199_⟩
                have kq200_ := Sm.call kq135_ kq199_ rfl
                have hq201_ : (mv196 1 3).toInt = (mv127 1 3).toInt := by rw [kq199_ 1 3 (by decide)]
                refine T_qb rfl (by omega) (by omega) ?_
                exact T_ret ⟨(i_rng (lo := 0) (hi := 1) rfl (by omega) (by omega)), gq198_, kq200_⟩
      · refine T_qc (t_X9_fails hn (3 : Int32) xv2 mv120 gq122_ (i_rng (lo := 1) (hi := 6) l_3 (by omega) (by omega)) (i_rng (lo := 0) (hi := 240) rfl (by omega) (by omega))) ?_
        rintro rv202 mv203 ⟨hq204_, gq205_, kq206_⟩
        have kq207_ := Sm.call kq123_ kq206_ rfl
        have hq208_ : (mv203 1 3).toInt = (mv120 1 3).toInt := by rw [kq206_ 1 3 (by decide)]
        refine T_qb rfl (by omega) (by omega) ?_
        exact T_ret ⟨(i_rng (lo := 0) (hi := 1) rfl (by omega) (by omega)), gq205_, kq207_⟩
abbrev l_X6_readStep : List Bx := [(1, 2, 3, 5), (53, 54, 3, 4), (54, 56, 0, 0)]
abbrev po_X6_readStep (a1 : Int32) (M : qM) (v : Int32) (M' : qM) : Prop := (0 ≤ v.toInt ∧ v.toInt ≤ 1) ∧ G M' ∧ Sm l_X6_readStep M M'
abbrev l_X6_readSteps : List Bx := [(1, 2, 3, 5), (53, 54, 3, 4), (54, 56, 0, 0)]
abbrev po_X6_readSteps (a1 : Int32) (M : qM) (v : Int32) (M' : qM) : Prop := (0 ≤ v.toInt ∧ v.toInt ≤ 1) ∧ G M' ∧ Sm l_X6_readSteps M M'
theorem to_X6_readStep {n : Nat} (hn : 200000 ≤ n) {B : Nat} {F_X6_readSteps : Int32 → qM → qR} (hF_X6_readSteps : ∀ (a1 : Int32) (M : qM), G M → 0 ≤ a1.toInt ∧ a1.toInt ≤ 3 → 2 * (3 - a1.toInt) + 1 < (B : Int) → qT (F_X6_readSteps a1 M) (po_X6_readSteps a1 M)) (a1 : Int32) (M : qM) (hG : G M) (pa1 : 0 ≤ a1.toInt ∧ a1.toInt ≤ 3) (hb : 2 * (3 - a1.toInt) < (B : Int) + 1) : qT (fo_X6_readStep n F_X6_readSteps a1 M) (po_X6_readStep a1 M) := by
  have hS : Sm l_X6_readStep M M := Sm.rf
  unfold fo_X6_readStep
  refine T_qc (t_X9_sign hn  M hG ) ?_
  rintro rv1 mv2 ⟨hq3_, hq4_, gq5_, kq6_⟩
  have hq7_ := r_1_3 hG
  have hq8_ := r_1_2 hG
  have hq9_ := r_2 hG ((M 1 3).toNatClampNeg)
  have hq10_ := kq6_.nil
  subst hq10_
  refine T_eq rfl l_40 (fun hq11_ => ?_) (fun hq11_ => ?_)
  · refine T_ql rfl ?_
    intro xv12 hq13_
    have hq14_ := r_53_3 hG
    refine T_ql rfl ?_
    intro xv15 hq16_
    refine T_lt rfl l_3 (fun hq17_ => ?_) (fun hq17_ => ?_)
    · refine T_mu hG hS (i_rng (lo := 0) (hi := 240) (i_add rfl l_1 (by omega) (by omega)) (by omega) (by omega)) (nw_1 _) (i := 0) rfl ⟨by decide, by decide, Or.inr ⟨by decide, by decide⟩⟩ ?_
      intro mv18 hq19_ gq20_ kq21_
      have hq22_ : (mv18 1 3).toInt = ((M 1 3).toInt + 1) := by rw [hq19_, mu_at]; exact (i_add rfl l_1 (by omega) (by omega))
      refine T_qc (hF_X6_readSteps (a1 + (1 : Int32)) mv18 gq20_ (i_rng (lo := 0) (hi := 3) (i_add rfl l_1 (by omega) (by omega)) (by omega) (by omega)) (by have e0 : (a1 + (1 : Int32)).toInt = _ := (i_add rfl l_1 (by omega) (by omega)); omega)) ?_
      rintro rv23 mv24 ⟨hq25_, gq26_, kq27_⟩
      have kq28_ := Sm.call kq21_ kq27_ rfl
      refine T_eq rfl l_0 (fun hq29_ => ?_) (fun hq29_ => ?_)
      · exact T_ret ⟨(i_rng (lo := 0) (hi := 1) l_0 (by omega) (by omega)), gq26_, kq28_⟩
      · have hq32_ := (show ((41 : Int32)).toInt = _ from l_41)
        refine T_qc (t_X9_mustTake hn (41 : Int32) mv24 gq26_ (i_rng (lo := 0) (hi := 255) l_41 (by omega) (by omega))) ?_
        rintro rv30 mv31 ⟨hq33_, hq34_, gq35_, kq36_⟩
        have hq37_ := r_1_3 gq26_
        have hq38_ := r_1_2 gq26_
        have kq39_ := Sm.call kq28_ kq36_ rfl
        have hq40_ := r_1_3 gq35_
        refine T_eq rfl l_0 (fun hq41_ => ?_) (fun hq41_ => ?_)
        · exact T_ret ⟨(i_rng (lo := 0) (hi := 1) l_0 (by omega) (by omega)), gq35_, kq39_⟩
        · refine T_qc (t_X9_digit hn  mv31 gq35_ ) ?_
          rintro rv42 mv43 ⟨hq44_, hq45_, gq46_, kq47_⟩
          have hq48_ := r_1_2 gq35_
          have hq49_ := r_2 gq35_ ((mv31 1 3).toNatClampNeg)
          have hq50_ := kq47_.nil
          subst hq50_
          refine T_le l_2 rfl (fun hq51_ => ?_) (fun hq51_ => ?_)
          · refine T_mu gq35_ kq39_ (i_rng (lo := 0) (hi := 240) (i_add rfl l_1 (by omega) (by omega)) (by omega) (by omega)) (nw_1 _) (i := 0) rfl ⟨by decide, by decide, Or.inr ⟨by decide, by decide⟩⟩ ?_
            intro mv52 hq53_ gq54_ kq55_
            have hq56_ : (mv52 1 3).toInt = ((mv31 1 3).toInt + 1) := by rw [hq53_, mu_at]; exact (i_add rfl l_1 (by omega) (by omega))
            refine T_qc (t_X6_repeatSteps hn xv15 rv42 mv52 gq54_ (i_rng (lo := 0) (hi := 40) rfl (by omega) (by omega)) (i_rng (lo := 2) (hi := 9) rfl (by omega) (by omega))) ?_
            rintro rv57 mv58 ⟨hq59_, gq60_, kq61_⟩
            have kq62_ := Sm.call kq55_ kq61_ rfl
            have hq63_ : (mv58 1 3).toInt = (mv52 1 3).toInt := by rw [kq61_ 1 3 (by decide)]
            refine T_eq rfl l_0 (fun hq64_ => ?_) (fun hq64_ => ?_)
            · refine T_qc (t_X9_fails hn (6 : Int32) xv12 mv58 gq60_ (i_rng (lo := 1) (hi := 6) l_6 (by omega) (by omega)) (i_rng (lo := 0) (hi := 240) rfl (by omega) (by omega))) ?_
              rintro rv65 mv66 ⟨hq67_, gq68_, kq69_⟩
              have kq70_ := Sm.call kq62_ kq69_ rfl
              have hq71_ : (mv66 1 3).toInt = (mv58 1 3).toInt := by rw [kq69_ 1 3 (by decide)]
              refine T_eq rfl l_0 (fun hq72_ => ?_) (fun hq72_ => ?_)
              · exact T_ret ⟨(i_rng (lo := 0) (hi := 1) l_0 (by omega) (by omega)), gq68_, kq70_⟩
              · exfalso; omega
            · exact T_ret ⟨(i_rng (lo := 0) (hi := 1) l_1 (by omega) (by omega)), gq60_, kq62_⟩
          · refine T_qc (t_X9_fails hn (1 : Int32) (mv31 1 3) mv31 gq35_ (i_rng (lo := 1) (hi := 6) l_1 (by omega) (by omega)) (i_rng (lo := 0) (hi := 240) rfl (by omega) (by omega))) ?_
            rintro rv73 mv74 ⟨hq75_, gq76_, kq77_⟩
            have kq78_ := Sm.call kq39_ kq77_ rfl
            have hq79_ : (mv74 1 3).toInt = (mv31 1 3).toInt := by rw [kq77_ 1 3 (by decide)]
            refine T_qb rfl (by omega) (by omega) ?_
            exact T_ret ⟨(i_rng (lo := 0) (hi := 1) rfl (by omega) (by omega)), gq76_, kq78_⟩
    · refine T_qc (t_X9_fails hn (5 : Int32) xv12 M hG (i_rng (lo := 1) (hi := 6) l_5 (by omega) (by omega)) (i_rng (lo := 0) (hi := 240) rfl (by omega) (by omega))) ?_
      rintro rv80 mv81 ⟨hq82_, gq83_, kq84_⟩
      have kq85_ := Sm.call hS kq84_ rfl
      refine T_qb rfl (by omega) (by omega) ?_
      exact T_ret ⟨(i_rng (lo := 0) (hi := 1) rfl (by omega) (by omega)), gq83_, kq85_⟩
  · refine T_qc (t_X6_readTry hn  M hG ) ?_
    rintro rv86 mv87 ⟨hq88_, gq89_, kq90_⟩
    have kq91_ := Sm.call hS kq90_ rfl
    refine T_qb rfl (by omega) (by omega) ?_
    exact T_ret ⟨(i_rng (lo := 0) (hi := 1) rfl (by omega) (by omega)), gq89_, kq91_⟩
theorem t_X6_readSteps_8 {n : Nat} (hn : 200000 ≤ n) {B : Nat} {F_X6_readStep : Int32 → qM → qR} (hF_X6_readStep : ∀ (a1 : Int32) (M : qM), G M → 0 ≤ a1.toInt ∧ a1.toInt ≤ 3 → 2 * (3 - a1.toInt) < (B : Int) → qT (F_X6_readStep a1 M) (po_X6_readStep a1 M)) {oa1 : Int32} {M0 : qM} : ∀ (m : Nat) (a1 a2 a3 : Int32) (M : qM), G M → Sm l_X6_readSteps M0 M → 0 ≤ a1.toInt ∧ a1.toInt ≤ 3 → 0 ≤ a2.toInt ∧ a2.toInt ≤ 1 → 0 ≤ a3.toInt ∧ a3.toInt ≤ 80 → 2 * (3 - a1.toInt) + 1 < (B : Int) + 1 → 80 - a3.toInt < (m : Int) → qT (f_X6_readSteps_8 n F_X6_readStep m a1 a2 a3 M) (po_X6_readSteps oa1 M0) := by
  intro m
  induction m with
  | zero =>
    intro a1 a2 a3 M hG hS i0 i1 i2 i5 i6
    exfalso; omega
  | succ m ih =>
    intro a1 a2 a3 M hG hS i0 i1 i2 i5 i6
    show qT (b_X6_readSteps_8 n F_X6_readStep (f_X6_readSteps_8 n F_X6_readStep m) a1 a2 a3 M) _
    unfold b_X6_readSteps_8
    refine T_le l_80 rfl (fun hq2_ => ?_) (fun hq2_ => ?_)
    · refine T_qb rfl (by omega) (by omega) ?_
      exact T_ret ⟨(i_rng (lo := 0) (hi := 1) rfl (by omega) (by omega)), hG, hS⟩
    · refine T_eq rfl l_0 (fun hq3_ => ?_) (fun hq3_ => ?_)
      · refine T_qb rfl (by omega) (by omega) ?_
        exact T_ret ⟨(i_rng (lo := 0) (hi := 1) rfl (by omega) (by omega)), hG, hS⟩
      · have hq6_ := (show ((44 : Int32)).toInt = _ from l_44)
        refine T_qc (t_X9_takes hn (44 : Int32) M hG (i_rng (lo := 0) (hi := 255) l_44 (by omega) (by omega))) ?_
        rintro rv4 mv5 ⟨hq7_, hq8_, gq9_, kq10_⟩
        have hq11_ := r_1_3 hG
        have hq12_ := r_1_2 hG
        have kq13_ := Sm.call hS kq10_ rfl
        have hq14_ := r_1_3 gq9_
        refine T_eq rfl l_0 (fun hq15_ => ?_) (fun hq15_ => ?_)
        · exact T_ret ⟨(i_rng (lo := 0) (hi := 1) l_1 (by omega) (by omega)), gq9_, kq13_⟩
        · refine T_qc (hF_X6_readStep a1 mv5 gq9_ (i_rng (lo := 0) (hi := 3) rfl (by omega) (by omega)) (by omega)) ?_
          rintro rv16 mv17 ⟨hq18_, gq19_, kq20_⟩
          have kq21_ := Sm.call kq13_ kq20_ rfl
          refine T_ql (i_add rfl l_1 (by omega) (by omega)) ?_
          intro xv22 hq23_
          exact ih a1 rv16 xv22 mv17 gq19_ kq21_ (i_rng (lo := 0) (hi := 3) rfl (by omega) (by omega)) (i_rng (lo := 0) (hi := 1) rfl (by omega) (by omega)) (i_rng (lo := 0) (hi := 80) rfl (by omega) (by omega)) (by omega) (by omega)
theorem to_X6_readSteps {n : Nat} (hn : 200000 ≤ n) {B : Nat} {F_X6_readStep : Int32 → qM → qR} (hF_X6_readStep : ∀ (a1 : Int32) (M : qM), G M → 0 ≤ a1.toInt ∧ a1.toInt ≤ 3 → 2 * (3 - a1.toInt) < (B : Int) → qT (F_X6_readStep a1 M) (po_X6_readStep a1 M)) (a1 : Int32) (M : qM) (hG : G M) (pa1 : 0 ≤ a1.toInt ∧ a1.toInt ≤ 3) (hb : 2 * (3 - a1.toInt) + 1 < (B : Int) + 1) : qT (fo_X6_readSteps n F_X6_readStep a1 M) (po_X6_readSteps a1 M) := by
  have hS : Sm l_X6_readSteps M M := Sm.rf
  unfold fo_X6_readSteps
  refine T_qc (hF_X6_readStep a1 M hG (i_rng (lo := 0) (hi := 3) rfl (by omega) (by omega)) (by omega)) ?_
  rintro rv24 mv25 ⟨hq26_, gq27_, kq28_⟩
  have kq29_ := Sm.call hS kq28_ rfl
  exact (t_X6_readSteps_8 hn hF_X6_readStep) n a1 rv24 (0 : Int32) mv25 gq27_ kq29_ (i_rng (lo := 0) (hi := 3) rfl (by omega) (by omega)) (i_rng (lo := 0) (hi := 1) rfl (by omega) (by omega)) (i_rng (lo := 0) (hi := 80) l_0 (by omega) (by omega)) (by omega) (by have e2 : ((0 : Int32)).toInt = _ := l_0; omega)
theorem trc_X6_readStep {n : Nat} (hn : 200000 ≤ n) : ∀ m : Nat, (∀ (a1 : Int32) (M : qM), G M → 0 ≤ a1.toInt ∧ a1.toInt ≤ 3 → 2 * (3 - a1.toInt) < (m : Int) → qT (rc_X6_readStep n m 0 a1 M) (po_X6_readStep a1 M)) ∧ (∀ (a1 : Int32) (M : qM), G M → 0 ≤ a1.toInt ∧ a1.toInt ≤ 3 → 2 * (3 - a1.toInt) + 1 < (m : Int) → qT (rc_X6_readStep n m 1 a1 M) (po_X6_readSteps a1 M)) := by
  intro m
  induction m with
  | zero =>
    exact ⟨(fun a1 M q0 q1 q2 => by exfalso; omega), (fun a1 M q0 q1 q2 => by exfalso; omega)⟩
  | succ m ih =>
    refine ⟨?_, ?_⟩
    · exact fun a1 M q0 q1 q2 => to_X6_readStep hn (B := m) (ih.2) a1 M q0 q1 (by omega)
    · exact fun a1 M q0 q1 q2 => to_X6_readSteps hn (B := m) (ih.1) a1 M q0 q1 (by omega)
theorem t_X6_readStep {n : Nat} (hn : 200000 ≤ n) (a1 : Int32) (M : qM) (hG : G M) (pa1 : 0 ≤ a1.toInt ∧ a1.toInt ≤ 3) : qT (f_X6_readStep n a1 M) (po_X6_readStep a1 M) := by
  unfold f_X6_readStep
  exact (trc_X6_readStep hn 14).1 a1 M hG pa1 (by omega)
theorem t_X6_readSteps {n : Nat} (hn : 200000 ≤ n) (a1 : Int32) (M : qM) (hG : G M) (pa1 : 0 ≤ a1.toInt ∧ a1.toInt ≤ 3) : qT (f_X6_readSteps n a1 M) (po_X6_readSteps a1 M) := by
  unfold f_X6_readSteps
  exact (trc_X6_readStep hn 14).2 a1 M hG pa1 (by omega)
abbrev l_X6_read : List Bx := [(1, 2, 2, 5), (53, 54, 3, 4), (54, 56, 0, 0)]
abbrev po_X6_read (a1 : Int32) (M : qM) (v : Int32) (M' : qM) : Prop := G M' ∧ Sm l_X6_read M M'
theorem t_X6_read {n : Nat} (hn : 200000 ≤ n) (a1 : Int32) (M : qM) (hG : G M) (pa1 : 1 ≤ a1.toInt ∧ a1.toInt ≤ 80) : qT (f_X6_read n a1 M) (po_X6_read a1 M) := by
  have hS : Sm l_X6_read M M := Sm.rf
  unfold f_X6_read
  refine T_qc (t_X9_openText hn a1 M hG (i_rng (lo := 1) (hi := 240) rfl (by omega) (by omega))) ?_
  rintro rv1 mv2 ⟨hq3_, hq4_, gq5_, kq6_⟩
  have kq7_ := Sm.call hS kq6_ rfl
  have hq8_ := r_1_3 gq5_
  refine T_mu gq5_ kq7_ (i_rng (lo := 0) (hi := 40) l_0 (by omega) (by omega)) (nw_53 _) (i := 1) rfl ⟨by decide, by decide, Or.inr ⟨by decide, by decide⟩⟩ ?_
  intro mv9 hq10_ gq11_ kq12_
  have hq13_ : (mv9 1 3).toInt = (mv2 1 3).toInt := by rw [hq10_, mu_ne (Or.inl (by decide))]
  have hq14_ : (mv9 53 3).toInt = 0 := by rw [hq10_, mu_at]; exact l_0
  refine T_qc (t_X6_readSteps hn (0 : Int32) mv9 gq11_ (i_rng (lo := 0) (hi := 3) l_0 (by omega) (by omega))) ?_
  rintro rv15 mv16 ⟨hq17_, gq18_, kq19_⟩
  have kq20_ := Sm.call kq12_ kq19_ rfl
  refine T_eq rfl l_0 (fun hq21_ => ?_) (fun hq21_ => ?_)
  · exact T_ret ⟨gq18_, kq20_⟩
  · refine T_qc (t_X9_mustEnd hn  mv16 gq18_ ) ?_
    rintro rv22 mv23 ⟨hq24_, gq25_, kq26_⟩
    have kq27_ := Sm.call kq20_ kq26_ rfl
    refine T_eq rfl l_0 (fun hq28_ => ?_) (fun hq28_ => ?_)
    · exact T_ret ⟨gq25_, kq27_⟩
    · have hq29_ := r_53_3 gq25_
      exact T_ret ⟨gq25_, kq27_⟩

