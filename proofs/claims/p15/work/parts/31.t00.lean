abbrev l_X2_knows : List Bx := []
abbrev po_X2_knows (a1 : Int32) (M : qM) (v : Int32) (M' : qM) : Prop := (0 ≤ v.toInt ∧ v.toInt ≤ 1) ∧ (v.toInt = 0 ∨ (0 ≤ a1.toInt ∧ a1.toInt ≤ 11)) ∧ G M' ∧ Sm l_X2_knows M M'
theorem t_X2_knows {n : Nat} (hn : 200000 ≤ n) (a1 : Int32) (M : qM) (hG : G M) : qT (f_X2_knows n a1 M) (po_X2_knows a1 M) := by
  have hS : Sm l_X2_knows M M := Sm.rf
  unfold f_X2_knows
  refine T_lt rfl l_0 (fun hq1_ => ?_) (fun hq1_ => ?_)
  · exact T_ret ⟨(i_rng (lo := 0) (hi := 1) l_0 (by omega) (by omega)), (by have e9 : ((0 : Int32)).toInt = _ := l_0; omega), hG, hS⟩
  · refine T_le l_12 rfl (fun hq2_ => ?_) (fun hq2_ => ?_)
    · exact T_ret ⟨(i_rng (lo := 0) (hi := 1) l_0 (by omega) (by omega)), (by have e9 : ((0 : Int32)).toInt = _ := l_0; omega), hG, hS⟩
    · have hq3_ := i_and (a := (M 3 3) >>> (a1 &&& 31)) (b := (1 : Int32)) l_1 (by omega)
      refine T_eq rfl l_1 (fun hq4_ => ?_) (fun hq4_ => ?_)
      · exact T_ret ⟨(i_rng (lo := 0) (hi := 1) l_1 (by omega) (by omega)), (by have e9 : ((1 : Int32)).toInt = _ := l_1; omega), hG, hS⟩
      · exact T_ret ⟨(i_rng (lo := 0) (hi := 1) l_0 (by omega) (by omega)), (by have e9 : ((0 : Int32)).toInt = _ := l_0; omega), hG, hS⟩
abbrev l_X2_knowsAll : List Bx := []
abbrev po_X2_knowsAll (a1 : Int32) (M : qM) (v : Int32) (M' : qM) : Prop := (0 ≤ v.toInt ∧ v.toInt ≤ 1) ∧ G M' ∧ Sm l_X2_knowsAll M M'
theorem t_X2_knowsAll {n : Nat} (hn : 200000 ≤ n) (a1 : Int32) (M : qM) (hG : G M) : qT (f_X2_knowsAll n a1 M) (po_X2_knowsAll a1 M) := by
  have hS : Sm l_X2_knowsAll M M := Sm.rf
  unfold f_X2_knowsAll
  refine T_eq rfl l_0 (fun hq1_ => ?_) (fun hq1_ => ?_)
  · exact T_ret ⟨(i_rng (lo := 0) (hi := 1) l_1 (by omega) (by omega)), hG, hS⟩
  · exact T_ret ⟨(i_rng (lo := 0) (hi := 1) l_0 (by omega) (by omega)), hG, hS⟩
abbrev l_X2_tell : List Bx := [(3, 4, 3, 4), (4, 7, 0, 0)]
abbrev po_X2_tell (a1 a2 a3 a4 : Int32) (M : qM) (v : Int32) (M' : qM) : Prop := (0 ≤ v.toInt ∧ v.toInt ≤ 1) ∧ G M' ∧ Sm l_X2_tell M M'
theorem t_X2_tell {n : Nat} (hn : 200000 ≤ n) (a1 a2 a3 a4 : Int32) (M : qM) (hG : G M) : qT (f_X2_tell n a1 a2 a3 a4 M) (po_X2_tell a1 a2 a3 a4 M) := by
  have hS : Sm l_X2_tell M M := Sm.rf
  unfold f_X2_tell
  refine T_lt rfl l_0 (fun hq1_ => ?_) (fun hq1_ => ?_)
  · exact T_ret ⟨(i_rng (lo := 0) (hi := 1) l_0 (by omega) (by omega)), hG, hS⟩
  · refine T_le l_12 rfl (fun hq2_ => ?_) (fun hq2_ => ?_)
    · exact T_ret ⟨(i_rng (lo := 0) (hi := 1) l_0 (by omega) (by omega)), hG, hS⟩
    · refine T_qc (t_X2_knows hn a1 M hG ) ?_
      rintro rv3 mv4 ⟨hq5_, hq6_, gq7_, kq8_⟩
      have hq9_ := kq8_.nil
      subst hq9_
      refine T_eq rfl l_0 (fun hq10_ => ?_) (fun hq10_ => ?_)
      · refine T_lt rfl l_1 (fun hq11_ => ?_) (fun hq11_ => ?_)
        · exact T_ret ⟨(i_rng (lo := 0) (hi := 1) l_0 (by omega) (by omega)), hG, hS⟩
        · refine T_le rfl l_12 (fun hq12_ => ?_) (fun hq12_ => ?_)
          · refine T_lt rfl l_0 (fun hq13_ => ?_) (fun hq13_ => ?_)
            · exact T_ret ⟨(i_rng (lo := 0) (hi := 1) l_0 (by omega) (by omega)), hG, hS⟩
            · refine T_lt l_255 rfl (fun hq14_ => ?_) (fun hq14_ => ?_)
              · exact T_ret ⟨(i_rng (lo := 0) (hi := 1) l_0 (by omega) (by omega)), hG, hS⟩
              · refine T_eq rfl l_0 (fun hq15_ => ?_) (fun hq15_ => ?_)
                · refine T_qc (t_X2_knowsAll hn a4 M hG ) ?_
                  rintro rv16 mv17 ⟨hq18_, gq19_, kq20_⟩
                  have hq21_ := kq20_.nil
                  subst hq21_
                  refine T_eq rfl l_0 (fun hq22_ => ?_) (fun hq22_ => ?_)
                  · exact T_ret ⟨(i_rng (lo := 0) (hi := 1) l_0 (by omega) (by omega)), hG, hS⟩
                  · refine T_qg rfl (by omega) (by omega) ?_
                    refine T_mu hG hS (rn_4 _ _) (nw_4 _) (i := 1) rfl ⟨by decide, by decide, Or.inl rfl⟩ ?_
                    intro mv23 hq24_ gq25_ kq26_
                    have hq27_ : (mv23 4 a1.toNatClampNeg).toInt = a2.toInt := by rw [hq24_, mu_at]
                    refine T_qg rfl (by omega) (by omega) ?_
                    refine T_mu gq25_ kq26_ (rn_5 _ _) (nw_5 _) (i := 1) rfl ⟨by decide, by decide, Or.inl rfl⟩ ?_
                    intro mv28 hq29_ gq30_ kq31_
                    have hq32_ : (mv28 4 a1.toNatClampNeg).toInt = (mv23 4 a1.toNatClampNeg).toInt := by rw [hq29_, mu_ne (Or.inl (by decide))]
                    have hq33_ : (mv28 5 a1.toNatClampNeg).toInt = a3.toInt := by rw [hq29_, mu_at]
                    refine T_qg rfl (by omega) (by omega) ?_
                    refine T_mu gq30_ kq31_ (rn_6 _ _) (nw_6 _) (i := 1) rfl ⟨by decide, by decide, Or.inl rfl⟩ ?_
                    intro mv34 hq35_ gq36_ kq37_
                    have hq38_ : (mv34 4 a1.toNatClampNeg).toInt = (mv28 4 a1.toNatClampNeg).toInt := by rw [hq35_, mu_ne (Or.inl (by decide))]
                    have hq39_ : (mv34 5 a1.toNatClampNeg).toInt = (mv28 5 a1.toNatClampNeg).toInt := by rw [hq35_, mu_ne (Or.inl (by decide))]
                    have hq40_ : (mv34 6 a1.toNatClampNeg).toInt = a4.toInt := by rw [hq35_, mu_at]
                    have hq42_ := i_shl1 (c := 11) (k := a1) (by decide) rfl (by omega) (by omega)
                    refine T_mu gq36_ kq37_ (rn_3_3 _) (nw_3 _) (i := 0) rfl ⟨by decide, by decide, Or.inr ⟨by decide, by decide⟩⟩ ?_
                    intro mv41 hq43_ gq44_ kq45_
                    have hq46_ : (mv41 4 a1.toNatClampNeg).toInt = (mv34 4 a1.toNatClampNeg).toInt := by rw [hq43_, mu_ne (Or.inl (by decide))]
                    have hq47_ : (mv41 5 a1.toNatClampNeg).toInt = (mv34 5 a1.toNatClampNeg).toInt := by rw [hq43_, mu_ne (Or.inl (by decide))]
                    have hq48_ : (mv41 6 a1.toNatClampNeg).toInt = (mv34 6 a1.toNatClampNeg).toInt := by rw [hq43_, mu_ne (Or.inl (by decide))]
                    have hq49_ : (mv41 3 3).toInt = ((mv34 3 3) ||| ((1 : Int32) <<< (a1 &&& 31))).toInt := by rw [hq43_, mu_at]
                    exact T_ret ⟨(i_rng (lo := 0) (hi := 1) l_1 (by omega) (by omega)), gq44_, kq45_⟩
                · exact T_ret ⟨(i_rng (lo := 0) (hi := 1) l_0 (by omega) (by omega)), hG, hS⟩
          · exact T_ret ⟨(i_rng (lo := 0) (hi := 1) l_0 (by omega) (by omega)), hG, hS⟩
      · exact T_ret ⟨(i_rng (lo := 0) (hi := 1) l_0 (by omega) (by omega)), hG, hS⟩
abbrev l_X11_kind : List Bx := [(3, 4, 3, 4), (4, 7, 0, 0)]
abbrev po_X11_kind (a1 a2 a3 a4 : Int32) (M : qM) (v : Int32) (M' : qM) : Prop := (0 ≤ v.toInt ∧ v.toInt ≤ 1) ∧ G M' ∧ Sm l_X11_kind M M'
theorem t_X11_kind {n : Nat} (hn : 200000 ≤ n) (a1 a2 a3 a4 : Int32) (M : qM) (hG : G M) : qT (f_X11_kind n a1 a2 a3 a4 M) (po_X11_kind a1 a2 a3 a4 M) := by
  have hS : Sm l_X11_kind M M := Sm.rf
  unfold f_X11_kind
  refine T_qc (t_X2_tell hn a1 a2 a3 a4 M hG ) ?_
  rintro rv1 mv2 ⟨hq3_, gq4_, kq5_⟩
  have kq6_ := Sm.call hS kq5_ rfl
  refine T_qb rfl (by omega) (by omega) ?_
  exact T_ret ⟨(i_rng (lo := 0) (hi := 1) rfl (by omega) (by omega)), gq4_, kq6_⟩
abbrev l_X12_in : List Bx := []
abbrev po_X12_in (a0 a1 a2 : Int32) (M : qM) (v : Int32) (M' : qM) : Prop := (0 ≤ v.toInt ∧ v.toInt ≤ 1) ∧ ((v.toInt = 0 ∧ ¬ (a1.toInt ≤ a0.toInt ∧ a0.toInt ≤ a2.toInt)) ∨ (v.toInt = 1 ∧ a1.toInt ≤ a0.toInt ∧ a0.toInt ≤ a2.toInt)) ∧ G M' ∧ Sm l_X12_in M M'
theorem t_X12_in {n : Nat} (hn : 200000 ≤ n) (a0 a1 a2 : Int32) (M : qM) (hG : G M) (pa1 : 0 ≤ a1.toInt ∧ a1.toInt ≤ 70) (pa2 : 0 ≤ a2.toInt ∧ a2.toInt ≤ 99999) : qT (f_X12_in n a0 a1 a2 M) (po_X12_in a0 a1 a2 M) := by
  have hS : Sm l_X12_in M M := Sm.rf
  unfold f_X12_in
  refine T_lt rfl rfl (fun hq1_ => ?_) (fun hq1_ => ?_)
  · exact T_ret ⟨(i_rng (lo := 0) (hi := 1) l_0 (by omega) (by omega)), (by have e9 : ((0 : Int32)).toInt = _ := l_0; omega), hG, hS⟩
  · refine T_lt rfl rfl (fun hq2_ => ?_) (fun hq2_ => ?_)
    · exact T_ret ⟨(i_rng (lo := 0) (hi := 1) l_0 (by omega) (by omega)), (by have e9 : ((0 : Int32)).toInt = _ := l_0; omega), hG, hS⟩
    · exact T_ret ⟨(i_rng (lo := 0) (hi := 1) l_1 (by omega) (by omega)), (by have e9 : ((1 : Int32)).toInt = _ := l_1; omega), hG, hS⟩
abbrev l_X12_has0 : List Bx := []
abbrev po_X12_has0 (a0 a1 : Int32) (M : qM) (v : Int32) (M' : qM) : Prop := (0 ≤ v.toInt ∧ v.toInt ≤ 1) ∧ (v.toInt = ((a0 >>> (a1 &&& 31)) &&& (1 : Int32)).toInt) ∧ G M' ∧ Sm l_X12_has0 M M'
theorem t_X12_has0 {n : Nat} (hn : 200000 ≤ n) (a0 a1 : Int32) (M : qM) (hG : G M) (pa1 : 0 ≤ a1.toInt ∧ a1.toInt ≤ 11) : qT (f_X12_has0 n a0 a1 M) (po_X12_has0 a0 a1 M) := by
  have hS : Sm l_X12_has0 M M := Sm.rf
  unfold f_X12_has0
  have hq1_ := i_and (a := a0 >>> (a1 &&& 31)) (b := (1 : Int32)) l_1 (by omega)
  refine T_eq rfl l_1 (fun hq2_ => ?_) (fun hq2_ => ?_)
  · exact T_ret ⟨(i_rng (lo := 0) (hi := 1) l_1 (by omega) (by omega)), (by have e9 : ((1 : Int32)).toInt = _ := l_1; omega), hG, hS⟩
  · exact T_ret ⟨(i_rng (lo := 0) (hi := 1) l_0 (by omega) (by omega)), (by have e9 : ((0 : Int32)).toInt = _ := l_0; omega), hG, hS⟩
abbrev l_X12_isKind : List Bx := []
abbrev po_X12_isKind (a1 : Int32) (M : qM) (v : Int32) (M' : qM) : Prop := (0 ≤ v.toInt ∧ v.toInt ≤ 1) ∧ (v.toInt = 0 ∨ (0 ≤ a1.toInt ∧ a1.toInt ≤ 11)) ∧ G M' ∧ Sm l_X12_isKind M M'
theorem t_X12_isKind {n : Nat} (hn : 200000 ≤ n) (a1 : Int32) (M : qM) (hG : G M) : qT (f_X12_isKind n a1 M) (po_X12_isKind a1 M) := by
  have hS : Sm l_X12_isKind M M := Sm.rf
  unfold f_X12_isKind
  refine T_lt rfl l_0 (fun hq1_ => ?_) (fun hq1_ => ?_)
  · exact T_ret ⟨(i_rng (lo := 0) (hi := 1) l_0 (by omega) (by omega)), (by have e9 : ((0 : Int32)).toInt = _ := l_0; omega), hG, hS⟩
  · refine T_le l_12 rfl (fun hq2_ => ?_) (fun hq2_ => ?_)
    · exact T_ret ⟨(i_rng (lo := 0) (hi := 1) l_0 (by omega) (by omega)), (by have e9 : ((0 : Int32)).toInt = _ := l_0; omega), hG, hS⟩
    · refine T_qc (t_X12_has0 hn (M 77 6) a1 M hG (i_rng (lo := 0) (hi := 11) rfl (by omega) (by omega))) ?_
      rintro rv3 mv4 ⟨hq5_, hq6_, gq7_, kq8_⟩
      have hq9_ := kq8_.nil
      subst hq9_
      refine T_eq rfl l_0 (fun hq10_ => ?_) (fun hq10_ => ?_)
      · exact T_ret ⟨(i_rng (lo := 0) (hi := 1) l_0 (by omega) (by omega)), (by have e9 : ((0 : Int32)).toInt = _ := l_0; omega), hG, hS⟩
      · exact T_ret ⟨(i_rng (lo := 0) (hi := 1) l_1 (by omega) (by omega)), (by have e9 : ((1 : Int32)).toInt = _ := l_1; omega), hG, hS⟩
abbrev l_X12_kind : List Bx := [(77, 78, 6, 7), (81, 84, 0, 0)]
abbrev po_X12_kind (a1 a2 a3 a4 : Int32) (M : qM) (v : Int32) (M' : qM) : Prop := (0 ≤ v.toInt ∧ v.toInt ≤ 1) ∧ G M' ∧ Sm l_X12_kind M M'
theorem t_X12_kind {n : Nat} (hn : 200000 ≤ n) (a1 a2 a3 a4 : Int32) (M : qM) (hG : G M) : qT (f_X12_kind n a1 a2 a3 a4 M) (po_X12_kind a1 a2 a3 a4 M) := by
  have hS : Sm l_X12_kind M M := Sm.rf
  unfold f_X12_kind
  have hq3_ := (show ((0 : Int32)).toInt = _ from l_0)
  have hq4_ := (show ((11 : Int32)).toInt = _ from l_11)
  refine T_qc (t_X12_in hn a1 (0 : Int32) (11 : Int32) M hG (i_rng (lo := 0) (hi := 70) l_0 (by omega) (by omega)) (i_rng (lo := 0) (hi := 99999) l_11 (by omega) (by omega))) ?_
  rintro rv1 mv2 ⟨hq5_, hq6_, gq7_, kq8_⟩
  have hq9_ := kq8_.nil
  subst hq9_
  refine T_eq rfl l_0 (fun hq10_ => ?_) (fun hq10_ => ?_)
  · exact T_ret ⟨(i_rng (lo := 0) (hi := 1) l_0 (by omega) (by omega)), hG, hS⟩
  · refine T_qc (t_X12_isKind hn a1 M hG ) ?_
    rintro rv11 mv12 ⟨hq13_, hq14_, gq15_, kq16_⟩
    have hq17_ := kq16_.nil
    subst hq17_
    refine T_eq rfl l_0 (fun hq18_ => ?_) (fun hq18_ => ?_)
    · have hq21_ := (show ((1 : Int32)).toInt = _ from l_1)
      have hq22_ := (show ((12 : Int32)).toInt = _ from l_12)
      refine T_qc (t_X12_in hn a2 (1 : Int32) (12 : Int32) M hG (i_rng (lo := 0) (hi := 70) l_1 (by omega) (by omega)) (i_rng (lo := 0) (hi := 99999) l_12 (by omega) (by omega))) ?_
      rintro rv19 mv20 ⟨hq23_, hq24_, gq25_, kq26_⟩
      have hq27_ := kq26_.nil
      subst hq27_
      refine T_eq rfl l_0 (fun hq28_ => ?_) (fun hq28_ => ?_)
      · exact T_ret ⟨(i_rng (lo := 0) (hi := 1) l_0 (by omega) (by omega)), hG, hS⟩
      · have hq31_ := (show ((255 : Int32)).toInt = _ from l_255)
        refine T_qc (t_X12_in hn a3 (0 : Int32) (255 : Int32) M hG (i_rng (lo := 0) (hi := 70) l_0 (by omega) (by omega)) (i_rng (lo := 0) (hi := 99999) l_255 (by omega) (by omega))) ?_
        rintro rv29 mv30 ⟨hq32_, hq33_, gq34_, kq35_⟩
        have hq36_ := kq35_.nil
        subst hq36_
        refine T_eq rfl l_0 (fun hq37_ => ?_) (fun hq37_ => ?_)
        · exact T_ret ⟨(i_rng (lo := 0) (hi := 1) l_0 (by omega) (by omega)), hG, hS⟩
        · refine T_lt rfl l_0 (fun hq38_ => ?_) (fun hq38_ => ?_)
          · exact T_ret ⟨(i_rng (lo := 0) (hi := 1) l_0 (by omega) (by omega)), hG, hS⟩
          · have hq39_ := i_shl1 (c := 11) (k := a1) (by decide) rfl (by omega) (by omega)
            refine T_le rfl rfl (fun hq40_ => ?_) (fun hq40_ => ?_)
            · exact T_ret ⟨(i_rng (lo := 0) (hi := 1) l_0 (by omega) (by omega)), hG, hS⟩
            · have hq41_ := i_andl (a := a4) (b := (M 77 6) ^^^ (-1 : Int32)) rfl (by omega)
              refine T_eq rfl l_0 (fun hq42_ => ?_) (fun hq42_ => ?_)
              · refine T_mu hG hS (rn_77_6 _) nw_77_6 (i := 0) rfl ⟨by decide, by decide, Or.inr ⟨by decide, by decide⟩⟩ ?_
                intro mv43 hq44_ gq45_ kq46_
                have hq47_ : (mv43 77 6).toInt = ((M 77 6) ||| ((1 : Int32) <<< (a1 &&& 31))).toInt := by rw [hq44_, mu_at]
                refine T_qg rfl (by omega) (by omega) ?_
                refine T_mu gq45_ kq46_ (rn_81 _ _) (nw_81 _) (i := 1) rfl ⟨by decide, by decide, Or.inl rfl⟩ ?_
                intro mv48 hq49_ gq50_ kq51_
                have hq52_ : (mv48 77 6).toInt = (mv43 77 6).toInt := by rw [hq49_, mu_ne (Or.inl (by decide))]
                have hq53_ : (mv48 81 a1.toNatClampNeg).toInt = a2.toInt := by rw [hq49_, mu_at]
                refine T_qg rfl (by omega) (by omega) ?_
                refine T_mu gq50_ kq51_ (rn_82 _ _) (nw_82 _) (i := 1) rfl ⟨by decide, by decide, Or.inl rfl⟩ ?_
                intro mv54 hq55_ gq56_ kq57_
                have hq58_ : (mv54 77 6).toInt = (mv48 77 6).toInt := by rw [hq55_, mu_ne (Or.inl (by decide))]
                have hq59_ : (mv54 81 a1.toNatClampNeg).toInt = (mv48 81 a1.toNatClampNeg).toInt := by rw [hq55_, mu_ne (Or.inl (by decide))]
                have hq60_ : (mv54 82 a1.toNatClampNeg).toInt = a3.toInt := by rw [hq55_, mu_at]
                refine T_qg rfl (by omega) (by omega) ?_
                refine T_mu gq56_ kq57_ (rn_83 _ _) (nw_83 _) (i := 1) rfl ⟨by decide, by decide, Or.inl rfl⟩ ?_
                intro mv61 hq62_ gq63_ kq64_
                have hq65_ : (mv61 77 6).toInt = (mv54 77 6).toInt := by rw [hq62_, mu_ne (Or.inl (by decide))]
                have hq66_ : (mv61 81 a1.toNatClampNeg).toInt = (mv54 81 a1.toNatClampNeg).toInt := by rw [hq62_, mu_ne (Or.inl (by decide))]
                have hq67_ : (mv61 82 a1.toNatClampNeg).toInt = (mv54 82 a1.toNatClampNeg).toInt := by rw [hq62_, mu_ne (Or.inl (by decide))]
                have hq68_ : (mv61 83 a1.toNatClampNeg).toInt = a4.toInt := by rw [hq62_, mu_at]
                exact T_ret ⟨(i_rng (lo := 0) (hi := 1) l_1 (by omega) (by omega)), gq63_, kq64_⟩
              · exact T_ret ⟨(i_rng (lo := 0) (hi := 1) l_0 (by omega) (by omega)), hG, hS⟩
    · exact T_ret ⟨(i_rng (lo := 0) (hi := 1) l_0 (by omega) (by omega)), hG, hS⟩
abbrev l_X11_person : List Bx := [(7, 8, 8, 9), (8, 9, 0, 0)]
abbrev po_X11_person (a1 a2 : Int32) (M : qM) (v : Int32) (M' : qM) : Prop := (0 ≤ v.toInt ∧ v.toInt ≤ 1) ∧ ((v.toInt = 1 ∧ (0 ≤ a1.toInt ∧ a1.toInt ≤ 7 ∧ 0 ≤ a2.toInt ∧ a2.toInt ≤ 99999) ∧ (M' 7 8).toInt = ((M 7 8) ||| ((1 : Int32) <<< (a1 &&& 31))).toInt) ∨ (v.toInt = 0 ∧ ¬ (0 ≤ a1.toInt ∧ a1.toInt ≤ 7 ∧ 0 ≤ a2.toInt ∧ a2.toInt ≤ 99999) ∧ (M' 7 8).toInt = (M 7 8).toInt)) ∧ G M' ∧ Sm l_X11_person M M'
theorem t_X11_person {n : Nat} (hn : 200000 ≤ n) (a1 a2 : Int32) (M : qM) (hG : G M) : qT (f_X11_person n a1 a2 M) (po_X11_person a1 a2 M) := by
  have hS : Sm l_X11_person M M := Sm.rf
  unfold f_X11_person
  refine T_lt rfl l_0 (fun hq1_ => ?_) (fun hq1_ => ?_)
  · exact T_ret ⟨(i_rng (lo := 0) (hi := 1) l_0 (by omega) (by omega)), (by have e9 : ((0 : Int32)).toInt = _ := l_0; omega), hG, hS⟩
  · refine T_le l_8 rfl (fun hq2_ => ?_) (fun hq2_ => ?_)
    · exact T_ret ⟨(i_rng (lo := 0) (hi := 1) l_0 (by omega) (by omega)), (by have e9 : ((0 : Int32)).toInt = _ := l_0; omega), hG, hS⟩
    · refine T_lt rfl l_0 (fun hq3_ => ?_) (fun hq3_ => ?_)
      · exact T_ret ⟨(i_rng (lo := 0) (hi := 1) l_0 (by omega) (by omega)), (by have e9 : ((0 : Int32)).toInt = _ := l_0; omega), hG, hS⟩
      · refine T_le rfl l_99999 (fun hq4_ => ?_) (fun hq4_ => ?_)
        · have hq6_ := i_shl1 (c := 7) (k := a1) (by decide) rfl (by omega) (by omega)
          refine T_mu hG hS (rn_7_8 _) (nw_7 _) (i := 0) rfl ⟨by decide, by decide, Or.inr ⟨by decide, by decide⟩⟩ ?_
          intro mv5 hq7_ gq8_ kq9_
          have hq10_ : (mv5 7 8).toInt = ((M 7 8) ||| ((1 : Int32) <<< (a1 &&& 31))).toInt := by rw [hq7_, mu_at]
          refine T_qg rfl (by omega) (by omega) ?_
          refine T_mu gq8_ kq9_ (rn_8 _ _) (nw_8 _) (i := 1) rfl ⟨by decide, by decide, Or.inl rfl⟩ ?_
          intro mv11 hq12_ gq13_ kq14_
          have hq15_ : (mv11 7 8).toInt = (mv5 7 8).toInt := by rw [hq12_, mu_ne (Or.inl (by decide))]
          have hq16_ : (mv11 8 a1.toNatClampNeg).toInt = a2.toInt := by rw [hq12_, mu_at]
          exact T_ret ⟨(i_rng (lo := 0) (hi := 1) l_1 (by omega) (by omega)), (by have e9 : ((1 : Int32)).toInt = _ := l_1; omega), gq13_, kq14_⟩
        · exact T_ret ⟨(i_rng (lo := 0) (hi := 1) l_0 (by omega) (by omega)), (by have e9 : ((0 : Int32)).toInt = _ := l_0; omega), hG, hS⟩
abbrev l_X12_person : List Bx := [(78, 79, 288, 296), (78, 79, 312, 313)]
abbrev po_X12_person (a1 a2 : Int32) (M : qM) (v : Int32) (M' : qM) : Prop := (0 ≤ v.toInt ∧ v.toInt ≤ 1) ∧ ((v.toInt = 1 ∧ (0 ≤ a1.toInt ∧ a1.toInt ≤ 7 ∧ 0 ≤ a2.toInt ∧ a2.toInt ≤ 99999) ∧ (M' 78 312).toInt = ((M 78 312) ||| ((1 : Int32) <<< (a1 &&& 31))).toInt) ∨ (v.toInt = 0 ∧ ¬ (0 ≤ a1.toInt ∧ a1.toInt ≤ 7 ∧ 0 ≤ a2.toInt ∧ a2.toInt ≤ 99999) ∧ (M' 78 312).toInt = (M 78 312).toInt)) ∧ G M' ∧ Sm l_X12_person M M'
theorem t_X12_person {n : Nat} (hn : 200000 ≤ n) (a1 a2 : Int32) (M : qM) (hG : G M) : qT (f_X12_person n a1 a2 M) (po_X12_person a1 a2 M) := by
  have hS : Sm l_X12_person M M := Sm.rf
  unfold f_X12_person
  have hq3_ := (show ((0 : Int32)).toInt = _ from l_0)
  have hq4_ := (show ((7 : Int32)).toInt = _ from l_7)
  refine T_qc (t_X12_in hn a1 (0 : Int32) (7 : Int32) M hG (i_rng (lo := 0) (hi := 70) l_0 (by omega) (by omega)) (i_rng (lo := 0) (hi := 99999) l_7 (by omega) (by omega))) ?_
  rintro rv1 mv2 ⟨hq5_, hq6_, gq7_, kq8_⟩
  have hq9_ := kq8_.nil
  subst hq9_
  refine T_eq rfl l_0 (fun hq10_ => ?_) (fun hq10_ => ?_)
  · exact T_ret ⟨(i_rng (lo := 0) (hi := 1) l_0 (by omega) (by omega)), (by have e9 : ((0 : Int32)).toInt = _ := l_0; omega), hG, hS⟩
  · have hq13_ := (show ((99999 : Int32)).toInt = _ from l_99999)
    refine T_qc (t_X12_in hn a2 (0 : Int32) (99999 : Int32) M hG (i_rng (lo := 0) (hi := 70) l_0 (by omega) (by omega)) (i_rng (lo := 0) (hi := 99999) l_99999 (by omega) (by omega))) ?_
    rintro rv11 mv12 ⟨hq14_, hq15_, gq16_, kq17_⟩
    have hq18_ := kq17_.nil
    subst hq18_
    refine T_eq rfl l_0 (fun hq19_ => ?_) (fun hq19_ => ?_)
    · exact T_ret ⟨(i_rng (lo := 0) (hi := 1) l_0 (by omega) (by omega)), (by have e9 : ((0 : Int32)).toInt = _ := l_0; omega), hG, hS⟩
    · have hq21_ := i_shl1 (c := 7) (k := a1) (by decide) rfl (by omega) (by omega)
      refine T_mu hG hS (ro78 (by decide) (by decide)) (nw_78 _) (i := 1) rfl ⟨by decide, by decide, Or.inr ⟨by decide, by decide⟩⟩ ?_
      intro mv20 hq22_ gq23_ kq24_
      have hq25_ : (mv20 78 312).toInt = ((M 78 312) ||| ((1 : Int32) <<< (a1 &&& 31))).toInt := by rw [hq22_, mu_at]
      refine T_qg (i_add l_288 rfl (by omega) (by omega)) (by omega) (by omega) ?_
      refine T_mu gq23_ kq24_ (ro78 (by decide) (by rw [tnc, (i_add l_288 rfl (by omega) (by omega))]; omega)) (nw_78 _) (i := 0) rfl ⟨by decide, by decide, Or.inr ⟨(show 288 ≤ _ by rw [tnc, (i_add l_288 rfl (by omega) (by omega))]; omega), (show _ < 296 by rw [tnc, (i_add l_288 rfl (by omega) (by omega))]; omega)⟩⟩ ?_
      intro mv26 hq27_ gq28_ kq29_
      have hq30_ : (mv26 78 312).toInt = (mv20 78 312).toInt := by rw [hq27_, mu_ne (Or.inr (by rw [tnc, (i_add l_288 rfl (by omega) (by omega))]; omega))]
      have hq31_ : (mv26 78 (((288 : Int32) + a1).toNatClampNeg)).toInt = a2.toInt := by rw [hq27_, mu_at]
      exact T_ret ⟨(i_rng (lo := 0) (hi := 1) l_1 (by omega) (by omega)), (by have e9 : ((1 : Int32)).toInt = _ := l_1; omega), gq28_, kq29_⟩
abbrev l_X9_put : List Bx := [(1, 2, 1, 2), (2, 3, 0, 0)]
abbrev po_X9_put (a1 : Int32) (M : qM) (v : Int32) (M' : qM) : Prop := (0 ≤ v.toInt ∧ v.toInt ≤ 0) ∧ ((M' 1 1).toInt = (M 1 1).toInt + 4) ∧ G M' ∧ Sm l_X9_put M M'
theorem t_X9_put_3 {n : Nat} (hn : 200000 ≤ n) {oa1 : Int32} {M0 : qM} : ∀ (m : Nat) (a1 a2 : Int32) (M : qM), G M → Sm l_X9_put M0 M → (-8) ≤ a2.toInt ∧ a2.toInt ≤ 24 → (((a2.toInt = 24 ∧ (M 1 1).toInt = (M0 1 1).toInt + 0) ∨ (a2.toInt = 16 ∧ (M 1 1).toInt = (M0 1 1).toInt + 1) ∨ (a2.toInt = 8 ∧ (M 1 1).toInt = (M0 1 1).toInt + 2) ∨ (a2.toInt = 0 ∧ (M 1 1).toInt = (M0 1 1).toInt + 3) ∨ (a2.toInt = -8 ∧ (M 1 1).toInt = (M0 1 1).toInt + 4)) ∧ (M0 1 1).toInt ≤ 256) → 24 - (0 - a2.toInt) < (m : Int) → qT (f_X9_put_3 n m a1 a2 M) (po_X9_put oa1 M0) := by
  intro m
  induction m with
  | zero =>
    intro a1 a2 M hG hS i0 hE i4
    have hq1_ := r_1_1 hG
    exfalso; omega
  | succ m ih =>
    intro a1 a2 M hG hS i0 hE i4
    show qT (b_X9_put_3 n (f_X9_put_3 n m) a1 a2 M) _
    unfold b_X9_put_3
    have hq1_ := r_1_1 hG
    refine T_lt rfl l_0 (fun hq2_ => ?_) (fun hq2_ => ?_)
    · exact T_ret ⟨(i_rng (lo := 0) (hi := 0) l_0 (by omega) (by omega)), (by have e9 : (0 : Int32).toInt = _ := l_0; omega), hG, hS⟩
    · refine T_le l_260 rfl (fun hq3_ => ?_) (fun hq3_ => ?_)
      · exact T_ret ⟨(i_rng (lo := 0) (hi := 0) l_0 (by omega) (by omega)), (by have e9 : (0 : Int32).toInt = _ := l_0; omega), hG, hS⟩
      · refine T_qg rfl (by omega) (by omega) ?_
        have hq5_ := i_and (a := a1 >>> (a2 &&& 31)) (b := (255 : Int32)) l_255 (by omega)
        refine T_mu hG hS (i_rng (lo := 0) (hi := 255) rfl (by omega) (by omega)) (nw_2 _) (i := 1) rfl ⟨by decide, by decide, Or.inl rfl⟩ ?_
        intro mv4 hq6_ gq7_ kq8_
        have hq9_ : (mv4 1 1).toInt = (M 1 1).toInt := by rw [hq6_, mu_ne (Or.inl (by decide))]
        have hq10_ : (mv4 2 ((M 1 1).toNatClampNeg)).toInt = ((a1 >>> (a2 &&& 31)) &&& (255 : Int32)).toInt := by rw [hq6_, mu_at]
        have hq12_ := r_1_1 gq7_
        refine T_mu gq7_ kq8_ (i_rng (lo := 0) (hi := 260) (i_add rfl l_1 (by omega) (by omega)) (by omega) (by omega)) (nw_1 _) (i := 0) rfl ⟨by decide, by decide, Or.inr ⟨by decide, by decide⟩⟩ ?_
        intro mv11 hq13_ gq14_ kq15_
        have hq16_ : (mv11 2 ((M 1 1).toNatClampNeg)).toInt = (mv4 2 ((M 1 1).toNatClampNeg)).toInt := by rw [hq13_, mu_ne (Or.inl (by decide))]
        have hq17_ : (mv11 1 1).toInt = ((mv4 1 1).toInt + 1) := by rw [hq13_, mu_at]; exact (i_add rfl l_1 (by omega) (by omega))
        refine T_ql (i_add rfl l_m8 (by omega) (by omega)) ?_
        intro xv18 hq19_
        have hq20_ := r_1_1 gq14_
        exact ih a1 xv18 mv11 gq14_ kq15_ (i_rng (lo := (-8)) (hi := 24) rfl (by omega) (by omega)) (by omega) (by omega)
theorem t_X9_put {n : Nat} (hn : 200000 ≤ n) (a1 : Int32) (M : qM) (hG : G M) (pe : (M 1 1).toInt ≤ 256) : qT (f_X9_put n a1 M) (po_X9_put a1 M) := by
  have hS : Sm l_X9_put M M := Sm.rf
  unfold f_X9_put
  have hq21_ := r_1_1 hG
  exact (t_X9_put_3 hn) n a1 (24 : Int32) M hG hS (i_rng (lo := (-8)) (hi := 24) l_24 (by omega) (by omega)) (by have e1 : ((24 : Int32)).toInt = _ := l_24; omega) (by have e1 : ((24 : Int32)).toInt = _ := l_24; omega)
abbrev l_X11_feed : List Bx := [(1, 2, 1, 2), (2, 3, 0, 0)]
abbrev po_X11_feed (a1 a2 a3 a4 a5 : Int32) (M : qM) (v : Int32) (M' : qM) : Prop := ((-1) ≤ v.toInt ∧ v.toInt ≤ 260) ∧ (((M 1 1).toInt + 20 ≤ 260 ∧ v.toInt = (M 1 1).toInt + 20 ∧ (M' 1 1).toInt = (M 1 1).toInt + 20) ∨ (260 < (M 1 1).toInt + 20 ∧ v.toInt = -1 ∧ (M' 1 1).toInt = (M 1 1).toInt)) ∧ G M' ∧ Sm l_X11_feed M M'
theorem t_X11_feed {n : Nat} (hn : 200000 ≤ n) (a1 a2 a3 a4 a5 : Int32) (M : qM) (hG : G M) : qT (f_X11_feed n a1 a2 a3 a4 a5 M) (po_X11_feed a1 a2 a3 a4 a5 M) := by
  have hS : Sm l_X11_feed M M := Sm.rf
  unfold f_X11_feed
  have hq1_ := r_1_1 hG
  refine T_le (i_add rfl l_20 (by omega) (by omega)) l_260 (fun hq2_ => ?_) (fun hq2_ => ?_)
  · refine T_qc (t_X9_put hn a1 M hG (by omega)) ?_
    rintro rv3 mv4 ⟨hq5_, hq6_, gq7_, kq8_⟩
    have kq9_ := Sm.call hS kq8_ rfl
    have hq10_ := r_1_1 gq7_
    refine T_qc (t_X9_put hn a2 mv4 gq7_ (by omega)) ?_
    rintro rv11 mv12 ⟨hq13_, hq14_, gq15_, kq16_⟩
    have kq17_ := Sm.call kq9_ kq16_ rfl
    have hq18_ := r_1_1 gq15_
    refine T_qc (t_X9_put hn a3 mv12 gq15_ (by omega)) ?_
    rintro rv19 mv20 ⟨hq21_, hq22_, gq23_, kq24_⟩
    have kq25_ := Sm.call kq17_ kq24_ rfl
    have hq26_ := r_1_1 gq23_
    refine T_qc (t_X9_put hn a4 mv20 gq23_ (by omega)) ?_
    rintro rv27 mv28 ⟨hq29_, hq30_, gq31_, kq32_⟩
    have kq33_ := Sm.call kq25_ kq32_ rfl
    have hq34_ := r_1_1 gq31_
    refine T_qc (t_X9_put hn a5 mv28 gq31_ (by omega)) ?_
    rintro rv35 mv36 ⟨hq37_, hq38_, gq39_, kq40_⟩
    have kq41_ := Sm.call kq33_ kq40_ rfl
    have hq42_ := r_1_1 gq39_
    exact T_ret ⟨(i_rng (lo := (-1)) (hi := 260) rfl (by omega) (by omega)), (by have e9 : (mv36 1 1).toInt = _ := rfl; omega), gq39_, kq41_⟩
  · exact T_ret ⟨(i_rng (lo := (-1)) (hi := 260) l_m1 (by omega) (by omega)), (by have e9 : ((-1 : Int32)).toInt = _ := l_m1; omega), hG, hS⟩
abbrev l_X12_types : List Bx := [(77, 78, 8, 9), (84, 85, 0, 0)]
abbrev po_X12_types (a1 : Int32) (M : qM) (v : Int32) (M' : qM) : Prop := (0 ≤ v.toInt ∧ v.toInt ≤ 0) ∧ ((M' 77 8).toInt = (M 77 8).toInt + 4) ∧ G M' ∧ Sm l_X12_types M M'
theorem t_X12_types_2 {n : Nat} (hn : 200000 ≤ n) {oa1 : Int32} {M0 : qM} : ∀ (m : Nat) (a1 a2 : Int32) (M : qM), G M → Sm l_X12_types M0 M → (-1) ≤ a2.toInt ∧ a2.toInt ≤ 3 → (M 77 8).toInt + a2.toInt + 1 = (M0 77 8).toInt + 4 ∧ (M0 77 8).toInt ≤ 256 → a2.toInt - (-1) < (m : Int) → qT (f_X12_types_2 n m a1 a2 M) (po_X12_types oa1 M0) := by
  intro m
  induction m with
  | zero =>
    intro a1 a2 M hG hS i0 hE i4
    have hq2_ := r_77_8 hG
    exfalso; omega
  | succ m ih =>
    intro a1 a2 M hG hS i0 hE i4
    show qT (b_X12_types_2 n (f_X12_types_2 n m) a1 a2 M) _
    unfold b_X12_types_2
    have hq2_ := r_77_8 hG
    refine T_lt rfl l_0 (fun hq3_ => ?_) (fun hq3_ => ?_)
    · exact T_ret ⟨(i_rng (lo := 0) (hi := 0) l_0 (by omega) (by omega)), (by have e9 : (0 : Int32).toInt = _ := l_0; omega), hG, hS⟩
    · refine T_qg rfl (by omega) (by omega) ?_
      have hq5_ := i_byte (((a1 >>> (((8 : Int32) * a2) &&& 31)).toInt8).toInt32)
      refine T_mu hG hS (i_rng (lo := (-128)) (hi := 127) rfl (by omega) (by omega)) (nw_84 _) (i := 1) rfl ⟨by decide, by decide, Or.inl rfl⟩ ?_
      intro mv4 hq6_ gq7_ kq8_
      have hq9_ : (mv4 77 8).toInt = (M 77 8).toInt := by rw [hq6_, mu_ne (Or.inl (by decide))]
      have hq10_ : (mv4 84 ((M 77 8).toNatClampNeg)).toInt = (vp_nar .byte (((a1 >>> (((8 : Int32) * a2) &&& 31)).toInt8).toInt32)).toInt := by rw [hq6_, mu_at]
      have hq12_ := r_77_8 gq7_
      refine T_mu gq7_ kq8_ (i_rng (lo := 0) (hi := 260) (i_add rfl l_1 (by omega) (by omega)) (by omega) (by omega)) nw_77_8 (i := 0) rfl ⟨by decide, by decide, Or.inr ⟨by decide, by decide⟩⟩ ?_
      intro mv11 hq13_ gq14_ kq15_
      have hq16_ : (mv11 84 ((M 77 8).toNatClampNeg)).toInt = (mv4 84 ((M 77 8).toNatClampNeg)).toInt := by rw [hq13_, mu_ne (Or.inl (by decide))]
      have hq17_ : (mv11 77 8).toInt = ((mv4 77 8).toInt + 1) := by rw [hq13_, mu_at]; exact (i_add rfl l_1 (by omega) (by omega))
      refine T_ql (i_add rfl l_m1 (by omega) (by omega)) ?_
      intro xv18 hq19_
      have hq20_ := r_77_8 gq14_
      exact ih a1 xv18 mv11 gq14_ kq15_ (i_rng (lo := (-1)) (hi := 3) rfl (by omega) (by omega)) (by omega) (by omega)
theorem t_X12_types {n : Nat} (hn : 200000 ≤ n) (a1 : Int32) (M : qM) (hG : G M) (pe : (M 77 8).toInt ≤ 256) : qT (f_X12_types n a1 M) (po_X12_types a1 M) := by
  have hS : Sm l_X12_types M M := Sm.rf
  unfold f_X12_types
  have hq21_ := r_77_8 hG
  exact (t_X12_types_2 hn) n a1 (3 : Int32) M hG hS (i_rng (lo := (-1)) (hi := 3) l_3 (by omega) (by omega)) (by have e1 : ((3 : Int32)).toInt = _ := l_3; omega) (by have e1 : ((3 : Int32)).toInt = _ := l_3; omega)
