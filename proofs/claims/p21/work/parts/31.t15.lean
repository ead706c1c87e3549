abbrev l_X12_laysOwn : List Bx := [(77, 78, 43, 45), (96, 98, 0, 0), (105, 108, 0, 0)]
abbrev po_X12_laysOwn (a1 a2 : Int32) (M : qM) (v : Int32) (M' : qM) : Prop := (0 ≤ v.toInt ∧ v.toInt ≤ 0) ∧ G M' ∧ Sm l_X12_laysOwn M M'
theorem t_X12_laysOwn_92 {n : Nat} (hn : 200000 ≤ n) {oa1 oa2 : Int32} {M0 : qM} {K57 : Int32 → Int32 → qM → qR} {BK57 : Nat} (hK57 : ∀ (a1 a3 : Int32) (M : qM), G M → Sm l_X12_laysOwn M0 M → 0 ≤ a1.toInt ∧ a1.toInt ≤ 7 → 0 ≤ a3.toInt ∧ a3.toInt ≤ 4 → 4 - a3.toInt < (BK57 : Int) → qT (K57 a1 a3 M) (po_X12_laysOwn oa1 oa2 M0)) : ∀ (m : Nat) (a1 a3 a4 : Int32) (M : qM), G M → Sm l_X12_laysOwn M0 M → 0 ≤ a1.toInt ∧ a1.toInt ≤ 7 → 0 ≤ a3.toInt ∧ a3.toInt ≤ 3 → 0 ≤ a4.toInt ∧ a4.toInt ≤ 4 → 4 - a3.toInt < (BK57 : Int) + 1 → 4 - a4.toInt < (m : Int) → qT (f_X12_laysOwn_92 n K57 m a1 a3 a4 M) (po_X12_laysOwn oa1 oa2 M0) := by
  intro m
  induction m with
  | zero =>
    intro a1 a3 a4 M hG hS i0 i1 i2 i3 i4
    exfalso; omega
  | succ m ih =>
    intro a1 a3 a4 M hG hS i0 i1 i2 i3 i4
    show qT (b_X12_laysOwn_92 n K57 (f_X12_laysOwn_92 n K57 m) a1 a3 a4 M) _
    unfold b_X12_laysOwn_92
    have hq10_ := r_77_43 hG
    refine T_le rfl rfl (fun hq11_ => ?_) (fun hq11_ => ?_)
    · refine T_ql (i_add rfl l_1 (by omega) (by omega)) ?_
      intro xv12 hq13_
      exact hK57 a1 xv12 M hG hS (i_rng (lo := 0) (hi := 7) rfl (by omega) (by omega)) (i_rng (lo := 0) (hi := 4) rfl (by omega) (by omega)) (by omega)
    · refine T_qg rfl (by omega) (by omega) ?_
      refine T_qg rfl (by omega) (by omega) ?_
      have hq16_ := r_105 hG a3.toNatClampNeg
      have hq17_ := r_105 hG a4.toNatClampNeg
      refine T_qc (t_X12_isLike hn (M 105 a3.toNatClampNeg) (M 105 a4.toNatClampNeg) M hG (i_rng (lo := 0) (hi := 12) rfl (by omega) (by omega)) (i_rng (lo := 0) (hi := 11) rfl (by omega) (by omega))) ?_
      rintro rv14 mv15 ⟨hq18_, gq19_, kq20_⟩
      have kq21_ := Sm.call hS kq20_ rfl
      have hq22_ : (mv15 77 43).toInt = (M 77 43).toInt := by rw [kq20_ 77 43 (by decide)]
      refine T_eq rfl l_0 (fun hq23_ => ?_) (fun hq23_ => ?_)
      · refine T_ql (i_add rfl l_1 (by omega) (by omega)) ?_
        intro xv24 hq25_
        exact ih a1 a3 xv24 mv15 gq19_ kq21_ (i_rng (lo := 0) (hi := 7) rfl (by omega) (by omega)) (i_rng (lo := 0) (hi := 3) rfl (by omega) (by omega)) (i_rng (lo := 0) (hi := 4) rfl (by omega) (by omega)) (by omega) (by omega)
      · refine T_qg rfl (by omega) (by omega) ?_
        refine T_qg rfl (by omega) (by omega) ?_
        have hq27_ := i_shl1 (c := 3) (k := a4) (by decide) rfl (by omega) (by omega)
        refine T_mu gq19_ kq21_ (rn_107 _ _) (nw_107 _) (i := 2) rfl ⟨by decide, by decide, Or.inl rfl⟩ ?_
        intro mv26 hq28_ gq29_ kq30_
        have hq31_ : (mv26 77 43).toInt = (mv15 77 43).toInt := by rw [hq28_, mu_ne (Or.inl (by decide))]
        have hq32_ : (mv26 107 a3.toNatClampNeg).toInt = ((mv15 107 a3.toNatClampNeg) ||| ((1 : Int32) <<< (a4 &&& 31))).toInt := by rw [hq28_, mu_at]
        refine T_ql (i_add rfl l_1 (by omega) (by omega)) ?_
        intro xv33 hq34_
        exact ih a1 a3 xv33 mv26 gq29_ kq30_ (i_rng (lo := 0) (hi := 7) rfl (by omega) (by omega)) (i_rng (lo := 0) (hi := 3) rfl (by omega) (by omega)) (i_rng (lo := 0) (hi := 4) rfl (by omega) (by omega)) (by omega) (by omega)
theorem t_X12_laysOwn_57 {n : Nat} (hn : 200000 ≤ n) {oa1 oa2 : Int32} {M0 : qM} : ∀ (m : Nat) (a1 a3 : Int32) (M : qM), G M → Sm l_X12_laysOwn M0 M → 0 ≤ a1.toInt ∧ a1.toInt ≤ 7 → 0 ≤ a3.toInt ∧ a3.toInt ≤ 4 → 4 - a3.toInt < (m : Int) → qT (f_X12_laysOwn_57 n m a1 a3 M) (po_X12_laysOwn oa1 oa2 M0) := by
  intro m
  induction m with
  | zero =>
    intro a1 a3 M hG hS i0 i1 i2
    exfalso; omega
  | succ m ih =>
    intro a1 a3 M hG hS i0 i1 i2
    show qT (b_X12_laysOwn_57 n (f_X12_laysOwn_57 n m) a1 a3 M) _
    unfold b_X12_laysOwn_57
    have hq38_ := r_77_43 hG
    refine T_le rfl rfl (fun hq39_ => ?_) (fun hq39_ => ?_)
    · exact T_ret ⟨(i_rng (lo := 0) (hi := 0) l_0 (by omega) (by omega)), hG, hS⟩
    · refine T_qg rfl (by omega) (by omega) ?_
      have hq42_ := r_105 hG a3.toNatClampNeg
      refine T_qc (t_X12_oldOnes hn a1 (M 105 a3.toNatClampNeg) M hG (i_rng (lo := 0) (hi := 7) rfl (by omega) (by omega)) (i_rng (lo := 0) (hi := 11) rfl (by omega) (by omega))) ?_
      rintro rv40 mv41 ⟨gq43_, kq44_⟩
      have kq45_ := Sm.call hS kq44_ rfl
      have hq46_ : (mv41 77 43).toInt = (M 77 43).toInt := by rw [kq44_ 77 43 (by decide)]
      refine T_qg rfl (by omega) (by omega) ?_
      refine T_mu gq43_ kq45_ (rn_106 _ _) (nw_106 _) (i := 2) rfl ⟨by decide, by decide, Or.inl rfl⟩ ?_
      intro mv47 hq48_ gq49_ kq50_
      have hq51_ : (mv47 77 43).toInt = (mv41 77 43).toInt := by rw [hq48_, mu_ne (Or.inl (by decide))]
      have hq52_ : (mv47 106 a3.toNatClampNeg).toInt = rv40.toInt := by rw [hq48_, mu_at]
      refine T_qg rfl (by omega) (by omega) ?_
      refine T_mu gq49_ kq50_ (rn_107 _ _) (nw_107 _) (i := 2) rfl ⟨by decide, by decide, Or.inl rfl⟩ ?_
      intro mv53 hq54_ gq55_ kq56_
      have hq57_ : (mv53 77 43).toInt = (mv47 77 43).toInt := by rw [hq54_, mu_ne (Or.inl (by decide))]
      have hq58_ : (mv53 106 a3.toNatClampNeg).toInt = (mv47 106 a3.toNatClampNeg).toInt := by rw [hq54_, mu_ne (Or.inl (by decide))]
      have hq59_ : (mv53 107 a3.toNatClampNeg).toInt = 0 := by rw [hq54_, mu_at]; exact l_0
      exact (t_X12_laysOwn_92 hn ih) n a1 a3 (0 : Int32) mv53 gq55_ kq56_ (i_rng (lo := 0) (hi := 7) rfl (by omega) (by omega)) (i_rng (lo := 0) (hi := 3) rfl (by omega) (by omega)) (i_rng (lo := 0) (hi := 4) l_0 (by omega) (by omega)) (by omega) (by have e2 : ((0 : Int32)).toInt = _ := l_0; omega)
theorem t_X12_laysOwn_12 {n : Nat} (hn : 200000 ≤ n) {oa1 oa2 : Int32} {M0 : qM} : ∀ (m : Nat) (a1 a2 a3 : Int32) (M : qM), G M → Sm l_X12_laysOwn M0 M → 0 ≤ a1.toInt ∧ a1.toInt ≤ 7 → 0 ≤ a3.toInt ∧ a3.toInt ≤ 12 → 12 - a3.toInt < (m : Int) → qT (f_X12_laysOwn_12 n m a1 a2 a3 M) (po_X12_laysOwn oa1 oa2 M0) := by
  sorry
theorem t_X12_laysOwn {n : Nat} (hn : 200000 ≤ n) (a1 a2 : Int32) (M : qM) (hG : G M) (pa1 : 0 ≤ a1.toInt ∧ a1.toInt ≤ 7) : qT (f_X12_laysOwn n a1 a2 M) (po_X12_laysOwn a1 a2 M) := by
  have hS : Sm l_X12_laysOwn M M := Sm.rf
  unfold f_X12_laysOwn
  refine T_mu hG hS (i_rng (lo := 0) (hi := 7) rfl (by omega) (by omega)) nw_77_44 (i := 0) rfl ⟨by decide, by decide, Or.inr ⟨by decide, by decide⟩⟩ ?_
  intro mv88 hq89_ gq90_ kq91_
  have hq92_ : (mv88 77 44).toInt = a1.toInt := by rw [hq89_, mu_at]
  refine T_mu gq90_ kq91_ (i_rng (lo := 0) (hi := 4) l_0 (by omega) (by omega)) nw_77_43 (i := 0) rfl ⟨by decide, by decide, Or.inr ⟨by decide, by decide⟩⟩ ?_
  intro mv93 hq94_ gq95_ kq96_
  have hq97_ : (mv93 77 44).toInt = (mv88 77 44).toInt := by rw [hq94_, mu_ne (Or.inr (by decide))]
  have hq98_ : (mv93 77 43).toInt = 0 := by rw [hq94_, mu_at]; exact l_0
  exact (t_X12_laysOwn_12 hn) n a1 a2 (0 : Int32) mv93 gq95_ kq96_ (i_rng (lo := 0) (hi := 7) rfl (by omega) (by omega)) (i_rng (lo := 0) (hi := 12) l_0 (by omega) (by omega)) (by have e2 : ((0 : Int32)).toInt = _ := l_0; omega)
abbrev l_X12_statesAll : List Bx := []
abbrev po_X12_statesAll (M : qM) (v : Int32) (M' : qM) : Prop := (1 ≤ v.toInt ∧ v.toInt ≤ 160000) ∧ G M' ∧ Sm l_X12_statesAll M M'
theorem t_X12_statesAll_4 {n : Nat} (hn : 200000 ≤ n) {M0 : qM} : ∀ (m : Nat) (a1 a2 : Int32) (M : qM), G M → Sm l_X12_statesAll M0 M → 1 ≤ a1.toInt ∧ a1.toInt ≤ 160000 → 0 ≤ a2.toInt ∧ a2.toInt ≤ 4 → ((a2.toInt = 0 ∧ a1.toInt = 1) ∨ (a2.toInt = 1 ∧ a1.toInt = 20) ∨ (a2.toInt = 2 ∧ a1.toInt = 400) ∨ (a2.toInt = 3 ∧ a1.toInt = 8000) ∨ (a2.toInt = 4 ∧ a1.toInt = 160000)) → 4 - a2.toInt < (m : Int) → qT (f_X12_statesAll_4 n m a1 a2 M) (po_X12_statesAll  M0) := by
  intro m
  induction m with
  | zero =>
    intro a1 a2 M hG hS i0 i1 i2 i3
    have hq3_ := r_77_43 hG
    exfalso; omega
  | succ m ih =>
    intro a1 a2 M hG hS i0 i1 i2 i3
    show qT (b_X12_statesAll_4 n (f_X12_statesAll_4 n m) a1 a2 M) _
    unfold b_X12_statesAll_4
    have hq3_ := r_77_43 hG
    refine T_le rfl rfl (fun hq4_ => ?_) (fun hq4_ => ?_)
    · exact T_ret ⟨(i_rng (lo := 1) (hi := 160000) rfl (by omega) (by omega)), hG, hS⟩
    · refine T_ql (i_mul rfl l_20 (by omega) (by omega)) ?_
      intro xv5 hq6_
      refine T_ql (i_add rfl l_1 (by omega) (by omega)) ?_
      intro xv7 hq8_
      exact ih xv5 xv7 M hG hS (i_rng (lo := 1) (hi := 160000) rfl (by omega) (by omega)) (i_rng (lo := 0) (hi := 4) rfl (by omega) (by omega)) (by omega) (by omega)
theorem t_X12_statesAll {n : Nat} (hn : 200000 ≤ n) (M : qM) (hG : G M) : qT (f_X12_statesAll n  M) (po_X12_statesAll  M) := by
  have hS : Sm l_X12_statesAll M M := Sm.rf
  unfold f_X12_statesAll
  have hq9_ := r_77_43 hG
  exact (t_X12_statesAll_4 hn) n (1 : Int32) (0 : Int32) M hG hS (i_rng (lo := 1) (hi := 160000) l_1 (by omega) (by omega)) (i_rng (lo := 0) (hi := 4) l_0 (by omega) (by omega)) (by have e0 : ((1 : Int32)).toInt = _ := l_1; have e1 : ((0 : Int32)).toInt = _ := l_0; omega) (by have e0 : ((1 : Int32)).toInt = _ := l_1; have e1 : ((0 : Int32)).toInt = _ := l_0; omega)
abbrev l_X12_placeOf : List Bx := []
abbrev po_X12_placeOf (a1 : Int32) (M : qM) (v : Int32) (M' : qM) : Prop := (0 ≤ v.toInt ∧ v.toInt ≤ 3) ∧ G M' ∧ Sm l_X12_placeOf M M'
theorem t_X12_placeOf_2 {n : Nat} (hn : 200000 ≤ n) {oa1 : Int32} {M0 : qM} : ∀ (m : Nat) (a1 a2 : Int32) (M : qM), G M → Sm l_X12_placeOf M0 M → 0 ≤ a1.toInt ∧ a1.toInt ≤ 11 → 0 ≤ a2.toInt ∧ a2.toInt ≤ 4 → 4 - a2.toInt < (m : Int) → qT (f_X12_placeOf_2 n m a1 a2 M) (po_X12_placeOf oa1 M0) := by
  sorry
theorem t_X12_placeOf {n : Nat} (hn : 200000 ≤ n) (a1 : Int32) (M : qM) (hG : G M) (pa1 : 0 ≤ a1.toInt ∧ a1.toInt ≤ 11) : qT (f_X12_placeOf n a1 M) (po_X12_placeOf a1 M) := by
  have hS : Sm l_X12_placeOf M M := Sm.rf
  unfold f_X12_placeOf
  exact (t_X12_placeOf_2 hn) n a1 (0 : Int32) M hG hS (i_rng (lo := 0) (hi := 11) rfl (by omega) (by omega)) (i_rng (lo := 0) (hi := 4) l_0 (by omega) (by omega)) (by have e1 : ((0 : Int32)).toInt = _ := l_0; omega)
abbrev l_X12_takesState : List Bx := [(108, 109, 0, 0)]
abbrev po_X12_takesState (a1 : Int32) (M : qM) (v : Int32) (M' : qM) : Prop := (0 ≤ v.toInt ∧ v.toInt ≤ 0) ∧ G M' ∧ Sm l_X12_takesState M M'
theorem t_X12_takesState_4 {n : Nat} (hn : 200000 ≤ n) {oa1 : Int32} {M0 : qM} : ∀ (m : Nat) (a2 a3 : Int32) (M : qM), G M → Sm l_X12_takesState M0 M → 0 ≤ a2.toInt ∧ a2.toInt ≤ 159999 → 0 ≤ a3.toInt ∧ a3.toInt ≤ 4 → 4 - a3.toInt < (m : Int) → qT (f_X12_takesState_4 n m a2 a3 M) (po_X12_takesState oa1 M0) := by
  intro m
  induction m with
  | zero =>
    intro a2 a3 M hG hS i0 i1 i2
    exfalso; omega
  | succ m ih =>
    intro a2 a3 M hG hS i0 i1 i2
    show qT (b_X12_takesState_4 n (f_X12_takesState_4 n m) a2 a3 M) _
    unfold b_X12_takesState_4
    have hq3_ := r_77_43 hG
    refine T_le rfl rfl (fun hq4_ => ?_) (fun hq4_ => ?_)
    · exact T_ret ⟨(i_rng (lo := 0) (hi := 0) l_0 (by omega) (by omega)), hG, hS⟩
    · refine T_qg rfl (by omega) (by omega) ?_
      refine T_mu hG hS (i_rng (lo := 0) (hi := 19) (i_sub rfl (i_mul (i_div rfl l_20 (by omega) (by omega)) l_20 (by omega) (by omega)) (by omega) (by omega)) (by omega) (by omega)) (nw_108 _) (i := 0) rfl ⟨by decide, by decide, Or.inl rfl⟩ ?_
      intro mv5 hq6_ gq7_ kq8_
      have hq9_ : (mv5 77 43).toInt = (M 77 43).toInt := by rw [hq6_, mu_ne (Or.inl (by decide))]
      have hq10_ : (mv5 108 a3.toNatClampNeg).toInt = (a2.toInt - ((a2.toInt / 20) * 20)) := by rw [hq6_, mu_at]; exact (i_sub rfl (i_mul (i_div rfl l_20 (by omega) (by omega)) l_20 (by omega) (by omega)) (by omega) (by omega))
      refine T_ql (i_div rfl l_20 (by omega) (by omega)) ?_
      intro xv11 hq12_
      refine T_ql (i_add rfl l_1 (by omega) (by omega)) ?_
      intro xv13 hq14_
      exact ih xv11 xv13 mv5 gq7_ kq8_ (i_rng (lo := 0) (hi := 159999) rfl (by omega) (by omega)) (i_rng (lo := 0) (hi := 4) rfl (by omega) (by omega)) (by omega)
theorem t_X12_takesState {n : Nat} (hn : 200000 ≤ n) (a1 : Int32) (M : qM) (hG : G M) (pa1 : 0 ≤ a1.toInt ∧ a1.toInt ≤ 159999) : qT (f_X12_takesState n a1 M) (po_X12_takesState a1 M) := by
  have hS : Sm l_X12_takesState M M := Sm.rf
  unfold f_X12_takesState
  exact (t_X12_takesState_4 hn) n a1 (0 : Int32) M hG hS (i_rng (lo := 0) (hi := 159999) rfl (by omega) (by omega)) (i_rng (lo := 0) (hi := 4) l_0 (by omega) (by omega)) (by have e1 : ((0 : Int32)).toInt = _ := l_0; omega)
abbrev l_X12_goesNow : List Bx := []
abbrev po_X12_goesNow (M : qM) (v : Int32) (M' : qM) : Prop := G M' ∧ Sm l_X12_goesNow M M'
theorem t_X12_goesNow_4 {n : Nat} (hn : 200000 ≤ n) {M0 : qM} : ∀ (m : Nat) (a1 a2 : Int32) (M : qM), G M → Sm l_X12_goesNow M0 M → 0 ≤ a2.toInt ∧ a2.toInt ≤ 4 → 4 - a2.toInt < (m : Int) → qT (f_X12_goesNow_4 n m a1 a2 M) (po_X12_goesNow  M0) := by
  intro m
  induction m with
  | zero =>
    intro a1 a2 M hG hS i0 i1
    exfalso; omega
  | succ m ih =>
    intro a1 a2 M hG hS i0 i1
    show qT (b_X12_goesNow_4 n (f_X12_goesNow_4 n m) a1 a2 M) _
    unfold b_X12_goesNow_4
    have hq3_ := r_77_43 hG
    refine T_le rfl rfl (fun hq4_ => ?_) (fun hq4_ => ?_)
    · exact T_ret ⟨hG, hS⟩
    · refine T_qg rfl (by omega) (by omega) ?_
      have hq5_ := r_108 hG a2.toNatClampNeg
      refine T_qg rfl (by omega) (by omega) ?_
      have hq6_ := r_103 hG ((M 108 a2.toNatClampNeg).toNatClampNeg)
      have hq7_ := i_full (a1)
      refine T_ql rfl ?_
      intro xv8 hq9_
      refine T_ql (i_add rfl l_1 (by omega) (by omega)) ?_
      intro xv10 hq11_
      exact ih xv8 xv10 M hG hS (i_rng (lo := 0) (hi := 4) rfl (by omega) (by omega)) (by omega)
theorem t_X12_goesNow {n : Nat} (hn : 200000 ≤ n) (M : qM) (hG : G M) : qT (f_X12_goesNow n  M) (po_X12_goesNow  M) := by
  have hS : Sm l_X12_goesNow M M := Sm.rf
  unfold f_X12_goesNow
  exact (t_X12_goesNow_4 hn) n (0 : Int32) (0 : Int32) M hG hS (i_rng (lo := 0) (hi := 4) l_0 (by omega) (by omega)) (by have e0 : ((0 : Int32)).toInt = _ := l_0; have e1 : ((0 : Int32)).toInt = _ := l_0; omega)
abbrev l_X12_areCounted : List Bx := []
abbrev po_X12_areCounted (a1 : Int32) (M : qM) (v : Int32) (M' : qM) : Prop := (0 ≤ v.toInt ∧ v.toInt ≤ 1) ∧ G M' ∧ Sm l_X12_areCounted M M'
theorem t_X12_areCounted_45 {n : Nat} (hn : 200000 ≤ n) {oa1 : Int32} {M0 : qM} {K2 : Int32 → Int32 → qM → qR} {BK2 : Nat} (hK2 : ∀ (a1 a2 : Int32) (M : qM), G M → Sm l_X12_areCounted M0 M → 0 ≤ a1.toInt ∧ a1.toInt ≤ 11 → 0 ≤ a2.toInt ∧ a2.toInt ≤ 12 → 12 - a2.toInt < (BK2 : Int) → qT (K2 a1 a2 M) (po_X12_areCounted oa1 M0)) : ∀ (m : Nat) (a1 a2 a3 a4 : Int32) (M : qM), G M → Sm l_X12_areCounted M0 M → 0 ≤ a1.toInt ∧ a1.toInt ≤ 11 → 0 ≤ a2.toInt ∧ a2.toInt ≤ 11 → 0 ≤ a4.toInt ∧ a4.toInt ≤ 4 → 12 - a2.toInt < (BK2 : Int) + 1 → 4 - a4.toInt < (m : Int) → qT (f_X12_areCounted_45 n K2 m a1 a2 a3 a4 M) (po_X12_areCounted oa1 M0) := by
  intro m
  induction m with
  | zero =>
    intro a1 a2 a3 a4 M hG hS i0 i1 i2 i3 i4
    exfalso; omega
  | succ m ih =>
    intro a1 a2 a3 a4 M hG hS i0 i1 i2 i3 i4
    show qT (b_X12_areCounted_45 n K2 (f_X12_areCounted_45 n K2 m) a1 a2 a3 a4 M) _
    unfold b_X12_areCounted_45
    have hq20_ := r_77_43 hG
    refine T_le rfl rfl (fun hq21_ => ?_) (fun hq21_ => ?_)
    · refine T_eq rfl l_0 (fun hq22_ => ?_) (fun hq22_ => ?_)
      · exact T_ret ⟨(i_rng (lo := 0) (hi := 1) l_0 (by omega) (by omega)), hG, hS⟩
      · refine T_ql (i_add rfl l_1 (by omega) (by omega)) ?_
        intro xv23 hq24_
        exact hK2 a1 xv23 M hG hS (i_rng (lo := 0) (hi := 11) rfl (by omega) (by omega)) (i_rng (lo := 0) (hi := 12) rfl (by omega) (by omega)) (by omega)
    · refine T_qg rfl (by omega) (by omega) ?_
      have hq25_ := r_105 hG a4.toNatClampNeg
      refine T_eq rfl rfl (fun hq26_ => ?_) (fun hq26_ => ?_)
      · refine T_qg rfl (by omega) (by omega) ?_
        have hq27_ := r_108 hG a4.toNatClampNeg
        refine T_qg rfl (by omega) (by omega) ?_
        unfold f_X12_areCounted_82
        have hq28_ := r_104 hG ((M 108 a4.toNatClampNeg).toNatClampNeg)
        have hq29_ := i_full (a3)
        refine T_ql rfl ?_
        intro xv30 hq31_
        refine T_ql (i_add rfl l_1 (by omega) (by omega)) ?_
        intro xv32 hq33_
        exact ih a1 a2 xv30 xv32 M hG hS (i_rng (lo := 0) (hi := 11) rfl (by omega) (by omega)) (i_rng (lo := 0) (hi := 11) rfl (by omega) (by omega)) (i_rng (lo := 0) (hi := 4) rfl (by omega) (by omega)) (by omega) (by omega)
      · unfold f_X12_areCounted_82
        have hq34_ := i_full (a3)
        refine T_ql (i_add rfl l_0 (by omega) (by omega)) ?_
        intro xv35 hq36_
        refine T_ql (i_add rfl l_1 (by omega) (by omega)) ?_
        intro xv37 hq38_
        exact ih a1 a2 xv35 xv37 M hG hS (i_rng (lo := 0) (hi := 11) rfl (by omega) (by omega)) (i_rng (lo := 0) (hi := 11) rfl (by omega) (by omega)) (i_rng (lo := 0) (hi := 4) rfl (by omega) (by omega)) (by omega) (by omega)
theorem t_X12_areCounted_2 {n : Nat} (hn : 200000 ≤ n) {oa1 : Int32} {M0 : qM} : ∀ (m : Nat) (a1 a2 : Int32) (M : qM), G M → Sm l_X12_areCounted M0 M → 0 ≤ a1.toInt ∧ a1.toInt ≤ 11 → 0 ≤ a2.toInt ∧ a2.toInt ≤ 12 → 12 - a2.toInt < (m : Int) → qT (f_X12_areCounted_2 n m a1 a2 M) (po_X12_areCounted oa1 M0) := by
  intro m
  induction m with
  | zero =>
    intro a1 a2 M hG hS i0 i1 i2
    exfalso; omega
  | succ m ih =>
    intro a1 a2 M hG hS i0 i1 i2
    show qT (b_X12_areCounted_2 n (f_X12_areCounted_2 n m) a1 a2 M) _
    unfold b_X12_areCounted_2
    refine T_le l_12 rfl (fun hq46_ => ?_) (fun hq46_ => ?_)
    · exact T_ret ⟨(i_rng (lo := 0) (hi := 1) l_1 (by omega) (by omega)), hG, hS⟩
    · refine T_qg rfl (by omega) (by omega) ?_
      refine T_qc (t_X12_has0 hn (M 83 a1.toNatClampNeg) a2 M hG (i_rng (lo := 0) (hi := 11) rfl (by omega) (by omega))) ?_
      rintro rv47 mv48 ⟨hq49_, gq50_, kq51_⟩
      have hq52_ := kq51_.nil
      subst hq52_
      refine T_eq rfl l_0 (fun hq53_ => ?_) (fun hq53_ => ?_)
      · refine T_ql (i_add rfl l_1 (by omega) (by omega)) ?_
        intro xv54 hq55_
        exact ih a1 xv54 M hG hS (i_rng (lo := 0) (hi := 11) rfl (by omega) (by omega)) (i_rng (lo := 0) (hi := 12) rfl (by omega) (by omega)) (by omega)
      · have hq58_ := r_77_44 hG
        refine T_qc (t_X12_at hn (M 77 44) a2 M hG (i_rng (lo := 0) (hi := 7) rfl (by omega) (by omega)) (i_rng (lo := 0) (hi := 11) rfl (by omega) (by omega))) ?_
        rintro rv56 mv57 ⟨hq59_, hq60_, gq61_, kq62_⟩
        have hq63_ := kq62_.nil
        subst hq63_
        refine T_qg (i_add l_192 rfl (by omega) (by omega)) (by omega) (by omega) ?_
        refine T_ql rfl ?_
        intro xv64 hq65_
        exact (t_X12_areCounted_45 hn ih) n a1 a2 xv64 (0 : Int32) M hG hS (i_rng (lo := 0) (hi := 11) rfl (by omega) (by omega)) (i_rng (lo := 0) (hi := 11) rfl (by omega) (by omega)) (i_rng (lo := 0) (hi := 4) l_0 (by omega) (by omega)) (by omega) (by have e3 : ((0 : Int32)).toInt = _ := l_0; omega)
theorem t_X12_areCounted {n : Nat} (hn : 200000 ≤ n) (a1 : Int32) (M : qM) (hG : G M) (pa1 : 0 ≤ a1.toInt ∧ a1.toInt ≤ 11) : qT (f_X12_areCounted n a1 M) (po_X12_areCounted a1 M) := by
  have hS : Sm l_X12_areCounted M M := Sm.rf
  unfold f_X12_areCounted
  exact (t_X12_areCounted_2 hn) n a1 (0 : Int32) M hG hS (i_rng (lo := 0) (hi := 11) rfl (by omega) (by omega)) (i_rng (lo := 0) (hi := 12) l_0 (by omega) (by omega)) (by have e1 : ((0 : Int32)).toInt = _ := l_0; omega)
abbrev l_X12_wouldCount : List Bx := [(96, 98, 0, 0)]
abbrev po_X12_wouldCount (a1 : Int32) (M : qM) (v : Int32) (M' : qM) : Prop := (0 ≤ v.toInt ∧ v.toInt ≤ 1) ∧ G M' ∧ Sm l_X12_wouldCount M M'
theorem t_X12_wouldCount_17 {n : Nat} (hn : 200000 ≤ n) {oa1 : Int32} {M0 : qM} : ∀ (m : Nat) (a1 a2 a3 a4 : Int32) (M : qM), G M → Sm l_X12_wouldCount M0 M → 0 ≤ a1.toInt ∧ a1.toInt ≤ 3 → 0 ≤ a2.toInt ∧ a2.toInt ≤ 11 → 0 ≤ a4.toInt ∧ a4.toInt ≤ 4 → 4 - a4.toInt < (m : Int) → qT (f_X12_wouldCount_17 n m a1 a2 a3 a4 M) (po_X12_wouldCount oa1 M0) := by
  intro m
  induction m with
  | zero =>
    intro a1 a2 a3 a4 M hG hS i0 i1 i2 i3
    exfalso; omega
  | succ m ih =>
    intro a1 a2 a3 a4 M hG hS i0 i1 i2 i3
    show qT (b_X12_wouldCount_17 n (f_X12_wouldCount_17 n m) a1 a2 a3 a4 M) _
    unfold b_X12_wouldCount_17
    have hq5_ := r_77_43 hG
    refine T_le rfl rfl (fun hq6_ => ?_) (fun hq6_ => ?_)
    · have hq9_ := r_77_44 hG
      refine T_qc (t_X12_feels hn (M 77 44) a2 (8 : Int32) M hG (i_rng (lo := 0) (hi := 7) rfl (by omega) (by omega)) (i_rng (lo := 0) (hi := 11) rfl (by omega) (by omega)) (i_rng (lo := 0) (hi := 8) l_8 (by omega) (by omega))) ?_
      rintro rv7 mv8 ⟨hq10_, gq11_, kq12_⟩
      have kq13_ := Sm.call hS kq12_ rfl
      have hq14_ : (mv8 77 43).toInt = (M 77 43).toInt := by rw [kq12_ 77 43 (by decide)]
      refine T_qg rfl (by omega) (by omega) ?_
      have hq15_ := r_108 gq11_ a1.toNatClampNeg
      refine T_qg rfl (by omega) (by omega) ?_
      refine T_qg rfl (by omega) (by omega) ?_
      refine T_qg rfl (by omega) (by omega) ?_
      have hq17_ := r_102 gq11_ ((mv8 108 a1.toNatClampNeg).toNatClampNeg)
      have hq18_ := i_full (mv8 97 9)
      have hq19_ := r_103 gq11_ ((mv8 108 a1.toNatClampNeg).toNatClampNeg)
      have hq20_ := i_full ((mv8 97 9) + (mv8 102 ((mv8 108 a1.toNatClampNeg).toNatClampNeg)))
      refine T_mu gq11_ kq13_ (rn_97 _ _) (nw_97 _) (i := 0) rfl ⟨by decide, by decide, Or.inl rfl⟩ ?_
      intro mv16 hq21_ gq22_ kq23_
      have hq24_ : (mv16 77 43).toInt = (mv8 77 43).toInt := by rw [hq21_, mu_ne (Or.inl (by decide))]
      have hq25_ : (mv16 108 a1.toNatClampNeg).toInt = (mv8 108 a1.toNatClampNeg).toInt := by rw [hq21_, mu_ne (Or.inl (by decide))]
      have hq26_ : (mv16 97 9).toInt = (((mv8 97 9) + (mv8 102 ((mv8 108 a1.toNatClampNeg).toNatClampNeg))) + (mv8 103 ((mv8 108 a1.toNatClampNeg).toNatClampNeg))).toInt := by rw [hq21_, mu_at]
      refine T_qg rfl (by omega) (by omega) ?_
      have hq27_ := r_108 gq22_ a1.toNatClampNeg
      refine T_qg rfl (by omega) (by omega) ?_
      refine T_qg rfl (by omega) (by omega) ?_
      refine T_qg rfl (by omega) (by omega) ?_
      have hq29_ := r_102 gq22_ ((mv16 108 a1.toNatClampNeg).toNatClampNeg)
      have hq30_ := i_full (mv16 97 10)
      have hq31_ := r_103 gq22_ ((mv16 108 a1.toNatClampNeg).toNatClampNeg)
      have hq32_ := i_full ((mv16 97 10) + (mv16 102 ((mv16 108 a1.toNatClampNeg).toNatClampNeg)))
      refine T_mu gq22_ kq23_ (rn_97 _ _) (nw_97 _) (i := 0) rfl ⟨by decide, by decide, Or.inl rfl⟩ ?_
      intro mv28 hq33_ gq34_ kq35_
      have hq36_ : (mv28 77 43).toInt = (mv16 77 43).toInt := by rw [hq33_, mu_ne (Or.inl (by decide))]
      have hq37_ : (mv28 108 a1.toNatClampNeg).toInt = (mv16 108 a1.toNatClampNeg).toInt := by rw [hq33_, mu_ne (Or.inl (by decide))]
      have hq38_ : (mv28 97 9).toInt = (mv16 97 9).toInt := by rw [hq33_, mu_ne (Or.inr (by decide))]
      have hq39_ : (mv28 97 10).toInt = (((mv16 97 10) + (mv16 102 ((mv16 108 a1.toNatClampNeg).toNatClampNeg))) + (mv16 103 ((mv16 108 a1.toNatClampNeg).toNatClampNeg))).toInt := by rw [hq33_, mu_at]
      refine T_qg rfl (by omega) (by omega) ?_
      have hq40_ := r_108 gq34_ a1.toNatClampNeg
      refine T_qg rfl (by omega) (by omega) ?_
      have hq42_ := r_104 gq34_ ((mv28 108 a1.toNatClampNeg).toNatClampNeg)
      have hq43_ := i_full (mv28 97 11)
      refine T_mu gq34_ kq35_ (rn_97 _ _) (nw_97 _) (i := 0) rfl ⟨by decide, by decide, Or.inl rfl⟩ ?_
      intro mv41 hq44_ gq45_ kq46_
      have hq47_ : (mv41 77 43).toInt = (mv28 77 43).toInt := by rw [hq44_, mu_ne (Or.inl (by decide))]
      have hq48_ : (mv41 108 a1.toNatClampNeg).toInt = (mv28 108 a1.toNatClampNeg).toInt := by rw [hq44_, mu_ne (Or.inl (by decide))]
      have hq49_ : (mv41 97 9).toInt = (mv28 97 9).toInt := by rw [hq44_, mu_ne (Or.inr (by decide))]
      have hq50_ : (mv41 97 10).toInt = (mv28 97 10).toInt := by rw [hq44_, mu_ne (Or.inr (by decide))]
      have hq51_ : (mv41 97 11).toInt = ((mv28 97 11) + (mv28 104 ((mv28 108 a1.toNatClampNeg).toNatClampNeg))).toInt := by rw [hq44_, mu_at]
      refine T_qc (t_X12_byLaw hn (118 : Int32) (99 : Int32) (1 : Int32) mv41 gq45_ (i_rng (lo := 99) (hi := 118) l_118 (by omega) (by omega)) (i_rng (lo := 99) (hi := 999) l_99 (by omega) (by omega)) (i_rng (lo := 0) (hi := 1) l_1 (by omega) (by omega))) ?_
      rintro rv52 mv53 ⟨hq54_, gq55_, kq56_⟩
      have kq57_ := Sm.call kq46_ kq56_ rfl
      have hq58_ : (mv53 77 43).toInt = (mv41 77 43).toInt := by rw [kq56_ 77 43 (by decide)]
      have hq59_ : (mv53 108 a1.toNatClampNeg).toInt = (mv41 108 a1.toNatClampNeg).toInt := by rw [kq56_ 108 _ (outc rfl)]
      have hq60_ : (mv53 97 9).toInt = (mv41 97 9).toInt := by rw [kq56_ 97 9 (by decide)]
      have hq61_ : (mv53 97 10).toInt = (mv41 97 10).toInt := by rw [kq56_ 97 10 (by decide)]
      have hq62_ : (mv53 97 11).toInt = (mv41 97 11).toInt := by rw [kq56_ 97 11 (by decide)]
      refine T_lt rfl rfl (fun hq63_ => ?_) (fun hq63_ => ?_)
      · exact T_ret ⟨(i_rng (lo := 0) (hi := 1) l_0 (by omega) (by omega)), gq55_, kq57_⟩
      · refine T_qc (t_X12_areCounted hn a2 mv53 gq55_ (i_rng (lo := 0) (hi := 11) rfl (by omega) (by omega))) ?_
        rintro rv64 mv65 ⟨hq66_, gq67_, kq68_⟩
        have hq69_ := kq68_.nil
        subst hq69_
        refine T_eq rfl l_0 (fun hq70_ => ?_) (fun hq70_ => ?_)
        · exact T_ret ⟨(i_rng (lo := 0) (hi := 1) l_0 (by omega) (by omega)), gq55_, kq57_⟩
        · exact T_ret ⟨(i_rng (lo := 0) (hi := 1) l_1 (by omega) (by omega)), gq55_, kq57_⟩
    · refine T_qg rfl (by omega) (by omega) ?_
      refine T_qc (t_X12_has0 hn (M 107 a1.toNatClampNeg) a4 M hG (i_rng (lo := 0) (hi := 11) rfl (by omega) (by omega))) ?_
      rintro rv71 mv72 ⟨hq73_, gq74_, kq75_⟩
      have hq76_ := kq75_.nil
      subst hq76_
      refine T_eq rfl l_0 (fun hq77_ => ?_) (fun hq77_ => ?_)
      · unfold f_X12_wouldCount_70
        have hq78_ := i_full (a3)
        refine T_ql (i_add rfl l_0 (by omega) (by omega)) ?_
        intro xv79 hq80_
        refine T_ql (i_add rfl l_1 (by omega) (by omega)) ?_
        intro xv81 hq82_
        exact ih a1 a2 xv79 xv81 M hG hS (i_rng (lo := 0) (hi := 3) rfl (by omega) (by omega)) (i_rng (lo := 0) (hi := 11) rfl (by omega) (by omega)) (i_rng (lo := 0) (hi := 4) rfl (by omega) (by omega)) (by omega)
      · refine T_qg rfl (by omega) (by omega) ?_
        have hq83_ := r_108 hG a4.toNatClampNeg
        refine T_qg rfl (by omega) (by omega) ?_
        refine T_qg rfl (by omega) (by omega) ?_
        refine T_qg rfl (by omega) (by omega) ?_
        unfold f_X12_wouldCount_70
        have hq84_ := r_102 hG ((M 108 a4.toNatClampNeg).toNatClampNeg)
        have hq85_ := r_103 hG ((M 108 a4.toNatClampNeg).toNatClampNeg)
        have hq86_ := i_full (a3)
        refine T_ql rfl ?_
        intro xv87 hq88_
        refine T_ql (i_add rfl l_1 (by omega) (by omega)) ?_
        intro xv89 hq90_
        exact ih a1 a2 xv87 xv89 M hG hS (i_rng (lo := 0) (hi := 3) rfl (by omega) (by omega)) (i_rng (lo := 0) (hi := 11) rfl (by omega) (by omega)) (i_rng (lo := 0) (hi := 4) rfl (by omega) (by omega)) (by omega)
theorem t_X12_wouldCount {n : Nat} (hn : 200000 ≤ n) (a1 : Int32) (M : qM) (hG : G M) (pa1 : 0 ≤ a1.toInt ∧ a1.toInt ≤ 3) : qT (f_X12_wouldCount n a1 M) (po_X12_wouldCount a1 M) := by
  have hS : Sm l_X12_wouldCount M M := Sm.rf
  unfold f_X12_wouldCount
  refine T_qg rfl (by omega) (by omega) ?_
  have hq91_ := r_105 hG a1.toNatClampNeg
  refine T_ql rfl ?_
  intro xv92 hq93_
  refine T_qg rfl (by omega) (by omega) ?_
  refine T_ql rfl ?_
  intro xv94 hq95_
  exact (t_X12_wouldCount_17 hn) n a1 xv92 xv94 (0 : Int32) M hG hS (i_rng (lo := 0) (hi := 3) rfl (by omega) (by omega)) (i_rng (lo := 0) (hi := 11) rfl (by omega) (by omega)) (i_rng (lo := 0) (hi := 4) l_0 (by omega) (by omega)) (by have e3 : ((0 : Int32)).toInt = _ := l_0; omega)
