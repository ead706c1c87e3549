abbrev l_X12_wouldCount : List Bx := [(96, 98, 0, 0)]
abbrev po_X12_wouldCount (a1 : Int32) (M : qM) (v : Int32) (M' : qM) : Prop := (0 ≤ v.toInt ∧ v.toInt ≤ 1) ∧ G M' ∧ Sm l_X12_wouldCount M M'
theorem t_X12_wouldCount_17 {n : Nat} (hn : 200000 ≤ n) {oa1 : Int32} {M0 : qM} : ∀ (m : Nat) (a1 a2 a3 a4 : Int32) (M : qM), G M → Sm l_X12_wouldCount M0 M → 0 ≤ a1.toInt ∧ a1.toInt ≤ 3 → 0 ≤ a2.toInt ∧ a2.toInt ≤ 11 → 0 ≤ a4.toInt ∧ a4.toInt ≤ 4 → 4 - a4.toInt < (m : Int) → qT (f_X12_wouldCount_17 n m a1 a2 a3 a4 M) (po_X12_wouldCount oa1 M0) := by
  intro m
  induction m with
  | zero =>
    intro a1 a2 a3 a4 M hG hS i0 i1 i2 i5
    exfalso; omega
  | succ m ih =>
    intro a1 a2 a3 a4 M hG hS i0 i1 i2 i5
    show qT (b_X12_wouldCount_17 n (f_X12_wouldCount_17 n m) a1 a2 a3 a4 M) _
    unfold b_X12_wouldCount_17
    have hq5_ := r_77_43 hG
    refine T_le rfl rfl (fun hq6_ => ?_) (fun hq6_ => ?_)
    · have hq9_ := r_77_44 hG
      refine T_qc (t_X12_feels hn (M 77 44) a2 (8 : Int32) M hG (i_rng (lo := 0) (hi := 7) rfl (by omega) (by omega)) (i_rng (lo := 0) (hi := 11) rfl (by omega) (by omega)) (i_rng (lo := 0) (hi := 8) l_8 (by omega) (by omega))) ?_
      rintro rv7 mv8 ⟨hq10_, gq11_, kq12_⟩
      have kq13_ := Sm.call hS kq12_ rfl
      have hq14_ : (mv8 77 43).toInt = (M 77 43).toInt := by rw [kq12_ 77 43 (by decide)]
      refine T_qg rfl (by omega) (by omega) ?_
      have hq15_ := r_108 gq11_ a1.toNatClampNeg
      refine T_qg rfl (by omega) (by omega) ?_
      refine T_qg rfl (by omega) (by omega) ?_
      refine T_qg rfl (by omega) (by omega) ?_
      have hq17_ := r_102 gq11_ ((mv8 108 a1.toNatClampNeg).toNatClampNeg)
      have hq18_ := i_full (mv8 97 9)
      have hq19_ := r_103 gq11_ ((mv8 108 a1.toNatClampNeg).toNatClampNeg)
      have hq20_ := i_full ((mv8 97 9) + (mv8 102 ((mv8 108 a1.toNatClampNeg).toNatClampNeg)))
      refine T_mu gq11_ kq13_ (rn_97 _ _) (nw_97 _) (i := 0) rfl ⟨by decide, by decide, Or.inl rfl⟩ ?_
      intro mv16 hq21_ gq22_ kq23_
      have hq24_ : (mv16 77 43).toInt = (mv8 77 43).toInt := by rw [hq21_, mu_ne (Or.inl (by decide))]
      have hq25_ : (mv16 108 a1.toNatClampNeg).toInt = (mv8 108 a1.toNatClampNeg).toInt := by rw [hq21_, mu_ne (Or.inl (by decide))]
      have hq26_ : (mv16 97 9).toInt = (((mv8 97 9) + (mv8 102 ((mv8 108 a1.toNatClampNeg).toNatClampNeg))) + (mv8 103 ((mv8 108 a1.toNatClampNeg).toNatClampNeg))).toInt := by rw [hq21_, mu_at]
      refine T_qg rfl (by omega) (by omega) ?_
      have hq27_ := r_108 gq22_ a1.toNatClampNeg
      refine T_qg rfl (by omega) (by omega) ?_
      refine T_qg rfl (by omega) (by omega) ?_
      refine T_qg rfl (by omega) (by omega) ?_
      have hq29_ := r_102 gq22_ ((mv16 108 a1.toNatClampNeg).toNatClampNeg)
      have hq30_ := i_full (mv16 97 10)
      have hq31_ := r_103 gq22_ ((mv16 108 a1.toNatClampNeg).toNatClampNeg)
      have hq32_ := i_full ((mv16 97 10) + (mv16 102 ((mv16 108 a1.toNatClampNeg).toNatClampNeg)))
      refine T_mu gq22_ kq23_ (rn_97 _ _) (nw_97 _) (i := 0) rfl ⟨by decide, by decide, Or.inl rfl⟩ ?_
      intro mv28 hq33_ gq34_ kq35_
      have hq36_ : (mv28 77 43).toInt = (mv16 77 43).toInt := by rw [hq33_, mu_ne (Or.inl (by decide))]
      have hq37_ : (mv28 108 a1.toNatClampNeg).toInt = (mv16 108 a1.toNatClampNeg).toInt := by rw [hq33_, mu_ne (Or.inl (by decide))]
      have hq38_ : (mv28 97 9).toInt = (mv16 97 9).toInt := by rw [hq33_, mu_ne (Or.inr (by decide))]
      have hq39_ : (mv28 97 10).toInt = (((mv16 97 10) + (mv16 102 ((mv16 108 a1.toNatClampNeg).toNatClampNeg))) + (mv16 103 ((mv16 108 a1.toNatClampNeg).toNatClampNeg))).toInt := by rw [hq33_, mu_at]
      refine T_qg rfl (by omega) (by omega) ?_
      have hq40_ := r_108 gq34_ a1.toNatClampNeg
      refine T_qg rfl (by omega) (by omega) ?_
      have hq42_ := r_104 gq34_ ((mv28 108 a1.toNatClampNeg).toNatClampNeg)
      have hq43_ := i_full (mv28 97 11)
      refine T_mu gq34_ kq35_ (rn_97 _ _) (nw_97 _) (i := 0) rfl ⟨by decide, by decide, Or.inl rfl⟩ ?_
      intro mv41 hq44_ gq45_ kq46_
      have hq47_ : (mv41 77 43).toInt = (mv28 77 43).toInt := by rw [hq44_, mu_ne (Or.inl (by decide))]
      have hq48_ : (mv41 108 a1.toNatClampNeg).toInt = (mv28 108 a1.toNatClampNeg).toInt := by rw [hq44_, mu_ne (Or.inl (by decide))]
      have hq49_ : (mv41 97 9).toInt = (mv28 97 9).toInt := by rw [hq44_, mu_ne (Or.inr (by decide))]
      have hq50_ : (mv41 97 10).toInt = (mv28 97 10).toInt := by rw [hq44_, mu_ne (Or.inr (by decide))]
      have hq51_ : (mv41 97 11).toInt = ((mv28 97 11) + (mv28 104 ((mv28 108 a1.toNatClampNeg).toNatClampNeg))).toInt := by rw [hq44_, mu_at]
      refine T_qc (t_X12_byLaw hn (118 : Int32) (99 : Int32) (1 : Int32) mv41 gq45_ (i_rng (lo := 99) (hi := 118) l_118 (by omega) (by omega)) (i_rng (lo := 99) (hi := 999) l_99 (by omega) (by omega)) (i_rng (lo := 0) (hi := 1) l_1 (by omega) (by omega))) ?_
      rintro rv52 mv53 ⟨hq54_, gq55_, kq56_⟩
      have kq57_ := Sm.call kq46_ kq56_ rfl
      have hq58_ : (mv53 77 43).toInt = (mv41 77 43).toInt := by rw [kq56_ 77 43 (by decide)]
      have hq59_ : (mv53 108 a1.toNatClampNeg).toInt = (mv41 108 a1.toNatClampNeg).toInt := by rw [kq56_ 108 _ (outc rfl)]
      have hq60_ : (mv53 97 9).toInt = (mv41 97 9).toInt := by rw [kq56_ 97 9 (by decide)]
      have hq61_ : (mv53 97 10).toInt = (mv41 97 10).toInt := by rw [kq56_ 97 10 (by decide)]
      have hq62_ : (mv53 97 11).toInt = (mv41 97 11).toInt := by rw [kq56_ 97 11 (by decide)]
      refine T_lt rfl rfl (fun hq63_ => ?_) (fun hq63_ => ?_)
      · exact T_ret ⟨(i_rng (lo := 0) (hi := 1) l_0 (by omega) (by omega)), gq55_, kq57_⟩
      · refine T_qc (t_X12_areCounted hn a2 mv53 gq55_ (i_rng (lo := 0) (hi := 11) rfl (by omega) (by omega))) ?_
        rintro rv64 mv65 ⟨hq66_, gq67_, kq68_⟩
        have hq69_ := kq68_.nil
        subst hq69_
        refine T_eq rfl l_0 (fun hq70_ => ?_) (fun hq70_ => ?_)
        · exact T_ret ⟨(i_rng (lo := 0) (hi := 1) l_0 (by omega) (by omega)), gq55_, kq57_⟩
        · exact T_ret ⟨(i_rng (lo := 0) (hi := 1) l_1 (by omega) (by omega)), gq55_, kq57_⟩
    · refine T_qg rfl (by omega) (by omega) ?_
      refine T_qc (t_X12_has0 hn (M 107 a1.toNatClampNeg) a4 M hG (i_rng (lo := 0) (hi := 11) rfl (by omega) (by omega))) ?_
      rintro rv71 mv72 ⟨hq73_, hq74_, gq75_, kq76_⟩
      have hq77_ := kq76_.nil
      subst hq77_
      refine T_eq rfl l_0 (fun hq78_ => ?_) (fun hq78_ => ?_)
      · unfold f_X12_wouldCount_70
        have hq79_ := i_full (a3)
        refine T_ql (i_add rfl l_0 (by omega) (by omega)) ?_
        intro xv80 hq81_
        refine T_ql (i_add rfl l_1 (by omega) (by omega)) ?_
        intro xv82 hq83_
        exact ih a1 a2 xv80 xv82 M hG hS (i_rng (lo := 0) (hi := 3) rfl (by omega) (by omega)) (i_rng (lo := 0) (hi := 11) rfl (by omega) (by omega)) (i_rng (lo := 0) (hi := 4) rfl (by omega) (by omega)) (by omega)
      · refine T_qg rfl (by omega) (by omega) ?_
        have hq84_ := r_108 hG a4.toNatClampNeg
        refine T_qg rfl (by omega) (by omega) ?_
        refine T_qg rfl (by omega) (by omega) ?_
        refine T_qg rfl (by omega) (by omega) ?_
        unfold f_X12_wouldCount_70
        have hq85_ := r_102 hG ((M 108 a4.toNatClampNeg).toNatClampNeg)
        have hq86_ := r_103 hG ((M 108 a4.toNatClampNeg).toNatClampNeg)
        have hq87_ := i_full (a3)
        refine T_ql rfl ?_
        intro xv88 hq89_
        refine T_ql (i_add rfl l_1 (by omega) (by omega)) ?_
        intro xv90 hq91_
        exact ih a1 a2 xv88 xv90 M hG hS (i_rng (lo := 0) (hi := 3) rfl (by omega) (by omega)) (i_rng (lo := 0) (hi := 11) rfl (by omega) (by omega)) (i_rng (lo := 0) (hi := 4) rfl (by omega) (by omega)) (by omega)
theorem t_X12_wouldCount {n : Nat} (hn : 200000 ≤ n) (a1 : Int32) (M : qM) (hG : G M) (pa1 : 0 ≤ a1.toInt ∧ a1.toInt ≤ 3) : qT (f_X12_wouldCount n a1 M) (po_X12_wouldCount a1 M) := by
  have hS : Sm l_X12_wouldCount M M := Sm.rf
  unfold f_X12_wouldCount
  refine T_qg rfl (by omega) (by omega) ?_
  have hq92_ := r_105 hG a1.toNatClampNeg
  refine T_ql rfl ?_
  intro xv93 hq94_
  refine T_qg rfl (by omega) (by omega) ?_
  refine T_ql rfl ?_
  intro xv95 hq96_
  exact (t_X12_wouldCount_17 hn) n a1 xv93 xv95 (0 : Int32) M hG hS (i_rng (lo := 0) (hi := 3) rfl (by omega) (by omega)) (i_rng (lo := 0) (hi := 11) rfl (by omega) (by omega)) (i_rng (lo := 0) (hi := 4) l_0 (by omega) (by omega)) (by have e3 : ((0 : Int32)).toInt = _ := l_0; omega)
abbrev l_X12_wayWith : List Bx := []
abbrev po_X12_wayWith (a1 a2 a3 : Int32) (M : qM) (v : Int32) (M' : qM) : Prop := (0 ≤ v.toInt ∧ v.toInt ≤ 19) ∧ G M' ∧ Sm l_X12_wayWith M M'
theorem t_X12_wayWith_3 {n : Nat} (hn : 200000 ≤ n) {oa1 oa2 oa3 : Int32} {M0 : qM} : ∀ (m : Nat) (a1 a2 a3 a4 : Int32) (M : qM), G M → Sm l_X12_wayWith M0 M → 0 ≤ a1.toInt ∧ a1.toInt ≤ 3 → 0 ≤ a2.toInt ∧ a2.toInt ≤ 3 → 0 ≤ a3.toInt ∧ a3.toInt ≤ 3 → 0 ≤ a4.toInt ∧ a4.toInt ≤ 20 → (∃ w : Nat, a4.toInt ≤ (w : Int) ∧ w < 20 ∧ (M 102 w).toInt = a1.toInt ∧ (M 103 w).toInt = a2.toInt ∧ (M 104 w).toInt = a3.toInt) → 20 - a4.toInt < (m : Int) → qT (f_X12_wayWith_3 n m a1 a2 a3 a4 M) (po_X12_wayWith oa1 oa2 oa3 M0) := by
  intro m
  induction m with
  | zero =>
    intro a1 a2 a3 a4 M hG hS i0 i1 i2 i3 hE i7
    obtain ⟨wE, hE1, hE2, hE3, hE4, hE5⟩ := hE
    exfalso; omega
  | succ m ih =>
    intro a1 a2 a3 a4 M hG hS i0 i1 i2 i3 hE i7
    show qT (b_X12_wayWith_3 n (f_X12_wayWith_3 n m) a1 a2 a3 a4 M) _
    unfold b_X12_wayWith_3
    obtain ⟨wE, hE1, hE2, hE3, hE4, hE5⟩ := hE
    refine T_le l_20 rfl (fun hq4_ => ?_) (fun hq4_ => ?_)
    · exact T_ret ⟨(i_rng (lo := 0) (hi := 19) l_m1 (by omega) (by omega)), hG, hS⟩
    · refine T_qg rfl (by omega) (by omega) ?_
      have hq5_ := r_102 hG a4.toNatClampNeg
      refine T_eq rfl rfl (fun hq6_ => ?_) (fun hq6_ => ?_)
      · refine T_qg rfl (by omega) (by omega) ?_
        have hq7_ := r_103 hG a4.toNatClampNeg
        refine T_eq rfl rfl (fun hq8_ => ?_) (fun hq8_ => ?_)
        · refine T_qg rfl (by omega) (by omega) ?_
          have hq9_ := r_104 hG a4.toNatClampNeg
          refine T_eq rfl rfl (fun hq10_ => ?_) (fun hq10_ => ?_)
          · exact T_ret ⟨(i_rng (lo := 0) (hi := 19) rfl (by omega) (by omega)), hG, hS⟩
          · refine T_ql (i_add rfl l_1 (by omega) (by omega)) ?_
            intro xv11 hq12_
            have hne : wE ≠ a4.toNatClampNeg := fun e_ => by rw [e_] at hE3 hE4 hE5; omega
            rw [tnc] at hne
            exact ih a1 a2 a3 xv11 M hG hS (i_rng (lo := 0) (hi := 3) rfl (by omega) (by omega)) (i_rng (lo := 0) (hi := 3) rfl (by omega) (by omega)) (i_rng (lo := 0) (hi := 3) rfl (by omega) (by omega)) (i_rng (lo := 0) (hi := 20) rfl (by omega) (by omega)) (by first | exact ⟨wE, by omega, by omega, hE3, hE4, hE5⟩ | (obtain ⟨w_, w1, w2, w3, w4⟩ := hG.2.2.2.1 a1.toInt.toNat a2.toInt.toNat a3.toInt.toNat (by omega) (by omega); exact ⟨w_, by have := l_0; omega, w1, by rw [w2, nI_toInt (by omega)]; omega, by rw [w3, nI_toInt (by omega)]; omega, by rw [w4, nI_toInt (by omega)]; omega⟩)) (by omega)
        · refine T_ql (i_add rfl l_1 (by omega) (by omega)) ?_
          intro xv13 hq14_
          have hne : wE ≠ a4.toNatClampNeg := fun e_ => by rw [e_] at hE3 hE4 hE5; omega
          rw [tnc] at hne
          exact ih a1 a2 a3 xv13 M hG hS (i_rng (lo := 0) (hi := 3) rfl (by omega) (by omega)) (i_rng (lo := 0) (hi := 3) rfl (by omega) (by omega)) (i_rng (lo := 0) (hi := 3) rfl (by omega) (by omega)) (i_rng (lo := 0) (hi := 20) rfl (by omega) (by omega)) (by first | exact ⟨wE, by omega, by omega, hE3, hE4, hE5⟩ | (obtain ⟨w_, w1, w2, w3, w4⟩ := hG.2.2.2.1 a1.toInt.toNat a2.toInt.toNat a3.toInt.toNat (by omega) (by omega); exact ⟨w_, by have := l_0; omega, w1, by rw [w2, nI_toInt (by omega)]; omega, by rw [w3, nI_toInt (by omega)]; omega, by rw [w4, nI_toInt (by omega)]; omega⟩)) (by omega)
      · refine T_ql (i_add rfl l_1 (by omega) (by omega)) ?_
        intro xv15 hq16_
        have hne : wE ≠ a4.toNatClampNeg := fun e_ => by rw [e_] at hE3 hE4 hE5; omega
        rw [tnc] at hne
        exact ih a1 a2 a3 xv15 M hG hS (i_rng (lo := 0) (hi := 3) rfl (by omega) (by omega)) (i_rng (lo := 0) (hi := 3) rfl (by omega) (by omega)) (i_rng (lo := 0) (hi := 3) rfl (by omega) (by omega)) (i_rng (lo := 0) (hi := 20) rfl (by omega) (by omega)) (by first | exact ⟨wE, by omega, by omega, hE3, hE4, hE5⟩ | (obtain ⟨w_, w1, w2, w3, w4⟩ := hG.2.2.2.1 a1.toInt.toNat a2.toInt.toNat a3.toInt.toNat (by omega) (by omega); exact ⟨w_, by have := l_0; omega, w1, by rw [w2, nI_toInt (by omega)]; omega, by rw [w3, nI_toInt (by omega)]; omega, by rw [w4, nI_toInt (by omega)]; omega⟩)) (by omega)
theorem t_X12_wayWith {n : Nat} (hn : 200000 ≤ n) (a1 a2 a3 : Int32) (M : qM) (hG : G M) (pa1 : 0 ≤ a1.toInt ∧ a1.toInt ≤ 3) (pa2 : 0 ≤ a2.toInt ∧ a2.toInt ≤ 3) (pa3 : 0 ≤ a3.toInt ∧ a3.toInt ≤ 3) (pe : 0 ≤ a1.toInt ∧ 0 ≤ a2.toInt ∧ 0 ≤ a3.toInt ∧ a1.toInt + a2.toInt ≤ 3 ∧ a3.toInt ≤ a1.toInt) : qT (f_X12_wayWith n a1 a2 a3 M) (po_X12_wayWith a1 a2 a3 M) := by
  have hS : Sm l_X12_wayWith M M := Sm.rf
  unfold f_X12_wayWith
  exact (t_X12_wayWith_3 hn) n a1 a2 a3 (0 : Int32) M hG hS (i_rng (lo := 0) (hi := 3) rfl (by omega) (by omega)) (i_rng (lo := 0) (hi := 3) rfl (by omega) (by omega)) (i_rng (lo := 0) (hi := 3) rfl (by omega) (by omega)) (i_rng (lo := 0) (hi := 20) l_0 (by omega) (by omega)) (by have e3 : ((0 : Int32)).toInt = _ := l_0; first | exact ⟨wE, by omega, by omega, hE3, hE4, hE5⟩ | (obtain ⟨w_, w1, w2, w3, w4⟩ := hG.2.2.2.1 a1.toInt.toNat a2.toInt.toNat a3.toInt.toNat (by omega) (by omega); exact ⟨w_, by have := l_0; omega, w1, by rw [w2, nI_toInt (by omega)]; omega, by rw [w3, nI_toInt (by omega)]; omega, by rw [w4, nI_toInt (by omega)]; omega⟩)) (by have e3 : ((0 : Int32)).toInt = _ := l_0; omega)
abbrev l_X12_stateNow : List Bx := []
abbrev po_X12_stateNow (M : qM) (v : Int32) (M' : qM) : Prop := (0 ≤ v.toInt ∧ v.toInt ≤ 159999) ∧ G M' ∧ Sm l_X12_stateNow M M'
theorem t_X12_stateNow_9 {n : Nat} (hn : 200000 ≤ n) {M0 : qM} : ∀ (m : Nat) (a1 a2 : Int32) (M : qM), G M → Sm l_X12_stateNow M0 M → 0 ≤ a1.toInt ∧ a1.toInt ≤ 159999 → (-1) ≤ a2.toInt ∧ a2.toInt ≤ 3 → (((M 77 43).toInt - 1 - a2.toInt = 0 ∧ a1.toInt ≤ 0) ∨ ((M 77 43).toInt - 1 - a2.toInt = 1 ∧ a1.toInt ≤ 19) ∨ ((M 77 43).toInt - 1 - a2.toInt = 2 ∧ a1.toInt ≤ 399) ∨ ((M 77 43).toInt - 1 - a2.toInt = 3 ∧ a1.toInt ≤ 7999) ∨ ((M 77 43).toInt - 1 - a2.toInt = 4 ∧ a1.toInt ≤ 159999)) → a2.toInt - (-1) < (m : Int) → qT (f_X12_stateNow_9 n m a1 a2 M) (po_X12_stateNow  M0) := by
  intro m
  induction m with
  | zero =>
    intro a1 a2 M hG hS i0 i1 hE i5
    have hq3_ := r_77_43 hG
    exfalso; omega
  | succ m ih =>
    intro a1 a2 M hG hS i0 i1 hE i5
    show qT (b_X12_stateNow_9 n (f_X12_stateNow_9 n m) a1 a2 M) _
    unfold b_X12_stateNow_9
    have hq3_ := r_77_43 hG
    refine T_lt rfl l_0 (fun hq4_ => ?_) (fun hq4_ => ?_)
    · exact T_ret ⟨(i_rng (lo := 0) (hi := 159999) rfl (by omega) (by omega)), hG, hS⟩
    · refine T_qg rfl (by omega) (by omega) ?_
      have hq5_ := r_108 hG a2.toNatClampNeg
      refine T_ql (i_add (i_mul l_20 rfl (by omega) (by omega)) rfl (by omega) (by omega)) ?_
      intro xv6 hq7_
      refine T_ql (i_add rfl l_m1 (by omega) (by omega)) ?_
      intro xv8 hq9_
      exact ih xv6 xv8 M hG hS (i_rng (lo := 0) (hi := 159999) rfl (by omega) (by omega)) (i_rng (lo := (-1)) (hi := 3) rfl (by omega) (by omega)) (by omega) (by omega)
theorem t_X12_stateNow {n : Nat} (hn : 200000 ≤ n) (M : qM) (hG : G M) : qT (f_X12_stateNow n  M) (po_X12_stateNow  M) := by
  have hS : Sm l_X12_stateNow M M := Sm.rf
  unfold f_X12_stateNow
  have hq10_ := r_77_43 hG
  refine T_ql (i_sub rfl l_1 (by omega) (by omega)) ?_
  intro xv11 hq12_
  exact (t_X12_stateNow_9 hn) n (0 : Int32) xv11 M hG hS (i_rng (lo := 0) (hi := 159999) l_0 (by omega) (by omega)) (i_rng (lo := (-1)) (hi := 3) rfl (by omega) (by omega)) (by have e0 : ((0 : Int32)).toInt = _ := l_0; omega) (by have e0 : ((0 : Int32)).toInt = _ := l_0; omega)
abbrev l_X12_marks : List Bx := [(108, 109, 0, 0), (110, 111, 0, 0)]
abbrev po_X12_marks (a1 a2 : Int32) (M : qM) (v : Int32) (M' : qM) : Prop := (0 ≤ v.toInt ∧ v.toInt ≤ 0) ∧ (M' 108 = M 108) ∧ G M' ∧ Sm l_X12_marks M M'
theorem t_X12_marks {n : Nat} (hn : 200000 ≤ n) (a1 a2 : Int32) (M : qM) (hG : G M) (pa1 : 0 ≤ a1.toInt ∧ a1.toInt ≤ 3) (pa2 : 0 ≤ a2.toInt ∧ a2.toInt ≤ 19) : qT (f_X12_marks n a1 a2 M) (po_X12_marks a1 a2 M) := by
  have hS : Sm l_X12_marks M M := Sm.rf
  unfold f_X12_marks
  refine T_qg rfl (by omega) (by omega) ?_
  have hq1_ := r_108 hG a1.toNatClampNeg
  refine T_ql rfl ?_
  intro xv2 hq3_
  refine T_qg rfl (by omega) (by omega) ?_
  refine T_mu hG hS (i_rng (lo := 0) (hi := 19) rfl (by omega) (by omega)) (nw_108 _) (i := 0) rfl ⟨by decide, by decide, Or.inl rfl⟩ ?_
  intro mv4 hq5_ gq6_ kq7_
  have hq8_ : (mv4 108 a1.toNatClampNeg).toInt = a2.toInt := by rw [hq5_, mu_at]
  refine T_qc (t_X12_stateNow hn  mv4 gq6_ ) ?_
  rintro rv9 mv10 ⟨hq11_, gq12_, kq13_⟩
  have hq14_ := kq13_.nil
  subst hq14_
  refine T_qg rfl (by omega) (by omega) ?_
  have hq16_ := i_bool (1 : Int32)
  refine T_mu gq6_ kq7_ (i_rng (lo := 0) (hi := 1) rfl (by omega) (by omega)) (nw_110 _) (i := 1) rfl ⟨by decide, by decide, Or.inl rfl⟩ ?_
  intro mv15 hq17_ gq18_ kq19_
  have hq20_ : (mv15 108 a1.toNatClampNeg).toInt = (mv4 108 a1.toNatClampNeg).toInt := by rw [hq17_, mu_ne (Or.inl (by decide))]
  have hq21_ : (mv15 110 rv9.toNatClampNeg).toInt = (vp_nar .boolean (1 : Int32)).toInt := by rw [hq17_, mu_at]
  refine T_qg rfl (by omega) (by omega) ?_
  refine T_mu gq18_ kq19_ (i_rng (lo := 0) (hi := 19) rfl (by omega) (by omega)) (nw_108 _) (i := 0) rfl ⟨by decide, by decide, Or.inl rfl⟩ ?_
  intro mv22 hq23_ gq24_ kq25_
  have hq26_ : (mv22 110 rv9.toNatClampNeg).toInt = (mv15 110 rv9.toNatClampNeg).toInt := by rw [hq23_, mu_ne (Or.inl (by decide))]
  have hq27_ : (mv22 108 a1.toNatClampNeg).toInt = xv2.toInt := by rw [hq23_, mu_at]
  exact T_ret ⟨(i_rng (lo := 0) (hi := 0) l_0 (by omega) (by omega)), (by funext s_; by_cases hs_ : s_ = a1.toNatClampNeg; exact (by rw [hs_]; rw [hq23_, mu_at]; exact Int32.toInt_inj.mp (by omega)); rw [hq23_, mu_ne (Or.inr hs_)]; rw [hq17_, mu_ne (Or.inl (by decide))]; rw [hq5_, mu_ne (Or.inr hs_)]), gq24_, kq25_⟩
abbrev l_X12_spreads : List Bx := [(96, 98, 0, 0), (108, 109, 0, 0), (110, 111, 0, 0)]
abbrev po_X12_spreads (a1 : Int32) (M : qM) (v : Int32) (M' : qM) : Prop := (0 ≤ v.toInt ∧ v.toInt ≤ 0) ∧ G M' ∧ Sm l_X12_spreads M M'
theorem t_X12_spreads_7 {n : Nat} (hn : 200000 ≤ n) {oa1 : Int32} {M0 : qM} : ∀ (m : Nat) (a1 a2 a3 : Int32) (M : qM), G M → Sm l_X12_spreads M0 M → 0 ≤ a1.toInt ∧ a1.toInt ≤ 3 → 0 ≤ a3.toInt ∧ a3.toInt ≤ 4 → 4 - a3.toInt < (m : Int) → qT (f_X12_spreads_7 n m a1 a2 a3 M) (po_X12_spreads oa1 M0) := by
  intro m
  induction m with
  | zero =>
    intro a1 a2 a3 M hG hS i0 i1 i4
    exfalso; omega
  | succ m ih =>
    intro a1 a2 a3 M hG hS i0 i1 i4
    show qT (b_X12_spreads_7 n (f_X12_spreads_7 n m) a1 a2 a3 M) _
    unfold b_X12_spreads_7
    have hq8_ := r_77_43 hG
    refine T_le rfl rfl (fun hq9_ => ?_) (fun hq9_ => ?_)
    · exact T_ret ⟨(i_rng (lo := 0) (hi := 0) l_0 (by omega) (by omega)), hG, hS⟩
    · refine T_qg rfl (by omega) (by omega) ?_
      have hq10_ := r_108 hG a3.toNatClampNeg
      refine T_qg rfl (by omega) (by omega) ?_
      have hq11_ := hG.2.2.2.2 ((M 108 a3.toNatClampNeg).toNatClampNeg) (by rw [tnc]; omega)
      have hq12_ := r_102 hG ((M 108 a3.toNatClampNeg).toNatClampNeg)
      refine T_ql rfl ?_
      intro xv13 hq14_
      refine T_qg rfl (by omega) (by omega) ?_
      refine T_qg rfl (by omega) (by omega) ?_
      have hq15_ := r_103 hG ((M 108 a3.toNatClampNeg).toNatClampNeg)
      refine T_ql rfl ?_
      intro xv16 hq17_
      refine T_eq (i_add rfl rfl (by omega) (by omega)) l_3 (fun hq18_ => ?_) (fun hq18_ => ?_)
      · refine T_ql (i_add rfl l_1 (by omega) (by omega)) ?_
        intro xv19 hq20_
        exact ih a1 a2 xv19 M hG hS (i_rng (lo := 0) (hi := 3) rfl (by omega) (by omega)) (i_rng (lo := 0) (hi := 4) rfl (by omega) (by omega)) (by omega)
      · refine T_qg rfl (by omega) (by omega) ?_
        refine T_qg rfl (by omega) (by omega) ?_
        refine T_qc (t_X12_wouldCount hn a3 M hG (i_rng (lo := 0) (hi := 3) rfl (by omega) (by omega))) ?_
        rintro rv21 mv22 ⟨hq23_, gq24_, kq25_⟩
        have kq26_ := Sm.call hS kq25_ rfl
        have hq27_ : (mv22 77 43).toInt = (M 77 43).toInt := by rw [kq25_ 77 43 (by decide)]
        have hq28_ : (mv22 108 a3.toNatClampNeg).toInt = (M 108 a3.toNatClampNeg).toInt := by rw [kq25_ 108 _ (outc rfl)]
        refine T_eq rfl l_0 (fun hq29_ => ?_) (fun hq29_ => ?_)
        · unfold f_X12_spreads_86
          have hq32_ := r_104 hG ((M 108 a3.toNatClampNeg).toNatClampNeg)
          refine T_qc (t_X12_wayWith hn (xv13 + (1 : Int32)) xv16 ((M 104 ((M 108 a3.toNatClampNeg).toNatClampNeg)) + (0 : Int32)) mv22 gq24_ (i_rng (lo := 0) (hi := 3) (i_add rfl l_1 (by omega) (by omega)) (by omega) (by omega)) (i_rng (lo := 0) (hi := 3) rfl (by omega) (by omega)) (i_rng (lo := 0) (hi := 3) (i_add rfl l_0 (by omega) (by omega)) (by omega) (by omega)) (by have e0 : (xv13 + (1 : Int32)).toInt = _ := (i_add rfl l_1 (by omega) (by omega)); have e2 : ((M 104 ((M 108 a3.toNatClampNeg).toNatClampNeg)) + (0 : Int32)).toInt = _ := (i_add rfl l_0 (by omega) (by omega)); omega)) ?_
          rintro rv30 mv31 ⟨hq33_, gq34_, kq35_⟩
          have hq36_ := kq35_.nil
          subst hq36_
          refine T_qc (t_X12_marks hn a3 rv30 mv22 gq24_ (i_rng (lo := 0) (hi := 3) rfl (by omega) (by omega)) (i_rng (lo := 0) (hi := 19) rfl (by omega) (by omega))) ?_
          rintro rv37 mv38 ⟨hq39_, hq40_, gq41_, kq42_⟩
          have kq43_ := Sm.call kq26_ kq42_ rfl
          have hq44_ : (mv38 77 43).toInt = (mv22 77 43).toInt := by rw [kq42_ 77 43 (by decide)]
          have hq45_ : mv38 108 a3.toNatClampNeg = M 108 a3.toNatClampNeg := by rw [hq40_]; rw [kq25_ 108 _ (outc rfl)]
          have hq46_ : mv38 102 (mv38 108 a3.toNatClampNeg).toNatClampNeg = M 102 (M 108 a3.toNatClampNeg).toNatClampNeg := by rw [hq45_]; rw [kq42_ 102 _ (outc rfl)]; rw [kq25_ 102 _ (outc rfl)]
          have hq51_ := congrArg Int32.toInt hq46_
          have hq47_ : mv38 103 (mv38 108 a3.toNatClampNeg).toNatClampNeg = M 103 (M 108 a3.toNatClampNeg).toNatClampNeg := by rw [hq45_]; rw [kq42_ 103 _ (outc rfl)]; rw [kq25_ 103 _ (outc rfl)]
          have hq52_ := congrArg Int32.toInt hq47_
          have hq48_ : mv38 104 (mv38 108 a3.toNatClampNeg).toNatClampNeg = M 104 (M 108 a3.toNatClampNeg).toNatClampNeg := by rw [hq45_]; rw [kq42_ 104 _ (outc rfl)]; rw [kq25_ 104 _ (outc rfl)]
          have hq53_ := congrArg Int32.toInt hq48_
          refine T_le rfl rfl (fun hq54_ => ?_) (fun hq54_ => ?_)
          · refine T_ql (i_add rfl l_1 (by omega) (by omega)) ?_
            intro xv55 hq56_
            exact ih a1 a2 xv55 mv38 gq41_ kq43_ (i_rng (lo := 0) (hi := 3) rfl (by omega) (by omega)) (i_rng (lo := 0) (hi := 4) rfl (by omega) (by omega)) (by omega)
          · refine T_qg rfl (by omega) (by omega) ?_
            have hq57_ := r_108 gq41_ a3.toNatClampNeg
            refine T_qg rfl (by omega) (by omega) ?_
            have hq60_ := gq41_.2.2.2.2 ((mv38 108 a3.toNatClampNeg).toNatClampNeg) (by rw [tnc]; omega)
            have hq61_ := r_104 gq41_ ((mv38 108 a3.toNatClampNeg).toNatClampNeg)
            refine T_qc (t_X12_wayWith hn xv13 (xv16 + (1 : Int32)) (mv38 104 ((mv38 108 a3.toNatClampNeg).toNatClampNeg)) mv38 gq41_ (i_rng (lo := 0) (hi := 3) rfl (by omega) (by omega)) (i_rng (lo := 0) (hi := 3) (i_add rfl l_1 (by omega) (by omega)) (by omega) (by omega)) (i_rng (lo := 0) (hi := 3) rfl (by omega) (by omega)) (by have e1 : (xv16 + (1 : Int32)).toInt = _ := (i_add rfl l_1 (by omega) (by omega)); omega)) ?_
            rintro rv58 mv59 ⟨hq62_, gq63_, kq64_⟩
            have hq65_ := kq64_.nil
            subst hq65_
            refine T_qc (t_X12_marks hn a3 rv58 mv38 gq41_ (i_rng (lo := 0) (hi := 3) rfl (by omega) (by omega)) (i_rng (lo := 0) (hi := 19) rfl (by omega) (by omega))) ?_
            rintro rv66 mv67 ⟨hq68_, hq69_, gq70_, kq71_⟩
            have kq72_ := Sm.call kq43_ kq71_ rfl
            have hq73_ : (mv67 77 43).toInt = (mv38 77 43).toInt := by rw [kq71_ 77 43 (by decide)]
            refine T_ql (i_add rfl l_1 (by omega) (by omega)) ?_
            intro xv74 hq75_
            exact ih a1 a2 xv74 mv67 gq70_ kq72_ (i_rng (lo := 0) (hi := 3) rfl (by omega) (by omega)) (i_rng (lo := 0) (hi := 4) rfl (by omega) (by omega)) (by omega)
        · unfold f_X12_spreads_86
          have hq78_ := r_104 hG ((M 108 a3.toNatClampNeg).toNatClampNeg)
          refine T_qc (t_X12_wayWith hn (xv13 + (1 : Int32)) xv16 ((M 104 ((M 108 a3.toNatClampNeg).toNatClampNeg)) + (1 : Int32)) mv22 gq24_ (i_rng (lo := 0) (hi := 3) (i_add rfl l_1 (by omega) (by omega)) (by omega) (by omega)) (i_rng (lo := 0) (hi := 3) rfl (by omega) (by omega)) (i_rng (lo := 0) (hi := 3) (i_add rfl l_1 (by omega) (by omega)) (by omega) (by omega)) (by have e0 : (xv13 + (1 : Int32)).toInt = _ := (i_add rfl l_1 (by omega) (by omega)); have e2 : ((M 104 ((M 108 a3.toNatClampNeg).toNatClampNeg)) + (1 : Int32)).toInt = _ := (i_add rfl l_1 (by omega) (by omega)); omega)) ?_
          rintro rv76 mv77 ⟨hq79_, gq80_, kq81_⟩
          have hq82_ := kq81_.nil
          subst hq82_
          refine T_qc (t_X12_marks hn a3 rv76 mv22 gq24_ (i_rng (lo := 0) (hi := 3) rfl (by omega) (by omega)) (i_rng (lo := 0) (hi := 19) rfl (by omega) (by omega))) ?_
          rintro rv83 mv84 ⟨hq85_, hq86_, gq87_, kq88_⟩
          have kq89_ := Sm.call kq26_ kq88_ rfl
          have hq90_ : (mv84 77 43).toInt = (mv22 77 43).toInt := by rw [kq88_ 77 43 (by decide)]
          have hq91_ : mv84 108 a3.toNatClampNeg = M 108 a3.toNatClampNeg := by rw [hq86_]; rw [kq25_ 108 _ (outc rfl)]
          have hq92_ : mv84 102 (mv84 108 a3.toNatClampNeg).toNatClampNeg = M 102 (M 108 a3.toNatClampNeg).toNatClampNeg := by rw [hq91_]; rw [kq88_ 102 _ (outc rfl)]; rw [kq25_ 102 _ (outc rfl)]
          have hq97_ := congrArg Int32.toInt hq92_
          have hq93_ : mv84 103 (mv84 108 a3.toNatClampNeg).toNatClampNeg = M 103 (M 108 a3.toNatClampNeg).toNatClampNeg := by rw [hq91_]; rw [kq88_ 103 _ (outc rfl)]; rw [kq25_ 103 _ (outc rfl)]
          have hq98_ := congrArg Int32.toInt hq93_
          have hq94_ : mv84 104 (mv84 108 a3.toNatClampNeg).toNatClampNeg = M 104 (M 108 a3.toNatClampNeg).toNatClampNeg := by rw [hq91_]; rw [kq88_ 104 _ (outc rfl)]; rw [kq25_ 104 _ (outc rfl)]
          have hq99_ := congrArg Int32.toInt hq94_
          refine T_le rfl rfl (fun hq100_ => ?_) (fun hq100_ => ?_)
          · refine T_ql (i_add rfl l_1 (by omega) (by omega)) ?_
            intro xv101 hq102_
            exact ih a1 a2 xv101 mv84 gq87_ kq89_ (i_rng (lo := 0) (hi := 3) rfl (by omega) (by omega)) (i_rng (lo := 0) (hi := 4) rfl (by omega) (by omega)) (by omega)
          · refine T_qg rfl (by omega) (by omega) ?_
            have hq103_ := r_108 gq87_ a3.toNatClampNeg
            refine T_qg rfl (by omega) (by omega) ?_
            have hq106_ := gq87_.2.2.2.2 ((mv84 108 a3.toNatClampNeg).toNatClampNeg) (by rw [tnc]; omega)
            have hq107_ := r_104 gq87_ ((mv84 108 a3.toNatClampNeg).toNatClampNeg)
            refine T_qc (t_X12_wayWith hn xv13 (xv16 + (1 : Int32)) (mv84 104 ((mv84 108 a3.toNatClampNeg).toNatClampNeg)) mv84 gq87_ (i_rng (lo := 0) (hi := 3) rfl (by omega) (by omega)) (i_rng (lo := 0) (hi := 3) (i_add rfl l_1 (by omega) (by omega)) (by omega) (by omega)) (i_rng (lo := 0) (hi := 3) rfl (by omega) (by omega)) (by have e1 : (xv16 + (1 : Int32)).toInt = _ := (i_add rfl l_1 (by omega) (by omega)); omega)) ?_
            rintro rv104 mv105 ⟨hq108_, gq109_, kq110_⟩
            have hq111_ := kq110_.nil
            subst hq111_
            refine T_qc (t_X12_marks hn a3 rv104 mv84 gq87_ (i_rng (lo := 0) (hi := 3) rfl (by omega) (by omega)) (i_rng (lo := 0) (hi := 19) rfl (by omega) (by omega))) ?_
            rintro rv112 mv113 ⟨hq114_, hq115_, gq116_, kq117_⟩
            have kq118_ := Sm.call kq89_ kq117_ rfl
            have hq119_ : (mv113 77 43).toInt = (mv84 77 43).toInt := by rw [kq117_ 77 43 (by decide)]
            refine T_ql (i_add rfl l_1 (by omega) (by omega)) ?_
            intro xv120 hq121_
            exact ih a1 a2 xv120 mv113 gq116_ kq118_ (i_rng (lo := 0) (hi := 3) rfl (by omega) (by omega)) (i_rng (lo := 0) (hi := 4) rfl (by omega) (by omega)) (by omega)
theorem t_X12_spreads {n : Nat} (hn : 200000 ≤ n) (a1 : Int32) (M : qM) (hG : G M) (pa1 : 0 ≤ a1.toInt ∧ a1.toInt ≤ 3) : qT (f_X12_spreads n a1 M) (po_X12_spreads a1 M) := by
  have hS : Sm l_X12_spreads M M := Sm.rf
  unfold f_X12_spreads
  refine T_qc (t_X12_goesNow hn  M hG ) ?_
  rintro rv122 mv123 ⟨gq124_, kq125_⟩
  have hq126_ := kq125_.nil
  subst hq126_
  exact (t_X12_spreads_7 hn) n a1 rv122 (0 : Int32) M hG hS (i_rng (lo := 0) (hi := 3) rfl (by omega) (by omega)) (i_rng (lo := 0) (hi := 4) l_0 (by omega) (by omega)) (by have e2 : ((0 : Int32)).toInt = _ := l_0; omega)
