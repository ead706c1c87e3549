abbrev l_X10_copy_c25_7 : List Bx := [(25, 26, 8, 10), (26, 34, 0, 0)]
abbrev po_X10_copy_c25_7 (M : qM) (v : Int32) (M' : qM) : Prop := (0 ≤ v.toInt ∧ v.toInt ≤ 0) ∧ ((M' 25 9).toInt = (M 7 9).toInt ∧ (M' 25 8).toInt = (M 7 8).toInt) ∧ G M' ∧ Sm l_X10_copy_c25_7 M M'
theorem t_X10_copy_c25_7 {n : Nat} (hn : 200000 ≤ n) (M : qM) (hG : G M) : qT (f_X10_copy n 25 7  M) (po_X10_copy_c25_7  M) := by
  have hS : Sm l_X10_copy_c25_7 M M := Sm.rf
  unfold f_X10_copy
  try simp only [Nat.reduceAdd]
  refine T_qcp l_0 l_0 l_8 (by omega) (by omega) (by omega) (by omega) (by omega) ?_
  refine T_mr hG hS (fun s => rn_26 s _) nw_26 (i := 1) rfl (fun s => ⟨by decide, by decide, Or.inl rfl⟩) ?_
  intro mv1 hq2_ gq3_ kq4_
  have hq5_ : (mv1 7 9).toInt = (M 7 9).toInt := by rw [hq2_]; show ((if 7 = 26 then _ else M 7) 9).toInt = _; rw [if_neg (by decide)]
  have hq6_ : (mv1 7 8).toInt = (M 7 8).toInt := by rw [hq2_]; show ((if 7 = 26 then _ else M 7) 8).toInt = _; rw [if_neg (by decide)]
  refine T_qcp l_0 l_0 l_96 (by omega) (by omega) (by omega) (by omega) (by omega) ?_
  refine T_mr gq3_ kq4_ (fun s => rn_27 s _) nw_27 (i := 1) rfl (fun s => ⟨by decide, by decide, Or.inl rfl⟩) ?_
  intro mv7 hq8_ gq9_ kq10_
  have hq11_ : (mv7 7 9).toInt = (mv1 7 9).toInt := by rw [hq8_]; show ((if 7 = 27 then _ else mv1 7) 9).toInt = _; rw [if_neg (by decide)]
  have hq12_ : (mv7 7 8).toInt = (mv1 7 8).toInt := by rw [hq8_]; show ((if 7 = 27 then _ else mv1 7) 8).toInt = _; rw [if_neg (by decide)]
  refine T_qcp l_0 l_0 l_96 (by omega) (by omega) (by omega) (by omega) (by omega) ?_
  refine T_mr gq9_ kq10_ (fun s => rn_28 s _) nw_28 (i := 1) rfl (fun s => ⟨by decide, by decide, Or.inl rfl⟩) ?_
  intro mv13 hq14_ gq15_ kq16_
  have hq17_ : (mv13 7 9).toInt = (mv7 7 9).toInt := by rw [hq14_]; show ((if 7 = 28 then _ else mv7 7) 9).toInt = _; rw [if_neg (by decide)]
  have hq18_ : (mv13 7 8).toInt = (mv7 7 8).toInt := by rw [hq14_]; show ((if 7 = 28 then _ else mv7 7) 8).toInt = _; rw [if_neg (by decide)]
  refine T_qcp l_0 l_0 l_96 (by omega) (by omega) (by omega) (by omega) (by omega) ?_
  refine T_mr gq15_ kq16_ (fun s => rn_29 s _) nw_29 (i := 1) rfl (fun s => ⟨by decide, by decide, Or.inl rfl⟩) ?_
  intro mv19 hq20_ gq21_ kq22_
  have hq23_ : (mv19 7 9).toInt = (mv13 7 9).toInt := by rw [hq20_]; show ((if 7 = 29 then _ else mv13 7) 9).toInt = _; rw [if_neg (by decide)]
  have hq24_ : (mv19 7 8).toInt = (mv13 7 8).toInt := by rw [hq20_]; show ((if 7 = 29 then _ else mv13 7) 8).toInt = _; rw [if_neg (by decide)]
  refine T_qcp l_0 l_0 l_320 (by omega) (by omega) (by omega) (by omega) (by omega) ?_
  refine T_mr gq21_ kq22_ (fun s => rn_30 s _) nw_30 (i := 1) rfl (fun s => ⟨by decide, by decide, Or.inl rfl⟩) ?_
  intro mv25 hq26_ gq27_ kq28_
  have hq29_ : (mv25 7 9).toInt = (mv19 7 9).toInt := by rw [hq26_]; show ((if 7 = 30 then _ else mv19 7) 9).toInt = _; rw [if_neg (by decide)]
  have hq30_ : (mv25 7 8).toInt = (mv19 7 8).toInt := by rw [hq26_]; show ((if 7 = 30 then _ else mv19 7) 8).toInt = _; rw [if_neg (by decide)]
  refine T_qcp l_0 l_0 l_320 (by omega) (by omega) (by omega) (by omega) (by omega) ?_
  refine T_mr gq27_ kq28_ (fun s => rn_31 s _) nw_31 (i := 1) rfl (fun s => ⟨by decide, by decide, Or.inl rfl⟩) ?_
  intro mv31 hq32_ gq33_ kq34_
  have hq35_ : (mv31 7 9).toInt = (mv25 7 9).toInt := by rw [hq32_]; show ((if 7 = 31 then _ else mv25 7) 9).toInt = _; rw [if_neg (by decide)]
  have hq36_ : (mv31 7 8).toInt = (mv25 7 8).toInt := by rw [hq32_]; show ((if 7 = 31 then _ else mv25 7) 8).toInt = _; rw [if_neg (by decide)]
  refine T_qcp l_0 l_0 l_8 (by omega) (by omega) (by omega) (by omega) (by omega) ?_
  refine T_mr gq33_ kq34_ (va_in (r_14 gq33_) (r_32 gq33_)) nw_32 (i := 1) rfl (fun s => ⟨by decide, by decide, Or.inl rfl⟩) ?_
  intro mv37 hq38_ gq39_ kq40_
  have hq41_ : (mv37 7 9).toInt = (mv31 7 9).toInt := by rw [hq38_]; show ((if 7 = 32 then _ else mv31 7) 9).toInt = _; rw [if_neg (by decide)]
  have hq42_ : (mv37 7 8).toInt = (mv31 7 8).toInt := by rw [hq38_]; show ((if 7 = 32 then _ else mv31 7) 8).toInt = _; rw [if_neg (by decide)]
  refine T_qcp l_0 l_0 l_8 (by omega) (by omega) (by omega) (by omega) (by omega) ?_
  refine T_mr gq39_ kq40_ (va_in (r_15 gq39_) (r_33 gq39_)) nw_33 (i := 1) rfl (fun s => ⟨by decide, by decide, Or.inl rfl⟩) ?_
  intro mv43 hq44_ gq45_ kq46_
  have hq47_ : (mv43 7 9).toInt = (mv37 7 9).toInt := by rw [hq44_]; show ((if 7 = 33 then _ else mv37 7) 9).toInt = _; rw [if_neg (by decide)]
  have hq48_ : (mv43 7 8).toInt = (mv37 7 8).toInt := by rw [hq44_]; show ((if 7 = 33 then _ else mv37 7) 8).toInt = _; rw [if_neg (by decide)]
  refine T_mu gq45_ kq46_ (rn_25_8 _) (nw_25 _) (i := 0) rfl ⟨by decide, by decide, Or.inr ⟨by decide, by decide⟩⟩ ?_
  intro mv49 hq50_ gq51_ kq52_
  have hq53_ : (mv49 7 9).toInt = (mv43 7 9).toInt := by rw [hq50_, mu_ne (Or.inl (by decide))]
  have hq54_ : (mv49 7 8).toInt = (mv43 7 8).toInt := by rw [hq50_, mu_ne (Or.inl (by decide))]
  have hq55_ : (mv49 25 8).toInt = (mv43 7 8).toInt := by rw [hq50_, mu_at]
  refine T_mu gq51_ kq52_ (rn_25_9 _) (nw_25 _) (i := 0) rfl ⟨by decide, by decide, Or.inr ⟨by decide, by decide⟩⟩ ?_
  intro mv56 hq57_ gq58_ kq59_
  have hq60_ : (mv56 7 9).toInt = (mv49 7 9).toInt := by rw [hq57_, mu_ne (Or.inl (by decide))]
  have hq61_ : (mv56 7 8).toInt = (mv49 7 8).toInt := by rw [hq57_, mu_ne (Or.inl (by decide))]
  have hq62_ : (mv56 25 8).toInt = (mv49 25 8).toInt := by rw [hq57_, mu_ne (Or.inr (by decide))]
  have hq63_ : (mv56 25 9).toInt = (mv49 7 9).toInt := by rw [hq57_, mu_at]
  exact T_ret ⟨(i_rng (lo := 0) (hi := 0) l_0 (by omega) (by omega)), (by have e9 : (0 : Int32).toInt = _ := l_0; omega), gq58_, kq59_⟩
abbrev l_X10_knows_c25 : List Bx := []
abbrev po_X10_knows_c25 (a1 : Int32) (M : qM) (v : Int32) (M' : qM) : Prop := (0 ≤ v.toInt ∧ v.toInt ≤ 1) ∧ ((v.toInt = 1 ∧ (0 ≤ a1.toInt ∧ a1.toInt ≤ 7 ∧ (((M 25 8) >>> (a1 &&& 31)) &&& (1 : Int32)).toInt = 1)) ∨ (v.toInt = 0 ∧ ¬ (0 ≤ a1.toInt ∧ a1.toInt ≤ 7 ∧ (((M 25 8) >>> (a1 &&& 31)) &&& (1 : Int32)).toInt = 1))) ∧ G M' ∧ Sm l_X10_knows_c25 M M'
theorem t_X10_knows_c25 {n : Nat} (hn : 200000 ≤ n) (a1 : Int32) (M : qM) (hG : G M) : qT (f_X10_knows n 25 a1 M) (po_X10_knows_c25 a1 M) := by
  have hS : Sm l_X10_knows_c25 M M := Sm.rf
  unfold f_X10_knows
  try simp only [Nat.reduceAdd]
  refine T_lt rfl l_0 (fun hq1_ => ?_) (fun hq1_ => ?_)
  · exact T_ret ⟨(i_rng (lo := 0) (hi := 1) l_0 (by omega) (by omega)), (by have e9 : ((0 : Int32)).toInt = _ := l_0; omega), hG, hS⟩
  · refine T_le l_8 rfl (fun hq2_ => ?_) (fun hq2_ => ?_)
    · exact T_ret ⟨(i_rng (lo := 0) (hi := 1) l_0 (by omega) (by omega)), (by have e9 : ((0 : Int32)).toInt = _ := l_0; omega), hG, hS⟩
    · have hq3_ := i_and (a := (M 25 8) >>> (a1 &&& 31)) (b := (1 : Int32)) l_1 (by omega)
      refine T_eq rfl l_1 (fun hq4_ => ?_) (fun hq4_ => ?_)
      · exact T_ret ⟨(i_rng (lo := 0) (hi := 1) l_1 (by omega) (by omega)), (by have e9 : ((1 : Int32)).toInt = _ := l_1; omega), hG, hS⟩
      · exact T_ret ⟨(i_rng (lo := 0) (hi := 1) l_0 (by omega) (by omega)), (by have e9 : ((0 : Int32)).toInt = _ := l_0; omega), hG, hS⟩
abbrev l_X10_triesByAll_c25 : List Bx := []
abbrev po_X10_triesByAll_c25 (a1 : Int32) (M : qM) (v : Int32) (M' : qM) : Prop := G M' ∧ Sm l_X10_triesByAll_c25 M M'
theorem t_X10_triesByAll_c25_4 {n : Nat} (hn : 200000 ≤ n) {oa1 : Int32} {M0 : qM} : ∀ (m : Nat) (a1 a2 a3 : Int32) (M : qM), G M → Sm l_X10_triesByAll_c25 M0 M → 0 ≤ a1.toInt ∧ a1.toInt ≤ 11 → 0 ≤ a3.toInt ∧ a3.toInt ≤ 8 → 8 - a3.toInt < (m : Int) → qT (f_X10_triesByAll_4 n 25 m a1 a2 a3 M) (po_X10_triesByAll_c25 oa1 M0) := by
  intro m
  induction m with
  | zero =>
    intro a1 a2 a3 M hG hS i0 i1 i4
    exfalso; omega
  | succ m ih =>
    intro a1 a2 a3 M hG hS i0 i1 i4
    show qT (b_X10_triesByAll_4 n 25 (f_X10_triesByAll_4 n 25 m) a1 a2 a3 M) _
    unfold b_X10_triesByAll_4
    try simp only [Nat.reduceAdd]
    refine T_le l_8 rfl (fun hq3_ => ?_) (fun hq3_ => ?_)
    · exact T_ret ⟨hG, hS⟩
    · refine T_qg (i_add (i_mul rfl l_12 (by omega) (by omega)) rfl (by omega) (by omega)) (by omega) (by omega) ?_
      have hq4_ := i_full (a2)
      have hq5_ := i_full (M 27 (((a3 * (12 : Int32)) + a1).toNatClampNeg))
      refine T_ql rfl ?_
      intro xv6 hq7_
      refine T_ql (i_add rfl l_1 (by omega) (by omega)) ?_
      intro xv8 hq9_
      exact ih a1 xv6 xv8 M hG hS (i_rng (lo := 0) (hi := 11) rfl (by omega) (by omega)) (i_rng (lo := 0) (hi := 8) rfl (by omega) (by omega)) (by omega)
theorem t_X10_triesByAll_c25 {n : Nat} (hn : 200000 ≤ n) (a1 : Int32) (M : qM) (hG : G M) (pa1 : 0 ≤ a1.toInt ∧ a1.toInt ≤ 11) : qT (f_X10_triesByAll n 25 a1 M) (po_X10_triesByAll_c25 a1 M) := by
  have hS : Sm l_X10_triesByAll_c25 M M := Sm.rf
  unfold f_X10_triesByAll
  try simp only [Nat.reduceAdd]
  exact (t_X10_triesByAll_c25_4 hn) n a1 (0 : Int32) (0 : Int32) M hG hS (i_rng (lo := 0) (hi := 11) rfl (by omega) (by omega)) (i_rng (lo := 0) (hi := 8) l_0 (by omega) (by omega)) (by have e1 : ((0 : Int32)).toInt = _ := l_0; have e2 : ((0 : Int32)).toInt = _ := l_0; omega)
abbrev l_X0_tellAll_c25 : List Bx := [(35, 36, 0, 0)]
abbrev po_X0_tellAll_c25 (a2 a3 a4 : Int32) (M : qM) (v : Int32) (M' : qM) : Prop := (0 ≤ v.toInt ∧ v.toInt ≤ 0) ∧ G M' ∧ Sm l_X0_tellAll_c25 M M'
theorem t_X0_tellAll_c25 {n : Nat} (hn : 200000 ≤ n) (a2 a3 a4 : Int32) (M : qM) (hG : G M) (pa2 : 0 ≤ a2.toInt ∧ a2.toInt ≤ 7) (pa3 : 0 ≤ a3.toInt ∧ a3.toInt ≤ 11) (pa4 : 0 ≤ a4.toInt ∧ a4.toInt ≤ 8) : qT (f_X0_tellAll n 25 a2 a3 a4 M) (po_X0_tellAll_c25 a2 a3 a4 M) := by
  have hS : Sm l_X0_tellAll_c25 M M := Sm.rf
  unfold f_X0_tellAll
  try simp only [Nat.reduceAdd]
  refine T_ql (i_add (i_mul rfl l_12 (by omega) (by omega)) rfl (by omega) (by omega)) ?_
  intro xv1 hq2_
  refine T_qg rfl (by omega) (by omega) ?_
  refine T_qg rfl (by omega) (by omega) ?_
  refine T_qc (t_X1_tellDeed hn a3 (M 4 a3.toNatClampNeg) (M 5 a3.toNatClampNeg) (M 25 9) M hG (i_rng (lo := 0) (hi := 12) rfl (by omega) (by omega))) ?_
  rintro rv3 mv4 ⟨hq5_, gq6_, kq7_⟩
  have kq8_ := Sm.call hS kq7_ rfl
  refine T_qg rfl (by omega) (by omega) ?_
  refine T_qc (t_X10_triesByAll_c25 hn a3 mv4 gq6_ (i_rng (lo := 0) (hi := 11) rfl (by omega) (by omega))) ?_
  rintro rv9 mv10 ⟨gq11_, kq12_⟩
  have hq13_ := kq12_.nil
  subst hq13_
  refine T_qg rfl (by omega) (by omega) ?_
  refine T_qc (t_X1_tellTry hn a2 a4 (mv4 27 xv1.toNatClampNeg) rv9 (mv4 29 xv1.toNatClampNeg) mv4 gq6_ (i_rng (lo := 0) (hi := 7) rfl (by omega) (by omega)) (i_rng (lo := 0) (hi := 8) rfl (by omega) (by omega))) ?_
  rintro rv14 mv15 ⟨hq16_, gq17_, kq18_⟩
  have kq19_ := Sm.call kq8_ kq18_ rfl
  exact T_ret ⟨(i_rng (lo := 0) (hi := 0) l_0 (by omega) (by omega)), gq17_, kq19_⟩
abbrev l_X0_forget_c25 : List Bx := [(27, 28, 0, 0), (34, 35, 4, 5), (35, 37, 0, 0)]
abbrev po_X0_forget_c25 (a2 a3 : Int32) (M : qM) (v : Int32) (M' : qM) : Prop := (0 ≤ v.toInt ∧ v.toInt ≤ 0) ∧ G M' ∧ Sm l_X0_forget_c25 M M'
theorem t_X0_forget_c25_3 {n : Nat} (hn : 200000 ≤ n) {j : Nat} (hj : q_isLaw j) {oa2 oa3 : Int32} {M0 : qM} : ∀ (m : Nat) (a2 a3 a4 : Int32) (M : qM), G M → Sm l_X0_forget_c25 M0 M → 0 ≤ a2.toInt ∧ a2.toInt ≤ 7 → 0 ≤ a4.toInt ∧ a4.toInt ≤ 12 → 12 - a4.toInt < (m : Int) → qT (f_X0_forget_3 n 25 j m a2 a3 a4 M) (po_X0_forget_c25 oa2 oa3 M0) := by
  intro m
  induction m with
  | zero =>
    intro a2 a3 a4 M hG hS i0 i1 i4
    exfalso; omega
  | succ m ih =>
    intro a2 a3 a4 M hG hS i0 i1 i4
    show qT (b_X0_forget_3 n 25 j (f_X0_forget_3 n 25 j m) a2 a3 a4 M) _
    unfold b_X0_forget_3
    try simp only [Nat.reduceAdd]
    refine T_le l_12 rfl (fun hq7_ => ?_) (fun hq7_ => ?_)
    · exact T_ret ⟨(i_rng (lo := 0) (hi := 0) l_0 (by omega) (by omega)), hG, hS⟩
    · refine T_ql (i_add (i_mul rfl l_12 (by omega) (by omega)) rfl (by omega) (by omega)) ?_
      intro xv8 hq9_
      have hq10_ := i_and (a := a3 >>> (a4 &&& 31)) (b := (1 : Int32)) l_1 (by omega)
      refine T_eq rfl l_1 (fun hq11_ => ?_) (fun hq11_ => ?_)
      · refine T_qg rfl (by omega) (by omega) ?_
        refine T_le rfl l_0 (fun hq12_ => ?_) (fun hq12_ => ?_)
        · refine T_ql (i_add rfl l_1 (by omega) (by omega)) ?_
          intro xv13 hq14_
          exact ih a2 a3 xv13 M hG hS (i_rng (lo := 0) (hi := 7) rfl (by omega) (by omega)) (i_rng (lo := 0) (hi := 12) rfl (by omega) (by omega)) (by omega)
        · refine T_qc (t_X0_tellAll_c25 hn a2 a4 (8 : Int32) M hG (i_rng (lo := 0) (hi := 7) rfl (by omega) (by omega)) (i_rng (lo := 0) (hi := 11) rfl (by omega) (by omega)) (i_rng (lo := 0) (hi := 8) l_8 (by omega) (by omega))) ?_
          rintro rv15 mv16 ⟨hq17_, gq18_, kq19_⟩
          have kq20_ := Sm.call hS kq19_ rfl
          have hq21_ : (mv16 27 xv8.toNatClampNeg).toInt = (M 27 xv8.toNatClampNeg).toInt := by rw [kq19_ 27 _ (outc rfl)]
          refine T_qc (t_X1_amount hn hj (102 : Int32) (999 : Int32) (0 : Int32) mv16 gq18_ (i_rng (lo := 99) (hi := 118) l_102 (by omega) (by omega)) (i_rng (lo := 99) (hi := 999) l_999 (by omega) (by omega)) (i_rng (lo := 0) (hi := 1) l_0 (by omega) (by omega))) ?_
          rintro rv22 mv23 ⟨hq24_, gq25_, kq26_⟩
          have kq27_ := Sm.call kq20_ kq26_ rfl
          have hq28_ : (mv23 27 xv8.toNatClampNeg).toInt = (mv16 27 xv8.toNatClampNeg).toInt := by rw [kq26_ 27 _ (outc rfl)]
          refine T_le rfl l_0 (fun hq29_ => ?_) (fun hq29_ => ?_)
          · refine T_ql (i_add rfl l_1 (by omega) (by omega)) ?_
            intro xv30 hq31_
            exact ih a2 a3 xv30 mv23 gq25_ kq27_ (i_rng (lo := 0) (hi := 7) rfl (by omega) (by omega)) (i_rng (lo := 0) (hi := 12) rfl (by omega) (by omega)) (by omega)
          · refine T_qg rfl (by omega) (by omega) ?_
            have hq32_ := i_full (mv23 25 9)
            have hq33_ := i_full (mv23 28 xv8.toNatClampNeg)
            refine T_lt rfl rfl (fun hq34_ => ?_) (fun hq34_ => ?_)
            · refine T_ql (i_add rfl l_1 (by omega) (by omega)) ?_
              intro xv35 hq36_
              exact ih a2 a3 xv35 mv23 gq25_ kq27_ (i_rng (lo := 0) (hi := 7) rfl (by omega) (by omega)) (i_rng (lo := 0) (hi := 12) rfl (by omega) (by omega)) (by omega)
            · refine T_qg rfl (by omega) (by omega) ?_
              refine T_mu gq25_ kq27_ (rn_27 _ _) (nw_27 _) (i := 0) rfl ⟨by decide, by decide, Or.inl rfl⟩ ?_
              intro mv37 hq38_ gq39_ kq40_
              have hq41_ : (mv37 27 xv8.toNatClampNeg).toInt = 0 := by rw [hq38_, mu_at]; exact l_0
              refine T_ql (i_add rfl l_1 (by omega) (by omega)) ?_
              intro xv42 hq43_
              exact ih a2 a3 xv42 mv37 gq39_ kq40_ (i_rng (lo := 0) (hi := 7) rfl (by omega) (by omega)) (i_rng (lo := 0) (hi := 12) rfl (by omega) (by omega)) (by omega)
      · refine T_ql (i_add rfl l_1 (by omega) (by omega)) ?_
        intro xv44 hq45_
        exact ih a2 a3 xv44 M hG hS (i_rng (lo := 0) (hi := 7) rfl (by omega) (by omega)) (i_rng (lo := 0) (hi := 12) rfl (by omega) (by omega)) (by omega)
theorem t_X0_forget_c25 {n : Nat} (hn : 200000 ≤ n) {j : Nat} (hj : q_isLaw j) (a2 a3 : Int32) (M : qM) (hG : G M) (pa2 : 0 ≤ a2.toInt ∧ a2.toInt ≤ 7) : qT (f_X0_forget n 25 j a2 a3 M) (po_X0_forget_c25 a2 a3 M) := by
  have hS : Sm l_X0_forget_c25 M M := Sm.rf
  unfold f_X0_forget
  try simp only [Nat.reduceAdd]
  exact (t_X0_forget_c25_3 hn hj) n a2 a3 (0 : Int32) M hG hS (i_rng (lo := 0) (hi := 7) rfl (by omega) (by omega)) (i_rng (lo := 0) (hi := 12) l_0 (by omega) (by omega)) (by have e2 : ((0 : Int32)).toInt = _ := l_0; omega)
abbrev l_X10_triesAmong_c25 : List Bx := []
abbrev po_X10_triesAmong_c25 (a1 a2 : Int32) (M : qM) (v : Int32) (M' : qM) : Prop := G M' ∧ Sm l_X10_triesAmong_c25 M M'
theorem t_X10_triesAmong_c25_5 {n : Nat} (hn : 200000 ≤ n) {oa1 oa2 : Int32} {M0 : qM} : ∀ (m : Nat) (a1 a2 a3 a4 : Int32) (M : qM), G M → Sm l_X10_triesAmong_c25 M0 M → 0 ≤ a1.toInt ∧ a1.toInt ≤ 7 → 0 ≤ a4.toInt ∧ a4.toInt ≤ 12 → 12 - a4.toInt < (m : Int) → qT (f_X10_triesAmong_5 n 25 m a1 a2 a3 a4 M) (po_X10_triesAmong_c25 oa1 oa2 M0) := by
  intro m
  induction m with
  | zero =>
    intro a1 a2 a3 a4 M hG hS i0 i1 i4
    exfalso; omega
  | succ m ih =>
    intro a1 a2 a3 a4 M hG hS i0 i1 i4
    show qT (b_X10_triesAmong_5 n 25 (f_X10_triesAmong_5 n 25 m) a1 a2 a3 a4 M) _
    unfold b_X10_triesAmong_5
    try simp only [Nat.reduceAdd]
    refine T_le l_12 rfl (fun hq4_ => ?_) (fun hq4_ => ?_)
    · exact T_ret ⟨hG, hS⟩
    · have hq5_ := i_and (a := a2 >>> (a4 &&& 31)) (b := (1 : Int32)) l_1 (by omega)
      refine T_eq rfl l_1 (fun hq6_ => ?_) (fun hq6_ => ?_)
      · refine T_qg (i_add (i_mul rfl l_12 (by omega) (by omega)) rfl (by omega) (by omega)) (by omega) (by omega) ?_
        have hq7_ := i_full (a3)
        have hq8_ := i_full (M 27 (((a1 * (12 : Int32)) + a4).toNatClampNeg))
        refine T_ql rfl ?_
        intro xv9 hq10_
        refine T_ql (i_add rfl l_1 (by omega) (by omega)) ?_
        intro xv11 hq12_
        exact ih a1 a2 xv9 xv11 M hG hS (i_rng (lo := 0) (hi := 7) rfl (by omega) (by omega)) (i_rng (lo := 0) (hi := 12) rfl (by omega) (by omega)) (by omega)
      · refine T_ql (i_add rfl l_1 (by omega) (by omega)) ?_
        intro xv13 hq14_
        exact ih a1 a2 a3 xv13 M hG hS (i_rng (lo := 0) (hi := 7) rfl (by omega) (by omega)) (i_rng (lo := 0) (hi := 12) rfl (by omega) (by omega)) (by omega)
theorem t_X10_triesAmong_c25 {n : Nat} (hn : 200000 ≤ n) (a1 a2 : Int32) (M : qM) (hG : G M) (pa1 : 0 ≤ a1.toInt ∧ a1.toInt ≤ 7) : qT (f_X10_triesAmong n 25 a1 a2 M) (po_X10_triesAmong_c25 a1 a2 M) := by
  have hS : Sm l_X10_triesAmong_c25 M M := Sm.rf
  unfold f_X10_triesAmong
  try simp only [Nat.reduceAdd]
  exact (t_X10_triesAmong_c25_5 hn) n a1 a2 (0 : Int32) (0 : Int32) M hG hS (i_rng (lo := 0) (hi := 7) rfl (by omega) (by omega)) (i_rng (lo := 0) (hi := 12) l_0 (by omega) (by omega)) (by have e2 : ((0 : Int32)).toInt = _ := l_0; have e3 : ((0 : Int32)).toInt = _ := l_0; omega)
abbrev l_X10_addTry_c25 : List Bx := [(27, 29, 0, 0)]
abbrev po_X10_addTry_c25 (a1 a2 : Int32) (M : qM) (v : Int32) (M' : qM) : Prop := (0 ≤ v.toInt ∧ v.toInt ≤ 0) ∧ G M' ∧ Sm l_X10_addTry_c25 M M'
theorem t_X10_addTry_c25 {n : Nat} (hn : 200000 ≤ n) (a1 a2 : Int32) (M : qM) (hG : G M) (pa1 : 0 ≤ a1.toInt ∧ a1.toInt ≤ 7) (pa2 : 0 ≤ a2.toInt ∧ a2.toInt ≤ 11) : qT (f_X10_addTry n 25 a1 a2 M) (po_X10_addTry_c25 a1 a2 M) := by
  have hS : Sm l_X10_addTry_c25 M M := Sm.rf
  unfold f_X10_addTry
  try simp only [Nat.reduceAdd]
  refine T_ql (i_add (i_mul rfl l_12 (by omega) (by omega)) rfl (by omega) (by omega)) ?_
  intro xv1 hq2_
  refine T_qg rfl (by omega) (by omega) ?_
  refine T_qg rfl (by omega) (by omega) ?_
  have hq4_ := i_full (M 27 xv1.toNatClampNeg)
  have hq5_ := i_min (a := (999 : Int32)) (b := (M 27 xv1.toNatClampNeg) + (1 : Int32)) l_999 rfl
  refine T_mu hG hS (rn_27 _ _) (nw_27 _) (i := 0) rfl ⟨by decide, by decide, Or.inl rfl⟩ ?_
  intro mv3 hq6_ gq7_ kq8_
  have hq9_ : (mv3 27 xv1.toNatClampNeg).toInt = (qmin (999 : Int32) ((M 27 xv1.toNatClampNeg) + (1 : Int32))).toInt := by rw [hq6_, mu_at]
  refine T_qg rfl (by omega) (by omega) ?_
  refine T_mu gq7_ kq8_ (rn_28 _ _) (nw_28 _) (i := 0) rfl ⟨by decide, by decide, Or.inl rfl⟩ ?_
  intro mv10 hq11_ gq12_ kq13_
  have hq14_ : (mv10 27 xv1.toNatClampNeg).toInt = (mv3 27 xv1.toNatClampNeg).toInt := by rw [hq11_, mu_ne (Or.inl (by decide))]
  have hq15_ : (mv10 28 xv1.toNatClampNeg).toInt = (mv3 25 9).toInt := by rw [hq11_, mu_at]
  exact T_ret ⟨(i_rng (lo := 0) (hi := 0) l_0 (by omega) (by omega)), gq12_, kq13_⟩
abbrev l_X10_hasCounted_c25 : List Bx := []
abbrev po_X10_hasCounted_c25 (a1 a2 : Int32) (M : qM) (v : Int32) (M' : qM) : Prop := (0 ≤ v.toInt ∧ v.toInt ≤ 1) ∧ G M' ∧ Sm l_X10_hasCounted_c25 M M'
theorem t_X10_hasCounted_c25_2 {n : Nat} (hn : 200000 ≤ n) {oa1 oa2 : Int32} {M0 : qM} : ∀ (m : Nat) (a1 a2 a3 : Int32) (M : qM), G M → Sm l_X10_hasCounted_c25 M0 M → 0 ≤ a1.toInt ∧ a1.toInt ≤ 7 → 0 ≤ a3.toInt ∧ a3.toInt ≤ 12 → 12 - a3.toInt < (m : Int) → qT (f_X10_hasCounted_2 n 25 m a1 a2 a3 M) (po_X10_hasCounted_c25 oa1 oa2 M0) := by
  intro m
  induction m with
  | zero =>
    intro a1 a2 a3 M hG hS i0 i1 i4
    exfalso; omega
  | succ m ih =>
    intro a1 a2 a3 M hG hS i0 i1 i4
    show qT (b_X10_hasCounted_2 n 25 (f_X10_hasCounted_2 n 25 m) a1 a2 a3 M) _
    unfold b_X10_hasCounted_2
    try simp only [Nat.reduceAdd]
    refine T_le l_12 rfl (fun hq3_ => ?_) (fun hq3_ => ?_)
    · exact T_ret ⟨(i_rng (lo := 0) (hi := 1) l_1 (by omega) (by omega)), hG, hS⟩
    · have hq4_ := i_and (a := a2 >>> (a3 &&& 31)) (b := (1 : Int32)) l_1 (by omega)
      refine T_eq rfl l_1 (fun hq5_ => ?_) (fun hq5_ => ?_)
      · refine T_qg (i_add (i_mul rfl l_12 (by omega) (by omega)) rfl (by omega) (by omega)) (by omega) (by omega) ?_
        refine T_eq rfl l_0 (fun hq6_ => ?_) (fun hq6_ => ?_)
        · exact T_ret ⟨(i_rng (lo := 0) (hi := 1) l_0 (by omega) (by omega)), hG, hS⟩
        · refine T_ql (i_add rfl l_1 (by omega) (by omega)) ?_
          intro xv7 hq8_
          exact ih a1 a2 xv7 M hG hS (i_rng (lo := 0) (hi := 7) rfl (by omega) (by omega)) (i_rng (lo := 0) (hi := 12) rfl (by omega) (by omega)) (by omega)
      · refine T_ql (i_add rfl l_1 (by omega) (by omega)) ?_
        intro xv9 hq10_
        exact ih a1 a2 xv9 M hG hS (i_rng (lo := 0) (hi := 7) rfl (by omega) (by omega)) (i_rng (lo := 0) (hi := 12) rfl (by omega) (by omega)) (by omega)
theorem t_X10_hasCounted_c25 {n : Nat} (hn : 200000 ≤ n) (a1 a2 : Int32) (M : qM) (hG : G M) (pa1 : 0 ≤ a1.toInt ∧ a1.toInt ≤ 7) : qT (f_X10_hasCounted n 25 a1 a2 M) (po_X10_hasCounted_c25 a1 a2 M) := by
  have hS : Sm l_X10_hasCounted_c25 M M := Sm.rf
  unfold f_X10_hasCounted
  try simp only [Nat.reduceAdd]
  exact (t_X10_hasCounted_c25_2 hn) n a1 a2 (0 : Int32) M hG hS (i_rng (lo := 0) (hi := 7) rfl (by omega) (by omega)) (i_rng (lo := 0) (hi := 12) l_0 (by omega) (by omega)) (by have e2 : ((0 : Int32)).toInt = _ := l_0; omega)
abbrev l_X10_addCounted_c25 : List Bx := [(29, 30, 0, 0)]
abbrev po_X10_addCounted_c25 (a1 a2 : Int32) (M : qM) (v : Int32) (M' : qM) : Prop := (0 ≤ v.toInt ∧ v.toInt ≤ 0) ∧ G M' ∧ Sm l_X10_addCounted_c25 M M'
theorem t_X10_addCounted_c25 {n : Nat} (hn : 200000 ≤ n) (a1 a2 : Int32) (M : qM) (hG : G M) (pa1 : 0 ≤ a1.toInt ∧ a1.toInt ≤ 7) (pa2 : 0 ≤ a2.toInt ∧ a2.toInt ≤ 11) : qT (f_X10_addCounted n 25 a1 a2 M) (po_X10_addCounted_c25 a1 a2 M) := by
  have hS : Sm l_X10_addCounted_c25 M M := Sm.rf
  unfold f_X10_addCounted
  try simp only [Nat.reduceAdd]
  refine T_ql (i_add (i_mul rfl l_12 (by omega) (by omega)) rfl (by omega) (by omega)) ?_
  intro xv1 hq2_
  refine T_qg rfl (by omega) (by omega) ?_
  refine T_qg rfl (by omega) (by omega) ?_
  have hq4_ := i_full (M 29 xv1.toNatClampNeg)
  have hq5_ := i_min (a := (999 : Int32)) (b := (M 29 xv1.toNatClampNeg) + (1 : Int32)) l_999 rfl
  refine T_mu hG hS (rn_29 _ _) (nw_29 _) (i := 0) rfl ⟨by decide, by decide, Or.inl rfl⟩ ?_
  intro mv3 hq6_ gq7_ kq8_
  have hq9_ : (mv3 29 xv1.toNatClampNeg).toInt = (qmin (999 : Int32) ((M 29 xv1.toNatClampNeg) + (1 : Int32))).toInt := by rw [hq6_, mu_at]
  exact T_ret ⟨(i_rng (lo := 0) (hi := 0) l_0 (by omega) (by omega)), gq7_, kq8_⟩
abbrev l_X0_attempt_c25 : List Bx := [(27, 30, 0, 0), (34, 35, 4, 5), (35, 37, 0, 0), (44, 45, 2, 4)]
abbrev po_X0_attempt_c25 (a2 a3 a4 : Int32) (M : qM) (v : Int32) (M' : qM) : Prop := ((-2) ≤ v.toInt ∧ v.toInt ≤ 1) ∧ G M' ∧ Sm l_X0_attempt_c25 M M'
theorem t_X0_attempt_c25 {n : Nat} (hn : 200000 ≤ n) {j : Nat} (hj : q_isLaw j) (a2 a3 a4 : Int32) (M : qM) (hG : G M) (pa2 : 0 ≤ a2.toInt ∧ a2.toInt ≤ 7) (pa3 : 0 ≤ a3.toInt ∧ a3.toInt ≤ 11) (pa4 : 0 ≤ a4.toInt ∧ a4.toInt ≤ 8) : qT (f_X0_attempt n 25 j a2 a3 a4 M) (po_X0_attempt_c25 a2 a3 a4 M) := by
  have hS : Sm l_X0_attempt_c25 M M := Sm.rf
  unfold f_X0_attempt
  try simp only [Nat.reduceAdd]
  refine T_qc (t_X1_alikes hn hj a3 (M 25 9) M hG (i_rng (lo := 0) (hi := 11) rfl (by omega) (by omega))) ?_
  rintro rv1 mv2 ⟨gq3_, kq4_⟩
  have kq5_ := Sm.call hS kq4_ rfl
  refine T_qc (t_X0_forget_c25 hn hj a2 rv1 mv2 gq3_ (i_rng (lo := 0) (hi := 7) rfl (by omega) (by omega))) ?_
  rintro rv6 mv7 ⟨hq8_, gq9_, kq10_⟩
  have kq11_ := Sm.call kq5_ kq10_ rfl
  refine T_qc (t_X10_triesAmong_c25 hn a2 rv1 mv7 gq9_ (i_rng (lo := 0) (hi := 7) rfl (by omega) (by omega))) ?_
  rintro rv12 mv13 ⟨gq14_, kq15_⟩
  have hq16_ := kq15_.nil
  subst hq16_
  refine T_mu gq9_ kq11_ (rn_44_2 _) (nw_44 _) (i := 3) rfl ⟨by decide, by decide, Or.inr ⟨by decide, by decide⟩⟩ ?_
  intro mv17 hq18_ gq19_ kq20_
  have hq21_ : (mv17 44 2).toInt = rv12.toInt := by rw [hq18_, mu_at]
  refine T_qc (t_X0_tellAll_c25 hn a2 a3 a4 mv17 gq19_ (i_rng (lo := 0) (hi := 7) rfl (by omega) (by omega)) (i_rng (lo := 0) (hi := 11) rfl (by omega) (by omega)) (i_rng (lo := 0) (hi := 8) rfl (by omega) (by omega))) ?_
  rintro rv22 mv23 ⟨hq24_, gq25_, kq26_⟩
  have kq27_ := Sm.call kq20_ kq26_ rfl
  have hq28_ : (mv23 44 2).toInt = (mv17 44 2).toInt := by rw [kq26_ 44 2 (by decide)]
  refine T_qc (t_X1_voidTries hn hj  mv23 gq25_ ) ?_
  rintro rv29 mv30 ⟨hq31_, gq32_, kq33_⟩
  have kq34_ := Sm.call kq27_ kq33_ rfl
  have hq35_ : (mv30 44 2).toInt = (mv23 44 2).toInt := by rw [kq33_ 44 2 (by decide)]
  refine T_mu gq32_ kq34_ (rn_44_3 _) (nw_44 _) (i := 3) rfl ⟨by decide, by decide, Or.inr ⟨by decide, by decide⟩⟩ ?_
  intro mv36 hq37_ gq38_ kq39_
  have hq40_ : (mv36 44 2).toInt = (mv30 44 2).toInt := by rw [hq37_, mu_ne (Or.inr (by decide))]
  have hq41_ : (mv36 44 3).toInt = rv29.toInt := by rw [hq37_, mu_at]
  refine T_qc (t_X10_addTry_c25 hn a2 a3 mv36 gq38_ (i_rng (lo := 0) (hi := 7) rfl (by omega) (by omega)) (i_rng (lo := 0) (hi := 11) rfl (by omega) (by omega))) ?_
  rintro rv42 mv43 ⟨hq44_, gq45_, kq46_⟩
  have kq47_ := Sm.call kq39_ kq46_ rfl
  have hq48_ : (mv43 44 2).toInt = (mv36 44 2).toInt := by rw [kq46_ 44 2 (by decide)]
  have hq49_ : (mv43 44 3).toInt = (mv36 44 3).toInt := by rw [kq46_ 44 3 (by decide)]
  refine T_le rfl rfl (fun hq50_ => ?_) (fun hq50_ => ?_)
  · refine T_qg rfl (by omega) (by omega) ?_
    refine T_qc (t_X10_hasCounted_c25 hn a2 (mv43 6 a3.toNatClampNeg) mv43 gq45_ (i_rng (lo := 0) (hi := 7) rfl (by omega) (by omega))) ?_
    rintro rv51 mv52 ⟨hq53_, gq54_, kq55_⟩
    have hq56_ := kq55_.nil
    subst hq56_
    refine T_eq rfl l_0 (fun hq57_ => ?_) (fun hq57_ => ?_)
    · exact T_ret ⟨(i_rng (lo := (-2)) (hi := 1) l_m2 (by omega) (by omega)), gq45_, kq47_⟩
    · refine T_qc (t_X10_addCounted_c25 hn a2 a3 mv43 gq45_ (i_rng (lo := 0) (hi := 7) rfl (by omega) (by omega)) (i_rng (lo := 0) (hi := 11) rfl (by omega) (by omega))) ?_
      rintro rv58 mv59 ⟨hq60_, gq61_, kq62_⟩
      have kq63_ := Sm.call kq47_ kq62_ rfl
      have hq64_ : (mv59 44 2).toInt = (mv43 44 2).toInt := by rw [kq62_ 44 2 (by decide)]
      have hq65_ : (mv59 44 3).toInt = (mv43 44 3).toInt := by rw [kq62_ 44 3 (by decide)]
      exact T_ret ⟨(i_rng (lo := (-2)) (hi := 1) l_1 (by omega) (by omega)), gq61_, kq63_⟩
  · exact T_ret ⟨(i_rng (lo := (-2)) (hi := 1) l_0 (by omega) (by omega)), gq45_, kq47_⟩
