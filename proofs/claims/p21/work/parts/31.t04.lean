abbrev l_X1_alikes : List Bx := [(34, 35, 4, 5), (35, 37, 0, 0)]
abbrev po_X1_alikes (a1 a2 : Int32) (M : qM) (v : Int32) (M' : qM) : Prop := G M' ∧ Sm l_X1_alikes M M'
theorem t_X1_alikes_29 {n : Nat} (hn : 200000 ≤ n) {j : Nat} (hj : q_isLaw j) {oa1 oa2 : Int32} {M0 : qM} : ∀ (m : Nat) (a1 a3 a4 : Int32) (M : qM), G M → Sm l_X1_alikes M0 M → 0 ≤ a1.toInt ∧ a1.toInt ≤ 11 → 0 ≤ a4.toInt ∧ a4.toInt ≤ 12 → 12 - a4.toInt < (m : Int) → qT (f_X1_alikes_29 n j m a1 a3 a4 M) (po_X1_alikes oa1 oa2 M0) := by
  intro m
  induction m with
  | zero =>
    intro a1 a3 a4 M hG hS i0 i1 i2
    exfalso; omega
  | succ m ih =>
    intro a1 a3 a4 M hG hS i0 i1 i2
    show qT (b_X1_alikes_29 n j (f_X1_alikes_29 n j m) a1 a3 a4 M) _
    unfold b_X1_alikes_29
    refine T_le l_12 rfl (fun hq7_ => ?_) (fun hq7_ => ?_)
    · exact T_ret ⟨hG, hS⟩
    · refine T_eq rfl rfl (fun hq8_ => ?_) (fun hq8_ => ?_)
      · unfold f_X1_alikes_63
        have hq9_ := i_shl1 (c := 11) (k := a4) (by decide) rfl (by omega) (by omega)
        refine T_ql rfl ?_
        intro xv10 hq11_
        refine T_ql (i_add rfl l_1 (by omega) (by omega)) ?_
        intro xv12 hq13_
        exact ih a1 xv10 xv12 M hG hS (i_rng (lo := 0) (hi := 11) rfl (by omega) (by omega)) (i_rng (lo := 0) (hi := 12) rfl (by omega) (by omega)) (by omega)
      · refine T_qc (t_X2_knows hn a4 M hG ) ?_
        rintro rv14 mv15 ⟨hq16_, hq17_, gq18_, kq19_⟩
        have hq20_ := kq19_.nil
        subst hq20_
        refine T_eq rfl l_0 (fun hq21_ => ?_) (fun hq21_ => ?_)
        · refine T_ql (i_add rfl l_1 (by omega) (by omega)) ?_
          intro xv22 hq23_
          exact ih a1 a3 xv22 M hG hS (i_rng (lo := 0) (hi := 11) rfl (by omega) (by omega)) (i_rng (lo := 0) (hi := 12) rfl (by omega) (by omega)) (by omega)
        · refine T_qc (t_X1_isAlike hn hj a4 M hG (i_rng (lo := 0) (hi := 11) rfl (by omega) (by omega))) ?_
          rintro rv24 mv25 ⟨hq26_, gq27_, kq28_⟩
          have kq29_ := Sm.call hS kq28_ rfl
          refine T_eq rfl l_0 (fun hq30_ => ?_) (fun hq30_ => ?_)
          · refine T_ql (i_add rfl l_1 (by omega) (by omega)) ?_
            intro xv31 hq32_
            exact ih a1 a3 xv31 mv25 gq27_ kq29_ (i_rng (lo := 0) (hi := 11) rfl (by omega) (by omega)) (i_rng (lo := 0) (hi := 12) rfl (by omega) (by omega)) (by omega)
          · unfold f_X1_alikes_63
            have hq33_ := i_shl1 (c := 11) (k := a4) (by decide) rfl (by omega) (by omega)
            refine T_ql rfl ?_
            intro xv34 hq35_
            refine T_ql (i_add rfl l_1 (by omega) (by omega)) ?_
            intro xv36 hq37_
            exact ih a1 xv34 xv36 mv25 gq27_ kq29_ (i_rng (lo := 0) (hi := 11) rfl (by omega) (by omega)) (i_rng (lo := 0) (hi := 12) rfl (by omega) (by omega)) (by omega)
theorem t_X1_alikes {n : Nat} (hn : 200000 ≤ n) {j : Nat} (hj : q_isLaw j) (a1 a2 : Int32) (M : qM) (hG : G M) (pa1 : 0 ≤ a1.toInt ∧ a1.toInt ≤ 11) : qT (f_X1_alikes n j a1 a2 M) (po_X1_alikes a1 a2 M) := by
  have hS : Sm l_X1_alikes M M := Sm.rf
  unfold f_X1_alikes
  refine T_qg rfl (by omega) (by omega) ?_
  refine T_qg rfl (by omega) (by omega) ?_
  refine T_qc (t_X1_tellDeed hn a1 (M 4 a1.toNatClampNeg) (M 5 a1.toNatClampNeg) a2 M hG (i_rng (lo := 0) (hi := 12) rfl (by omega) (by omega))) ?_
  rintro rv38 mv39 ⟨hq40_, gq41_, kq42_⟩
  have kq43_ := Sm.call hS kq42_ rfl
  exact (t_X1_alikes_29 hn hj) n a1 (0 : Int32) (0 : Int32) mv39 gq41_ kq43_ (i_rng (lo := 0) (hi := 11) rfl (by omega) (by omega)) (i_rng (lo := 0) (hi := 12) l_0 (by omega) (by omega)) (by have e1 : ((0 : Int32)).toInt = _ := l_0; have e2 : ((0 : Int32)).toInt = _ := l_0; omega)
abbrev l_X10_triesByAll_c7 : List Bx := []
abbrev po_X10_triesByAll_c7 (a1 : Int32) (M : qM) (v : Int32) (M' : qM) : Prop := G M' ∧ Sm l_X10_triesByAll_c7 M M'
theorem t_X10_triesByAll_c7_4 {n : Nat} (hn : 200000 ≤ n) {oa1 : Int32} {M0 : qM} : ∀ (m : Nat) (a1 a2 a3 : Int32) (M : qM), G M → Sm l_X10_triesByAll_c7 M0 M → 0 ≤ a1.toInt ∧ a1.toInt ≤ 11 → 0 ≤ a3.toInt ∧ a3.toInt ≤ 8 → 8 - a3.toInt < (m : Int) → qT (f_X10_triesByAll_4 n 7 m a1 a2 a3 M) (po_X10_triesByAll_c7 oa1 M0) := by
  intro m
  induction m with
  | zero =>
    intro a1 a2 a3 M hG hS i0 i1 i2
    exfalso; omega
  | succ m ih =>
    intro a1 a2 a3 M hG hS i0 i1 i2
    show qT (b_X10_triesByAll_4 n 7 (f_X10_triesByAll_4 n 7 m) a1 a2 a3 M) _
    unfold b_X10_triesByAll_4
    try simp only [Nat.reduceAdd]
    refine T_le l_8 rfl (fun hq3_ => ?_) (fun hq3_ => ?_)
    · exact T_ret ⟨hG, hS⟩
    · refine T_qg (i_add (i_mul rfl l_12 (by omega) (by omega)) rfl (by omega) (by omega)) (by omega) (by omega) ?_
      have hq4_ := i_full (a2)
      have hq5_ := i_full (M 9 (((a3 * (12 : Int32)) + a1).toNatClampNeg))
      refine T_ql rfl ?_
      intro xv6 hq7_
      refine T_ql (i_add rfl l_1 (by omega) (by omega)) ?_
      intro xv8 hq9_
      exact ih a1 xv6 xv8 M hG hS (i_rng (lo := 0) (hi := 11) rfl (by omega) (by omega)) (i_rng (lo := 0) (hi := 8) rfl (by omega) (by omega)) (by omega)
theorem t_X10_triesByAll_c7 {n : Nat} (hn : 200000 ≤ n) (a1 : Int32) (M : qM) (hG : G M) (pa1 : 0 ≤ a1.toInt ∧ a1.toInt ≤ 11) : qT (f_X10_triesByAll n 7 a1 M) (po_X10_triesByAll_c7 a1 M) := by
  have hS : Sm l_X10_triesByAll_c7 M M := Sm.rf
  unfold f_X10_triesByAll
  try simp only [Nat.reduceAdd]
  exact (t_X10_triesByAll_c7_4 hn) n a1 (0 : Int32) (0 : Int32) M hG hS (i_rng (lo := 0) (hi := 11) rfl (by omega) (by omega)) (i_rng (lo := 0) (hi := 8) l_0 (by omega) (by omega)) (by have e1 : ((0 : Int32)).toInt = _ := l_0; have e2 : ((0 : Int32)).toInt = _ := l_0; omega)
abbrev l_X1_tellTry : List Bx := [(35, 36, 7, 12)]
abbrev po_X1_tellTry (a1 a2 a3 a4 a5 : Int32) (M : qM) (v : Int32) (M' : qM) : Prop := (0 ≤ v.toInt ∧ v.toInt ≤ 0) ∧ G M' ∧ Sm l_X1_tellTry M M'
theorem t_X1_tellTry {n : Nat} (hn : 200000 ≤ n) (a1 a2 a3 a4 a5 : Int32) (M : qM) (hG : G M) (pa1 : 0 ≤ a1.toInt ∧ a1.toInt ≤ 7) (pa2 : 0 ≤ a2.toInt ∧ a2.toInt ≤ 8) : qT (f_X1_tellTry n a1 a2 a3 a4 a5 M) (po_X1_tellTry a1 a2 a3 a4 a5 M) := by
  have hS : Sm l_X1_tellTry M M := Sm.rf
  unfold f_X1_tellTry
  refine T_mu hG hS (rn_35 _ _) (nw_35 _) (i := 0) rfl ⟨by decide, by decide, Or.inr ⟨by decide, by decide⟩⟩ ?_
  intro mv1 hq2_ gq3_ kq4_
  have hq5_ : (mv1 35 7).toInt = a1.toInt := by rw [hq2_, mu_at]
  refine T_mu gq3_ kq4_ (rn_35 _ _) (nw_35 _) (i := 0) rfl ⟨by decide, by decide, Or.inr ⟨by decide, by decide⟩⟩ ?_
  intro mv6 hq7_ gq8_ kq9_
  have hq10_ : (mv6 35 7).toInt = (mv1 35 7).toInt := by rw [hq7_, mu_ne (Or.inr (by decide))]
  have hq11_ : (mv6 35 8).toInt = a2.toInt := by rw [hq7_, mu_at]
  refine T_mu gq8_ kq9_ (rn_35 _ _) (nw_35 _) (i := 0) rfl ⟨by decide, by decide, Or.inr ⟨by decide, by decide⟩⟩ ?_
  intro mv12 hq13_ gq14_ kq15_
  have hq16_ : (mv12 35 7).toInt = (mv6 35 7).toInt := by rw [hq13_, mu_ne (Or.inr (by decide))]
  have hq17_ : (mv12 35 8).toInt = (mv6 35 8).toInt := by rw [hq13_, mu_ne (Or.inr (by decide))]
  have hq18_ : (mv12 35 9).toInt = a3.toInt := by rw [hq13_, mu_at]
  refine T_mu gq14_ kq15_ (rn_35 _ _) (nw_35 _) (i := 0) rfl ⟨by decide, by decide, Or.inr ⟨by decide, by decide⟩⟩ ?_
  intro mv19 hq20_ gq21_ kq22_
  have hq23_ : (mv19 35 7).toInt = (mv12 35 7).toInt := by rw [hq20_, mu_ne (Or.inr (by decide))]
  have hq24_ : (mv19 35 8).toInt = (mv12 35 8).toInt := by rw [hq20_, mu_ne (Or.inr (by decide))]
  have hq25_ : (mv19 35 9).toInt = (mv12 35 9).toInt := by rw [hq20_, mu_ne (Or.inr (by decide))]
  have hq26_ : (mv19 35 10).toInt = a4.toInt := by rw [hq20_, mu_at]
  refine T_mu gq21_ kq22_ (rn_35 _ _) (nw_35 _) (i := 0) rfl ⟨by decide, by decide, Or.inr ⟨by decide, by decide⟩⟩ ?_
  intro mv27 hq28_ gq29_ kq30_
  have hq31_ : (mv27 35 7).toInt = (mv19 35 7).toInt := by rw [hq28_, mu_ne (Or.inr (by decide))]
  have hq32_ : (mv27 35 8).toInt = (mv19 35 8).toInt := by rw [hq28_, mu_ne (Or.inr (by decide))]
  have hq33_ : (mv27 35 9).toInt = (mv19 35 9).toInt := by rw [hq28_, mu_ne (Or.inr (by decide))]
  have hq34_ : (mv27 35 10).toInt = (mv19 35 10).toInt := by rw [hq28_, mu_ne (Or.inr (by decide))]
  have hq35_ : (mv27 35 11).toInt = a5.toInt := by rw [hq28_, mu_at]
  exact T_ret ⟨(i_rng (lo := 0) (hi := 0) l_0 (by omega) (by omega)), gq29_, kq30_⟩
abbrev l_X0_tellAll_c7 : List Bx := [(35, 36, 0, 0)]
abbrev po_X0_tellAll_c7 (a2 a3 a4 : Int32) (M : qM) (v : Int32) (M' : qM) : Prop := (0 ≤ v.toInt ∧ v.toInt ≤ 0) ∧ G M' ∧ Sm l_X0_tellAll_c7 M M'
theorem t_X0_tellAll_c7 {n : Nat} (hn : 200000 ≤ n) (a2 a3 a4 : Int32) (M : qM) (hG : G M) (pa2 : 0 ≤ a2.toInt ∧ a2.toInt ≤ 7) (pa3 : 0 ≤ a3.toInt ∧ a3.toInt ≤ 11) (pa4 : 0 ≤ a4.toInt ∧ a4.toInt ≤ 8) : qT (f_X0_tellAll n 7 a2 a3 a4 M) (po_X0_tellAll_c7 a2 a3 a4 M) := by
  have hS : Sm l_X0_tellAll_c7 M M := Sm.rf
  unfold f_X0_tellAll
  try simp only [Nat.reduceAdd]
  refine T_ql (i_add (i_mul rfl l_12 (by omega) (by omega)) rfl (by omega) (by omega)) ?_
  intro xv1 hq2_
  refine T_qg rfl (by omega) (by omega) ?_
  refine T_qg rfl (by omega) (by omega) ?_
  refine T_qc (t_X1_tellDeed hn a3 (M 4 a3.toNatClampNeg) (M 5 a3.toNatClampNeg) (M 7 9) M hG (i_rng (lo := 0) (hi := 12) rfl (by omega) (by omega))) ?_
  rintro rv3 mv4 ⟨hq5_, gq6_, kq7_⟩
  have kq8_ := Sm.call hS kq7_ rfl
  refine T_qg rfl (by omega) (by omega) ?_
  refine T_qc (t_X10_triesByAll_c7 hn a3 mv4 gq6_ (i_rng (lo := 0) (hi := 11) rfl (by omega) (by omega))) ?_
  rintro rv9 mv10 ⟨gq11_, kq12_⟩
  have hq13_ := kq12_.nil
  subst hq13_
  refine T_qg rfl (by omega) (by omega) ?_
  refine T_qc (t_X1_tellTry hn a2 a4 (mv4 9 xv1.toNatClampNeg) rv9 (mv4 11 xv1.toNatClampNeg) mv4 gq6_ (i_rng (lo := 0) (hi := 7) rfl (by omega) (by omega)) (i_rng (lo := 0) (hi := 8) rfl (by omega) (by omega))) ?_
  rintro rv14 mv15 ⟨hq16_, gq17_, kq18_⟩
  have kq19_ := Sm.call kq8_ kq18_ rfl
  exact T_ret ⟨(i_rng (lo := 0) (hi := 0) l_0 (by omega) (by omega)), gq17_, kq19_⟩
abbrev l_X1_amount : List Bx := [(34, 35, 4, 5), (36, 37, 0, 0)]
abbrev po_X1_amount (a1 a2 a3 : Int32) (M : qM) (v : Int32) (M' : qM) : Prop := (0 ≤ v.toInt ∧ v.toInt ≤ 999) ∧ G M' ∧ Sm l_X1_amount M M'
theorem t_X1_amount_6 {n : Nat} (hn : 200000 ≤ n) {j : Nat} (hj : q_isLaw j) {oa1 oa2 oa3 : Int32} {M0 : qM} : ∀ (m : Nat) (a1 a2 a4 a5 : Int32) (M : qM), G M → Sm l_X1_amount M0 M → 99 ≤ a1.toInt ∧ a1.toInt ≤ 118 → 99 ≤ a2.toInt ∧ a2.toInt ≤ 999 → 0 ≤ a4.toInt ∧ a4.toInt ≤ 1 → 0 ≤ a5.toInt ∧ a5.toInt ≤ 16 → 16 - a5.toInt < (m : Int) → qT (f_X1_amount_6 n j m a1 a2 a4 a5 M) (po_X1_amount oa1 oa2 oa3 M0) := by
  intro m
  induction m with
  | zero =>
    intro a1 a2 a4 a5 M hG hS i0 i1 i2 i3 i4
    exfalso; omega
  | succ m ih =>
    intro a1 a2 a4 a5 M hG hS i0 i1 i2 i3 i4
    show qT (b_X1_amount_6 n j (f_X1_amount_6 n j m) a1 a2 a4 a5 M) _
    unfold b_X1_amount_6
    have hq3_ := rw_0_7 hj hG
    refine T_le rfl rfl (fun hq4_ => ?_) (fun hq4_ => ?_)
    · exact T_ret ⟨(i_rng (lo := 0) (hi := 999) rfl (by omega) (by omega)), hG, hS⟩
    · refine T_qg rfl (by omega) (by omega) ?_
      refine T_eq rfl rfl (fun hq5_ => ?_) (fun hq5_ => ?_)
      · refine T_qg rfl (by omega) (by omega) ?_
        refine T_qg rfl (by omega) (by omega) ?_
        have hq8_ := rw_5 hj hG a5.toNatClampNeg
        have hq9_ := rw_6 hj hG a5.toNatClampNeg
        refine T_qc (t_X1_run hn hj (M (j + 5) a5.toNatClampNeg) (M (j + 6) a5.toNatClampNeg) M hG (i_rng (lo := 0) (hi := 240) rfl (by omega) (by omega)) (i_rng (lo := 0) (hi := 240) rfl (by omega) (by omega))) ?_
        rintro rv6 mv7 ⟨gq10_, kq11_⟩
        have kq12_ := Sm.call hS kq11_ rfl
        refine T_eq rfl l_0 (fun hq13_ => ?_) (fun hq13_ => ?_)
        · refine T_ql (i_add rfl l_1 (by omega) (by omega)) ?_
          intro xv14 hq15_
          exact ih a1 a2 (0 : Int32) xv14 mv7 gq10_ kq12_ (i_rng (lo := 99) (hi := 118) rfl (by omega) (by omega)) (i_rng (lo := 99) (hi := 999) rfl (by omega) (by omega)) (i_rng (lo := 0) (hi := 1) l_0 (by omega) (by omega)) (i_rng (lo := 0) (hi := 16) rfl (by omega) (by omega)) (by have e2 : ((0 : Int32)).toInt = _ := l_0; omega)
        · refine T_qg rfl (by omega) (by omega) ?_
          refine T_qg rfl (by omega) (by omega) ?_
          have hq18_ := rw_4 hj gq10_ a5.toNatClampNeg
          have hq19_ := rw_5 hj gq10_ a5.toNatClampNeg
          refine T_qc (t_X1_run hn hj (mv7 (j + 4) a5.toNatClampNeg) (mv7 (j + 5) a5.toNatClampNeg) mv7 gq10_ (i_rng (lo := 0) (hi := 240) rfl (by omega) (by omega)) (i_rng (lo := 0) (hi := 240) rfl (by omega) (by omega))) ?_
          rintro rv16 mv17 ⟨gq20_, kq21_⟩
          have kq22_ := Sm.call kq12_ kq21_ rfl
          have hq23_ := i_min (a := a2) (b := rv16) rfl rfl
          have hq24_ := i_max (a := (0 : Int32)) (b := qmin a2 rv16) l_0 rfl
          exact T_ret ⟨(i_rng (lo := 0) (hi := 999) rfl (by omega) (by omega)), gq20_, kq22_⟩
      · refine T_ql (i_add rfl l_1 (by omega) (by omega)) ?_
        intro xv25 hq26_
        exact ih a1 a2 a4 xv25 M hG hS (i_rng (lo := 99) (hi := 118) rfl (by omega) (by omega)) (i_rng (lo := 99) (hi := 999) rfl (by omega) (by omega)) (i_rng (lo := 0) (hi := 1) rfl (by omega) (by omega)) (i_rng (lo := 0) (hi := 16) rfl (by omega) (by omega)) (by omega)
theorem t_X1_amount {n : Nat} (hn : 200000 ≤ n) {j : Nat} (hj : q_isLaw j) (a1 a2 a3 : Int32) (M : qM) (hG : G M) (pa1 : 99 ≤ a1.toInt ∧ a1.toInt ≤ 118) (pa2 : 99 ≤ a2.toInt ∧ a2.toInt ≤ 999) (pa3 : 0 ≤ a3.toInt ∧ a3.toInt ≤ 1) : qT (f_X1_amount n j a1 a2 a3 M) (po_X1_amount a1 a2 a3 M) := by
  have hS : Sm l_X1_amount M M := Sm.rf
  unfold f_X1_amount
  exact (t_X1_amount_6 hn hj) n a1 a2 a3 (0 : Int32) M hG hS (i_rng (lo := 99) (hi := 118) rfl (by omega) (by omega)) (i_rng (lo := 99) (hi := 999) rfl (by omega) (by omega)) (i_rng (lo := 0) (hi := 1) rfl (by omega) (by omega)) (i_rng (lo := 0) (hi := 16) l_0 (by omega) (by omega)) (by have e3 : ((0 : Int32)).toInt = _ := l_0; omega)
abbrev l_X0_forget_c7 : List Bx := [(9, 10, 0, 0), (34, 35, 4, 5), (35, 37, 0, 0)]
abbrev po_X0_forget_c7 (a2 a3 : Int32) (M : qM) (v : Int32) (M' : qM) : Prop := (0 ≤ v.toInt ∧ v.toInt ≤ 0) ∧ G M' ∧ Sm l_X0_forget_c7 M M'
theorem t_X0_forget_c7_3 {n : Nat} (hn : 200000 ≤ n) {j : Nat} (hj : q_isLaw j) {oa2 oa3 : Int32} {M0 : qM} : ∀ (m : Nat) (a2 a3 a4 : Int32) (M : qM), G M → Sm l_X0_forget_c7 M0 M → 0 ≤ a2.toInt ∧ a2.toInt ≤ 7 → 0 ≤ a4.toInt ∧ a4.toInt ≤ 12 → 12 - a4.toInt < (m : Int) → qT (f_X0_forget_3 n 7 j m a2 a3 a4 M) (po_X0_forget_c7 oa2 oa3 M0) := by
  intro m
  induction m with
  | zero =>
    intro a2 a3 a4 M hG hS i0 i1 i2
    exfalso; omega
  | succ m ih =>
    intro a2 a3 a4 M hG hS i0 i1 i2
    show qT (b_X0_forget_3 n 7 j (f_X0_forget_3 n 7 j m) a2 a3 a4 M) _
    unfold b_X0_forget_3
    try simp only [Nat.reduceAdd]
    refine T_le l_12 rfl (fun hq7_ => ?_) (fun hq7_ => ?_)
    · exact T_ret ⟨(i_rng (lo := 0) (hi := 0) l_0 (by omega) (by omega)), hG, hS⟩
    · refine T_ql (i_add (i_mul rfl l_12 (by omega) (by omega)) rfl (by omega) (by omega)) ?_
      intro xv8 hq9_
      have hq10_ := i_and (a := a3 >>> (a4 &&& 31)) (b := (1 : Int32)) l_1 (by omega)
      refine T_eq rfl l_1 (fun hq11_ => ?_) (fun hq11_ => ?_)
      · refine T_qg rfl (by omega) (by omega) ?_
        refine T_le rfl l_0 (fun hq12_ => ?_) (fun hq12_ => ?_)
        · refine T_ql (i_add rfl l_1 (by omega) (by omega)) ?_
          intro xv13 hq14_
          exact ih a2 a3 xv13 M hG hS (i_rng (lo := 0) (hi := 7) rfl (by omega) (by omega)) (i_rng (lo := 0) (hi := 12) rfl (by omega) (by omega)) (by omega)
        · refine T_qc (t_X0_tellAll_c7 hn a2 a4 (8 : Int32) M hG (i_rng (lo := 0) (hi := 7) rfl (by omega) (by omega)) (i_rng (lo := 0) (hi := 11) rfl (by omega) (by omega)) (i_rng (lo := 0) (hi := 8) l_8 (by omega) (by omega))) ?_
          rintro rv15 mv16 ⟨hq17_, gq18_, kq19_⟩
          have kq20_ := Sm.call hS kq19_ rfl
          have hq21_ : (mv16 9 xv8.toNatClampNeg).toInt = (M 9 xv8.toNatClampNeg).toInt := by rw [kq19_ 9 _ (outc rfl)]
          refine T_qc (t_X1_amount hn hj (102 : Int32) (999 : Int32) (0 : Int32) mv16 gq18_ (i_rng (lo := 99) (hi := 118) l_102 (by omega) (by omega)) (i_rng (lo := 99) (hi := 999) l_999 (by omega) (by omega)) (i_rng (lo := 0) (hi := 1) l_0 (by omega) (by omega))) ?_
          rintro rv22 mv23 ⟨hq24_, gq25_, kq26_⟩
          have kq27_ := Sm.call kq20_ kq26_ rfl
          have hq28_ : (mv23 9 xv8.toNatClampNeg).toInt = (mv16 9 xv8.toNatClampNeg).toInt := by rw [kq26_ 9 _ (outc rfl)]
          refine T_le rfl l_0 (fun hq29_ => ?_) (fun hq29_ => ?_)
          · refine T_ql (i_add rfl l_1 (by omega) (by omega)) ?_
            intro xv30 hq31_
            exact ih a2 a3 xv30 mv23 gq25_ kq27_ (i_rng (lo := 0) (hi := 7) rfl (by omega) (by omega)) (i_rng (lo := 0) (hi := 12) rfl (by omega) (by omega)) (by omega)
          · refine T_qg rfl (by omega) (by omega) ?_
            have hq32_ := i_full (mv23 7 9)
            have hq33_ := i_full (mv23 10 xv8.toNatClampNeg)
            refine T_lt rfl rfl (fun hq34_ => ?_) (fun hq34_ => ?_)
            · refine T_ql (i_add rfl l_1 (by omega) (by omega)) ?_
              intro xv35 hq36_
              exact ih a2 a3 xv35 mv23 gq25_ kq27_ (i_rng (lo := 0) (hi := 7) rfl (by omega) (by omega)) (i_rng (lo := 0) (hi := 12) rfl (by omega) (by omega)) (by omega)
            · refine T_qg rfl (by omega) (by omega) ?_
              refine T_mu gq25_ kq27_ (rn_9 _ _) (nw_9 _) (i := 0) rfl ⟨by decide, by decide, Or.inl rfl⟩ ?_
              intro mv37 hq38_ gq39_ kq40_
              have hq41_ : (mv37 9 xv8.toNatClampNeg).toInt = 0 := by rw [hq38_, mu_at]; exact l_0
              refine T_ql (i_add rfl l_1 (by omega) (by omega)) ?_
              intro xv42 hq43_
              exact ih a2 a3 xv42 mv37 gq39_ kq40_ (i_rng (lo := 0) (hi := 7) rfl (by omega) (by omega)) (i_rng (lo := 0) (hi := 12) rfl (by omega) (by omega)) (by omega)
      · refine T_ql (i_add rfl l_1 (by omega) (by omega)) ?_
        intro xv44 hq45_
        exact ih a2 a3 xv44 M hG hS (i_rng (lo := 0) (hi := 7) rfl (by omega) (by omega)) (i_rng (lo := 0) (hi := 12) rfl (by omega) (by omega)) (by omega)
theorem t_X0_forget_c7 {n : Nat} (hn : 200000 ≤ n) {j : Nat} (hj : q_isLaw j) (a2 a3 : Int32) (M : qM) (hG : G M) (pa2 : 0 ≤ a2.toInt ∧ a2.toInt ≤ 7) : qT (f_X0_forget n 7 j a2 a3 M) (po_X0_forget_c7 a2 a3 M) := by
  have hS : Sm l_X0_forget_c7 M M := Sm.rf
  unfold f_X0_forget
  try simp only [Nat.reduceAdd]
  exact (t_X0_forget_c7_3 hn hj) n a2 a3 (0 : Int32) M hG hS (i_rng (lo := 0) (hi := 7) rfl (by omega) (by omega)) (i_rng (lo := 0) (hi := 12) l_0 (by omega) (by omega)) (by have e2 : ((0 : Int32)).toInt = _ := l_0; omega)
abbrev l_X10_triesAmong_c7 : List Bx := []
abbrev po_X10_triesAmong_c7 (a1 a2 : Int32) (M : qM) (v : Int32) (M' : qM) : Prop := G M' ∧ Sm l_X10_triesAmong_c7 M M'
theorem t_X10_triesAmong_c7_5 {n : Nat} (hn : 200000 ≤ n) {oa1 oa2 : Int32} {M0 : qM} : ∀ (m : Nat) (a1 a2 a3 a4 : Int32) (M : qM), G M → Sm l_X10_triesAmong_c7 M0 M → 0 ≤ a1.toInt ∧ a1.toInt ≤ 7 → 0 ≤ a4.toInt ∧ a4.toInt ≤ 12 → 12 - a4.toInt < (m : Int) → qT (f_X10_triesAmong_5 n 7 m a1 a2 a3 a4 M) (po_X10_triesAmong_c7 oa1 oa2 M0) := by
  intro m
  induction m with
  | zero =>
    intro a1 a2 a3 a4 M hG hS i0 i1 i2
    exfalso; omega
  | succ m ih =>
    intro a1 a2 a3 a4 M hG hS i0 i1 i2
    show qT (b_X10_triesAmong_5 n 7 (f_X10_triesAmong_5 n 7 m) a1 a2 a3 a4 M) _
    unfold b_X10_triesAmong_5
    try simp only [Nat.reduceAdd]
    refine T_le l_12 rfl (fun hq4_ => ?_) (fun hq4_ => ?_)
    · exact T_ret ⟨hG, hS⟩
    · have hq5_ := i_and (a := a2 >>> (a4 &&& 31)) (b := (1 : Int32)) l_1 (by omega)
      refine T_eq rfl l_1 (fun hq6_ => ?_) (fun hq6_ => ?_)
      · refine T_qg (i_add (i_mul rfl l_12 (by omega) (by omega)) rfl (by omega) (by omega)) (by omega) (by omega) ?_
        have hq7_ := i_full (a3)
        have hq8_ := i_full (M 9 (((a1 * (12 : Int32)) + a4).toNatClampNeg))
        refine T_ql rfl ?_
        intro xv9 hq10_
        refine T_ql (i_add rfl l_1 (by omega) (by omega)) ?_
        intro xv11 hq12_
        exact ih a1 a2 xv9 xv11 M hG hS (i_rng (lo := 0) (hi := 7) rfl (by omega) (by omega)) (i_rng (lo := 0) (hi := 12) rfl (by omega) (by omega)) (by omega)
      · refine T_ql (i_add rfl l_1 (by omega) (by omega)) ?_
        intro xv13 hq14_
        exact ih a1 a2 a3 xv13 M hG hS (i_rng (lo := 0) (hi := 7) rfl (by omega) (by omega)) (i_rng (lo := 0) (hi := 12) rfl (by omega) (by omega)) (by omega)
theorem t_X10_triesAmong_c7 {n : Nat} (hn : 200000 ≤ n) (a1 a2 : Int32) (M : qM) (hG : G M) (pa1 : 0 ≤ a1.toInt ∧ a1.toInt ≤ 7) : qT (f_X10_triesAmong n 7 a1 a2 M) (po_X10_triesAmong_c7 a1 a2 M) := by
  have hS : Sm l_X10_triesAmong_c7 M M := Sm.rf
  unfold f_X10_triesAmong
  try simp only [Nat.reduceAdd]
  exact (t_X10_triesAmong_c7_5 hn) n a1 a2 (0 : Int32) (0 : Int32) M hG hS (i_rng (lo := 0) (hi := 7) rfl (by omega) (by omega)) (i_rng (lo := 0) (hi := 12) l_0 (by omega) (by omega)) (by have e2 : ((0 : Int32)).toInt = _ := l_0; have e3 : ((0 : Int32)).toInt = _ := l_0; omega)
abbrev l_X1_voidTries : List Bx := [(34, 35, 4, 5), (36, 37, 0, 0)]
abbrev po_X1_voidTries (M : qM) (v : Int32) (M' : qM) : Prop := (0 ≤ v.toInt ∧ v.toInt ≤ 999) ∧ G M' ∧ Sm l_X1_voidTries M M'
theorem t_X1_voidTries {n : Nat} (hn : 200000 ≤ n) {j : Nat} (hj : q_isLaw j) (M : qM) (hG : G M) : qT (f_X1_voidTries n j  M) (po_X1_voidTries  M) := by
  have hS : Sm l_X1_voidTries M M := Sm.rf
  unfold f_X1_voidTries
  refine T_qc (t_X1_amount hn hj (118 : Int32) (99 : Int32) (1 : Int32) M hG (i_rng (lo := 99) (hi := 118) l_118 (by omega) (by omega)) (i_rng (lo := 99) (hi := 999) l_99 (by omega) (by omega)) (i_rng (lo := 0) (hi := 1) l_1 (by omega) (by omega))) ?_
  rintro rv1 mv2 ⟨hq3_, gq4_, kq5_⟩
  have kq6_ := Sm.call hS kq5_ rfl
  exact T_ret ⟨(i_rng (lo := 0) (hi := 999) rfl (by omega) (by omega)), gq4_, kq6_⟩
abbrev l_X10_addTry_c7 : List Bx := [(9, 11, 0, 0)]
abbrev po_X10_addTry_c7 (a1 a2 : Int32) (M : qM) (v : Int32) (M' : qM) : Prop := (0 ≤ v.toInt ∧ v.toInt ≤ 0) ∧ G M' ∧ Sm l_X10_addTry_c7 M M'
theorem t_X10_addTry_c7 {n : Nat} (hn : 200000 ≤ n) (a1 a2 : Int32) (M : qM) (hG : G M) (pa1 : 0 ≤ a1.toInt ∧ a1.toInt ≤ 7) (pa2 : 0 ≤ a2.toInt ∧ a2.toInt ≤ 11) : qT (f_X10_addTry n 7 a1 a2 M) (po_X10_addTry_c7 a1 a2 M) := by
  have hS : Sm l_X10_addTry_c7 M M := Sm.rf
  unfold f_X10_addTry
  try simp only [Nat.reduceAdd]
  refine T_ql (i_add (i_mul rfl l_12 (by omega) (by omega)) rfl (by omega) (by omega)) ?_
  intro xv1 hq2_
  refine T_qg rfl (by omega) (by omega) ?_
  refine T_qg rfl (by omega) (by omega) ?_
  have hq4_ := i_full (M 9 xv1.toNatClampNeg)
  have hq5_ := i_min (a := (999 : Int32)) (b := (M 9 xv1.toNatClampNeg) + (1 : Int32)) l_999 rfl
  refine T_mu hG hS (rn_9 _ _) (nw_9 _) (i := 0) rfl ⟨by decide, by decide, Or.inl rfl⟩ ?_
  intro mv3 hq6_ gq7_ kq8_
  have hq9_ : (mv3 9 xv1.toNatClampNeg).toInt = (qmin (999 : Int32) ((M 9 xv1.toNatClampNeg) + (1 : Int32))).toInt := by rw [hq6_, mu_at]
  refine T_qg rfl (by omega) (by omega) ?_
  refine T_mu gq7_ kq8_ (rn_10 _ _) (nw_10 _) (i := 0) rfl ⟨by decide, by decide, Or.inl rfl⟩ ?_
  intro mv10 hq11_ gq12_ kq13_
  have hq14_ : (mv10 9 xv1.toNatClampNeg).toInt = (mv3 9 xv1.toNatClampNeg).toInt := by rw [hq11_, mu_ne (Or.inl (by decide))]
  have hq15_ : (mv10 10 xv1.toNatClampNeg).toInt = (mv3 7 9).toInt := by rw [hq11_, mu_at]
  exact T_ret ⟨(i_rng (lo := 0) (hi := 0) l_0 (by omega) (by omega)), gq12_, kq13_⟩
abbrev l_X10_hasCounted_c7 : List Bx := []
abbrev po_X10_hasCounted_c7 (a1 a2 : Int32) (M : qM) (v : Int32) (M' : qM) : Prop := (0 ≤ v.toInt ∧ v.toInt ≤ 1) ∧ G M' ∧ Sm l_X10_hasCounted_c7 M M'
theorem t_X10_hasCounted_c7_2 {n : Nat} (hn : 200000 ≤ n) {oa1 oa2 : Int32} {M0 : qM} : ∀ (m : Nat) (a1 a2 a3 : Int32) (M : qM), G M → Sm l_X10_hasCounted_c7 M0 M → 0 ≤ a1.toInt ∧ a1.toInt ≤ 7 → 0 ≤ a3.toInt ∧ a3.toInt ≤ 12 → 12 - a3.toInt < (m : Int) → qT (f_X10_hasCounted_2 n 7 m a1 a2 a3 M) (po_X10_hasCounted_c7 oa1 oa2 M0) := by
  intro m
  induction m with
  | zero =>
    intro a1 a2 a3 M hG hS i0 i1 i2
    exfalso; omega
  | succ m ih =>
    intro a1 a2 a3 M hG hS i0 i1 i2
    show qT (b_X10_hasCounted_2 n 7 (f_X10_hasCounted_2 n 7 m) a1 a2 a3 M) _
    unfold b_X10_hasCounted_2
    try simp only [Nat.reduceAdd]
    refine T_le l_12 rfl (fun hq3_ => ?_) (fun hq3_ => ?_)
    · exact T_ret ⟨(i_rng (lo := 0) (hi := 1) l_1 (by omega) (by omega)), hG, hS⟩
    · have hq4_ := i_and (a := a2 >>> (a3 &&& 31)) (b := (1 : Int32)) l_1 (by omega)
      refine T_eq rfl l_1 (fun hq5_ => ?_) (fun hq5_ => ?_)
      · refine T_qg (i_add (i_mul rfl l_12 (by omega) (by omega)) rfl (by omega) (by omega)) (by omega) (by omega) ?_
        refine T_eq rfl l_0 (fun hq6_ => ?_) (fun hq6_ => ?_)
        · exact T_ret ⟨(i_rng (lo := 0) (hi := 1) l_0 (by omega) (by omega)), hG, hS⟩
        · refine T_ql (i_add rfl l_1 (by omega) (by omega)) ?_
          intro xv7 hq8_
          exact ih a1 a2 xv7 M hG hS (i_rng (lo := 0) (hi := 7) rfl (by omega) (by omega)) (i_rng (lo := 0) (hi := 12) rfl (by omega) (by omega)) (by omega)
      · refine T_ql (i_add rfl l_1 (by omega) (by omega)) ?_
        intro xv9 hq10_
        exact ih a1 a2 xv9 M hG hS (i_rng (lo := 0) (hi := 7) rfl (by omega) (by omega)) (i_rng (lo := 0) (hi := 12) rfl (by omega) (by omega)) (by omega)
theorem t_X10_hasCounted_c7 {n : Nat} (hn : 200000 ≤ n) (a1 a2 : Int32) (M : qM) (hG : G M) (pa1 : 0 ≤ a1.toInt ∧ a1.toInt ≤ 7) : qT (f_X10_hasCounted n 7 a1 a2 M) (po_X10_hasCounted_c7 a1 a2 M) := by
  have hS : Sm l_X10_hasCounted_c7 M M := Sm.rf
  unfold f_X10_hasCounted
  try simp only [Nat.reduceAdd]
  exact (t_X10_hasCounted_c7_2 hn) n a1 a2 (0 : Int32) M hG hS (i_rng (lo := 0) (hi := 7) rfl (by omega) (by omega)) (i_rng (lo := 0) (hi := 12) l_0 (by omega) (by omega)) (by have e2 : ((0 : Int32)).toInt = _ := l_0; omega)
abbrev l_X10_addCounted_c7 : List Bx := [(11, 12, 0, 0)]
abbrev po_X10_addCounted_c7 (a1 a2 : Int32) (M : qM) (v : Int32) (M' : qM) : Prop := (0 ≤ v.toInt ∧ v.toInt ≤ 0) ∧ G M' ∧ Sm l_X10_addCounted_c7 M M'
theorem t_X10_addCounted_c7 {n : Nat} (hn : 200000 ≤ n) (a1 a2 : Int32) (M : qM) (hG : G M) (pa1 : 0 ≤ a1.toInt ∧ a1.toInt ≤ 7) (pa2 : 0 ≤ a2.toInt ∧ a2.toInt ≤ 11) : qT (f_X10_addCounted n 7 a1 a2 M) (po_X10_addCounted_c7 a1 a2 M) := by
  have hS : Sm l_X10_addCounted_c7 M M := Sm.rf
  unfold f_X10_addCounted
  try simp only [Nat.reduceAdd]
  refine T_ql (i_add (i_mul rfl l_12 (by omega) (by omega)) rfl (by omega) (by omega)) ?_
  intro xv1 hq2_
  refine T_qg rfl (by omega) (by omega) ?_
  refine T_qg rfl (by omega) (by omega) ?_
  have hq4_ := i_full (M 11 xv1.toNatClampNeg)
  have hq5_ := i_min (a := (999 : Int32)) (b := (M 11 xv1.toNatClampNeg) + (1 : Int32)) l_999 rfl
  refine T_mu hG hS (rn_11 _ _) (nw_11 _) (i := 0) rfl ⟨by decide, by decide, Or.inl rfl⟩ ?_
  intro mv3 hq6_ gq7_ kq8_
  have hq9_ : (mv3 11 xv1.toNatClampNeg).toInt = (qmin (999 : Int32) ((M 11 xv1.toNatClampNeg) + (1 : Int32))).toInt := by rw [hq6_, mu_at]
  exact T_ret ⟨(i_rng (lo := 0) (hi := 0) l_0 (by omega) (by omega)), gq7_, kq8_⟩
