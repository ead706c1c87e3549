abbrev l_X1_amount : List Bx := [(34, 35, 4, 5), (36, 37, 0, 0)]
abbrev po_X1_amount (a1 a2 a3 : Int32) (M : qM) (v : Int32) (M' : qM) : Prop := (0 ≤ v.toInt ∧ v.toInt ≤ 999) ∧ G M' ∧ Sm l_X1_amount M M'
theorem t_X1_amount_6 {n : Nat} (hn : 200000 ≤ n) {j : Nat} (hj : q_isLaw j) {oa1 oa2 oa3 : Int32} {M0 : qM} : ∀ (m : Nat) (a1 a2 a4 a5 : Int32) (M : qM), G M → Sm l_X1_amount M0 M → 99 ≤ a1.toInt ∧ a1.toInt ≤ 118 → 99 ≤ a2.toInt ∧ a2.toInt ≤ 999 → 0 ≤ a4.toInt ∧ a4.toInt ≤ 1 → 0 ≤ a5.toInt ∧ a5.toInt ≤ 16 → 16 - a5.toInt < (m : Int) → qT (f_X1_amount_6 n j m a1 a2 a4 a5 M) (po_X1_amount oa1 oa2 oa3 M0) := by
  intro m
  induction m with
  | zero =>
    intro a1 a2 a4 a5 M hG hS i0 i1 i2 i3 i6
    exfalso; omega
  | succ m ih =>
    intro a1 a2 a4 a5 M hG hS i0 i1 i2 i3 i6
    show qT (b_X1_amount_6 n j (f_X1_amount_6 n j m) a1 a2 a4 a5 M) _
    unfold b_X1_amount_6
    have hq3_ := rw_0_7 hj hG
    refine T_le rfl rfl (fun hq4_ => ?_) (fun hq4_ => ?_)
    · exact T_ret ⟨(i_rng (lo := 0) (hi := 999) rfl (by omega) (by omega)), hG, hS⟩
    · refine T_qg rfl (by omega) (by omega) ?_
      refine T_eq rfl rfl (fun hq5_ => ?_) (fun hq5_ => ?_)
      · refine T_qg rfl (by omega) (by omega) ?_
        refine T_qg rfl (by omega) (by omega) ?_
        have hq8_ := rw_5 hj hG a5.toNatClampNeg
        have hq9_ := rw_6 hj hG a5.toNatClampNeg
        refine T_qc (t_X1_run hn hj (M (j + 5) a5.toNatClampNeg) (M (j + 6) a5.toNatClampNeg) M hG (i_rng (lo := 0) (hi := 240) rfl (by omega) (by omega)) (i_rng (lo := 0) (hi := 240) rfl (by omega) (by omega))) ?_
        rintro rv6 mv7 ⟨gq10_, kq11_⟩
        have kq12_ := Sm.call hS kq11_ rfl
        have hq13_ : (mv7 j 7).toInt = (M j 7).toInt := by rw [kq11_ j 7 (outl (lawin hj).1 rfl)]
        refine T_eq rfl l_0 (fun hq14_ => ?_) (fun hq14_ => ?_)
        · refine T_ql (i_add rfl l_1 (by omega) (by omega)) ?_
          intro xv15 hq16_
          exact ih a1 a2 (0 : Int32) xv15 mv7 gq10_ kq12_ (i_rng (lo := 99) (hi := 118) rfl (by omega) (by omega)) (i_rng (lo := 99) (hi := 999) rfl (by omega) (by omega)) (i_rng (lo := 0) (hi := 1) l_0 (by omega) (by omega)) (i_rng (lo := 0) (hi := 16) rfl (by omega) (by omega)) (by have e2 : ((0 : Int32)).toInt = _ := l_0; omega)
        · refine T_qg rfl (by omega) (by omega) ?_
          refine T_qg rfl (by omega) (by omega) ?_
          have hq19_ := rw_4 hj gq10_ a5.toNatClampNeg
          have hq20_ := rw_5 hj gq10_ a5.toNatClampNeg
          refine T_qc (t_X1_run hn hj (mv7 (j + 4) a5.toNatClampNeg) (mv7 (j + 5) a5.toNatClampNeg) mv7 gq10_ (i_rng (lo := 0) (hi := 240) rfl (by omega) (by omega)) (i_rng (lo := 0) (hi := 240) rfl (by omega) (by omega))) ?_
          rintro rv17 mv18 ⟨gq21_, kq22_⟩
          have kq23_ := Sm.call kq12_ kq22_ rfl
          have hq24_ : (mv18 j 7).toInt = (mv7 j 7).toInt := by rw [kq22_ j 7 (outl (lawin hj).1 rfl)]
          have hq25_ := i_min (a := a2) (b := rv17) rfl rfl
          have hq26_ := i_max (a := (0 : Int32)) (b := qmin a2 rv17) l_0 rfl
          exact T_ret ⟨(i_rng (lo := 0) (hi := 999) rfl (by omega) (by omega)), gq21_, kq23_⟩
      · refine T_ql (i_add rfl l_1 (by omega) (by omega)) ?_
        intro xv27 hq28_
        exact ih a1 a2 a4 xv27 M hG hS (i_rng (lo := 99) (hi := 118) rfl (by omega) (by omega)) (i_rng (lo := 99) (hi := 999) rfl (by omega) (by omega)) (i_rng (lo := 0) (hi := 1) rfl (by omega) (by omega)) (i_rng (lo := 0) (hi := 16) rfl (by omega) (by omega)) (by omega)
theorem t_X1_amount {n : Nat} (hn : 200000 ≤ n) {j : Nat} (hj : q_isLaw j) (a1 a2 a3 : Int32) (M : qM) (hG : G M) (pa1 : 99 ≤ a1.toInt ∧ a1.toInt ≤ 118) (pa2 : 99 ≤ a2.toInt ∧ a2.toInt ≤ 999) (pa3 : 0 ≤ a3.toInt ∧ a3.toInt ≤ 1) : qT (f_X1_amount n j a1 a2 a3 M) (po_X1_amount a1 a2 a3 M) := by
  have hS : Sm l_X1_amount M M := Sm.rf
  unfold f_X1_amount
  exact (t_X1_amount_6 hn hj) n a1 a2 a3 (0 : Int32) M hG hS (i_rng (lo := 99) (hi := 118) rfl (by omega) (by omega)) (i_rng (lo := 99) (hi := 999) rfl (by omega) (by omega)) (i_rng (lo := 0) (hi := 1) rfl (by omega) (by omega)) (i_rng (lo := 0) (hi := 16) l_0 (by omega) (by omega)) (by have e3 : ((0 : Int32)).toInt = _ := l_0; omega)
abbrev l_X0_forget_c7 : List Bx := [(9, 10, 0, 0), (34, 35, 4, 5), (35, 37, 0, 0)]
abbrev po_X0_forget_c7 (a2 a3 : Int32) (M : qM) (v : Int32) (M' : qM) : Prop := (0 ≤ v.toInt ∧ v.toInt ≤ 0) ∧ G M' ∧ Sm l_X0_forget_c7 M M'
theorem t_X0_forget_c7_3 {n : Nat} (hn : 200000 ≤ n) {j : Nat} (hj : q_isLaw j) {oa2 oa3 : Int32} {M0 : qM} : ∀ (m : Nat) (a2 a3 a4 : Int32) (M : qM), G M → Sm l_X0_forget_c7 M0 M → 0 ≤ a2.toInt ∧ a2.toInt ≤ 7 → 0 ≤ a4.toInt ∧ a4.toInt ≤ 12 → 12 - a4.toInt < (m : Int) → qT (f_X0_forget_3 n 7 j m a2 a3 a4 M) (po_X0_forget_c7 oa2 oa3 M0) := by
  intro m
  induction m with
  | zero =>
    intro a2 a3 a4 M hG hS i0 i1 i4
    exfalso; omega
  | succ m ih =>
    intro a2 a3 a4 M hG hS i0 i1 i4
    show qT (b_X0_forget_3 n 7 j (f_X0_forget_3 n 7 j m) a2 a3 a4 M) _
    unfold b_X0_forget_3
    try simp only [Nat.reduceAdd]
    refine T_le l_12 rfl (fun hq7_ => ?_) (fun hq7_ => ?_)
    · exact T_ret ⟨(i_rng (lo := 0) (hi := 0) l_0 (by omega) (by omega)), hG, hS⟩
    · refine T_ql (i_add (i_mul rfl l_12 (by omega) (by omega)) rfl (by omega) (by omega)) ?_
      intro xv8 hq9_
      have hq10_ := i_and (a := a3 >>> (a4 &&& 31)) (b := (1 : Int32)) l_1 (by omega)
      refine T_eq rfl l_1 (fun hq11_ => ?_) (fun hq11_ => ?_)
      · refine T_qg rfl (by omega) (by omega) ?_
        refine T_le rfl l_0 (fun hq12_ => ?_) (fun hq12_ => ?_)
        · refine T_ql (i_add rfl l_1 (by omega) (by omega)) ?_
          intro xv13 hq14_
          exact ih a2 a3 xv13 M hG hS (i_rng (lo := 0) (hi := 7) rfl (by omega) (by omega)) (i_rng (lo := 0) (hi := 12) rfl (by omega) (by omega)) (by omega)
        · refine T_qc (t_X0_tellAll_c7 hn a2 a4 (8 : Int32) M hG (i_rng (lo := 0) (hi := 7) rfl (by omega) (by omega)) (i_rng (lo := 0) (hi := 11) rfl (by omega) (by omega)) (i_rng (lo := 0) (hi := 8) l_8 (by omega) (by omega))) ?_
          rintro rv15 mv16 ⟨hq17_, gq18_, kq19_⟩
          have kq20_ := Sm.call hS kq19_ rfl
          have hq21_ : (mv16 9 xv8.toNatClampNeg).toInt = (M 9 xv8.toNatClampNeg).toInt := by rw [kq19_ 9 _ (outc rfl)]
          refine T_qc (t_X1_amount hn hj (102 : Int32) (999 : Int32) (0 : Int32) mv16 gq18_ (i_rng (lo := 99) (hi := 118) l_102 (by omega) (by omega)) (i_rng (lo := 99) (hi := 999) l_999 (by omega) (by omega)) (i_rng (lo := 0) (hi := 1) l_0 (by omega) (by omega))) ?_
          rintro rv22 mv23 ⟨hq24_, gq25_, kq26_⟩
          have kq27_ := Sm.call kq20_ kq26_ rfl
          have hq28_ : (mv23 9 xv8.toNatClampNeg).toInt = (mv16 9 xv8.toNatClampNeg).toInt := by rw [kq26_ 9 _ (outc rfl)]
          refine T_le rfl l_0 (fun hq29_ => ?_) (fun hq29_ => ?_)
          · refine T_ql (i_add rfl l_1 (by omega) (by omega)) ?_
            intro xv30 hq31_
            exact ih a2 a3 xv30 mv23 gq25_ kq27_ (i_rng (lo := 0) (hi := 7) rfl (by omega) (by omega)) (i_rng (lo := 0) (hi := 12) rfl (by omega) (by omega)) (by omega)
          · refine T_qg rfl (by omega) (by omega) ?_
            have hq32_ := i_full (mv23 7 9)
            have hq33_ := i_full (mv23 10 xv8.toNatClampNeg)
            refine T_lt rfl rfl (fun hq34_ => ?_) (fun hq34_ => ?_)
            · refine T_ql (i_add rfl l_1 (by omega) (by omega)) ?_
              intro xv35 hq36_
              exact ih a2 a3 xv35 mv23 gq25_ kq27_ (i_rng (lo := 0) (hi := 7) rfl (by omega) (by omega)) (i_rng (lo := 0) (hi := 12) rfl (by omega) (by omega)) (by omega)
            · refine T_qg rfl (by omega) (by omega) ?_
              refine T_mu gq25_ kq27_ (rn_9 _ _) (nw_9 _) (i := 0) rfl ⟨by decide, by decide, Or.inl rfl⟩ ?_
              intro mv37 hq38_ gq39_ kq40_
              have hq41_ : (mv37 9 xv8.toNatClampNeg).toInt = 0 := by rw [hq38_, mu_at]; exact l_0
              refine T_ql (i_add rfl l_1 (by omega) (by omega)) ?_
              intro xv42 hq43_
              exact ih a2 a3 xv42 mv37 gq39_ kq40_ (i_rng (lo := 0) (hi := 7) rfl (by omega) (by omega)) (i_rng (lo := 0) (hi := 12) rfl (by omega) (by omega)) (by omega)
      · refine T_ql (i_add rfl l_1 (by omega) (by omega)) ?_
        intro xv44 hq45_
        exact ih a2 a3 xv44 M hG hS (i_rng (lo := 0) (hi := 7) rfl (by omega) (by omega)) (i_rng (lo := 0) (hi := 12) rfl (by omega) (by omega)) (by omega)
theorem t_X0_forget_c7 {n : Nat} (hn : 200000 ≤ n) {j : Nat} (hj : q_isLaw j) (a2 a3 : Int32) (M : qM) (hG : G M) (pa2 : 0 ≤ a2.toInt ∧ a2.toInt ≤ 7) : qT (f_X0_forget n 7 j a2 a3 M) (po_X0_forget_c7 a2 a3 M) := by
  have hS : Sm l_X0_forget_c7 M M := Sm.rf
  unfold f_X0_forget
  try simp only [Nat.reduceAdd]
  exact (t_X0_forget_c7_3 hn hj) n a2 a3 (0 : Int32) M hG hS (i_rng (lo := 0) (hi := 7) rfl (by omega) (by omega)) (i_rng (lo := 0) (hi := 12) l_0 (by omega) (by omega)) (by have e2 : ((0 : Int32)).toInt = _ := l_0; omega)
abbrev l_X10_triesAmong_c7 : List Bx := []
abbrev po_X10_triesAmong_c7 (a1 a2 : Int32) (M : qM) (v : Int32) (M' : qM) : Prop := G M' ∧ Sm l_X10_triesAmong_c7 M M'
theorem t_X10_triesAmong_c7_5 {n : Nat} (hn : 200000 ≤ n) {oa1 oa2 : Int32} {M0 : qM} : ∀ (m : Nat) (a1 a2 a3 a4 : Int32) (M : qM), G M → Sm l_X10_triesAmong_c7 M0 M → 0 ≤ a1.toInt ∧ a1.toInt ≤ 7 → 0 ≤ a4.toInt ∧ a4.toInt ≤ 12 → 12 - a4.toInt < (m : Int) → qT (f_X10_triesAmong_5 n 7 m a1 a2 a3 a4 M) (po_X10_triesAmong_c7 oa1 oa2 M0) := by
  intro m
  induction m with
  | zero =>
    intro a1 a2 a3 a4 M hG hS i0 i1 i4
    exfalso; omega
  | succ m ih =>
    intro a1 a2 a3 a4 M hG hS i0 i1 i4
    show qT (b_X10_triesAmong_5 n 7 (f_X10_triesAmong_5 n 7 m) a1 a2 a3 a4 M) _
    unfold b_X10_triesAmong_5
    try simp only [Nat.reduceAdd]
    refine T_le l_12 rfl (fun hq4_ => ?_) (fun hq4_ => ?_)
    · exact T_ret ⟨hG, hS⟩
    · have hq5_ := i_and (a := a2 >>> (a4 &&& 31)) (b := (1 : Int32)) l_1 (by omega)
      refine T_eq rfl l_1 (fun hq6_ => ?_) (fun hq6_ => ?_)
      · refine T_qg (i_add (i_mul rfl l_12 (by omega) (by omega)) rfl (by omega) (by omega)) (by omega) (by omega) ?_
        have hq7_ := i_full (a3)
        have hq8_ := i_full (M 9 (((a1 * (12 : Int32)) + a4).toNatClampNeg))
        refine T_ql rfl ?_
        intro xv9 hq10_
        refine T_ql (i_add rfl l_1 (by omega) (by omega)) ?_
        intro xv11 hq12_
        exact ih a1 a2 xv9 xv11 M hG hS (i_rng (lo := 0) (hi := 7) rfl (by omega) (by omega)) (i_rng (lo := 0) (hi := 12) rfl (by omega) (by omega)) (by omega)
      · refine T_ql (i_add rfl l_1 (by omega) (by omega)) ?_
        intro xv13 hq14_
        exact ih a1 a2 a3 xv13 M hG hS (i_rng (lo := 0) (hi := 7) rfl (by omega) (by omega)) (i_rng (lo := 0) (hi := 12) rfl (by omega) (by omega)) (by omega)
theorem t_X10_triesAmong_c7 {n : Nat} (hn : 200000 ≤ n) (a1 a2 : Int32) (M : qM) (hG : G M) (pa1 : 0 ≤ a1.toInt ∧ a1.toInt ≤ 7) : qT (f_X10_triesAmong n 7 a1 a2 M) (po_X10_triesAmong_c7 a1 a2 M) := by
  have hS : Sm l_X10_triesAmong_c7 M M := Sm.rf
  unfold f_X10_triesAmong
  try simp only [Nat.reduceAdd]
  exact (t_X10_triesAmong_c7_5 hn) n a1 a2 (0 : Int32) (0 : Int32) M hG hS (i_rng (lo := 0) (hi := 7) rfl (by omega) (by omega)) (i_rng (lo := 0) (hi := 12) l_0 (by omega) (by omega)) (by have e2 : ((0 : Int32)).toInt = _ := l_0; have e3 : ((0 : Int32)).toInt = _ := l_0; omega)
abbrev l_X1_voidTries : List Bx := [(34, 35, 4, 5), (36, 37, 0, 0)]
abbrev po_X1_voidTries (M : qM) (v : Int32) (M' : qM) : Prop := (0 ≤ v.toInt ∧ v.toInt ≤ 999) ∧ G M' ∧ Sm l_X1_voidTries M M'
theorem t_X1_voidTries {n : Nat} (hn : 200000 ≤ n) {j : Nat} (hj : q_isLaw j) (M : qM) (hG : G M) : qT (f_X1_voidTries n j  M) (po_X1_voidTries  M) := by
  have hS : Sm l_X1_voidTries M M := Sm.rf
  unfold f_X1_voidTries
  refine T_qc (t_X1_amount hn hj (118 : Int32) (99 : Int32) (1 : Int32) M hG (i_rng (lo := 99) (hi := 118) l_118 (by omega) (by omega)) (i_rng (lo := 99) (hi := 999) l_99 (by omega) (by omega)) (i_rng (lo := 0) (hi := 1) l_1 (by omega) (by omega))) ?_
  rintro rv1 mv2 ⟨hq3_, gq4_, kq5_⟩
  have kq6_ := Sm.call hS kq5_ rfl
  exact T_ret ⟨(i_rng (lo := 0) (hi := 999) rfl (by omega) (by omega)), gq4_, kq6_⟩
abbrev l_X10_addTry_c7 : List Bx := [(9, 11, 0, 0)]
abbrev po_X10_addTry_c7 (a1 a2 : Int32) (M : qM) (v : Int32) (M' : qM) : Prop := (0 ≤ v.toInt ∧ v.toInt ≤ 0) ∧ G M' ∧ Sm l_X10_addTry_c7 M M'
theorem t_X10_addTry_c7 {n : Nat} (hn : 200000 ≤ n) (a1 a2 : Int32) (M : qM) (hG : G M) (pa1 : 0 ≤ a1.toInt ∧ a1.toInt ≤ 7) (pa2 : 0 ≤ a2.toInt ∧ a2.toInt ≤ 11) : qT (f_X10_addTry n 7 a1 a2 M) (po_X10_addTry_c7 a1 a2 M) := by
  have hS : Sm l_X10_addTry_c7 M M := Sm.rf
  unfold f_X10_addTry
  try simp only [Nat.reduceAdd]
  refine T_ql (i_add (i_mul rfl l_12 (by omega) (by omega)) rfl (by omega) (by omega)) ?_
  intro xv1 hq2_
  refine T_qg rfl (by omega) (by omega) ?_
  refine T_qg rfl (by omega) (by omega) ?_
  have hq4_ := i_full (M 9 xv1.toNatClampNeg)
  have hq5_ := i_min (a := (999 : Int32)) (b := (M 9 xv1.toNatClampNeg) + (1 : Int32)) l_999 rfl
  refine T_mu hG hS (rn_9 _ _) (nw_9 _) (i := 0) rfl ⟨by decide, by decide, Or.inl rfl⟩ ?_
  intro mv3 hq6_ gq7_ kq8_
  have hq9_ : (mv3 9 xv1.toNatClampNeg).toInt = (qmin (999 : Int32) ((M 9 xv1.toNatClampNeg) + (1 : Int32))).toInt := by rw [hq6_, mu_at]
  refine T_qg rfl (by omega) (by omega) ?_
  refine T_mu gq7_ kq8_ (rn_10 _ _) (nw_10 _) (i := 0) rfl ⟨by decide, by decide, Or.inl rfl⟩ ?_
  intro mv10 hq11_ gq12_ kq13_
  have hq14_ : (mv10 9 xv1.toNatClampNeg).toInt = (mv3 9 xv1.toNatClampNeg).toInt := by rw [hq11_, mu_ne (Or.inl (by decide))]
  have hq15_ : (mv10 10 xv1.toNatClampNeg).toInt = (mv3 7 9).toInt := by rw [hq11_, mu_at]
  exact T_ret ⟨(i_rng (lo := 0) (hi := 0) l_0 (by omega) (by omega)), gq12_, kq13_⟩
abbrev l_X10_hasCounted_c7 : List Bx := []
abbrev po_X10_hasCounted_c7 (a1 a2 : Int32) (M : qM) (v : Int32) (M' : qM) : Prop := (0 ≤ v.toInt ∧ v.toInt ≤ 1) ∧ G M' ∧ Sm l_X10_hasCounted_c7 M M'
theorem t_X10_hasCounted_c7_2 {n : Nat} (hn : 200000 ≤ n) {oa1 oa2 : Int32} {M0 : qM} : ∀ (m : Nat) (a1 a2 a3 : Int32) (M : qM), G M → Sm l_X10_hasCounted_c7 M0 M → 0 ≤ a1.toInt ∧ a1.toInt ≤ 7 → 0 ≤ a3.toInt ∧ a3.toInt ≤ 12 → 12 - a3.toInt < (m : Int) → qT (f_X10_hasCounted_2 n 7 m a1 a2 a3 M) (po_X10_hasCounted_c7 oa1 oa2 M0) := by
  intro m
  induction m with
  | zero =>
    intro a1 a2 a3 M hG hS i0 i1 i4
    exfalso; omega
  | succ m ih =>
    intro a1 a2 a3 M hG hS i0 i1 i4
    show qT (b_X10_hasCounted_2 n 7 (f_X10_hasCounted_2 n 7 m) a1 a2 a3 M) _
    unfold b_X10_hasCounted_2
    try simp only [Nat.reduceAdd]
    refine T_le l_12 rfl (fun hq3_ => ?_) (fun hq3_ => ?_)
    · exact T_ret ⟨(i_rng (lo := 0) (hi := 1) l_1 (by omega) (by omega)), hG, hS⟩
    · have hq4_ := i_and (a := a2 >>> (a3 &&& 31)) (b := (1 : Int32)) l_1 (by omega)
      refine T_eq rfl l_1 (fun hq5_ => ?_) (fun hq5_ => ?_)
      · refine T_qg (i_add (i_mul rfl l_12 (by omega) (by omega)) rfl (by omega) (by omega)) (by omega) (by omega) ?_
        refine T_eq rfl l_0 (fun hq6_ => ?_) (fun hq6_ => ?_)
        · exact T_ret ⟨(i_rng (lo := 0) (hi := 1) l_0 (by omega) (by omega)), hG, hS⟩
        · refine T_ql (i_add rfl l_1 (by omega) (by omega)) ?_
          intro xv7 hq8_
          exact ih a1 a2 xv7 M hG hS (i_rng (lo := 0) (hi := 7) rfl (by omega) (by omega)) (i_rng (lo := 0) (hi := 12) rfl (by omega) (by omega)) (by omega)
      · refine T_ql (i_add rfl l_1 (by omega) (by omega)) ?_
        intro xv9 hq10_
        exact ih a1 a2 xv9 M hG hS (i_rng (lo := 0) (hi := 7) rfl (by omega) (by omega)) (i_rng (lo := 0) (hi := 12) rfl (by omega) (by omega)) (by omega)
theorem t_X10_hasCounted_c7 {n : Nat} (hn : 200000 ≤ n) (a1 a2 : Int32) (M : qM) (hG : G M) (pa1 : 0 ≤ a1.toInt ∧ a1.toInt ≤ 7) : qT (f_X10_hasCounted n 7 a1 a2 M) (po_X10_hasCounted_c7 a1 a2 M) := by
  have hS : Sm l_X10_hasCounted_c7 M M := Sm.rf
  unfold f_X10_hasCounted
  try simp only [Nat.reduceAdd]
  exact (t_X10_hasCounted_c7_2 hn) n a1 a2 (0 : Int32) M hG hS (i_rng (lo := 0) (hi := 7) rfl (by omega) (by omega)) (i_rng (lo := 0) (hi := 12) l_0 (by omega) (by omega)) (by have e2 : ((0 : Int32)).toInt = _ := l_0; omega)
abbrev l_X10_addCounted_c7 : List Bx := [(11, 12, 0, 0)]
abbrev po_X10_addCounted_c7 (a1 a2 : Int32) (M : qM) (v : Int32) (M' : qM) : Prop := (0 ≤ v.toInt ∧ v.toInt ≤ 0) ∧ G M' ∧ Sm l_X10_addCounted_c7 M M'
theorem t_X10_addCounted_c7 {n : Nat} (hn : 200000 ≤ n) (a1 a2 : Int32) (M : qM) (hG : G M) (pa1 : 0 ≤ a1.toInt ∧ a1.toInt ≤ 7) (pa2 : 0 ≤ a2.toInt ∧ a2.toInt ≤ 11) : qT (f_X10_addCounted n 7 a1 a2 M) (po_X10_addCounted_c7 a1 a2 M) := by
  have hS : Sm l_X10_addCounted_c7 M M := Sm.rf
  unfold f_X10_addCounted
  try simp only [Nat.reduceAdd]
  refine T_ql (i_add (i_mul rfl l_12 (by omega) (by omega)) rfl (by omega) (by omega)) ?_
  intro xv1 hq2_
  refine T_qg rfl (by omega) (by omega) ?_
  refine T_qg rfl (by omega) (by omega) ?_
  have hq4_ := i_full (M 11 xv1.toNatClampNeg)
  have hq5_ := i_min (a := (999 : Int32)) (b := (M 11 xv1.toNatClampNeg) + (1 : Int32)) l_999 rfl
  refine T_mu hG hS (rn_11 _ _) (nw_11 _) (i := 0) rfl ⟨by decide, by decide, Or.inl rfl⟩ ?_
  intro mv3 hq6_ gq7_ kq8_
  have hq9_ : (mv3 11 xv1.toNatClampNeg).toInt = (qmin (999 : Int32) ((M 11 xv1.toNatClampNeg) + (1 : Int32))).toInt := by rw [hq6_, mu_at]
  exact T_ret ⟨(i_rng (lo := 0) (hi := 0) l_0 (by omega) (by omega)), gq7_, kq8_⟩
abbrev l_X0_attempt_c7 : List Bx := [(9, 12, 0, 0), (34, 35, 4, 5), (35, 37, 0, 0), (44, 45, 2, 4)]
abbrev po_X0_attempt_c7 (a2 a3 a4 : Int32) (M : qM) (v : Int32) (M' : qM) : Prop := ((-2) ≤ v.toInt ∧ v.toInt ≤ 1) ∧ G M' ∧ Sm l_X0_attempt_c7 M M'
theorem t_X0_attempt_c7 {n : Nat} (hn : 200000 ≤ n) {j : Nat} (hj : q_isLaw j) (a2 a3 a4 : Int32) (M : qM) (hG : G M) (pa2 : 0 ≤ a2.toInt ∧ a2.toInt ≤ 7) (pa3 : 0 ≤ a3.toInt ∧ a3.toInt ≤ 11) (pa4 : 0 ≤ a4.toInt ∧ a4.toInt ≤ 8) : qT (f_X0_attempt n 7 j a2 a3 a4 M) (po_X0_attempt_c7 a2 a3 a4 M) := by
  have hS : Sm l_X0_attempt_c7 M M := Sm.rf
  unfold f_X0_attempt
  try simp only [Nat.reduceAdd]
  refine T_qc (t_X1_alikes hn hj a3 (M 7 9) M hG (i_rng (lo := 0) (hi := 11) rfl (by omega) (by omega))) ?_
  rintro rv1 mv2 ⟨gq3_, kq4_⟩
  have kq5_ := Sm.call hS kq4_ rfl
  refine T_qc (t_X0_forget_c7 hn hj a2 rv1 mv2 gq3_ (i_rng (lo := 0) (hi := 7) rfl (by omega) (by omega))) ?_
  rintro rv6 mv7 ⟨hq8_, gq9_, kq10_⟩
  have kq11_ := Sm.call kq5_ kq10_ rfl
  refine T_qc (t_X10_triesAmong_c7 hn a2 rv1 mv7 gq9_ (i_rng (lo := 0) (hi := 7) rfl (by omega) (by omega))) ?_
  rintro rv12 mv13 ⟨gq14_, kq15_⟩
  have hq16_ := kq15_.nil
  subst hq16_
  refine T_mu gq9_ kq11_ (rn_44_2 _) (nw_44 _) (i := 3) rfl ⟨by decide, by decide, Or.inr ⟨by decide, by decide⟩⟩ ?_
  intro mv17 hq18_ gq19_ kq20_
  have hq21_ : (mv17 44 2).toInt = rv12.toInt := by rw [hq18_, mu_at]
  refine T_qc (t_X0_tellAll_c7 hn a2 a3 a4 mv17 gq19_ (i_rng (lo := 0) (hi := 7) rfl (by omega) (by omega)) (i_rng (lo := 0) (hi := 11) rfl (by omega) (by omega)) (i_rng (lo := 0) (hi := 8) rfl (by omega) (by omega))) ?_
  rintro rv22 mv23 ⟨hq24_, gq25_, kq26_⟩
  have kq27_ := Sm.call kq20_ kq26_ rfl
  have hq28_ : (mv23 44 2).toInt = (mv17 44 2).toInt := by rw [kq26_ 44 2 (by decide)]
  refine T_qc (t_X1_voidTries hn hj  mv23 gq25_ ) ?_
  rintro rv29 mv30 ⟨hq31_, gq32_, kq33_⟩
  have kq34_ := Sm.call kq27_ kq33_ rfl
  have hq35_ : (mv30 44 2).toInt = (mv23 44 2).toInt := by rw [kq33_ 44 2 (by decide)]
  refine T_mu gq32_ kq34_ (rn_44_3 _) (nw_44 _) (i := 3) rfl ⟨by decide, by decide, Or.inr ⟨by decide, by decide⟩⟩ ?_
  intro mv36 hq37_ gq38_ kq39_
  have hq40_ : (mv36 44 2).toInt = (mv30 44 2).toInt := by rw [hq37_, mu_ne (Or.inr (by decide))]
  have hq41_ : (mv36 44 3).toInt = rv29.toInt := by rw [hq37_, mu_at]
  refine T_qc (t_X10_addTry_c7 hn a2 a3 mv36 gq38_ (i_rng (lo := 0) (hi := 7) rfl (by omega) (by omega)) (i_rng (lo := 0) (hi := 11) rfl (by omega) (by omega))) ?_
  rintro rv42 mv43 ⟨hq44_, gq45_, kq46_⟩
  have kq47_ := Sm.call kq39_ kq46_ rfl
  have hq48_ : (mv43 44 2).toInt = (mv36 44 2).toInt := by rw [kq46_ 44 2 (by decide)]
  have hq49_ : (mv43 44 3).toInt = (mv36 44 3).toInt := by rw [kq46_ 44 3 (by decide)]
  refine T_le rfl rfl (fun hq50_ => ?_) (fun hq50_ => ?_)
  · refine T_qg rfl (by omega) (by omega) ?_
    refine T_qc (t_X10_hasCounted_c7 hn a2 (mv43 6 a3.toNatClampNeg) mv43 gq45_ (i_rng (lo := 0) (hi := 7) rfl (by omega) (by omega))) ?_
    rintro rv51 mv52 ⟨hq53_, gq54_, kq55_⟩
    have hq56_ := kq55_.nil
    subst hq56_
    refine T_eq rfl l_0 (fun hq57_ => ?_) (fun hq57_ => ?_)
    · exact T_ret ⟨(i_rng (lo := (-2)) (hi := 1) l_m2 (by omega) (by omega)), gq45_, kq47_⟩
    · refine T_qc (t_X10_addCounted_c7 hn a2 a3 mv43 gq45_ (i_rng (lo := 0) (hi := 7) rfl (by omega) (by omega)) (i_rng (lo := 0) (hi := 11) rfl (by omega) (by omega))) ?_
      rintro rv58 mv59 ⟨hq60_, gq61_, kq62_⟩
      have kq63_ := Sm.call kq47_ kq62_ rfl
      have hq64_ : (mv59 44 2).toInt = (mv43 44 2).toInt := by rw [kq62_ 44 2 (by decide)]
      have hq65_ : (mv59 44 3).toInt = (mv43 44 3).toInt := by rw [kq62_ 44 3 (by decide)]
      exact T_ret ⟨(i_rng (lo := (-2)) (hi := 1) l_1 (by omega) (by omega)), gq61_, kq63_⟩
  · exact T_ret ⟨(i_rng (lo := (-2)) (hi := 1) l_0 (by omega) (by omega)), gq45_, kq47_⟩
abbrev l_X11_tries : List Bx := [(9, 12, 0, 0), (34, 35, 4, 5), (35, 37, 0, 0), (44, 45, 2, 4)]
abbrev po_X11_tries (a1 a2 a3 : Int32) (M : qM) (v : Int32) (M' : qM) : Prop := ((-2) ≤ v.toInt ∧ v.toInt ≤ 1) ∧ G M' ∧ Sm l_X11_tries M M'
theorem t_X11_tries {n : Nat} (hn : 200000 ≤ n) {j : Nat} (hj : q_isLaw j) (a1 a2 a3 : Int32) (M : qM) (hG : G M) : qT (f_X11_tries n j a1 a2 a3 M) (po_X11_tries a1 a2 a3 M) := by
  have hS : Sm l_X11_tries M M := Sm.rf
  unfold f_X11_tries
  refine T_qc (t_X10_knows_c7 hn a1 M hG ) ?_
  rintro rv1 mv2 ⟨hq3_, hq4_, gq5_, kq6_⟩
  have hq7_ := kq6_.nil
  subst hq7_
  refine T_eq rfl l_0 (fun hq8_ => ?_) (fun hq8_ => ?_)
  · exact T_ret ⟨(i_rng (lo := (-2)) (hi := 1) l_m1 (by omega) (by omega)), hG, hS⟩
  · refine T_qc (t_X2_knows hn a2 M hG ) ?_
    rintro rv9 mv10 ⟨hq11_, hq12_, gq13_, kq14_⟩
    have hq15_ := kq14_.nil
    subst hq15_
    refine T_eq rfl l_0 (fun hq16_ => ?_) (fun hq16_ => ?_)
    · exact T_ret ⟨(i_rng (lo := (-2)) (hi := 1) l_m1 (by omega) (by omega)), hG, hS⟩
    · refine T_eq rfl l_m1 (fun hq17_ => ?_) (fun hq17_ => ?_)
      · refine T_qc (t_X0_attempt_c7 hn hj a1 a2 (8 : Int32) M hG (i_rng (lo := 0) (hi := 7) rfl (by omega) (by omega)) (i_rng (lo := 0) (hi := 11) rfl (by omega) (by omega)) (i_rng (lo := 0) (hi := 8) l_8 (by omega) (by omega))) ?_
        rintro rv18 mv19 ⟨hq20_, gq21_, kq22_⟩
        have kq23_ := Sm.call hS kq22_ rfl
        exact T_ret ⟨(i_rng (lo := (-2)) (hi := 1) rfl (by omega) (by omega)), gq21_, kq23_⟩
      · refine T_eq rfl rfl (fun hq24_ => ?_) (fun hq24_ => ?_)
        · exact T_ret ⟨(i_rng (lo := (-2)) (hi := 1) l_m1 (by omega) (by omega)), hG, hS⟩
        · refine T_qc (t_X10_knows_c7 hn a3 M hG ) ?_
          rintro rv25 mv26 ⟨hq27_, hq28_, gq29_, kq30_⟩
          have hq31_ := kq30_.nil
          subst hq31_
          refine T_eq rfl l_0 (fun hq32_ => ?_) (fun hq32_ => ?_)
          · exact T_ret ⟨(i_rng (lo := (-2)) (hi := 1) l_m1 (by omega) (by omega)), hG, hS⟩
          · refine T_qc (t_X0_attempt_c7 hn hj a1 a2 a3 M hG (i_rng (lo := 0) (hi := 7) rfl (by omega) (by omega)) (i_rng (lo := 0) (hi := 11) rfl (by omega) (by omega)) (i_rng (lo := 0) (hi := 8) rfl (by omega) (by omega))) ?_
            rintro rv33 mv34 ⟨hq35_, gq36_, kq37_⟩
            have kq38_ := Sm.call hS kq37_ rfl
            exact T_ret ⟨(i_rng (lo := (-2)) (hi := 1) rfl (by omega) (by omega)), gq36_, kq38_⟩
abbrev l_X12_at : List Bx := []
abbrev po_X12_at (a0 a1 : Int32) (M : qM) (v : Int32) (M' : qM) : Prop := (0 ≤ v.toInt ∧ v.toInt ≤ 95) ∧ (v.toInt = 12 * a0.toInt + a1.toInt) ∧ G M' ∧ Sm l_X12_at M M'
theorem t_X12_at {n : Nat} (hn : 200000 ≤ n) (a0 a1 : Int32) (M : qM) (hG : G M) (pa0 : 0 ≤ a0.toInt ∧ a0.toInt ≤ 7) (pa1 : 0 ≤ a1.toInt ∧ a1.toInt ≤ 11) : qT (f_X12_at n a0 a1 M) (po_X12_at a0 a1 M) := by
  have hS : Sm l_X12_at M M := Sm.rf
  unfold f_X12_at
  exact T_ret ⟨(i_rng (lo := 0) (hi := 95) (i_add (i_mul l_12 rfl (by omega) (by omega)) rfl (by omega) (by omega)) (by omega) (by omega)), (by have e9 : (((12 : Int32) * a0) + a1).toInt = _ := (i_add (i_mul l_12 rfl (by omega) (by omega)) rfl (by omega) (by omega)); omega), hG, hS⟩
abbrev l_X12_feelsKind : List Bx := [(97, 98, 0, 0)]
abbrev po_X12_feelsKind (a1 : Int32) (M : qM) (v : Int32) (M' : qM) : Prop := (0 ≤ v.toInt ∧ v.toInt ≤ 0) ∧ G M' ∧ Sm l_X12_feelsKind M M'
theorem t_X12_feelsKind_2 {n : Nat} (hn : 200000 ≤ n) {oa1 : Int32} {M0 : qM} : ∀ (m : Nat) (a1 a2 : Int32) (M : qM), G M → Sm l_X12_feelsKind M0 M → 0 ≤ a1.toInt ∧ a1.toInt ≤ 12 → 0 ≤ a2.toInt ∧ a2.toInt ≤ 12 → 12 - a2.toInt < (m : Int) → qT (f_X12_feelsKind_2 n m a1 a2 M) (po_X12_feelsKind oa1 M0) := by
  intro m
  induction m with
  | zero =>
    intro a1 a2 M hG hS i0 i1 i4
    exfalso; omega
  | succ m ih =>
    intro a1 a2 M hG hS i0 i1 i4
    show qT (b_X12_feelsKind_2 n (f_X12_feelsKind_2 n m) a1 a2 M) _
    unfold b_X12_feelsKind_2
    refine T_le l_12 rfl (fun hq2_ => ?_) (fun hq2_ => ?_)
    · refine T_mu hG hS (rn_97 _ _) (nw_97 _) (i := 0) rfl ⟨by decide, by decide, Or.inl rfl⟩ ?_
      intro mv3 hq4_ gq5_ kq6_
      have hq7_ : (mv3 97 0).toInt = a1.toInt := by rw [hq4_, mu_at]
      refine T_qg rfl (by omega) (by omega) ?_
      refine T_mu gq5_ kq6_ (rn_97 _ _) (nw_97 _) (i := 0) rfl ⟨by decide, by decide, Or.inl rfl⟩ ?_
      intro mv8 hq9_ gq10_ kq11_
      have hq12_ : (mv8 97 0).toInt = (mv3 97 0).toInt := by rw [hq9_, mu_ne (Or.inr (by decide))]
      have hq13_ : (mv8 97 1).toInt = (mv3 81 a1.toNatClampNeg).toInt := by rw [hq9_, mu_at]
      refine T_qg rfl (by omega) (by omega) ?_
      refine T_mu gq10_ kq11_ (rn_97 _ _) (nw_97 _) (i := 0) rfl ⟨by decide, by decide, Or.inl rfl⟩ ?_
      intro mv14 hq15_ gq16_ kq17_
      have hq18_ : (mv14 97 0).toInt = (mv8 97 0).toInt := by rw [hq15_, mu_ne (Or.inr (by decide))]
      have hq19_ : (mv14 97 1).toInt = (mv8 97 1).toInt := by rw [hq15_, mu_ne (Or.inr (by decide))]
      have hq20_ : (mv14 97 2).toInt = (mv8 82 a1.toNatClampNeg).toInt := by rw [hq15_, mu_at]
      refine T_mu gq16_ kq17_ (rn_97 _ _) (nw_97 _) (i := 0) rfl ⟨by decide, by decide, Or.inl rfl⟩ ?_
      intro mv21 hq22_ gq23_ kq24_
      have hq25_ : (mv21 97 0).toInt = (mv14 97 0).toInt := by rw [hq22_, mu_ne (Or.inr (by decide))]
      have hq26_ : (mv21 97 1).toInt = (mv14 97 1).toInt := by rw [hq22_, mu_ne (Or.inr (by decide))]
      have hq27_ : (mv21 97 2).toInt = (mv14 97 2).toInt := by rw [hq22_, mu_ne (Or.inr (by decide))]
      have hq28_ : (mv21 97 6).toInt = (mv14 78 313).toInt := by rw [hq22_, mu_at]
      exact T_ret ⟨(i_rng (lo := 0) (hi := 0) l_0 (by omega) (by omega)), gq23_, kq24_⟩
    · refine T_qg rfl (by omega) (by omega) ?_
      refine T_mu hG hS (rn_97 _ _) (nw_97 _) (i := 0) rfl ⟨by decide, by decide, Or.inl rfl⟩ ?_
      intro mv29 hq30_ gq31_ kq32_
      have hq33_ : (mv29 97 a2.toNatClampNeg).toInt = 0 := by rw [hq30_, mu_at]; exact l_0
      refine T_ql (i_add rfl l_1 (by omega) (by omega)) ?_
      intro xv34 hq35_
      exact ih a1 xv34 mv29 gq31_ kq32_ (i_rng (lo := 0) (hi := 12) rfl (by omega) (by omega)) (i_rng (lo := 0) (hi := 12) rfl (by omega) (by omega)) (by omega)
theorem t_X12_feelsKind {n : Nat} (hn : 200000 ≤ n) (a1 : Int32) (M : qM) (hG : G M) (pa1 : 0 ≤ a1.toInt ∧ a1.toInt ≤ 12) : qT (f_X12_feelsKind n a1 M) (po_X12_feelsKind a1 M) := by
  have hS : Sm l_X12_feelsKind M M := Sm.rf
  unfold f_X12_feelsKind
  exact (t_X12_feelsKind_2 hn) n a1 (0 : Int32) M hG hS (i_rng (lo := 0) (hi := 12) rfl (by omega) (by omega)) (i_rng (lo := 0) (hi := 12) l_0 (by omega) (by omega)) (by have e1 : ((0 : Int32)).toInt = _ := l_0; omega)
