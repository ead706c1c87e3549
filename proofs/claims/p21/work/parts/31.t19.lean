abbrev l_X12_loophole : List Bx := [(81, 82, 12, 13), (82, 83, 12, 13), (96, 98, 0, 0)]
abbrev po_X12_loophole (a1 a2 a3 : Int32) (M : qM) (v : Int32) (M' : qM) : Prop := G M' ∧ Sm l_X12_loophole M M'
theorem t_X12_loophole_56 {n : Nat} (hn : 200000 ≤ n) {oa1 oa2 oa3 : Int32} {M0 : qM} : ∀ (m : Nat) (a1 a2 a3 a4 a5 a6 : Int32) (M : qM), G M → Sm l_X12_loophole M0 M → 0 ≤ a1.toInt ∧ a1.toInt ≤ 2147483647 → 0 ≤ a2.toInt ∧ a2.toInt ≤ 2147483647 → 0 ≤ a3.toInt ∧ a3.toInt ≤ 1 → (-2) ≤ a5.toInt ∧ a5.toInt ≤ 255 → 0 ≤ a6.toInt ∧ a6.toInt ≤ 256 → 256 - a6.toInt < (m : Int) → qT (f_X12_loophole_56 n m a1 a2 a3 a4 a5 a6 M) (po_X12_loophole oa1 oa2 oa3 M0) := by
  intro m
  induction m with
  | zero =>
    intro a1 a2 a3 a4 a5 a6 M hG hS i0 i1 i2 i3 i4 i5
    exfalso; omega
  | succ m ih =>
    intro a1 a2 a3 a4 a5 a6 M hG hS i0 i1 i2 i3 i4 i5
    show qT (b_X12_loophole_56 n (f_X12_loophole_56 n m) a1 a2 a3 a4 a5 a6 M) _
    unfold b_X12_loophole_56
    refine T_le l_256 rfl (fun hq6_ => ?_) (fun hq6_ => ?_)
    · refine T_eq rfl l_0 (fun hq7_ => ?_) (fun hq7_ => ?_)
      · exact T_ret ⟨hG, hS⟩
      · exact T_ret ⟨hG, hS⟩
    · refine T_mu hG hS (rn_82 _ _) (nw_82 _) (i := 1) rfl ⟨by decide, by decide, Or.inr ⟨by decide, by decide⟩⟩ ?_
      intro mv8 hq9_ gq10_ kq11_
      have hq12_ : (mv8 82 12).toInt = a6.toInt := by rw [hq9_, mu_at]
      have hq15_ := i_full (a1)
      have hq16_ := i_full (a2)
      refine T_qc (t_X12_finds hn a1 a2 mv8 gq10_ (i_rng (lo := 0) (hi := 2147483647) rfl (by omega) (by omega)) (i_rng (lo := 0) (hi := 2147483647) rfl (by omega) (by omega))) ?_
      rintro rv13 mv14 ⟨hq17_, gq18_, kq19_⟩
      have kq20_ := Sm.call kq11_ kq19_ rfl
      have hq21_ : (mv14 82 12).toInt = (mv8 82 12).toInt := by rw [kq19_ 82 12 (by decide)]
      refine T_eq rfl l_0 (fun hq22_ => ?_) (fun hq22_ => ?_)
      · refine T_ql (i_add rfl l_1 (by omega) (by omega)) ?_
        intro xv23 hq24_
        exact ih a1 a2 a3 a4 a5 xv23 mv14 gq18_ kq20_ (i_rng (lo := 0) (hi := 2147483647) rfl (by omega) (by omega)) (i_rng (lo := 0) (hi := 2147483647) rfl (by omega) (by omega)) (i_rng (lo := 0) (hi := 1) rfl (by omega) (by omega)) (i_rng (lo := (-2)) (hi := 255) rfl (by omega) (by omega)) (i_rng (lo := 0) (hi := 256) rfl (by omega) (by omega)) (by omega)
      · have hq25_ := i_full (a4)
        refine T_ql rfl ?_
        intro xv26 hq27_
        refine T_eq rfl l_m2 (fun hq28_ => ?_) (fun hq28_ => ?_)
        · unfold f_X12_loophole_111
          refine T_ql (i_add rfl l_1 (by omega) (by omega)) ?_
          intro xv29 hq30_
          exact ih a1 a2 a3 xv26 a6 xv29 mv14 gq18_ kq20_ (i_rng (lo := 0) (hi := 2147483647) rfl (by omega) (by omega)) (i_rng (lo := 0) (hi := 2147483647) rfl (by omega) (by omega)) (i_rng (lo := 0) (hi := 1) rfl (by omega) (by omega)) (i_rng (lo := (-2)) (hi := 255) rfl (by omega) (by omega)) (i_rng (lo := 0) (hi := 256) rfl (by omega) (by omega)) (by omega)
        · refine T_qc (t_X12_bits hn a6 mv14 gq18_ ) ?_
          rintro rv31 mv32 ⟨gq33_, kq34_⟩
          have hq35_ := kq34_.nil
          subst hq35_
          refine T_qc (t_X12_bits hn a5 mv14 gq18_ ) ?_
          rintro rv36 mv37 ⟨gq38_, kq39_⟩
          have hq40_ := kq39_.nil
          subst hq40_
          refine T_le rfl rfl (fun hq41_ => ?_) (fun hq41_ => ?_)
          · refine T_ql (i_add rfl l_1 (by omega) (by omega)) ?_
            intro xv42 hq43_
            exact ih a1 a2 a3 xv26 a5 xv42 mv14 gq18_ kq20_ (i_rng (lo := 0) (hi := 2147483647) rfl (by omega) (by omega)) (i_rng (lo := 0) (hi := 2147483647) rfl (by omega) (by omega)) (i_rng (lo := 0) (hi := 1) rfl (by omega) (by omega)) (i_rng (lo := (-2)) (hi := 255) rfl (by omega) (by omega)) (i_rng (lo := 0) (hi := 256) rfl (by omega) (by omega)) (by omega)
          · unfold f_X12_loophole_111
            refine T_ql (i_add rfl l_1 (by omega) (by omega)) ?_
            intro xv44 hq45_
            exact ih a1 a2 a3 xv26 a6 xv44 mv14 gq18_ kq20_ (i_rng (lo := 0) (hi := 2147483647) rfl (by omega) (by omega)) (i_rng (lo := 0) (hi := 2147483647) rfl (by omega) (by omega)) (i_rng (lo := 0) (hi := 1) rfl (by omega) (by omega)) (i_rng (lo := (-2)) (hi := 255) rfl (by omega) (by omega)) (i_rng (lo := 0) (hi := 256) rfl (by omega) (by omega)) (by omega)
theorem t_X12_loophole {n : Nat} (hn : 200000 ≤ n) (a1 a2 a3 : Int32) (M : qM) (hG : G M) : qT (f_X12_loophole n a1 a2 a3 M) (po_X12_loophole a1 a2 a3 M) := by
  have hS : Sm l_X12_loophole M M := Sm.rf
  unfold f_X12_loophole
  refine T_lt rfl l_0 (fun hq46_ => ?_) (fun hq46_ => ?_)
  · exact T_ret ⟨hG, hS⟩
  · refine T_lt rfl l_0 (fun hq47_ => ?_) (fun hq47_ => ?_)
    · exact T_ret ⟨hG, hS⟩
    · refine T_eq rfl l_0 (fun hq48_ => ?_) (fun hq48_ => ?_)
      · have hq49_ := i_and (a := a1) (b := a2) rfl (by omega)
        refine T_eq rfl l_0 (fun hq50_ => ?_) (fun hq50_ => ?_)
        · have hq53_ := (show ((0 : Int32)).toInt = _ from l_0)
          have hq54_ := (show ((1 : Int32)).toInt = _ from l_1)
          refine T_qc (t_X12_in hn a3 (0 : Int32) (1 : Int32) M hG (i_rng (lo := 0) (hi := 70) l_0 (by omega) (by omega)) (i_rng (lo := 0) (hi := 99999) l_1 (by omega) (by omega))) ?_
          rintro rv51 mv52 ⟨hq55_, hq56_, gq57_, kq58_⟩
          have hq59_ := kq58_.nil
          subst hq59_
          refine T_eq rfl l_0 (fun hq60_ => ?_) (fun hq60_ => ?_)
          · exact T_ret ⟨hG, hS⟩
          · refine T_mu hG hS (rn_81 _ _) (nw_81 _) (i := 0) rfl ⟨by decide, by decide, Or.inr ⟨by decide, by decide⟩⟩ ?_
            intro mv61 hq62_ gq63_ kq64_
            have hq65_ : (mv61 81 12).toInt = 1 := by rw [hq62_, mu_at]; exact l_1
            have hq66_ := i_full (a1)
            have hq67_ := i_full (a2)
            exact (t_X12_loophole_56 hn) n a1 a2 a3 (0 : Int32) (-2 : Int32) (0 : Int32) mv61 gq63_ kq64_ (i_rng (lo := 0) (hi := 2147483647) rfl (by omega) (by omega)) (i_rng (lo := 0) (hi := 2147483647) rfl (by omega) (by omega)) (i_rng (lo := 0) (hi := 1) rfl (by omega) (by omega)) (i_rng (lo := (-2)) (hi := 255) l_m2 (by omega) (by omega)) (i_rng (lo := 0) (hi := 256) l_0 (by omega) (by omega)) (by have e3 : ((0 : Int32)).toInt = _ := l_0; have e4 : ((-2 : Int32)).toInt = _ := l_m2; have e5 : ((0 : Int32)).toInt = _ := l_0; omega)
        · exact T_ret ⟨hG, hS⟩
      · exact T_ret ⟨hG, hS⟩
abbrev l_X9_at : List Bx := []
abbrev po_X9_at (a1 : Int32) (M : qM) (v : Int32) (M' : qM) : Prop := ((-1) ≤ v.toInt ∧ v.toInt ≤ 255) ∧ G M' ∧ Sm l_X9_at M M'
theorem t_X9_at {n : Nat} (hn : 200000 ≤ n) (a1 : Int32) (M : qM) (hG : G M) (pa1 : 0 ≤ a1.toInt ∧ a1.toInt ≤ 47) : qT (f_X9_at n a1 M) (po_X9_at a1 M) := by
  have hS : Sm l_X9_at M M := Sm.rf
  unfold f_X9_at
  refine T_lt rfl l_0 (fun hq1_ => ?_) (fun hq1_ => ?_)
  · exfalso; omega
  · have hq2_ := r_1_1 hG
    refine T_le rfl rfl (fun hq3_ => ?_) (fun hq3_ => ?_)
    · exact T_ret ⟨(i_rng (lo := (-1)) (hi := 255) l_m1 (by omega) (by omega)), hG, hS⟩
    · refine T_qg rfl (by omega) (by omega) ?_
      have hq4_ := r_2 hG a1.toNatClampNeg
      exact T_ret ⟨(i_rng (lo := (-1)) (hi := 255) rfl (by omega) (by omega)), hG, hS⟩
abbrev l_X5_read : List Bx := [(64, 65, 9, 10), (65, 66, 0, 0)]
abbrev po_X5_read (a2 : Int32) (M : qM) (v : Int32) (M' : qM) : Prop := (0 ≤ v.toInt ∧ v.toInt ≤ 1) ∧ G M' ∧ Sm l_X5_read M M'
theorem t_X5_read_15 {n : Nat} (hn : 200000 ≤ n) {oa2 : Int32} {M0 : qM} : ∀ (m : Nat) (a3 a4 : Int32) (M : qM), G M → Sm l_X5_read M0 M → 0 ≤ a3.toInt ∧ a3.toInt ≤ 1 → 0 ≤ a4.toInt ∧ a4.toInt ≤ 8 → 8 - a4.toInt < (m : Int) → qT (f_X5_read_15 n m a3 a4 M) (po_X5_read oa2 M0) := by
  intro m
  induction m with
  | zero =>
    intro a3 a4 M hG hS i0 i1 i2
    exfalso; omega
  | succ m ih =>
    intro a3 a4 M hG hS i0 i1 i2
    show qT (b_X5_read_15 n (f_X5_read_15 n m) a3 a4 M) _
    unfold b_X5_read_15
    have hq4_ := r_64_9 hG
    refine T_le rfl rfl (fun hq5_ => ?_) (fun hq5_ => ?_)
    · refine T_qb rfl (by omega) (by omega) ?_
      exact T_ret ⟨(i_rng (lo := 0) (hi := 1) rfl (by omega) (by omega)), hG, hS⟩
    · refine T_qc (t_X9_at hn a4 M hG (i_rng (lo := 0) (hi := 47) rfl (by omega) (by omega))) ?_
      rintro rv6 mv7 ⟨hq8_, gq9_, kq10_⟩
      have hq11_ := kq10_.nil
      subst hq11_
      refine T_qg rfl (by omega) (by omega) ?_
      refine T_mu hG hS (i_rng (lo := (-1)) (hi := 255) rfl (by omega) (by omega)) (nw_65 _) (i := 1) rfl ⟨by decide, by decide, Or.inl rfl⟩ ?_
      intro mv12 hq13_ gq14_ kq15_
      have hq16_ : (mv12 64 9).toInt = (M 64 9).toInt := by rw [hq13_, mu_ne (Or.inl (by decide))]
      have hq17_ : (mv12 65 a4.toNatClampNeg).toInt = rv6.toInt := by rw [hq13_, mu_at]
      refine T_eq rfl l_0 (fun hq18_ => ?_) (fun hq18_ => ?_)
      · unfold f_X5_read_62
        refine T_ql (i_add rfl l_1 (by omega) (by omega)) ?_
        intro xv19 hq20_
        exact ih (0 : Int32) xv19 mv12 gq14_ kq15_ (i_rng (lo := 0) (hi := 1) l_0 (by omega) (by omega)) (i_rng (lo := 0) (hi := 8) rfl (by omega) (by omega)) (by have e0 : ((0 : Int32)).toInt = _ := l_0; omega)
      · refine T_qg rfl (by omega) (by omega) ?_
        have hq23_ := r_65 gq14_ a4.toNatClampNeg
        refine T_qc (t_X2_knows hn (mv12 65 a4.toNatClampNeg) mv12 gq14_ ) ?_
        rintro rv21 mv22 ⟨hq24_, hq25_, gq26_, kq27_⟩
        have hq28_ := kq27_.nil
        subst hq28_
        refine T_eq rfl l_0 (fun hq29_ => ?_) (fun hq29_ => ?_)
        · unfold f_X5_read_62
          refine T_ql (i_add rfl l_1 (by omega) (by omega)) ?_
          intro xv30 hq31_
          exact ih (0 : Int32) xv30 mv12 gq14_ kq15_ (i_rng (lo := 0) (hi := 1) l_0 (by omega) (by omega)) (i_rng (lo := 0) (hi := 8) rfl (by omega) (by omega)) (by have e0 : ((0 : Int32)).toInt = _ := l_0; omega)
        · refine T_ql (i_add rfl l_1 (by omega) (by omega)) ?_
          intro xv32 hq33_
          exact ih (1 : Int32) xv32 mv12 gq14_ kq15_ (i_rng (lo := 0) (hi := 1) l_1 (by omega) (by omega)) (i_rng (lo := 0) (hi := 8) rfl (by omega) (by omega)) (by have e0 : ((1 : Int32)).toInt = _ := l_1; omega)
theorem t_X5_read {n : Nat} (hn : 200000 ≤ n) (a2 : Int32) (M : qM) (hG : G M) (pa2 : 1 ≤ a2.toInt ∧ a2.toInt ≤ 8) : qT (f_X5_read n a2 M) (po_X5_read a2 M) := by
  have hS : Sm l_X5_read M M := Sm.rf
  unfold f_X5_read
  have hq35_ := i_min (a := a2) (b := (8 : Int32)) rfl l_8
  refine T_mu hG hS (i_rng (lo := 0) (hi := 8) rfl (by omega) (by omega)) (nw_64 _) (i := 0) rfl ⟨by decide, by decide, Or.inr ⟨by decide, by decide⟩⟩ ?_
  intro mv34 hq36_ gq37_ kq38_
  have hq39_ : (mv34 64 9).toInt = (qmin a2 (8 : Int32)).toInt := by rw [hq36_, mu_at]
  exact (t_X5_read_15 hn) n (1 : Int32) (0 : Int32) mv34 gq37_ kq38_ (i_rng (lo := 0) (hi := 1) l_1 (by omega) (by omega)) (i_rng (lo := 0) (hi := 8) l_0 (by omega) (by omega)) (by have e0 : ((1 : Int32)).toInt = _ := l_1; have e1 : ((0 : Int32)).toInt = _ := l_0; omega)
abbrev l_X10_knowsAll_c7 : List Bx := []
abbrev po_X10_knowsAll_c7 (a1 : Int32) (M : qM) (v : Int32) (M' : qM) : Prop := (0 ≤ v.toInt ∧ v.toInt ≤ 1) ∧ G M' ∧ Sm l_X10_knowsAll_c7 M M'
theorem t_X10_knowsAll_c7 {n : Nat} (hn : 200000 ≤ n) (a1 : Int32) (M : qM) (hG : G M) : qT (f_X10_knowsAll n 7 a1 M) (po_X10_knowsAll_c7 a1 M) := by
  have hS : Sm l_X10_knowsAll_c7 M M := Sm.rf
  unfold f_X10_knowsAll
  try simp only [Nat.reduceAdd]
  refine T_eq rfl l_0 (fun hq1_ => ?_) (fun hq1_ => ?_)
  · exact T_ret ⟨(i_rng (lo := 0) (hi := 1) l_1 (by omega) (by omega)), hG, hS⟩
  · exact T_ret ⟨(i_rng (lo := 0) (hi := 1) l_0 (by omega) (by omega)), hG, hS⟩
abbrev l_X5_takeWorkers : List Bx := [(64, 65, 10, 11), (66, 67, 0, 0)]
abbrev po_X5_takeWorkers (a1 : Int32) (M : qM) (v : Int32) (M' : qM) : Prop := (0 ≤ v.toInt ∧ v.toInt ≤ 1) ∧ G M' ∧ Sm l_X5_takeWorkers M M'
theorem t_X5_takeWorkers_21 {n : Nat} (hn : 200000 ≤ n) {oa1 : Int32} {M0 : qM} : ∀ (m : Nat) (a1 a2 : Int32) (M : qM), G M → Sm l_X5_takeWorkers M0 M → 0 ≤ a2.toInt ∧ a2.toInt ≤ 8 → 8 - a2.toInt < (m : Int) → qT (f_X5_takeWorkers_21 n m a1 a2 M) (po_X5_takeWorkers oa1 M0) := by
  intro m
  induction m with
  | zero =>
    intro a1 a2 M hG hS i0 i1
    exfalso; omega
  | succ m ih =>
    intro a1 a2 M hG hS i0 i1
    show qT (b_X5_takeWorkers_21 n (f_X5_takeWorkers_21 n m) a1 a2 M) _
    unfold b_X5_takeWorkers_21
    refine T_le l_8 rfl (fun hq3_ => ?_) (fun hq3_ => ?_)
    · unfold f_X5_takeWorkers_70
      have hq4_ := r_64_10 hG
      refine T_le rfl l_0 (fun hq5_ => ?_) (fun hq5_ => ?_)
      · exact T_ret ⟨(i_rng (lo := 0) (hi := 1) l_0 (by omega) (by omega)), hG, hS⟩
      · exact T_ret ⟨(i_rng (lo := 0) (hi := 1) l_1 (by omega) (by omega)), hG, hS⟩
    · have hq6_ := r_64_10 hG
      refine T_le l_3 rfl (fun hq7_ => ?_) (fun hq7_ => ?_)
      · unfold f_X5_takeWorkers_70
        refine T_le rfl l_0 (fun hq8_ => ?_) (fun hq8_ => ?_)
        · exfalso; omega
        · exact T_ret ⟨(i_rng (lo := 0) (hi := 1) l_1 (by omega) (by omega)), hG, hS⟩
      · have hq9_ := i_and (a := a1 >>> (a2 &&& 31)) (b := (1 : Int32)) l_1 (by omega)
        refine T_eq rfl l_1 (fun hq10_ => ?_) (fun hq10_ => ?_)
        · refine T_qg rfl (by omega) (by omega) ?_
          refine T_mu hG hS (i_rng (lo := 0) (hi := 7) rfl (by omega) (by omega)) (nw_66 _) (i := 1) rfl ⟨by decide, by decide, Or.inl rfl⟩ ?_
          intro mv11 hq12_ gq13_ kq14_
          have hq15_ : (mv11 64 10).toInt = (M 64 10).toInt := by rw [hq12_, mu_ne (Or.inl (by decide))]
          have hq16_ : (mv11 66 ((M 64 10).toNatClampNeg)).toInt = a2.toInt := by rw [hq12_, mu_at]
          have hq18_ := r_64_10 gq13_
          refine T_mu gq13_ kq14_ (i_rng (lo := 0) (hi := 3) (i_add rfl l_1 (by omega) (by omega)) (by omega) (by omega)) (nw_64 _) (i := 0) rfl ⟨by decide, by decide, Or.inr ⟨by decide, by decide⟩⟩ ?_
          intro mv17 hq19_ gq20_ kq21_
          have hq22_ : (mv17 66 ((M 64 10).toNatClampNeg)).toInt = (mv11 66 ((M 64 10).toNatClampNeg)).toInt := by rw [hq19_, mu_ne (Or.inl (by decide))]
          have hq23_ : (mv17 64 10).toInt = ((mv11 64 10).toInt + 1) := by rw [hq19_, mu_at]; exact (i_add rfl l_1 (by omega) (by omega))
          refine T_ql (i_add rfl l_1 (by omega) (by omega)) ?_
          intro xv24 hq25_
          exact ih a1 xv24 mv17 gq20_ kq21_ (i_rng (lo := 0) (hi := 8) rfl (by omega) (by omega)) (by omega)
        · refine T_ql (i_add rfl l_1 (by omega) (by omega)) ?_
          intro xv26 hq27_
          exact ih a1 xv26 M hG hS (i_rng (lo := 0) (hi := 8) rfl (by omega) (by omega)) (by omega)
theorem t_X5_takeWorkers {n : Nat} (hn : 200000 ≤ n) (a1 : Int32) (M : qM) (hG : G M) : qT (f_X5_takeWorkers n a1 M) (po_X5_takeWorkers a1 M) := by
  have hS : Sm l_X5_takeWorkers M M := Sm.rf
  unfold f_X5_takeWorkers
  refine T_mu hG hS (i_rng (lo := 0) (hi := 3) l_0 (by omega) (by omega)) (nw_64 _) (i := 0) rfl ⟨by decide, by decide, Or.inr ⟨by decide, by decide⟩⟩ ?_
  intro mv28 hq29_ gq30_ kq31_
  have hq32_ : (mv28 64 10).toInt = 0 := by rw [hq29_, mu_at]; exact l_0
  refine T_eq rfl l_0 (fun hq33_ => ?_) (fun hq33_ => ?_)
  · exact T_ret ⟨(i_rng (lo := 0) (hi := 1) l_0 (by omega) (by omega)), gq30_, kq31_⟩
  · refine T_qc (t_J6_bitCount_0f7a4 hn a1 mv28 gq30_ ) ?_
    rintro rv34 mv35 ⟨hq36_, gq37_, kq38_⟩
    have hq39_ := kq38_.nil
    subst hq39_
    refine T_le rfl l_3 (fun hq40_ => ?_) (fun hq40_ => ?_)
    · exact (t_X5_takeWorkers_21 hn) n a1 (0 : Int32) mv28 gq30_ kq31_ (i_rng (lo := 0) (hi := 8) l_0 (by omega) (by omega)) (by have e1 : ((0 : Int32)).toInt = _ := l_0; omega)
    · exact T_ret ⟨(i_rng (lo := 0) (hi := 1) l_0 (by omega) (by omega)), gq30_, kq31_⟩
abbrev l_J7_fill_53178_c69_3 : List Bx := [(69, 70, 0, 0)]
abbrev po_J7_fill_53178_c69_3 (a1 : Int32) (M : qM) (v : Int32) (M' : qM) : Prop := (0 ≤ v.toInt ∧ v.toInt ≤ 0) ∧ G M' ∧ Sm l_J7_fill_53178_c69_3 M M'
theorem t_J7_fill_53178_c69_3_5 {n : Nat} (hn : 200000 ≤ n) {oa1 : Int32} {M0 : qM} : ∀ (m : Nat) (a1 a2 a3 : Int32) (M : qM), G M → Sm l_J7_fill_53178_c69_3 M0 M → 0 ≤ a1.toInt ∧ a1.toInt ≤ 0 → 0 ≤ a2.toInt ∧ a2.toInt ≤ 3 → 3 ≤ a3.toInt ∧ a3.toInt ≤ 3 → 3 - a2.toInt < (m : Int) → qT (f_J7_fill_53178_5 n 69 3 m a1 a2 a3 M) (po_J7_fill_53178_c69_3 oa1 M0) := by
  intro m
  induction m with
  | zero =>
    intro a1 a2 a3 M hG hS i0 i1 i2 i3
    exfalso; omega
  | succ m ih =>
    intro a1 a2 a3 M hG hS i0 i1 i2 i3
    show qT (b_J7_fill_53178_5 n 69 3 (f_J7_fill_53178_5 n 69 3 m) a1 a2 a3 M) _
    unfold b_J7_fill_53178_5
    try simp only [Nat.reduceAdd]
    refine T_le rfl rfl (fun hq2_ => ?_) (fun hq2_ => ?_)
    · exact T_ret ⟨(i_rng (lo := 0) (hi := 0) l_0 (by omega) (by omega)), hG, hS⟩
    · refine T_qg rfl (by omega) (by omega) ?_
      refine T_mu hG hS (i_rng (lo := 0) (hi := 255) rfl (by omega) (by omega)) (nw_69 _) (i := 0) rfl ⟨by decide, by decide, Or.inl rfl⟩ ?_
      intro mv3 hq4_ gq5_ kq6_
      have hq7_ : (mv3 69 a2.toNatClampNeg).toInt = a1.toInt := by rw [hq4_, mu_at]
      refine T_ql (i_add rfl l_1 (by omega) (by omega)) ?_
      intro xv8 hq9_
      exact ih a1 xv8 a3 mv3 gq5_ kq6_ (i_rng (lo := 0) (hi := 0) rfl (by omega) (by omega)) (i_rng (lo := 0) (hi := 3) rfl (by omega) (by omega)) (i_rng (lo := 3) (hi := 3) rfl (by omega) (by omega)) (by omega)
theorem t_J7_fill_53178_c69_3 {n : Nat} (hn : 200000 ≤ n) (a1 : Int32) (M : qM) (hG : G M) (pa1 : 0 ≤ a1.toInt ∧ a1.toInt ≤ 0) : qT (f_J7_fill_53178 n 69 3 a1 M) (po_J7_fill_53178_c69_3 a1 M) := by
  have hS : Sm l_J7_fill_53178_c69_3 M M := Sm.rf
  unfold f_J7_fill_53178
  try simp only [Nat.reduceAdd]
  refine T_ql (show (Int32.ofNat 3).toInt = 3 from by decide) ?_
  intro xv10 hq11_
  exact (t_J7_fill_53178_c69_3_5 hn) n a1 (0 : Int32) xv10 M hG hS (i_rng (lo := 0) (hi := 0) rfl (by omega) (by omega)) (i_rng (lo := 0) (hi := 3) l_0 (by omega) (by omega)) (i_rng (lo := 3) (hi := 3) rfl (by omega) (by omega)) (by have e1 : ((0 : Int32)).toInt = _ := l_0; omega)
abbrev l_X5_longestOf : List Bx := [(69, 70, 0, 0)]
abbrev po_X5_longestOf (a1 : Int32) (M : qM) (v : Int32) (M' : qM) : Prop := (0 ≤ v.toInt ∧ v.toInt ≤ 2147483647) ∧ G M' ∧ Sm l_X5_longestOf M M'
theorem t_X5_longestOf_63 {n : Nat} (hn : 200000 ≤ n) {oa1 : Int32} {M0 : qM} : ∀ (m : Nat) (a3 a4 : Int32) (M : qM), G M → Sm l_X5_longestOf M0 M → 0 ≤ a3.toInt ∧ a3.toInt ≤ 2147483647 → 0 ≤ a4.toInt ∧ a4.toInt ≤ 3 → 3 - a4.toInt < (m : Int) → qT (f_X5_longestOf_63 n m a3 a4 M) (po_X5_longestOf oa1 M0) := by
  intro m
  induction m with
  | zero =>
    intro a3 a4 M hG hS i0 i1 i2
    exfalso; omega
  | succ m ih =>
    intro a3 a4 M hG hS i0 i1 i2
    show qT (b_X5_longestOf_63 n (f_X5_longestOf_63 n m) a3 a4 M) _
    unfold b_X5_longestOf_63
    have hq3_ := r_64_10 hG
    refine T_le rfl rfl (fun hq4_ => ?_) (fun hq4_ => ?_)
    · have hq5_ := i_full (a3)
      exact T_ret ⟨(i_rng (lo := 0) (hi := 2147483647) rfl (by omega) (by omega)), hG, hS⟩
    · refine T_qg rfl (by omega) (by omega) ?_
      have hq6_ := r_69 hG a4.toNatClampNeg
      refine T_qg (i_add (i_mul rfl l_256 (by omega) (by omega)) rfl (by omega) (by omega)) (by omega) (by omega) ?_
      have hq7_ := i_max (a := a3) (b := M 67 (((a4 * (256 : Int32)) + (M 69 a4.toNatClampNeg)).toNatClampNeg)) rfl rfl
      refine T_ql rfl ?_
      intro xv8 hq9_
      refine T_ql (i_add rfl l_1 (by omega) (by omega)) ?_
      intro xv10 hq11_
      have hq12_ := i_full (xv8)
      exact ih xv8 xv10 M hG hS (i_rng (lo := 0) (hi := 2147483647) rfl (by omega) (by omega)) (i_rng (lo := 0) (hi := 3) rfl (by omega) (by omega)) (by omega)
theorem t_X5_longestOf_17 {n : Nat} (hn : 200000 ≤ n) {oa1 : Int32} {M0 : qM} : ∀ (m : Nat) (a2 a3 : Int32) (M : qM), G M → Sm l_X5_longestOf M0 M → 0 ≤ a2.toInt ∧ a2.toInt ≤ 2147483647 → (-1) ≤ a3.toInt ∧ a3.toInt ≤ 7 → a3.toInt - (-1) < (m : Int) → qT (f_X5_longestOf_17 n m a2 a3 M) (po_X5_longestOf oa1 M0) := by
  intro m
  induction m with
  | zero =>
    intro a2 a3 M hG hS i0 i1 i2
    exfalso; omega
  | succ m ih =>
    intro a2 a3 M hG hS i0 i1 i2
    show qT (b_X5_longestOf_17 n (f_X5_longestOf_17 n m) a2 a3 M) _
    unfold b_X5_longestOf_17
    refine T_lt rfl l_0 (fun hq16_ => ?_) (fun hq16_ => ?_)
    · unfold f_X5_longestOf_58
      exact (t_X5_longestOf_63 hn) n (0 : Int32) (0 : Int32) M hG hS (i_rng (lo := 0) (hi := 2147483647) l_0 (by omega) (by omega)) (i_rng (lo := 0) (hi := 3) l_0 (by omega) (by omega)) (by have e0 : ((0 : Int32)).toInt = _ := l_0; have e1 : ((0 : Int32)).toInt = _ := l_0; omega)
    · have hq17_ := r_64_10 hG
      refine T_le rfl l_0 (fun hq18_ => ?_) (fun hq18_ => ?_)
      · unfold f_X5_longestOf_58
        exact (t_X5_longestOf_63 hn) n (0 : Int32) (0 : Int32) M hG hS (i_rng (lo := 0) (hi := 2147483647) l_0 (by omega) (by omega)) (i_rng (lo := 0) (hi := 3) l_0 (by omega) (by omega)) (by have e0 : ((0 : Int32)).toInt = _ := l_0; have e1 : ((0 : Int32)).toInt = _ := l_0; omega)
      · refine T_qd rfl (by omega) ?_
        have hq19_ := i_remb (a := a2) (b := M 64 10) rfl rfl (by omega) (by omega)
        refine T_ql rfl ?_
        intro xv20 hq21_
        refine T_qg rfl (by omega) (by omega) ?_
        refine T_qg rfl (by omega) (by omega) ?_
        have hq23_ := r_69 hG xv20.toNatClampNeg
        have hq24_ := i_shl1 (c := 7) (k := a3) (by decide) rfl (by omega) (by omega)
        have hq25_ := i_or (k := 8) (a := M 69 xv20.toNatClampNeg) (b := (1 : Int32) <<< (a3 &&& 31)) (by decide) rfl rfl (by omega) (by omega) (by omega) (by omega)
        refine T_mu hG hS (i_rng (lo := 0) (hi := 255) rfl (by omega) (by omega)) (nw_69 _) (i := 0) rfl ⟨by decide, by decide, Or.inl rfl⟩ ?_
        intro mv22 hq26_ gq27_ kq28_
        have hq29_ : (mv22 64 10).toInt = (M 64 10).toInt := by rw [hq26_, mu_ne (Or.inl (by decide))]
        have hq30_ : (mv22 69 xv20.toNatClampNeg).toInt = ((M 69 xv20.toNatClampNeg) ||| ((1 : Int32) <<< (a3 &&& 31))).toInt := by rw [hq26_, mu_at]
        have hq31_ := r_64_10 gq27_
        refine T_qd rfl (by omega) ?_
        have hq32_ := i_full (a2)
        have hq33_ := i_divb (a := a2) (b := mv22 64 10) rfl rfl (by omega) (by omega)
        refine T_ql rfl ?_
        intro xv34 hq35_
        refine T_ql (i_add rfl l_m1 (by omega) (by omega)) ?_
        intro xv36 hq37_
        have hq38_ := i_full (xv34)
        exact ih xv34 xv36 mv22 gq27_ kq28_ (i_rng (lo := 0) (hi := 2147483647) rfl (by omega) (by omega)) (i_rng (lo := (-1)) (hi := 7) rfl (by omega) (by omega)) (by omega)
theorem t_X5_longestOf {n : Nat} (hn : 200000 ≤ n) (a1 : Int32) (M : qM) (hG : G M) (pa1 : 0 ≤ a1.toInt ∧ a1.toInt ≤ 2147483646) : qT (f_X5_longestOf n a1 M) (po_X5_longestOf a1 M) := by
  have hS : Sm l_X5_longestOf M M := Sm.rf
  unfold f_X5_longestOf
  refine T_qc (t_J7_fill_53178_c69_3 hn (0 : Int32) M hG (i_rng (lo := 0) (hi := 0) l_0 (by omega) (by omega))) ?_
  rintro rv39 mv40 ⟨hq41_, gq42_, kq43_⟩
  have kq44_ := Sm.call hS kq43_ rfl
  have hq45_ := r_64_9 gq42_
  refine T_ql (i_sub rfl l_1 (by omega) (by omega)) ?_
  intro xv46 hq47_
  have hq48_ := i_full (a1)
  exact (t_X5_longestOf_17 hn) n a1 xv46 mv40 gq42_ kq44_ (i_rng (lo := 0) (hi := 2147483647) rfl (by omega) (by omega)) (i_rng (lo := (-1)) (hi := 7) rfl (by omega) (by omega)) (by omega)
abbrev l_X5_findBestRow : List Bx := [(64, 65, 11, 13), (69, 70, 0, 0)]
abbrev po_X5_findBestRow (M : qM) (v : Int32) (M' : qM) : Prop := (0 ≤ v.toInt ∧ v.toInt ≤ 0) ∧ G M' ∧ Sm l_X5_findBestRow M M'
theorem t_X5_findBestRow {n : Nat} (hn : 200000 ≤ n) (M : qM) (hG : G M) : qT (f_X5_findBestRow n  M) (po_X5_findBestRow  M) := by
  sorry
abbrev l_X5_hoursFor : List Bx := [(27, 30, 0, 0), (34, 35, 4, 5), (35, 37, 0, 0)]
abbrev po_X5_hoursFor (a1 a2 : Int32) (M : qM) (v : Int32) (M' : qM) : Prop := G M' ∧ Sm l_X5_hoursFor M M'
theorem t_X5_hoursFor_25 {n : Nat} (hn : 200000 ≤ n) {j : Nat} (hj : q_isLaw j) {oa1 oa2 : Int32} {M0 : qM} : ∀ (m : Nat) (a1 a2 a3 : Int32) (M : qM), G M → Sm l_X5_hoursFor M0 M → 0 ≤ a1.toInt ∧ a1.toInt ≤ 7 → 0 ≤ a2.toInt ∧ a2.toInt ≤ 11 → 1 ≤ a3.toInt ∧ a3.toInt ≤ 21 → 21 - a3.toInt < (m : Int) → qT (f_X5_hoursFor_25 n j m a1 a2 a3 M) (po_X5_hoursFor oa1 oa2 M0) := by
  intro m
  induction m with
  | zero =>
    intro a1 a2 a3 M hG hS i0 i1 i2 i3
    exfalso; omega
  | succ m ih =>
    intro a1 a2 a3 M hG hS i0 i1 i2 i3
    show qT (b_X5_hoursFor_25 n j (f_X5_hoursFor_25 n j m) a1 a2 a3 M) _
    unfold b_X5_hoursFor_25
    refine T_lt l_20 rfl (fun hq3_ => ?_) (fun hq3_ => ?_)
    · exact T_ret ⟨hG, hS⟩
    · refine T_qg rfl (by omega) (by omega) ?_
      refine T_qc (t_X10_triesAmong_c25 hn a1 (M 68 a2.toNatClampNeg) M hG (i_rng (lo := 0) (hi := 7) rfl (by omega) (by omega))) ?_
      rintro rv4 mv5 ⟨gq6_, kq7_⟩
      have hq8_ := kq7_.nil
      subst hq8_
      refine T_qc (t_X0_tellAll_c25 hn a1 a2 (8 : Int32) M hG (i_rng (lo := 0) (hi := 7) rfl (by omega) (by omega)) (i_rng (lo := 0) (hi := 11) rfl (by omega) (by omega)) (i_rng (lo := 0) (hi := 8) l_8 (by omega) (by omega))) ?_
      rintro rv9 mv10 ⟨hq11_, gq12_, kq13_⟩
      have kq14_ := Sm.call hS kq13_ rfl
      refine T_qc (t_X1_voidTries hn hj  mv10 gq12_ ) ?_
      rintro rv15 mv16 ⟨hq17_, gq18_, kq19_⟩
      have kq20_ := Sm.call kq14_ kq19_ rfl
      refine T_lt rfl rfl (fun hq21_ => ?_) (fun hq21_ => ?_)
      · unfold f_X5_hoursFor_79
        refine T_qc (t_X10_addTry_c25 hn a1 a2 mv16 gq18_ (i_rng (lo := 0) (hi := 7) rfl (by omega) (by omega)) (i_rng (lo := 0) (hi := 11) rfl (by omega) (by omega))) ?_
        rintro rv22 mv23 ⟨hq24_, gq25_, kq26_⟩
        have kq27_ := Sm.call kq20_ kq26_ rfl
        refine T_eq l_0 l_0 (fun hq28_ => ?_) (fun hq28_ => ?_)
        · refine T_ql (i_add rfl l_1 (by omega) (by omega)) ?_
          intro xv29 hq30_
          exact ih a1 a2 xv29 mv23 gq25_ kq27_ (i_rng (lo := 0) (hi := 7) rfl (by omega) (by omega)) (i_rng (lo := 0) (hi := 11) rfl (by omega) (by omega)) (i_rng (lo := 1) (hi := 21) rfl (by omega) (by omega)) (by omega)
        · exfalso; omega
      · unfold f_X5_hoursFor_79
        refine T_qc (t_X10_addTry_c25 hn a1 a2 mv16 gq18_ (i_rng (lo := 0) (hi := 7) rfl (by omega) (by omega)) (i_rng (lo := 0) (hi := 11) rfl (by omega) (by omega))) ?_
        rintro rv31 mv32 ⟨hq33_, gq34_, kq35_⟩
        have kq36_ := Sm.call kq20_ kq35_ rfl
        refine T_eq l_1 l_0 (fun hq37_ => ?_) (fun hq37_ => ?_)
        · exfalso; omega
        · refine T_qc (t_X10_addCounted_c25 hn a1 a2 mv32 gq34_ (i_rng (lo := 0) (hi := 7) rfl (by omega) (by omega)) (i_rng (lo := 0) (hi := 11) rfl (by omega) (by omega))) ?_
          rintro rv38 mv39 ⟨hq40_, gq41_, kq42_⟩
          have kq43_ := Sm.call kq36_ kq42_ rfl
          refine T_qg rfl (by omega) (by omega) ?_
          have hq44_ := i_full (mv39 4 a2.toNatClampNeg)
          exact T_ret ⟨gq41_, kq43_⟩
theorem t_X5_hoursFor {n : Nat} (hn : 200000 ≤ n) {j : Nat} (hj : q_isLaw j) (a1 a2 : Int32) (M : qM) (hG : G M) (pa1 : 0 ≤ a1.toInt ∧ a1.toInt ≤ 7) (pa2 : 0 ≤ a2.toInt ∧ a2.toInt ≤ 11) : qT (f_X5_hoursFor n j a1 a2 M) (po_X5_hoursFor a1 a2 M) := by
  have hS : Sm l_X5_hoursFor M M := Sm.rf
  unfold f_X5_hoursFor
  refine T_qg rfl (by omega) (by omega) ?_
  refine T_qc (t_X10_hasCounted_c25 hn a1 (M 6 a2.toNatClampNeg) M hG (i_rng (lo := 0) (hi := 7) rfl (by omega) (by omega))) ?_
  rintro rv45 mv46 ⟨hq47_, gq48_, kq49_⟩
  have hq50_ := kq49_.nil
  subst hq50_
  refine T_eq rfl l_0 (fun hq51_ => ?_) (fun hq51_ => ?_)
  · exact T_ret ⟨hG, hS⟩
  · exact (t_X5_hoursFor_25 hn hj) n a1 a2 (1 : Int32) M hG hS (i_rng (lo := 0) (hi := 7) rfl (by omega) (by omega)) (i_rng (lo := 0) (hi := 11) rfl (by omega) (by omega)) (i_rng (lo := 1) (hi := 21) l_1 (by omega) (by omega)) (by have e2 : ((1 : Int32)).toInt = _ := l_1; omega)
abbrev l_X5_goThroughSets : List Bx := [(27, 30, 0, 0), (34, 35, 4, 5), (35, 37, 0, 0), (67, 68, 0, 0)]
abbrev po_X5_goThroughSets (a1 a2 a3 a4 : Int32) (M : qM) (v : Int32) (M' : qM) : Prop := (0 ≤ v.toInt ∧ v.toInt ≤ 0) ∧ G M' ∧ Sm l_X5_goThroughSets M M'
theorem t_X5_goThroughSets {n : Nat} (hn : 200000 ≤ n) {j : Nat} (hj : q_isLaw j) (a1 a2 a3 a4 : Int32) (M : qM) (hG : G M) (pa1 : 0 ≤ a1.toInt ∧ a1.toInt ≤ 2) (pa2 : 0 ≤ a2.toInt ∧ a2.toInt ≤ 8) (pa3 : 0 ≤ a3.toInt ∧ a3.toInt ≤ 255) (pa4 : (-2147483648) ≤ a4.toInt ∧ a4.toInt ≤ 1048576) : qT (f_X5_goThroughSets n j a1 a2 a3 a4 M) (po_X5_goThroughSets a1 a2 a3 a4 M) := by
  sorry
