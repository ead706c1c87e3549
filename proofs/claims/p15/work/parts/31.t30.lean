abbrev l_X12_loophole : List Bx := [(81, 82, 12, 13), (82, 83, 12, 13), (96, 98, 0, 0)]
abbrev po_X12_loophole (a1 a2 a3 : Int32) (M : qM) (v : Int32) (M' : qM) : Prop := G M' ∧ Sm l_X12_loophole M M'
theorem t_X12_loophole_56 {n : Nat} (hn : 200000 ≤ n) {oa1 oa2 oa3 : Int32} {M0 : qM} : ∀ (m : Nat) (a1 a2 a3 a4 a5 a6 : Int32) (M : qM), G M → Sm l_X12_loophole M0 M → 0 ≤ a1.toInt ∧ a1.toInt ≤ 2147483647 → 0 ≤ a2.toInt ∧ a2.toInt ≤ 2147483647 → 0 ≤ a3.toInt ∧ a3.toInt ≤ 1 → (-2) ≤ a5.toInt ∧ a5.toInt ≤ 255 → 0 ≤ a6.toInt ∧ a6.toInt ≤ 256 → 256 - a6.toInt < (m : Int) → qT (f_X12_loophole_56 n m a1 a2 a3 a4 a5 a6 M) (po_X12_loophole oa1 oa2 oa3 M0) := by
  intro m
  induction m with
  | zero =>
    intro a1 a2 a3 a4 a5 a6 M hG hS i0 i1 i2 i3 i4 i7
    exfalso; omega
  | succ m ih =>
    intro a1 a2 a3 a4 a5 a6 M hG hS i0 i1 i2 i3 i4 i7
    show qT (b_X12_loophole_56 n (f_X12_loophole_56 n m) a1 a2 a3 a4 a5 a6 M) _
    unfold b_X12_loophole_56
    refine T_le l_256 rfl (fun hq6_ => ?_) (fun hq6_ => ?_)
    · refine T_eq rfl l_0 (fun hq7_ => ?_) (fun hq7_ => ?_)
      · exact T_ret ⟨hG, hS⟩
      · exact T_ret ⟨hG, hS⟩
    · refine T_mu hG hS (rn_82 _ _) (nw_82 _) (i := 1) rfl ⟨by decide, by decide, Or.inr ⟨by decide, by decide⟩⟩ ?_
      intro mv8 hq9_ gq10_ kq11_
      have hq12_ : (mv8 82 12).toInt = a6.toInt := by rw [hq9_, mu_at]
      have hq15_ := i_full (a1)
      have hq16_ := i_full (a2)
      refine T_qc (t_X12_finds hn a1 a2 mv8 gq10_ (i_rng (lo := 0) (hi := 2147483647) rfl (by omega) (by omega)) (i_rng (lo := 0) (hi := 2147483647) rfl (by omega) (by omega))) ?_
      rintro rv13 mv14 ⟨hq17_, gq18_, kq19_⟩
      have kq20_ := Sm.call kq11_ kq19_ rfl
      have hq21_ : (mv14 82 12).toInt = (mv8 82 12).toInt := by rw [kq19_ 82 12 (by decide)]
      refine T_eq rfl l_0 (fun hq22_ => ?_) (fun hq22_ => ?_)
      · refine T_ql (i_add rfl l_1 (by omega) (by omega)) ?_
        intro xv23 hq24_
        exact ih a1 a2 a3 a4 a5 xv23 mv14 gq18_ kq20_ (i_rng (lo := 0) (hi := 2147483647) rfl (by omega) (by omega)) (i_rng (lo := 0) (hi := 2147483647) rfl (by omega) (by omega)) (i_rng (lo := 0) (hi := 1) rfl (by omega) (by omega)) (i_rng (lo := (-2)) (hi := 255) rfl (by omega) (by omega)) (i_rng (lo := 0) (hi := 256) rfl (by omega) (by omega)) (by omega)
      · have hq25_ := i_full (a4)
        refine T_ql rfl ?_
        intro xv26 hq27_
        refine T_eq rfl l_m2 (fun hq28_ => ?_) (fun hq28_ => ?_)
        · unfold f_X12_loophole_111
          refine T_ql (i_add rfl l_1 (by omega) (by omega)) ?_
          intro xv29 hq30_
          exact ih a1 a2 a3 xv26 a6 xv29 mv14 gq18_ kq20_ (i_rng (lo := 0) (hi := 2147483647) rfl (by omega) (by omega)) (i_rng (lo := 0) (hi := 2147483647) rfl (by omega) (by omega)) (i_rng (lo := 0) (hi := 1) rfl (by omega) (by omega)) (i_rng (lo := (-2)) (hi := 255) rfl (by omega) (by omega)) (i_rng (lo := 0) (hi := 256) rfl (by omega) (by omega)) (by omega)
        · refine T_qc (t_X12_bits hn a6 mv14 gq18_ ) ?_
          rintro rv31 mv32 ⟨hq33_, hq34_, gq35_, kq36_⟩
          have hq37_ := kq36_.nil
          subst hq37_
          refine T_qc (t_X12_bits hn a5 mv14 gq18_ ) ?_
          rintro rv38 mv39 ⟨hq40_, hq41_, gq42_, kq43_⟩
          have hq44_ := kq43_.nil
          subst hq44_
          refine T_le rfl rfl (fun hq45_ => ?_) (fun hq45_ => ?_)
          · refine T_ql (i_add rfl l_1 (by omega) (by omega)) ?_
            intro xv46 hq47_
            exact ih a1 a2 a3 xv26 a5 xv46 mv14 gq18_ kq20_ (i_rng (lo := 0) (hi := 2147483647) rfl (by omega) (by omega)) (i_rng (lo := 0) (hi := 2147483647) rfl (by omega) (by omega)) (i_rng (lo := 0) (hi := 1) rfl (by omega) (by omega)) (i_rng (lo := (-2)) (hi := 255) rfl (by omega) (by omega)) (i_rng (lo := 0) (hi := 256) rfl (by omega) (by omega)) (by omega)
          · unfold f_X12_loophole_111
            refine T_ql (i_add rfl l_1 (by omega) (by omega)) ?_
            intro xv48 hq49_
            exact ih a1 a2 a3 xv26 a6 xv48 mv14 gq18_ kq20_ (i_rng (lo := 0) (hi := 2147483647) rfl (by omega) (by omega)) (i_rng (lo := 0) (hi := 2147483647) rfl (by omega) (by omega)) (i_rng (lo := 0) (hi := 1) rfl (by omega) (by omega)) (i_rng (lo := (-2)) (hi := 255) rfl (by omega) (by omega)) (i_rng (lo := 0) (hi := 256) rfl (by omega) (by omega)) (by omega)
theorem t_X12_loophole {n : Nat} (hn : 200000 ≤ n) (a1 a2 a3 : Int32) (M : qM) (hG : G M) : qT (f_X12_loophole n a1 a2 a3 M) (po_X12_loophole a1 a2 a3 M) := by
  have hS : Sm l_X12_loophole M M := Sm.rf
  unfold f_X12_loophole
  refine T_lt rfl l_0 (fun hq50_ => ?_) (fun hq50_ => ?_)
  · exact T_ret ⟨hG, hS⟩
  · refine T_lt rfl l_0 (fun hq51_ => ?_) (fun hq51_ => ?_)
    · exact T_ret ⟨hG, hS⟩
    · refine T_eq rfl l_0 (fun hq52_ => ?_) (fun hq52_ => ?_)
      · have hq53_ := i_and (a := a1) (b := a2) rfl (by omega)
        refine T_eq rfl l_0 (fun hq54_ => ?_) (fun hq54_ => ?_)
        · have hq57_ := (show ((0 : Int32)).toInt = _ from l_0)
          have hq58_ := (show ((1 : Int32)).toInt = _ from l_1)
          refine T_qc (t_X12_in hn a3 (0 : Int32) (1 : Int32) M hG (i_rng (lo := 0) (hi := 70) l_0 (by omega) (by omega)) (i_rng (lo := 0) (hi := 99999) l_1 (by omega) (by omega))) ?_
          rintro rv55 mv56 ⟨hq59_, hq60_, gq61_, kq62_⟩
          have hq63_ := kq62_.nil
          subst hq63_
          refine T_eq rfl l_0 (fun hq64_ => ?_) (fun hq64_ => ?_)
          · exact T_ret ⟨hG, hS⟩
          · refine T_mu hG hS (rn_81 _ _) (nw_81 _) (i := 0) rfl ⟨by decide, by decide, Or.inr ⟨by decide, by decide⟩⟩ ?_
            intro mv65 hq66_ gq67_ kq68_
            have hq69_ : (mv65 81 12).toInt = 1 := by rw [hq66_, mu_at]; exact l_1
            have hq70_ := i_full (a1)
            have hq71_ := i_full (a2)
            exact (t_X12_loophole_56 hn) n a1 a2 a3 (0 : Int32) (-2 : Int32) (0 : Int32) mv65 gq67_ kq68_ (i_rng (lo := 0) (hi := 2147483647) rfl (by omega) (by omega)) (i_rng (lo := 0) (hi := 2147483647) rfl (by omega) (by omega)) (i_rng (lo := 0) (hi := 1) rfl (by omega) (by omega)) (i_rng (lo := (-2)) (hi := 255) l_m2 (by omega) (by omega)) (i_rng (lo := 0) (hi := 256) l_0 (by omega) (by omega)) (by have e3 : ((0 : Int32)).toInt = _ := l_0; have e4 : ((-2 : Int32)).toInt = _ := l_m2; have e5 : ((0 : Int32)).toInt = _ := l_0; omega)
        · exact T_ret ⟨hG, hS⟩
      · exact T_ret ⟨hG, hS⟩
abbrev l_X9_at : List Bx := []
abbrev po_X9_at (a1 : Int32) (M : qM) (v : Int32) (M' : qM) : Prop := ((-1) ≤ v.toInt ∧ v.toInt ≤ 255) ∧ G M' ∧ Sm l_X9_at M M'
theorem t_X9_at {n : Nat} (hn : 200000 ≤ n) (a1 : Int32) (M : qM) (hG : G M) (pa1 : 0 ≤ a1.toInt ∧ a1.toInt ≤ 47) : qT (f_X9_at n a1 M) (po_X9_at a1 M) := by
  have hS : Sm l_X9_at M M := Sm.rf
  unfold f_X9_at
  refine T_lt rfl l_0 (fun hq1_ => ?_) (fun hq1_ => ?_)
  · exfalso; omega
  · have hq2_ := r_1_1 hG
    refine T_le rfl rfl (fun hq3_ => ?_) (fun hq3_ => ?_)
    · exact T_ret ⟨(i_rng (lo := (-1)) (hi := 255) l_m1 (by omega) (by omega)), hG, hS⟩
    · refine T_qg rfl (by omega) (by omega) ?_
      have hq4_ := r_2 hG a1.toNatClampNeg
      exact T_ret ⟨(i_rng (lo := (-1)) (hi := 255) rfl (by omega) (by omega)), hG, hS⟩
abbrev l_X5_read : List Bx := [(64, 65, 9, 10), (65, 66, 0, 0)]
abbrev po_X5_read (a2 : Int32) (M : qM) (v : Int32) (M' : qM) : Prop := (0 ≤ v.toInt ∧ v.toInt ≤ 1) ∧ (v.toInt = 0 ∨ KJ  M') ∧ G M' ∧ Sm l_X5_read M M'
theorem t_X5_read_15 {n : Nat} (hn : 200000 ≤ n) {oa2 : Int32} {M0 : qM} : ∀ (m : Nat) (a3 a4 : Int32) (M : qM), G M → Sm l_X5_read M0 M → 0 ≤ a3.toInt ∧ a3.toInt ≤ 1 → 0 ≤ a4.toInt ∧ a4.toInt ≤ 8 → (a3.toInt = 0 ∨ (∀ i : Nat, (i : Int) < a4.toInt → 0 ≤ (M 65 i).toInt ∧ (M 65 i).toInt ≤ 11)) → 8 - a4.toInt < (m : Int) → qT (f_X5_read_15 n m a3 a4 M) (po_X5_read oa2 M0) := by
  intro m
  induction m with
  | zero =>
    intro a3 a4 M hG hS i0 i1 hE i5
    exfalso; omega
  | succ m ih =>
    intro a3 a4 M hG hS i0 i1 hE i5
    show qT (b_X5_read_15 n (f_X5_read_15 n m) a3 a4 M) _
    unfold b_X5_read_15
    have hq4_ := r_64_9 hG
    refine T_le rfl rfl (fun hq5_ => ?_) (fun hq5_ => ?_)
    · refine T_qb rfl (by omega) (by omega) ?_
      exact T_ret ⟨(i_rng (lo := 0) (hi := 1) rfl (by omega) (by omega)), (hE.imp_right (fun h i hi => h i (by omega))), hG, hS⟩
    · refine T_qc (t_X9_at hn a4 M hG (i_rng (lo := 0) (hi := 47) rfl (by omega) (by omega))) ?_
      rintro rv6 mv7 ⟨hq8_, gq9_, kq10_⟩
      have hq11_ := kq10_.nil
      subst hq11_
      refine T_qg rfl (by omega) (by omega) ?_
      refine T_mu hG hS (i_rng (lo := (-1)) (hi := 255) rfl (by omega) (by omega)) (nw_65 _) (i := 1) rfl ⟨by decide, by decide, Or.inl rfl⟩ ?_
      intro mv12 hq13_ gq14_ kq15_
      have hq16_ : (mv12 64 9).toInt = (M 64 9).toInt := by rw [hq13_, mu_ne (Or.inl (by decide))]
      have hq17_ : (mv12 65 a4.toNatClampNeg).toInt = rv6.toInt := by rw [hq13_, mu_at]
      refine T_eq rfl l_0 (fun hq18_ => ?_) (fun hq18_ => ?_)
      · unfold f_X5_read_62
        refine T_ql (i_add rfl l_1 (by omega) (by omega)) ?_
        intro xv19 hq20_
        exact ih (0 : Int32) xv19 mv12 gq14_ kq15_ (i_rng (lo := 0) (hi := 1) l_0 (by omega) (by omega)) (i_rng (lo := 0) (hi := 8) rfl (by omega) (by omega)) (by have e0 : ((0 : Int32)).toInt = _ := l_0; first | exact Or.inl l_0 | exact Or.inr (fun i hi => absurd hi (by omega)) | exact Or.inr (kAll_step (M := M) (a := a4) (fun s_ hs_ => by rw [hq13_, mu_ne (Or.inr hs_)]) (hE.resolve_left (by omega)) (by omega) (by omega) (by omega) (by omega))) (by have e0 : ((0 : Int32)).toInt = _ := l_0; omega)
      · refine T_qg rfl (by omega) (by omega) ?_
        have hq23_ := r_65 gq14_ a4.toNatClampNeg
        refine T_qc (t_X2_knows hn (mv12 65 a4.toNatClampNeg) mv12 gq14_ ) ?_
        rintro rv21 mv22 ⟨hq24_, hq25_, gq26_, kq27_⟩
        have hq28_ := kq27_.nil
        subst hq28_
        refine T_eq rfl l_0 (fun hq29_ => ?_) (fun hq29_ => ?_)
        · unfold f_X5_read_62
          refine T_ql (i_add rfl l_1 (by omega) (by omega)) ?_
          intro xv30 hq31_
          exact ih (0 : Int32) xv30 mv12 gq14_ kq15_ (i_rng (lo := 0) (hi := 1) l_0 (by omega) (by omega)) (i_rng (lo := 0) (hi := 8) rfl (by omega) (by omega)) (by have e0 : ((0 : Int32)).toInt = _ := l_0; first | exact Or.inl l_0 | exact Or.inr (fun i hi => absurd hi (by omega)) | exact Or.inr (kAll_step (M := M) (a := a4) (fun s_ hs_ => by rw [hq13_, mu_ne (Or.inr hs_)]) (hE.resolve_left (by omega)) (by omega) (by omega) (by omega) (by omega))) (by have e0 : ((0 : Int32)).toInt = _ := l_0; omega)
        · refine T_ql (i_add rfl l_1 (by omega) (by omega)) ?_
          intro xv32 hq33_
          exact ih (1 : Int32) xv32 mv12 gq14_ kq15_ (i_rng (lo := 0) (hi := 1) l_1 (by omega) (by omega)) (i_rng (lo := 0) (hi := 8) rfl (by omega) (by omega)) (by have e0 : ((1 : Int32)).toInt = _ := l_1; first | exact Or.inl l_0 | exact Or.inr (fun i hi => absurd hi (by omega)) | exact Or.inr (kAll_step (M := M) (a := a4) (fun s_ hs_ => by rw [hq13_, mu_ne (Or.inr hs_)]) (hE.resolve_left (by omega)) (by omega) (by omega) (by omega) (by omega))) (by have e0 : ((1 : Int32)).toInt = _ := l_1; omega)
theorem t_X5_read {n : Nat} (hn : 200000 ≤ n) (a2 : Int32) (M : qM) (hG : G M) (pa2 : 1 ≤ a2.toInt ∧ a2.toInt ≤ 8) : qT (f_X5_read n a2 M) (po_X5_read a2 M) := by
  have hS : Sm l_X5_read M M := Sm.rf
  unfold f_X5_read
  have hq35_ := i_min (a := a2) (b := (8 : Int32)) rfl l_8
  refine T_mu hG hS (i_rng (lo := 0) (hi := 8) rfl (by omega) (by omega)) (nw_64 _) (i := 0) rfl ⟨by decide, by decide, Or.inr ⟨by decide, by decide⟩⟩ ?_
  intro mv34 hq36_ gq37_ kq38_
  have hq39_ : (mv34 64 9).toInt = (qmin a2 (8 : Int32)).toInt := by rw [hq36_, mu_at]
  exact (t_X5_read_15 hn) n (1 : Int32) (0 : Int32) mv34 gq37_ kq38_ (i_rng (lo := 0) (hi := 1) l_1 (by omega) (by omega)) (i_rng (lo := 0) (hi := 8) l_0 (by omega) (by omega)) (by have e0 : ((1 : Int32)).toInt = _ := l_1; have e1 : ((0 : Int32)).toInt = _ := l_0; first | exact Or.inl l_0 | exact Or.inr (fun i hi => absurd hi (by omega)) | exact Or.inr (kAll_step (M := M) (a := a4) (fun s_ hs_ => by rw [hq36_, mu_ne (Or.inl (by decide))]) (hE.resolve_left (by omega)) (by omega) (by omega) (by omega) (by omega))) (by have e0 : ((1 : Int32)).toInt = _ := l_1; have e1 : ((0 : Int32)).toInt = _ := l_0; omega)
abbrev l_X10_knowsAll_c7 : List Bx := []
abbrev po_X10_knowsAll_c7 (a1 : Int32) (M : qM) (v : Int32) (M' : qM) : Prop := (0 ≤ v.toInt ∧ v.toInt ≤ 1) ∧ G M' ∧ Sm l_X10_knowsAll_c7 M M'
theorem t_X10_knowsAll_c7 {n : Nat} (hn : 200000 ≤ n) (a1 : Int32) (M : qM) (hG : G M) : qT (f_X10_knowsAll n 7 a1 M) (po_X10_knowsAll_c7 a1 M) := by
  have hS : Sm l_X10_knowsAll_c7 M M := Sm.rf
  unfold f_X10_knowsAll
  try simp only [Nat.reduceAdd]
  refine T_eq rfl l_0 (fun hq1_ => ?_) (fun hq1_ => ?_)
  · exact T_ret ⟨(i_rng (lo := 0) (hi := 1) l_1 (by omega) (by omega)), hG, hS⟩
  · exact T_ret ⟨(i_rng (lo := 0) (hi := 1) l_0 (by omega) (by omega)), hG, hS⟩
abbrev l_X5_takeWorkers : List Bx := [(64, 65, 10, 11), (66, 67, 0, 0)]
abbrev po_X5_takeWorkers (a1 : Int32) (M : qM) (v : Int32) (M' : qM) : Prop := (0 ≤ v.toInt ∧ v.toInt ≤ 1) ∧ G M' ∧ Sm l_X5_takeWorkers M M'
theorem t_X5_takeWorkers_21 {n : Nat} (hn : 200000 ≤ n) {oa1 : Int32} {M0 : qM} : ∀ (m : Nat) (a1 a2 : Int32) (M : qM), G M → Sm l_X5_takeWorkers M0 M → 0 ≤ a2.toInt ∧ a2.toInt ≤ 8 → 8 - a2.toInt < (m : Int) → qT (f_X5_takeWorkers_21 n m a1 a2 M) (po_X5_takeWorkers oa1 M0) := by
  intro m
  induction m with
  | zero =>
    intro a1 a2 M hG hS i0 i3
    exfalso; omega
  | succ m ih =>
    intro a1 a2 M hG hS i0 i3
    show qT (b_X5_takeWorkers_21 n (f_X5_takeWorkers_21 n m) a1 a2 M) _
    unfold b_X5_takeWorkers_21
    refine T_le l_8 rfl (fun hq3_ => ?_) (fun hq3_ => ?_)
    · unfold f_X5_takeWorkers_70
      have hq4_ := r_64_10 hG
      refine T_le rfl l_0 (fun hq5_ => ?_) (fun hq5_ => ?_)
      · exact T_ret ⟨(i_rng (lo := 0) (hi := 1) l_0 (by omega) (by omega)), hG, hS⟩
      · exact T_ret ⟨(i_rng (lo := 0) (hi := 1) l_1 (by omega) (by omega)), hG, hS⟩
    · have hq6_ := r_64_10 hG
      refine T_le l_3 rfl (fun hq7_ => ?_) (fun hq7_ => ?_)
      · unfold f_X5_takeWorkers_70
        refine T_le rfl l_0 (fun hq8_ => ?_) (fun hq8_ => ?_)
        · exfalso; omega
        · exact T_ret ⟨(i_rng (lo := 0) (hi := 1) l_1 (by omega) (by omega)), hG, hS⟩
      · have hq9_ := i_and (a := a1 >>> (a2 &&& 31)) (b := (1 : Int32)) l_1 (by omega)
        refine T_eq rfl l_1 (fun hq10_ => ?_) (fun hq10_ => ?_)
        · refine T_qg rfl (by omega) (by omega) ?_
          refine T_mu hG hS (i_rng (lo := 0) (hi := 7) rfl (by omega) (by omega)) (nw_66 _) (i := 1) rfl ⟨by decide, by decide, Or.inl rfl⟩ ?_
          intro mv11 hq12_ gq13_ kq14_
          have hq15_ : (mv11 64 10).toInt = (M 64 10).toInt := by rw [hq12_, mu_ne (Or.inl (by decide))]
          have hq16_ : (mv11 66 ((M 64 10).toNatClampNeg)).toInt = a2.toInt := by rw [hq12_, mu_at]
          have hq18_ := r_64_10 gq13_
          refine T_mu gq13_ kq14_ (i_rng (lo := 0) (hi := 3) (i_add rfl l_1 (by omega) (by omega)) (by omega) (by omega)) (nw_64 _) (i := 0) rfl ⟨by decide, by decide, Or.inr ⟨by decide, by decide⟩⟩ ?_
          intro mv17 hq19_ gq20_ kq21_
          have hq22_ : (mv17 66 ((M 64 10).toNatClampNeg)).toInt = (mv11 66 ((M 64 10).toNatClampNeg)).toInt := by rw [hq19_, mu_ne (Or.inl (by decide))]
          have hq23_ : (mv17 64 10).toInt = ((mv11 64 10).toInt + 1) := by rw [hq19_, mu_at]; exact (i_add rfl l_1 (by omega) (by omega))
          refine T_ql (i_add rfl l_1 (by omega) (by omega)) ?_
          intro xv24 hq25_
          exact ih a1 xv24 mv17 gq20_ kq21_ (i_rng (lo := 0) (hi := 8) rfl (by omega) (by omega)) (by omega)
        · refine T_ql (i_add rfl l_1 (by omega) (by omega)) ?_
          intro xv26 hq27_
          exact ih a1 xv26 M hG hS (i_rng (lo := 0) (hi := 8) rfl (by omega) (by omega)) (by omega)
theorem t_X5_takeWorkers {n : Nat} (hn : 200000 ≤ n) (a1 : Int32) (M : qM) (hG : G M) : qT (f_X5_takeWorkers n a1 M) (po_X5_takeWorkers a1 M) := by
  have hS : Sm l_X5_takeWorkers M M := Sm.rf
  unfold f_X5_takeWorkers
  refine T_mu hG hS (i_rng (lo := 0) (hi := 3) l_0 (by omega) (by omega)) (nw_64 _) (i := 0) rfl ⟨by decide, by decide, Or.inr ⟨by decide, by decide⟩⟩ ?_
  intro mv28 hq29_ gq30_ kq31_
  have hq32_ : (mv28 64 10).toInt = 0 := by rw [hq29_, mu_at]; exact l_0
  refine T_eq rfl l_0 (fun hq33_ => ?_) (fun hq33_ => ?_)
  · exact T_ret ⟨(i_rng (lo := 0) (hi := 1) l_0 (by omega) (by omega)), gq30_, kq31_⟩
  · refine T_qc (t_J6_bitCount_0f7a4 hn a1 mv28 gq30_ ) ?_
    rintro rv34 mv35 ⟨hq36_, gq37_, kq38_⟩
    have hq39_ := kq38_.nil
    subst hq39_
    refine T_le rfl l_3 (fun hq40_ => ?_) (fun hq40_ => ?_)
    · exact (t_X5_takeWorkers_21 hn) n a1 (0 : Int32) mv28 gq30_ kq31_ (i_rng (lo := 0) (hi := 8) l_0 (by omega) (by omega)) (by have e1 : ((0 : Int32)).toInt = _ := l_0; omega)
    · exact T_ret ⟨(i_rng (lo := 0) (hi := 1) l_0 (by omega) (by omega)), gq30_, kq31_⟩
abbrev l_J7_fill_53178_c69_3 : List Bx := [(69, 70, 0, 0)]
abbrev po_J7_fill_53178_c69_3 (a1 : Int32) (M : qM) (v : Int32) (M' : qM) : Prop := (0 ≤ v.toInt ∧ v.toInt ≤ 0) ∧ G M' ∧ Sm l_J7_fill_53178_c69_3 M M'
theorem t_J7_fill_53178_c69_3_5 {n : Nat} (hn : 200000 ≤ n) {oa1 : Int32} {M0 : qM} : ∀ (m : Nat) (a1 a2 a3 : Int32) (M : qM), G M → Sm l_J7_fill_53178_c69_3 M0 M → 0 ≤ a1.toInt ∧ a1.toInt ≤ 0 → 0 ≤ a2.toInt ∧ a2.toInt ≤ 3 → 3 ≤ a3.toInt ∧ a3.toInt ≤ 3 → 3 - a2.toInt < (m : Int) → qT (f_J7_fill_53178_5 n 69 3 m a1 a2 a3 M) (po_J7_fill_53178_c69_3 oa1 M0) := by
  intro m
  induction m with
  | zero =>
    intro a1 a2 a3 M hG hS i0 i1 i2 i5
    exfalso; omega
  | succ m ih =>
    intro a1 a2 a3 M hG hS i0 i1 i2 i5
    show qT (b_J7_fill_53178_5 n 69 3 (f_J7_fill_53178_5 n 69 3 m) a1 a2 a3 M) _
    unfold b_J7_fill_53178_5
    try simp only [Nat.reduceAdd]
    refine T_le rfl rfl (fun hq2_ => ?_) (fun hq2_ => ?_)
    · exact T_ret ⟨(i_rng (lo := 0) (hi := 0) l_0 (by omega) (by omega)), hG, hS⟩
    · refine T_qg rfl (by omega) (by omega) ?_
      refine T_mu hG hS (i_rng (lo := 0) (hi := 255) rfl (by omega) (by omega)) (nw_69 _) (i := 0) rfl ⟨by decide, by decide, Or.inl rfl⟩ ?_
      intro mv3 hq4_ gq5_ kq6_
      have hq7_ : (mv3 69 a2.toNatClampNeg).toInt = a1.toInt := by rw [hq4_, mu_at]
      refine T_ql (i_add rfl l_1 (by omega) (by omega)) ?_
      intro xv8 hq9_
      exact ih a1 xv8 a3 mv3 gq5_ kq6_ (i_rng (lo := 0) (hi := 0) rfl (by omega) (by omega)) (i_rng (lo := 0) (hi := 3) rfl (by omega) (by omega)) (i_rng (lo := 3) (hi := 3) rfl (by omega) (by omega)) (by omega)
theorem t_J7_fill_53178_c69_3 {n : Nat} (hn : 200000 ≤ n) (a1 : Int32) (M : qM) (hG : G M) (pa1 : 0 ≤ a1.toInt ∧ a1.toInt ≤ 0) : qT (f_J7_fill_53178 n 69 3 a1 M) (po_J7_fill_53178_c69_3 a1 M) := by
  have hS : Sm l_J7_fill_53178_c69_3 M M := Sm.rf
  unfold f_J7_fill_53178
  try simp only [Nat.reduceAdd]
  refine T_ql (show (Int32.ofNat 3).toInt = 3 from by decide) ?_
  intro xv10 hq11_
  exact (t_J7_fill_53178_c69_3_5 hn) n a1 (0 : Int32) xv10 M hG hS (i_rng (lo := 0) (hi := 0) rfl (by omega) (by omega)) (i_rng (lo := 0) (hi := 3) l_0 (by omega) (by omega)) (i_rng (lo := 3) (hi := 3) rfl (by omega) (by omega)) (by have e1 : ((0 : Int32)).toInt = _ := l_0; omega)
abbrev l_X5_longestOf : List Bx := [(69, 70, 0, 0)]
abbrev po_X5_longestOf (a1 : Int32) (M : qM) (v : Int32) (M' : qM) : Prop := (0 ≤ v.toInt ∧ v.toInt ≤ 2147483647) ∧ G M' ∧ Sm l_X5_longestOf M M'
theorem t_X5_longestOf_63 {n : Nat} (hn : 200000 ≤ n) {oa1 : Int32} {M0 : qM} : ∀ (m : Nat) (a3 a4 : Int32) (M : qM), G M → Sm l_X5_longestOf M0 M → 0 ≤ a3.toInt ∧ a3.toInt ≤ 2147483647 → 0 ≤ a4.toInt ∧ a4.toInt ≤ 3 → 3 - a4.toInt < (m : Int) → qT (f_X5_longestOf_63 n m a3 a4 M) (po_X5_longestOf oa1 M0) := by
  intro m
  induction m with
  | zero =>
    intro a3 a4 M hG hS i0 i1 i4
    exfalso; omega
  | succ m ih =>
    intro a3 a4 M hG hS i0 i1 i4
    show qT (b_X5_longestOf_63 n (f_X5_longestOf_63 n m) a3 a4 M) _
    unfold b_X5_longestOf_63
    have hq3_ := r_64_10 hG
    refine T_le rfl rfl (fun hq4_ => ?_) (fun hq4_ => ?_)
    · have hq5_ := i_full (a3)
      exact T_ret ⟨(i_rng (lo := 0) (hi := 2147483647) rfl (by omega) (by omega)), hG, hS⟩
    · refine T_qg rfl (by omega) (by omega) ?_
      have hq6_ := r_69 hG a4.toNatClampNeg
      refine T_qg (i_add (i_mul rfl l_256 (by omega) (by omega)) rfl (by omega) (by omega)) (by omega) (by omega) ?_
      have hq7_ := i_max (a := a3) (b := M 67 (((a4 * (256 : Int32)) + (M 69 a4.toNatClampNeg)).toNatClampNeg)) rfl rfl
      refine T_ql rfl ?_
      intro xv8 hq9_
      refine T_ql (i_add rfl l_1 (by omega) (by omega)) ?_
      intro xv10 hq11_
      have hq12_ := i_full (xv8)
      exact ih xv8 xv10 M hG hS (i_rng (lo := 0) (hi := 2147483647) rfl (by omega) (by omega)) (i_rng (lo := 0) (hi := 3) rfl (by omega) (by omega)) (by omega)
theorem t_X5_longestOf_17 {n : Nat} (hn : 200000 ≤ n) {oa1 : Int32} {M0 : qM} : ∀ (m : Nat) (a2 a3 : Int32) (M : qM), G M → Sm l_X5_longestOf M0 M → 0 ≤ a2.toInt ∧ a2.toInt ≤ 6561 → (-1) ≤ a3.toInt ∧ a3.toInt ≤ 7 → a3.toInt - (-1) < (m : Int) → qT (f_X5_longestOf_17 n m a2 a3 M) (po_X5_longestOf oa1 M0) := by
  intro m
  induction m with
  | zero =>
    intro a2 a3 M hG hS i0 i1 i4
    exfalso; omega
  | succ m ih =>
    intro a2 a3 M hG hS i0 i1 i4
    show qT (b_X5_longestOf_17 n (f_X5_longestOf_17 n m) a2 a3 M) _
    unfold b_X5_longestOf_17
    refine T_lt rfl l_0 (fun hq16_ => ?_) (fun hq16_ => ?_)
    · unfold f_X5_longestOf_58
      exact (t_X5_longestOf_63 hn) n (0 : Int32) (0 : Int32) M hG hS (i_rng (lo := 0) (hi := 2147483647) l_0 (by omega) (by omega)) (i_rng (lo := 0) (hi := 3) l_0 (by omega) (by omega)) (by have e0 : ((0 : Int32)).toInt = _ := l_0; have e1 : ((0 : Int32)).toInt = _ := l_0; omega)
    · have hq17_ := r_64_10 hG
      refine T_le rfl l_0 (fun hq18_ => ?_) (fun hq18_ => ?_)
      · unfold f_X5_longestOf_58
        exact (t_X5_longestOf_63 hn) n (0 : Int32) (0 : Int32) M hG hS (i_rng (lo := 0) (hi := 2147483647) l_0 (by omega) (by omega)) (i_rng (lo := 0) (hi := 3) l_0 (by omega) (by omega)) (by have e0 : ((0 : Int32)).toInt = _ := l_0; have e1 : ((0 : Int32)).toInt = _ := l_0; omega)
      · refine T_qd rfl (by omega) ?_
        have hq19_ := i_remb (a := a2) (b := M 64 10) rfl rfl (by omega) (by omega)
        refine T_ql rfl ?_
        intro xv20 hq21_
        refine T_qg rfl (by omega) (by omega) ?_
        refine T_qg rfl (by omega) (by omega) ?_
        have hq23_ := r_69 hG xv20.toNatClampNeg
        have hq24_ := i_shl1 (c := 7) (k := a3) (by decide) rfl (by omega) (by omega)
        have hq25_ := i_or (k := 8) (a := M 69 xv20.toNatClampNeg) (b := (1 : Int32) <<< (a3 &&& 31)) (by decide) rfl rfl (by omega) (by omega) (by omega) (by omega)
        refine T_mu hG hS (i_rng (lo := 0) (hi := 255) rfl (by omega) (by omega)) (nw_69 _) (i := 0) rfl ⟨by decide, by decide, Or.inl rfl⟩ ?_
        intro mv22 hq26_ gq27_ kq28_
        have hq29_ : (mv22 64 10).toInt = (M 64 10).toInt := by rw [hq26_, mu_ne (Or.inl (by decide))]
        have hq30_ : (mv22 69 xv20.toNatClampNeg).toInt = ((M 69 xv20.toNatClampNeg) ||| ((1 : Int32) <<< (a3 &&& 31))).toInt := by rw [hq26_, mu_at]
        have hq31_ := r_64_10 gq27_
        refine T_qd rfl (by omega) ?_
        have hq32_ := i_divb (a := a2) (b := mv22 64 10) rfl rfl (by omega) (by omega)
        refine T_ql rfl ?_
        intro xv33 hq34_
        refine T_ql (i_add rfl l_m1 (by omega) (by omega)) ?_
        intro xv35 hq36_
        exact ih xv33 xv35 mv22 gq27_ kq28_ (i_rng (lo := 0) (hi := 6561) rfl (by omega) (by omega)) (i_rng (lo := (-1)) (hi := 7) rfl (by omega) (by omega)) (by omega)
theorem t_X5_longestOf {n : Nat} (hn : 200000 ≤ n) (a1 : Int32) (M : qM) (hG : G M) (pa1 : 0 ≤ a1.toInt ∧ a1.toInt ≤ 6561) : qT (f_X5_longestOf n a1 M) (po_X5_longestOf a1 M) := by
  have hS : Sm l_X5_longestOf M M := Sm.rf
  unfold f_X5_longestOf
  refine T_qc (t_J7_fill_53178_c69_3 hn (0 : Int32) M hG (i_rng (lo := 0) (hi := 0) l_0 (by omega) (by omega))) ?_
  rintro rv37 mv38 ⟨hq39_, gq40_, kq41_⟩
  have kq42_ := Sm.call hS kq41_ rfl
  have hq43_ := r_64_9 gq40_
  refine T_ql (i_sub rfl l_1 (by omega) (by omega)) ?_
  intro xv44 hq45_
  exact (t_X5_longestOf_17 hn) n a1 xv44 mv38 gq40_ kq42_ (i_rng (lo := 0) (hi := 6561) rfl (by omega) (by omega)) (i_rng (lo := (-1)) (hi := 7) rfl (by omega) (by omega)) (by omega)
abbrev l_X5_findBestRow : List Bx := [(64, 65, 11, 13), (69, 70, 0, 0)]
abbrev po_X5_findBestRow (M : qM) (v : Int32) (M' : qM) : Prop := (0 ≤ v.toInt ∧ v.toInt ≤ 0) ∧ G M' ∧ Sm l_X5_findBestRow M M'
theorem t_X5_findBestRow_38 {n : Nat} (hn : 200000 ≤ n) {M0 : qM} : ∀ (m : Nat) (a1 a2 : Int32) (M : qM), G M → Sm l_X5_findBestRow M0 M → 0 ≤ a1.toInt ∧ a1.toInt ≤ 6561 → 0 ≤ a2.toInt ∧ a2.toInt ≤ 6561 → 6561 - a2.toInt < (m : Int) → qT (f_X5_findBestRow_38 n m a1 a2 M) (po_X5_findBestRow  M0) := by
  intro m
  induction m with
  | zero =>
    intro a1 a2 M hG hS i0 i1 i4
    exfalso; omega
  | succ m ih =>
    intro a1 a2 M hG hS i0 i1 i4
    show qT (b_X5_findBestRow_38 n (f_X5_findBestRow_38 n m) a1 a2 M) _
    unfold b_X5_findBestRow_38
    refine T_le rfl rfl (fun hq3_ => ?_) (fun hq3_ => ?_)
    · exact T_ret ⟨(i_rng (lo := 0) (hi := 0) l_0 (by omega) (by omega)), hG, hS⟩
    · refine T_qc (t_X5_longestOf hn a2 M hG (i_rng (lo := 0) (hi := 6561) rfl (by omega) (by omega))) ?_
      rintro rv4 mv5 ⟨hq6_, gq7_, kq8_⟩
      have kq9_ := Sm.call hS kq8_ rfl
      refine T_le rfl rfl (fun hq10_ => ?_) (fun hq10_ => ?_)
      · refine T_ql (i_add rfl l_1 (by omega) (by omega)) ?_
        intro xv11 hq12_
        exact ih a1 xv11 mv5 gq7_ kq9_ (i_rng (lo := 0) (hi := 6561) rfl (by omega) (by omega)) (i_rng (lo := 0) (hi := 6561) rfl (by omega) (by omega)) (by omega)
      · refine T_mu gq7_ kq9_ (rn_64_11 _) (nw_64 _) (i := 0) rfl ⟨by decide, by decide, Or.inr ⟨by decide, by decide⟩⟩ ?_
        intro mv13 hq14_ gq15_ kq16_
        have hq17_ : (mv13 64 11).toInt = rv4.toInt := by rw [hq14_, mu_at]
        refine T_mu gq15_ kq16_ (i_rng (lo := 0) (hi := 6561) rfl (by omega) (by omega)) (nw_64 _) (i := 0) rfl ⟨by decide, by decide, Or.inr ⟨by decide, by decide⟩⟩ ?_
        intro mv18 hq19_ gq20_ kq21_
        have hq22_ : (mv18 64 11).toInt = (mv13 64 11).toInt := by rw [hq19_, mu_ne (Or.inr (by decide))]
        have hq23_ : (mv18 64 12).toInt = a2.toInt := by rw [hq19_, mu_at]
        refine T_ql (i_add rfl l_1 (by omega) (by omega)) ?_
        intro xv24 hq25_
        exact ih a1 xv24 mv18 gq20_ kq21_ (i_rng (lo := 0) (hi := 6561) rfl (by omega) (by omega)) (i_rng (lo := 0) (hi := 6561) rfl (by omega) (by omega)) (by omega)
theorem t_X5_findBestRow_4 {n : Nat} (hn : 200000 ≤ n) {M0 : qM} : ∀ (m : Nat) (a1 a2 : Int32) (M : qM), G M → Sm l_X5_findBestRow M0 M → 0 ≤ a1.toInt ∧ a1.toInt ≤ 6561 → 0 ≤ a2.toInt ∧ a2.toInt ≤ 8 → ((a2.toInt = 0 ∧ a1.toInt ≤ 1) ∨ (a2.toInt = 1 ∧ a1.toInt ≤ 3) ∨ (a2.toInt = 2 ∧ a1.toInt ≤ 9) ∨ (a2.toInt = 3 ∧ a1.toInt ≤ 27) ∨ (a2.toInt = 4 ∧ a1.toInt ≤ 81) ∨ (a2.toInt = 5 ∧ a1.toInt ≤ 243) ∨ (a2.toInt = 6 ∧ a1.toInt ≤ 729) ∨ (a2.toInt = 7 ∧ a1.toInt ≤ 2187) ∨ (a2.toInt = 8 ∧ a1.toInt ≤ 6561)) → 8 - a2.toInt < (m : Int) → qT (f_X5_findBestRow_4 n m a1 a2 M) (po_X5_findBestRow  M0) := by
  intro m
  induction m with
  | zero =>
    intro a1 a2 M hG hS i0 i1 hE i5
    exfalso; omega
  | succ m ih =>
    intro a1 a2 M hG hS i0 i1 hE i5
    show qT (b_X5_findBestRow_4 n (f_X5_findBestRow_4 n m) a1 a2 M) _
    unfold b_X5_findBestRow_4
    have hq28_ := r_64_9 hG
    refine T_le rfl rfl (fun hq29_ => ?_) (fun hq29_ => ?_)
    · refine T_mu hG hS (rn_64_11 _) (nw_64 _) (i := 0) rfl ⟨by decide, by decide, Or.inr ⟨by decide, by decide⟩⟩ ?_
      intro mv30 hq31_ gq32_ kq33_
      have hq34_ : (mv30 64 9).toInt = (M 64 9).toInt := by rw [hq31_, mu_ne (Or.inr (by decide))]
      have hq35_ : (mv30 64 11).toInt = 1048576 := by rw [hq31_, mu_at]; exact l_1048576
      refine T_mu gq32_ kq33_ (i_rng (lo := 0) (hi := 6561) l_0 (by omega) (by omega)) (nw_64 _) (i := 0) rfl ⟨by decide, by decide, Or.inr ⟨by decide, by decide⟩⟩ ?_
      intro mv36 hq37_ gq38_ kq39_
      have hq40_ : (mv36 64 9).toInt = (mv30 64 9).toInt := by rw [hq37_, mu_ne (Or.inr (by decide))]
      have hq41_ : (mv36 64 11).toInt = (mv30 64 11).toInt := by rw [hq37_, mu_ne (Or.inr (by decide))]
      have hq42_ : (mv36 64 12).toInt = 0 := by rw [hq37_, mu_at]; exact l_0
      exact (t_X5_findBestRow_38 hn) n a1 (0 : Int32) mv36 gq38_ kq39_ (i_rng (lo := 0) (hi := 6561) rfl (by omega) (by omega)) (i_rng (lo := 0) (hi := 6561) l_0 (by omega) (by omega)) (by have e1 : ((0 : Int32)).toInt = _ := l_0; omega)
    · have hq43_ := r_64_10 hG
      have hq44_ := i_mulk 3 (a := a1) (b := M 64 10) rfl rfl (by omega) (by omega) (by omega) (by omega)
      refine T_ql rfl ?_
      intro xv45 hq46_
      refine T_ql (i_add rfl l_1 (by omega) (by omega)) ?_
      intro xv47 hq48_
      exact ih xv45 xv47 M hG hS (i_rng (lo := 0) (hi := 6561) rfl (by omega) (by omega)) (i_rng (lo := 0) (hi := 8) rfl (by omega) (by omega)) (by omega) (by omega)
theorem t_X5_findBestRow {n : Nat} (hn : 200000 ≤ n) (M : qM) (hG : G M) : qT (f_X5_findBestRow n  M) (po_X5_findBestRow  M) := by
  have hS : Sm l_X5_findBestRow M M := Sm.rf
  unfold f_X5_findBestRow
  exact (t_X5_findBestRow_4 hn) n (1 : Int32) (0 : Int32) M hG hS (i_rng (lo := 0) (hi := 6561) l_1 (by omega) (by omega)) (i_rng (lo := 0) (hi := 8) l_0 (by omega) (by omega)) (by have e0 : ((1 : Int32)).toInt = _ := l_1; have e1 : ((0 : Int32)).toInt = _ := l_0; omega) (by have e0 : ((1 : Int32)).toInt = _ := l_1; have e1 : ((0 : Int32)).toInt = _ := l_0; omega)
