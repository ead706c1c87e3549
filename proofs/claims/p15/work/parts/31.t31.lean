abbrev l_X5_hoursFor : List Bx := [(27, 30, 0, 0), (34, 35, 4, 5), (35, 37, 0, 0)]
abbrev po_X5_hoursFor (a1 a2 : Int32) (M : qM) (v : Int32) (M' : qM) : Prop := G M' ∧ Sm l_X5_hoursFor M M'
theorem t_X5_hoursFor_25 {n : Nat} (hn : 200000 ≤ n) {j : Nat} (hj : q_isLaw j) {oa1 oa2 : Int32} {M0 : qM} : ∀ (m : Nat) (a1 a2 a3 : Int32) (M : qM), G M → Sm l_X5_hoursFor M0 M → 0 ≤ a1.toInt ∧ a1.toInt ≤ 7 → 0 ≤ a2.toInt ∧ a2.toInt ≤ 11 → 1 ≤ a3.toInt ∧ a3.toInt ≤ 21 → 21 - a3.toInt < (m : Int) → qT (f_X5_hoursFor_25 n j m a1 a2 a3 M) (po_X5_hoursFor oa1 oa2 M0) := by
  intro m
  induction m with
  | zero =>
    intro a1 a2 a3 M hG hS i0 i1 i2 i5
    exfalso; omega
  | succ m ih =>
    intro a1 a2 a3 M hG hS i0 i1 i2 i5
    show qT (b_X5_hoursFor_25 n j (f_X5_hoursFor_25 n j m) a1 a2 a3 M) _
    unfold b_X5_hoursFor_25
    refine T_lt l_20 rfl (fun hq3_ => ?_) (fun hq3_ => ?_)
    · exact T_ret ⟨hG, hS⟩
    · refine T_qg rfl (by omega) (by omega) ?_
      refine T_qc (t_X10_triesAmong_c25 hn a1 (M 68 a2.toNatClampNeg) M hG (i_rng (lo := 0) (hi := 7) rfl (by omega) (by omega))) ?_
      rintro rv4 mv5 ⟨gq6_, kq7_⟩
      have hq8_ := kq7_.nil
      subst hq8_
      refine T_qc (t_X0_tellAll_c25 hn a1 a2 (8 : Int32) M hG (i_rng (lo := 0) (hi := 7) rfl (by omega) (by omega)) (i_rng (lo := 0) (hi := 11) rfl (by omega) (by omega)) (i_rng (lo := 0) (hi := 8) l_8 (by omega) (by omega))) ?_
      rintro rv9 mv10 ⟨hq11_, gq12_, kq13_⟩
      have kq14_ := Sm.call hS kq13_ rfl
      refine T_qc (t_X1_voidTries hn hj  mv10 gq12_ ) ?_
      rintro rv15 mv16 ⟨hq17_, gq18_, kq19_⟩
      have kq20_ := Sm.call kq14_ kq19_ rfl
      refine T_lt rfl rfl (fun hq21_ => ?_) (fun hq21_ => ?_)
      · unfold f_X5_hoursFor_79
        refine T_qc (t_X10_addTry_c25 hn a1 a2 mv16 gq18_ (i_rng (lo := 0) (hi := 7) rfl (by omega) (by omega)) (i_rng (lo := 0) (hi := 11) rfl (by omega) (by omega))) ?_
        rintro rv22 mv23 ⟨hq24_, gq25_, kq26_⟩
        have kq27_ := Sm.call kq20_ kq26_ rfl
        refine T_eq l_0 l_0 (fun hq28_ => ?_) (fun hq28_ => ?_)
        · refine T_ql (i_add rfl l_1 (by omega) (by omega)) ?_
          intro xv29 hq30_
          exact ih a1 a2 xv29 mv23 gq25_ kq27_ (i_rng (lo := 0) (hi := 7) rfl (by omega) (by omega)) (i_rng (lo := 0) (hi := 11) rfl (by omega) (by omega)) (i_rng (lo := 1) (hi := 21) rfl (by omega) (by omega)) (by omega)
        · exfalso; omega
      · unfold f_X5_hoursFor_79
        refine T_qc (t_X10_addTry_c25 hn a1 a2 mv16 gq18_ (i_rng (lo := 0) (hi := 7) rfl (by omega) (by omega)) (i_rng (lo := 0) (hi := 11) rfl (by omega) (by omega))) ?_
        rintro rv31 mv32 ⟨hq33_, gq34_, kq35_⟩
        have kq36_ := Sm.call kq20_ kq35_ rfl
        refine T_eq l_1 l_0 (fun hq37_ => ?_) (fun hq37_ => ?_)
        · exfalso; omega
        · refine T_qc (t_X10_addCounted_c25 hn a1 a2 mv32 gq34_ (i_rng (lo := 0) (hi := 7) rfl (by omega) (by omega)) (i_rng (lo := 0) (hi := 11) rfl (by omega) (by omega))) ?_
          rintro rv38 mv39 ⟨hq40_, gq41_, kq42_⟩
          have kq43_ := Sm.call kq36_ kq42_ rfl
          refine T_qg rfl (by omega) (by omega) ?_
          have hq44_ := i_full (mv39 4 a2.toNatClampNeg)
          exact T_ret ⟨gq41_, kq43_⟩
theorem t_X5_hoursFor {n : Nat} (hn : 200000 ≤ n) {j : Nat} (hj : q_isLaw j) (a1 a2 : Int32) (M : qM) (hG : G M) (pa1 : 0 ≤ a1.toInt ∧ a1.toInt ≤ 7) (pa2 : 0 ≤ a2.toInt ∧ a2.toInt ≤ 11) : qT (f_X5_hoursFor n j a1 a2 M) (po_X5_hoursFor a1 a2 M) := by
  have hS : Sm l_X5_hoursFor M M := Sm.rf
  unfold f_X5_hoursFor
  refine T_qg rfl (by omega) (by omega) ?_
  refine T_qc (t_X10_hasCounted_c25 hn a1 (M 6 a2.toNatClampNeg) M hG (i_rng (lo := 0) (hi := 7) rfl (by omega) (by omega))) ?_
  rintro rv45 mv46 ⟨hq47_, gq48_, kq49_⟩
  have hq50_ := kq49_.nil
  subst hq50_
  refine T_eq rfl l_0 (fun hq51_ => ?_) (fun hq51_ => ?_)
  · exact T_ret ⟨hG, hS⟩
  · exact (t_X5_hoursFor_25 hn hj) n a1 a2 (1 : Int32) M hG hS (i_rng (lo := 0) (hi := 7) rfl (by omega) (by omega)) (i_rng (lo := 0) (hi := 11) rfl (by omega) (by omega)) (i_rng (lo := 1) (hi := 21) l_1 (by omega) (by omega)) (by have e2 : ((1 : Int32)).toInt = _ := l_1; omega)
abbrev l_X5_goThroughSets : List Bx := [(27, 30, 0, 0), (34, 35, 4, 5), (35, 37, 0, 0), (67, 68, 0, 0)]
abbrev po_X5_goThroughSets (a1 a2 a3 a4 : Int32) (M : qM) (v : Int32) (M' : qM) : Prop := (0 ≤ v.toInt ∧ v.toInt ≤ 0) ∧ G M' ∧ Sm l_X5_goThroughSets M M'
theorem to_X5_goThroughSets {n : Nat} (hn : 200000 ≤ n) {j : Nat} (hj : q_isLaw j) {B : Nat} {F_X5_goThroughSets : Int32 → Int32 → Int32 → Int32 → qM → qR} (hF_X5_goThroughSets : ∀ (a1 a2 a3 a4 : Int32) (M : qM), G M → 0 ≤ a1.toInt ∧ a1.toInt ≤ 2 → 0 ≤ a2.toInt ∧ a2.toInt ≤ 8 → 0 ≤ a3.toInt ∧ a3.toInt ≤ 255 → KJ  M → 8 - a2.toInt < (B : Int) → qT (F_X5_goThroughSets a1 a2 a3 a4 M) (po_X5_goThroughSets a1 a2 a3 a4 M)) (a1 a2 a3 a4 : Int32) (M : qM) (hG : G M) (pa1 : 0 ≤ a1.toInt ∧ a1.toInt ≤ 2) (pa2 : 0 ≤ a2.toInt ∧ a2.toInt ≤ 8) (pa3 : 0 ≤ a3.toInt ∧ a3.toInt ≤ 255) (wKJ : KJ  M) (hb : 8 - a2.toInt < (B : Int) + 1) : qT (fo_X5_goThroughSets n j F_X5_goThroughSets a1 a2 a3 a4 M) (po_X5_goThroughSets a1 a2 a3 a4 M) := by
  have hS : Sm l_X5_goThroughSets M M := Sm.rf
  unfold fo_X5_goThroughSets
  have hq1_ := r_64_9 hG
  refine T_lt rfl rfl (fun hq2_ => ?_) (fun hq2_ => ?_)
  · refine T_qc (hF_X5_goThroughSets a1 (a2 + (1 : Int32)) a3 a4 M hG (i_rng (lo := 0) (hi := 2) rfl (by omega) (by omega)) (i_rng (lo := 0) (hi := 8) (i_add rfl l_1 (by omega) (by omega)) (by omega) (by omega)) (i_rng (lo := 0) (hi := 255) rfl (by omega) (by omega)) wKJ (by have e1 : (a2 + (1 : Int32)).toInt = _ := (i_add rfl l_1 (by omega) (by omega)); omega)) ?_
    rintro rv3 mv4 ⟨hq5_, gq6_, kq7_⟩
    have kq8_ := Sm.call hS kq7_ rfl
    have hq9_ := (fun h_ => KJ_c (kq7_ 64 9 (by decide)) (funext (fun s_ => kq7_ 65 s_ (outc rfl))) h_) wKJ
    have hq10_ : (mv4 64 9).toInt = (M 64 9).toInt := by rw [kq7_ 64 9 (by decide)]
    refine T_qg rfl (by omega) (by omega) ?_
    refine T_qg rfl (by omega) (by omega) ?_
    have hq11_ := r_66 gq6_ a1.toNatClampNeg
    have hq12_ := hq9_ a2.toNatClampNeg (by rw [tnc]; omega)
    have hq13_ := r_65 gq6_ a2.toNatClampNeg
    refine T_ql (i_add (i_mul rfl l_12 (by omega) (by omega)) rfl (by omega) (by omega)) ?_
    intro xv14 hq15_
    refine T_qg rfl (by omega) (by omega) ?_
    refine T_ql rfl ?_
    intro xv16 hq17_
    refine T_qg rfl (by omega) (by omega) ?_
    refine T_ql rfl ?_
    intro xv18 hq19_
    refine T_le l_1048576 rfl (fun hq20_ => ?_) (fun hq20_ => ?_)
    · unfold f_X5_goThroughSets_104
      have hq23_ := i_shl1 (c := 7) (k := a2) (by decide) rfl (by omega) (by omega)
      have hq24_ := i_or (k := 8) (a := a3) (b := (1 : Int32) <<< (a2 &&& 31)) (by decide) rfl rfl (by omega) (by omega) (by omega) (by omega)
      have hq25_ := i_full (a4)
      have hq26_ := i_min (a := (1048576 : Int32)) (b := a4 + (1048576 : Int32)) l_1048576 rfl
      refine T_qc (hF_X5_goThroughSets a1 (a2 + (1 : Int32)) (a3 ||| ((1 : Int32) <<< (a2 &&& 31))) (qmin (1048576 : Int32) (a4 + (1048576 : Int32))) mv4 gq6_ (i_rng (lo := 0) (hi := 2) rfl (by omega) (by omega)) (i_rng (lo := 0) (hi := 8) (i_add rfl l_1 (by omega) (by omega)) (by omega) (by omega)) (i_rng (lo := 0) (hi := 255) rfl (by omega) (by omega)) hq9_ (by have e1 : (a2 + (1 : Int32)).toInt = _ := (i_add rfl l_1 (by omega) (by omega)); omega)) ?_
      rintro rv21 mv22 ⟨hq27_, gq28_, kq29_⟩
      have kq30_ := Sm.call kq8_ kq29_ rfl
      have hq31_ := (fun h_ => KJ_c (kq29_ 64 9 (by decide)) (funext (fun s_ => kq29_ 65 s_ (outc rfl))) h_) hq9_
      have hq32_ : (mv22 64 9).toInt = (mv4 64 9).toInt := by rw [kq29_ 64 9 (by decide)]
      refine T_qg rfl (by omega) (by omega) ?_
      refine T_mu gq28_ kq30_ (rn_27 _ _) (nw_27 _) (i := 0) rfl ⟨by decide, by decide, Or.inl rfl⟩ ?_
      intro mv33 hq34_ gq35_ kq36_
      have hq37_ := (fun h_ => KJ_c (M := mv22) (M' := mv33) (by rw [hq34_, mu_ne (Or.inl (by decide))]) (by rw [hq34_, mu_nc (by decide)]) h_) hq31_
      have hq38_ : (mv33 64 9).toInt = (mv22 64 9).toInt := by rw [hq34_, mu_ne (Or.inl (by decide))]
      have hq39_ : (mv33 27 xv14.toNatClampNeg).toInt = xv16.toInt := by rw [hq34_, mu_at]
      refine T_qg rfl (by omega) (by omega) ?_
      refine T_mu gq35_ kq36_ (rn_29 _ _) (nw_29 _) (i := 0) rfl ⟨by decide, by decide, Or.inl rfl⟩ ?_
      intro mv40 hq41_ gq42_ kq43_
      have hq44_ := (fun h_ => KJ_c (M := mv33) (M' := mv40) (by rw [hq41_, mu_ne (Or.inl (by decide))]) (by rw [hq41_, mu_nc (by decide)]) h_) hq37_
      have hq45_ : (mv40 64 9).toInt = (mv33 64 9).toInt := by rw [hq41_, mu_ne (Or.inl (by decide))]
      have hq46_ : (mv40 27 xv14.toNatClampNeg).toInt = (mv33 27 xv14.toNatClampNeg).toInt := by rw [hq41_, mu_ne (Or.inl (by decide))]
      have hq47_ : (mv40 29 xv14.toNatClampNeg).toInt = xv18.toInt := by rw [hq41_, mu_at]
      exact T_ret ⟨(i_rng (lo := 0) (hi := 0) l_0 (by omega) (by omega)), gq42_, kq43_⟩
    · refine T_qg rfl (by omega) (by omega) ?_
      refine T_qg rfl (by omega) (by omega) ?_
      refine T_qc (t_X5_hoursFor hn hj (mv4 66 a1.toNatClampNeg) (mv4 65 a2.toNatClampNeg) mv4 gq6_ (i_rng (lo := 0) (hi := 7) rfl (by omega) (by omega)) (i_rng (lo := 0) (hi := 11) rfl (by omega) (by omega))) ?_
      rintro rv48 mv49 ⟨gq50_, kq51_⟩
      have kq52_ := Sm.call kq8_ kq51_ rfl
      have hq53_ := (fun h_ => KJ_c (kq51_ 64 9 (by decide)) (funext (fun s_ => kq51_ 65 s_ (outc rfl))) h_) hq9_
      have hq54_ : (mv49 64 9).toInt = (mv4 64 9).toInt := by rw [kq51_ 64 9 (by decide)]
      unfold f_X5_goThroughSets_104
      have hq57_ := i_shl1 (c := 7) (k := a2) (by decide) rfl (by omega) (by omega)
      have hq58_ := i_or (k := 8) (a := a3) (b := (1 : Int32) <<< (a2 &&& 31)) (by decide) rfl rfl (by omega) (by omega) (by omega) (by omega)
      have hq59_ := i_full (a4)
      have hq60_ := i_full (rv48)
      have hq61_ := i_min (a := (1048576 : Int32)) (b := a4 + rv48) l_1048576 rfl
      refine T_qc (hF_X5_goThroughSets a1 (a2 + (1 : Int32)) (a3 ||| ((1 : Int32) <<< (a2 &&& 31))) (qmin (1048576 : Int32) (a4 + rv48)) mv49 gq50_ (i_rng (lo := 0) (hi := 2) rfl (by omega) (by omega)) (i_rng (lo := 0) (hi := 8) (i_add rfl l_1 (by omega) (by omega)) (by omega) (by omega)) (i_rng (lo := 0) (hi := 255) rfl (by omega) (by omega)) hq53_ (by have e1 : (a2 + (1 : Int32)).toInt = _ := (i_add rfl l_1 (by omega) (by omega)); omega)) ?_
      rintro rv55 mv56 ⟨hq62_, gq63_, kq64_⟩
      have kq65_ := Sm.call kq52_ kq64_ rfl
      have hq66_ := (fun h_ => KJ_c (kq64_ 64 9 (by decide)) (funext (fun s_ => kq64_ 65 s_ (outc rfl))) h_) hq53_
      have hq67_ : (mv56 64 9).toInt = (mv49 64 9).toInt := by rw [kq64_ 64 9 (by decide)]
      refine T_qg rfl (by omega) (by omega) ?_
      refine T_mu gq63_ kq65_ (rn_27 _ _) (nw_27 _) (i := 0) rfl ⟨by decide, by decide, Or.inl rfl⟩ ?_
      intro mv68 hq69_ gq70_ kq71_
      have hq72_ := (fun h_ => KJ_c (M := mv56) (M' := mv68) (by rw [hq69_, mu_ne (Or.inl (by decide))]) (by rw [hq69_, mu_nc (by decide)]) h_) hq66_
      have hq73_ : (mv68 64 9).toInt = (mv56 64 9).toInt := by rw [hq69_, mu_ne (Or.inl (by decide))]
      have hq74_ : (mv68 27 xv14.toNatClampNeg).toInt = xv16.toInt := by rw [hq69_, mu_at]
      refine T_qg rfl (by omega) (by omega) ?_
      refine T_mu gq70_ kq71_ (rn_29 _ _) (nw_29 _) (i := 0) rfl ⟨by decide, by decide, Or.inl rfl⟩ ?_
      intro mv75 hq76_ gq77_ kq78_
      have hq79_ := (fun h_ => KJ_c (M := mv68) (M' := mv75) (by rw [hq76_, mu_ne (Or.inl (by decide))]) (by rw [hq76_, mu_nc (by decide)]) h_) hq72_
      have hq80_ : (mv75 64 9).toInt = (mv68 64 9).toInt := by rw [hq76_, mu_ne (Or.inl (by decide))]
      have hq81_ : (mv75 27 xv14.toNatClampNeg).toInt = (mv68 27 xv14.toNatClampNeg).toInt := by rw [hq76_, mu_ne (Or.inl (by decide))]
      have hq82_ : (mv75 29 xv14.toNatClampNeg).toInt = xv18.toInt := by rw [hq76_, mu_at]
      exact T_ret ⟨(i_rng (lo := 0) (hi := 0) l_0 (by omega) (by omega)), gq77_, kq78_⟩
  · refine T_qg (i_add (i_mul rfl l_256 (by omega) (by omega)) rfl (by omega) (by omega)) (by omega) (by omega) ?_
    refine T_mu hG hS (rn_67 _ _) (nw_67 _) (i := 3) rfl ⟨by decide, by decide, Or.inl rfl⟩ ?_
    intro mv83 hq84_ gq85_ kq86_
    have hq87_ := (fun h_ => KJ_c (M := M) (M' := mv83) (by rw [hq84_, mu_ne (Or.inl (by decide))]) (by rw [hq84_, mu_nc (by decide)]) h_) wKJ
    have hq88_ : (mv83 64 9).toInt = (M 64 9).toInt := by rw [hq84_, mu_ne (Or.inl (by decide))]
    have hq89_ : (mv83 67 (((a1 * (256 : Int32)) + a3).toNatClampNeg)).toInt = a4.toInt := by rw [hq84_, mu_at]
    exact T_ret ⟨(i_rng (lo := 0) (hi := 0) l_0 (by omega) (by omega)), gq85_, kq86_⟩
theorem trc_X5_goThroughSets {n : Nat} (hn : 200000 ≤ n) {j : Nat} (hj : q_isLaw j) : ∀ m : Nat, (∀ (a1 a2 a3 a4 : Int32) (M : qM), G M → 0 ≤ a1.toInt ∧ a1.toInt ≤ 2 → 0 ≤ a2.toInt ∧ a2.toInt ≤ 8 → 0 ≤ a3.toInt ∧ a3.toInt ≤ 255 → KJ  M → 8 - a2.toInt < (m : Int) → qT (rc_X5_goThroughSets n j m a1 a2 a3 a4 M) (po_X5_goThroughSets a1 a2 a3 a4 M)) := by
  intro m
  induction m with
  | zero =>
    exact fun a1 a2 a3 a4 M q0 q1 q2 q3 q4 q5 => by exfalso; omega
  | succ m ih =>
    refine ?_
    · exact fun a1 a2 a3 a4 M q0 q1 q2 q3 q4 q5 => to_X5_goThroughSets hn hj (B := m) (ih) a1 a2 a3 a4 M q0 q1 q2 q3 q4 (by omega)
theorem t_X5_goThroughSets {n : Nat} (hn : 200000 ≤ n) {j : Nat} (hj : q_isLaw j) (a1 a2 a3 a4 : Int32) (M : qM) (hG : G M) (pa1 : 0 ≤ a1.toInt ∧ a1.toInt ≤ 2) (pa2 : 0 ≤ a2.toInt ∧ a2.toInt ≤ 8) (pa3 : 0 ≤ a3.toInt ∧ a3.toInt ≤ 255) (wKJ : KJ  M) : qT (f_X5_goThroughSets n j a1 a2 a3 a4 M) (po_X5_goThroughSets a1 a2 a3 a4 M) := by
  unfold f_X5_goThroughSets
  exact (trc_X5_goThroughSets hn hj 12) a1 a2 a3 a4 M hG pa1 pa2 pa3 wKJ (by omega)
abbrev l_X5_solve_c7 : List Bx := [(25, 26, 8, 10), (26, 34, 0, 0), (34, 35, 4, 5), (35, 37, 0, 0), (64, 65, 11, 13), (67, 70, 0, 0)]
abbrev po_X5_solve_c7 (M : qM) (v : Int32) (M' : qM) : Prop := (0 ≤ v.toInt ∧ v.toInt ≤ 0) ∧ G M' ∧ Sm l_X5_solve_c7 M M'
theorem t_X5_solve_c7_54 {n : Nat} (hn : 200000 ≤ n) {j : Nat} (hj : q_isLaw j) {M0 : qM} : ∀ (m : Nat) (a2 : Int32) (M : qM), G M → Sm l_X5_solve_c7 M0 M → 0 ≤ a2.toInt ∧ a2.toInt ≤ 3 → KJ  M → 3 - a2.toInt < (m : Int) → qT (f_X5_solve_54 n 7 j m a2 M) (po_X5_solve_c7  M0) := by
  intro m
  induction m with
  | zero =>
    intro a2 M hG hS i0 wKJ i4
    exfalso; omega
  | succ m ih =>
    intro a2 M hG hS i0 wKJ i4
    show qT (b_X5_solve_54 n 7 j (f_X5_solve_54 n 7 j m) a2 M) _
    unfold b_X5_solve_54
    try simp only [Nat.reduceAdd]
    have hq2_ := r_64_10 hG
    refine T_le rfl rfl (fun hq3_ => ?_) (fun hq3_ => ?_)
    · refine T_qc (t_X5_findBestRow hn  M hG ) ?_
      rintro rv4 mv5 ⟨hq6_, gq7_, kq8_⟩
      have kq9_ := Sm.call hS kq8_ rfl
      have hq10_ := (fun h_ => KJ_c (kq8_ 64 9 (by decide)) (funext (fun s_ => kq8_ 65 s_ (outc rfl))) h_) wKJ
      have hq11_ : (mv5 64 10).toInt = (M 64 10).toInt := by rw [kq8_ 64 10 (by decide)]
      exact T_ret ⟨(i_rng (lo := 0) (hi := 0) l_0 (by omega) (by omega)), gq7_, kq9_⟩
    · refine T_qc (t_X5_goThroughSets hn hj a2 (0 : Int32) (0 : Int32) (0 : Int32) M hG (i_rng (lo := 0) (hi := 2) rfl (by omega) (by omega)) (i_rng (lo := 0) (hi := 8) l_0 (by omega) (by omega)) (i_rng (lo := 0) (hi := 255) l_0 (by omega) (by omega)) wKJ) ?_
      rintro rv12 mv13 ⟨hq14_, gq15_, kq16_⟩
      have kq17_ := Sm.call hS kq16_ rfl
      have hq18_ := (fun h_ => KJ_c (kq16_ 64 9 (by decide)) (funext (fun s_ => kq16_ 65 s_ (outc rfl))) h_) wKJ
      have hq19_ : (mv13 64 10).toInt = (M 64 10).toInt := by rw [kq16_ 64 10 (by decide)]
      refine T_ql (i_add rfl l_1 (by omega) (by omega)) ?_
      intro xv20 hq21_
      exact ih xv20 mv13 gq15_ kq17_ (i_rng (lo := 0) (hi := 3) rfl (by omega) (by omega)) hq18_ (by omega)
theorem t_X5_solve_c7_10 {n : Nat} (hn : 200000 ≤ n) {j : Nat} (hj : q_isLaw j) {M0 : qM} : ∀ (m : Nat) (a2 : Int32) (M : qM), G M → Sm l_X5_solve_c7 M0 M → 0 ≤ a2.toInt ∧ a2.toInt ≤ 8 → KJ  M → 8 - a2.toInt < (m : Int) → qT (f_X5_solve_10 n 7 j m a2 M) (po_X5_solve_c7  M0) := by
  intro m
  induction m with
  | zero =>
    intro a2 M hG hS i0 wKJ i4
    exfalso; omega
  | succ m ih =>
    intro a2 M hG hS i0 wKJ i4
    show qT (b_X5_solve_10 n 7 j (f_X5_solve_10 n 7 j m) a2 M) _
    unfold b_X5_solve_10
    try simp only [Nat.reduceAdd]
    have hq23_ := r_64_9 hG
    refine T_le rfl rfl (fun hq24_ => ?_) (fun hq24_ => ?_)
    · exact (t_X5_solve_c7_54 hn hj) n (0 : Int32) M hG hS (i_rng (lo := 0) (hi := 3) l_0 (by omega) (by omega)) wKJ (by have e0 : ((0 : Int32)).toInt = _ := l_0; omega)
    · refine T_qg rfl (by omega) (by omega) ?_
      refine T_qg rfl (by omega) (by omega) ?_
      have hq27_ := wKJ a2.toNatClampNeg (by rw [tnc]; omega)
      have hq28_ := r_65 hG a2.toNatClampNeg
      refine T_qc (t_X1_alikes hn hj (M 65 a2.toNatClampNeg) (M 7 9) M hG (i_rng (lo := 0) (hi := 11) rfl (by omega) (by omega))) ?_
      rintro rv25 mv26 ⟨gq29_, kq30_⟩
      have kq31_ := Sm.call hS kq30_ rfl
      have hq32_ := (fun h_ => KJ_c (kq30_ 64 9 (by decide)) (funext (fun s_ => kq30_ 65 s_ (outc rfl))) h_) wKJ
      have hq33_ : (mv26 64 9).toInt = (M 64 9).toInt := by rw [kq30_ 64 9 (by decide)]
      refine T_qg rfl (by omega) (by omega) ?_
      refine T_mu gq29_ kq31_ (rn_68 _ _) (nw_68 _) (i := 5) rfl ⟨by decide, by decide, Or.inl rfl⟩ ?_
      intro mv34 hq35_ gq36_ kq37_
      have hq38_ := (fun h_ => KJ_c (M := mv26) (M' := mv34) (by rw [hq35_, mu_ne (Or.inl (by decide))]) (by rw [hq35_, mu_nc (by decide)]) h_) hq32_
      have hq39_ : (mv34 64 9).toInt = (mv26 64 9).toInt := by rw [hq35_, mu_ne (Or.inl (by decide))]
      have hq40_ : (mv34 68 ((M 65 a2.toNatClampNeg).toNatClampNeg)).toInt = rv25.toInt := by rw [hq35_, mu_at]
      refine T_ql (i_add rfl l_1 (by omega) (by omega)) ?_
      intro xv41 hq42_
      exact ih xv41 mv34 gq36_ kq37_ (i_rng (lo := 0) (hi := 8) rfl (by omega) (by omega)) hq38_ (by omega)
theorem t_X5_solve_c7 {n : Nat} (hn : 200000 ≤ n) {j : Nat} (hj : q_isLaw j) (M : qM) (hG : G M) (wKJ : KJ  M) : qT (f_X5_solve n 7 j  M) (po_X5_solve_c7  M) := by
  have hS : Sm l_X5_solve_c7 M M := Sm.rf
  unfold f_X5_solve
  try simp only [Nat.reduceAdd]
  refine T_qc (t_X10_copy_c25_7 hn  M hG ) ?_
  rintro rv43 mv44 ⟨hq45_, hq46_, gq47_, kq48_⟩
  have kq49_ := Sm.call hS kq48_ rfl
  have hq50_ := (fun h_ => KJ_c (kq48_ 64 9 (by decide)) (funext (fun s_ => kq48_ 65 s_ (outc rfl))) h_) wKJ
  exact (t_X5_solve_c7_10 hn hj) n (0 : Int32) mv44 gq47_ kq49_ (i_rng (lo := 0) (hi := 8) l_0 (by omega) (by omega)) hq50_ (by have e0 : ((0 : Int32)).toInt = _ := l_0; omega)
abbrev l_X5_workerOf : List Bx := []
abbrev po_X5_workerOf (a1 : Int32) (M : qM) (v : Int32) (M' : qM) : Prop := ((-1) ≤ v.toInt ∧ v.toInt ≤ 7) ∧ G M' ∧ Sm l_X5_workerOf M M'
theorem t_X5_workerOf_12 {n : Nat} (hn : 200000 ≤ n) {oa1 : Int32} {M0 : qM} : ∀ (m : Nat) (a1 a2 a3 : Int32) (M : qM), G M → Sm l_X5_workerOf M0 M → 0 ≤ a1.toInt ∧ a1.toInt ≤ 7 → 0 ≤ a2.toInt ∧ a2.toInt ≤ 6561 → (-1) ≤ a3.toInt ∧ a3.toInt ≤ 7 → a3.toInt - (-1) < (m : Int) → qT (f_X5_workerOf_12 n m a1 a2 a3 M) (po_X5_workerOf oa1 M0) := by
  intro m
  induction m with
  | zero =>
    intro a1 a2 a3 M hG hS i0 i1 i2 i5
    exfalso; omega
  | succ m ih =>
    intro a1 a2 a3 M hG hS i0 i1 i2 i5
    show qT (b_X5_workerOf_12 n (f_X5_workerOf_12 n m) a1 a2 a3 M) _
    unfold b_X5_workerOf_12
    refine T_le rfl rfl (fun hq3_ => ?_) (fun hq3_ => ?_)
    · unfold f_X5_workerOf_37
      have hq4_ := r_64_10 hG
      refine T_le rfl l_0 (fun hq5_ => ?_) (fun hq5_ => ?_)
      · exact T_ret ⟨(i_rng (lo := (-1)) (hi := 7) l_m1 (by omega) (by omega)), hG, hS⟩
      · refine T_qd rfl (by omega) ?_
        have hq6_ := i_remb (a := a2) (b := M 64 10) rfl rfl (by omega) (by omega)
        refine T_qg rfl (by omega) (by omega) ?_
        have hq7_ := r_66 hG ((a2 - ((a2 / (M 64 10)) * (M 64 10))).toNatClampNeg)
        exact T_ret ⟨(i_rng (lo := (-1)) (hi := 7) rfl (by omega) (by omega)), hG, hS⟩
    · have hq8_ := r_64_10 hG
      refine T_le rfl l_0 (fun hq9_ => ?_) (fun hq9_ => ?_)
      · unfold f_X5_workerOf_37
        refine T_le rfl l_0 (fun hq10_ => ?_) (fun hq10_ => ?_)
        · exact T_ret ⟨(i_rng (lo := (-1)) (hi := 7) l_m1 (by omega) (by omega)), hG, hS⟩
        · exfalso; omega
      · refine T_qd rfl (by omega) ?_
        have hq11_ := i_divb (a := a2) (b := M 64 10) rfl rfl (by omega) (by omega)
        refine T_ql rfl ?_
        intro xv12 hq13_
        refine T_ql (i_add rfl l_m1 (by omega) (by omega)) ?_
        intro xv14 hq15_
        exact ih a1 xv12 xv14 M hG hS (i_rng (lo := 0) (hi := 7) rfl (by omega) (by omega)) (i_rng (lo := 0) (hi := 6561) rfl (by omega) (by omega)) (i_rng (lo := (-1)) (hi := 7) rfl (by omega) (by omega)) (by omega)
theorem t_X5_workerOf {n : Nat} (hn : 200000 ≤ n) (a1 : Int32) (M : qM) (hG : G M) (pa1 : 0 ≤ a1.toInt ∧ a1.toInt ≤ 7) : qT (f_X5_workerOf n a1 M) (po_X5_workerOf a1 M) := by
  have hS : Sm l_X5_workerOf M M := Sm.rf
  unfold f_X5_workerOf
  have hq16_ := r_64_12 hG
  refine T_ql rfl ?_
  intro xv17 hq18_
  have hq19_ := r_64_9 hG
  refine T_ql (i_sub rfl l_1 (by omega) (by omega)) ?_
  intro xv20 hq21_
  exact (t_X5_workerOf_12 hn) n a1 xv17 xv20 M hG hS (i_rng (lo := 0) (hi := 7) rfl (by omega) (by omega)) (i_rng (lo := 0) (hi := 6561) rfl (by omega) (by omega)) (i_rng (lo := (-1)) (hi := 7) rfl (by omega) (by omega)) (by omega)
abbrev l_X11_jobs : List Bx := [(1, 2, 1, 2), (25, 26, 8, 10), (26, 34, 0, 0), (34, 35, 4, 5), (35, 37, 0, 0), (64, 65, 9, 13), (65, 70, 0, 0)]
abbrev po_X11_jobs (a1 a2 a3 : Int32) (M : qM) (v : Int32) (M' : qM) : Prop := ((-2147483648) ≤ v.toInt ∧ v.toInt ≤ 1048575) ∧ (((1 ≤ a1.toInt ∧ a1.toInt ≤ 8 ∧ a1.toInt ≤ (M 1 1).toInt) ∧ (M' 1 1).toInt = 0) ∨ (¬ (1 ≤ a1.toInt ∧ a1.toInt ≤ 8 ∧ a1.toInt ≤ (M 1 1).toInt) ∧ (M' 1 1).toInt = (M 1 1).toInt)) ∧ G M' ∧ Sm l_X11_jobs M M'
theorem t_X11_jobs {n : Nat} (hn : 200000 ≤ n) {j : Nat} (hj : q_isLaw j) (a1 a2 a3 : Int32) (M : qM) (hG : G M) : qT (f_X11_jobs n j a1 a2 a3 M) (po_X11_jobs a1 a2 a3 M) := by
  have hS : Sm l_X11_jobs M M := Sm.rf
  unfold f_X11_jobs
  have hq1_ := r_1_1 hG
  refine T_lt rfl l_1 (fun hq2_ => ?_) (fun hq2_ => ?_)
  · exact T_ret ⟨(i_rng (lo := (-2147483648)) (hi := 1048575) l_m1 (by omega) (by omega)), (by have e9 : ((-1 : Int32)).toInt = _ := l_m1; omega), hG, hS⟩
  · refine T_lt l_8 rfl (fun hq3_ => ?_) (fun hq3_ => ?_)
    · exact T_ret ⟨(i_rng (lo := (-2147483648)) (hi := 1048575) l_m1 (by omega) (by omega)), (by have e9 : ((-1 : Int32)).toInt = _ := l_m1; omega), hG, hS⟩
    · refine T_le rfl rfl (fun hq4_ => ?_) (fun hq4_ => ?_)
      · refine T_qc (t_X5_read hn a1 M hG (i_rng (lo := 1) (hi := 8) rfl (by omega) (by omega))) ?_
        rintro rv5 mv6 ⟨hq7_, hq8_, gq9_, kq10_⟩
        have kq11_ := Sm.call hS kq10_ rfl
        have hq12_ : (mv6 1 1).toInt = (M 1 1).toInt := by rw [kq10_ 1 1 (by decide)]
        refine T_qc (t_X9_clear hn  mv6 gq9_ ) ?_
        rintro rv13 mv14 ⟨hq15_, hq16_, gq17_, kq18_⟩
        have kq19_ := Sm.call kq11_ kq18_ rfl
        have hq20_ := Or.imp_right (fun h_ => KJ_c (kq18_ 64 9 (by decide)) (funext (fun s_ => kq18_ 65 s_ (outc rfl))) h_) hq8_
        have hq21_ := r_1_1 gq17_
        refine T_eq rfl l_0 (fun hq22_ => ?_) (fun hq22_ => ?_)
        · exact T_ret ⟨(i_rng (lo := (-2147483648)) (hi := 1048575) l_m2 (by omega) (by omega)), (by have e9 : ((-2 : Int32)).toInt = _ := l_m2; omega), gq17_, kq19_⟩
        · refine T_eq rfl l_10 (fun hq23_ => ?_) (fun hq23_ => ?_)
          · unfold f_X11_jobs_73
            refine T_eq l_1 l_0 (fun hq24_ => ?_) (fun hq24_ => ?_)
            · exfalso; omega
            · refine T_qc (t_X10_knowsAll_c7 hn a2 mv14 gq17_ ) ?_
              rintro rv25 mv26 ⟨hq27_, gq28_, kq29_⟩
              have hq30_ := kq29_.nil
              subst hq30_
              refine T_eq rfl l_0 (fun hq31_ => ?_) (fun hq31_ => ?_)
              · exact T_ret ⟨(i_rng (lo := (-2147483648)) (hi := 1048575) l_m4 (by omega) (by omega)), (by have e9 : ((-4 : Int32)).toInt = _ := l_m4; omega), gq17_, kq19_⟩
              · refine T_qc (t_X5_takeWorkers hn a2 mv14 gq17_ ) ?_
                rintro rv32 mv33 ⟨hq34_, gq35_, kq36_⟩
                have kq37_ := Sm.call kq19_ kq36_ rfl
                have hq38_ := Or.imp_right (fun h_ => KJ_c (kq36_ 64 9 (by decide)) (funext (fun s_ => kq36_ 65 s_ (outc rfl))) h_) hq20_
                have hq39_ : (mv33 1 1).toInt = (mv14 1 1).toInt := by rw [kq36_ 1 1 (by decide)]
                refine T_eq rfl l_0 (fun hq40_ => ?_) (fun hq40_ => ?_)
                · exact T_ret ⟨(i_rng (lo := (-2147483648)) (hi := 1048575) l_m4 (by omega) (by omega)), (by have e9 : ((-4 : Int32)).toInt = _ := l_m4; omega), gq35_, kq37_⟩
                · refine T_qc (t_X5_solve_c7 hn hj  mv33 gq35_ (hq38_.resolve_left (by omega))) ?_
                  rintro rv41 mv42 ⟨hq43_, gq44_, kq45_⟩
                  have kq46_ := Sm.call kq37_ kq45_ rfl
                  have hq47_ := Or.imp_right (fun h_ => KJ_c (kq45_ 64 9 (by decide)) (funext (fun s_ => kq45_ 65 s_ (outc rfl))) h_) hq38_
                  have hq48_ : (mv42 1 1).toInt = (mv33 1 1).toInt := by rw [kq45_ 1 1 (by decide)]
                  refine T_lt rfl l_1048576 (fun hq49_ => ?_) (fun hq49_ => ?_)
                  · refine T_eq rfl l_10 (fun hq50_ => ?_) (fun hq50_ => ?_)
                    · have hq51_ := i_full (mv42 64 11)
                      exact T_ret ⟨(i_rng (lo := (-2147483648)) (hi := 1048575) rfl (by omega) (by omega)), (by have e9 : (mv42 64 11).toInt = _ := rfl; omega), gq44_, kq46_⟩
                    · exfalso; omega
                  · exact T_ret ⟨(i_rng (lo := (-2147483648)) (hi := 1048575) l_m3 (by omega) (by omega)), (by have e9 : ((-3 : Int32)).toInt = _ := l_m3; omega), gq44_, kq46_⟩
          · refine T_lt rfl l_0 (fun hq52_ => ?_) (fun hq52_ => ?_)
            · unfold f_X11_jobs_72
              unfold f_X11_jobs_73
              refine T_eq l_0 l_0 (fun hq53_ => ?_) (fun hq53_ => ?_)
              · exact T_ret ⟨(i_rng (lo := (-2147483648)) (hi := 1048575) l_m4 (by omega) (by omega)), (by have e9 : ((-4 : Int32)).toInt = _ := l_m4; omega), gq17_, kq19_⟩
              · exfalso; omega
            · refine T_le rfl rfl (fun hq54_ => ?_) (fun hq54_ => ?_)
              · unfold f_X11_jobs_72
                unfold f_X11_jobs_73
                refine T_eq l_0 l_0 (fun hq55_ => ?_) (fun hq55_ => ?_)
                · exact T_ret ⟨(i_rng (lo := (-2147483648)) (hi := 1048575) l_m4 (by omega) (by omega)), (by have e9 : ((-4 : Int32)).toInt = _ := l_m4; omega), gq17_, kq19_⟩
                · exfalso; omega
              · unfold f_X11_jobs_73
                refine T_eq l_1 l_0 (fun hq56_ => ?_) (fun hq56_ => ?_)
                · exfalso; omega
                · refine T_qc (t_X10_knowsAll_c7 hn a2 mv14 gq17_ ) ?_
                  rintro rv57 mv58 ⟨hq59_, gq60_, kq61_⟩
                  have hq62_ := kq61_.nil
                  subst hq62_
                  refine T_eq rfl l_0 (fun hq63_ => ?_) (fun hq63_ => ?_)
                  · exact T_ret ⟨(i_rng (lo := (-2147483648)) (hi := 1048575) l_m4 (by omega) (by omega)), (by have e9 : ((-4 : Int32)).toInt = _ := l_m4; omega), gq17_, kq19_⟩
                  · refine T_qc (t_X5_takeWorkers hn a2 mv14 gq17_ ) ?_
                    rintro rv64 mv65 ⟨hq66_, gq67_, kq68_⟩
                    have kq69_ := Sm.call kq19_ kq68_ rfl
                    have hq70_ := Or.imp_right (fun h_ => KJ_c (kq68_ 64 9 (by decide)) (funext (fun s_ => kq68_ 65 s_ (outc rfl))) h_) hq20_
                    have hq71_ : (mv65 1 1).toInt = (mv14 1 1).toInt := by rw [kq68_ 1 1 (by decide)]
                    refine T_eq rfl l_0 (fun hq72_ => ?_) (fun hq72_ => ?_)
                    · exact T_ret ⟨(i_rng (lo := (-2147483648)) (hi := 1048575) l_m4 (by omega) (by omega)), (by have e9 : ((-4 : Int32)).toInt = _ := l_m4; omega), gq67_, kq69_⟩
                    · refine T_qc (t_X5_solve_c7 hn hj  mv65 gq67_ (hq70_.resolve_left (by omega))) ?_
                      rintro rv73 mv74 ⟨hq75_, gq76_, kq77_⟩
                      have kq78_ := Sm.call kq69_ kq77_ rfl
                      have hq79_ := Or.imp_right (fun h_ => KJ_c (kq77_ 64 9 (by decide)) (funext (fun s_ => kq77_ 65 s_ (outc rfl))) h_) hq70_
                      have hq80_ : (mv74 1 1).toInt = (mv65 1 1).toInt := by rw [kq77_ 1 1 (by decide)]
                      refine T_lt rfl l_1048576 (fun hq81_ => ?_) (fun hq81_ => ?_)
                      · refine T_eq rfl l_10 (fun hq82_ => ?_) (fun hq82_ => ?_)
                        · exfalso; omega
                        · refine T_qc (t_X5_workerOf hn a3 mv74 gq76_ (i_rng (lo := 0) (hi := 7) rfl (by omega) (by omega))) ?_
                          rintro rv83 mv84 ⟨hq85_, gq86_, kq87_⟩
                          have hq88_ := kq87_.nil
                          subst hq88_
                          have hq89_ := i_full (rv83)
                          exact T_ret ⟨(i_rng (lo := (-2147483648)) (hi := 1048575) rfl (by omega) (by omega)), (by have e9 : (rv83).toInt = _ := rfl; omega), gq76_, kq78_⟩
                      · exact T_ret ⟨(i_rng (lo := (-2147483648)) (hi := 1048575) l_m3 (by omega) (by omega)), (by have e9 : ((-3 : Int32)).toInt = _ := l_m3; omega), gq76_, kq78_⟩
      · exact T_ret ⟨(i_rng (lo := (-2147483648)) (hi := 1048575) l_m1 (by omega) (by omega)), (by have e9 : ((-1 : Int32)).toInt = _ := l_m1; omega), hG, hS⟩
