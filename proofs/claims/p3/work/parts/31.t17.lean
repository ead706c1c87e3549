abbrev l_X0_goDays_c7 : List Bx := [(7, 8, 9, 10), (9, 12, 0, 0), (15, 16, 0, 0), (34, 35, 4, 5), (35, 37, 0, 0), (44, 45, 2, 10)]
abbrev po_X0_goDays_c7 (a2 : Int32) (M : qM) (v : Int32) (M' : qM) : Prop := (0 ≤ v.toInt ∧ v.toInt ≤ 0) ∧ G M' ∧ Sm l_X0_goDays_c7 M M'
theorem t_X0_goDays_c7_53 {n : Nat} (hn : 200000 ≤ n) {j : Nat} (hj : q_isLaw j) {oa2 : Int32} {M0 : qM} {K35 : Int32 → Int32 → qM → qR} {BK35 : Nat} (hK35 : ∀ (a2 a3 : Int32) (M : qM), G M → Sm l_X0_goDays_c7 M0 M → 1 ≤ a2.toInt ∧ a2.toInt ≤ 60 → (-2147483633) ≤ a3.toInt ∧ a3.toInt ≤ 60 → 60 - a3.toInt < (BK35 : Int) → qT (K35 a2 a3 M) (po_X0_goDays_c7 oa2 M0)) : ∀ (m : Nat) (a2 a3 a4 : Int32) (M : qM), G M → Sm l_X0_goDays_c7 M0 M → 1 ≤ a2.toInt ∧ a2.toInt ≤ 60 → (-2147483634) ≤ a3.toInt ∧ a3.toInt ≤ 59 → 0 ≤ a4.toInt ∧ a4.toInt ≤ 8 → 60 - a3.toInt < (BK35 : Int) + 1 → 8 - a4.toInt < (m : Int) → qT (f_X0_goDays_53 n 7 j K35 m a2 a3 a4 M) (po_X0_goDays_c7 oa2 M0) := by
  intro m
  induction m with
  | zero =>
    intro a2 a3 a4 M hG hS i0 i1 i2 i5 i6
    exfalso; omega
  | succ m ih =>
    intro a2 a3 a4 M hG hS i0 i1 i2 i5 i6
    show qT (b_X0_goDays_53 n 7 j K35 (f_X0_goDays_53 n 7 j K35 m) a2 a3 a4 M) _
    unfold b_X0_goDays_53
    try simp only [Nat.reduceAdd]
    refine T_le l_8 rfl (fun hq10_ => ?_) (fun hq10_ => ?_)
    · have hq12_ := i_full (M 7 9)
      refine T_mu hG hS (rn_7_9 _) (nw_7 _) (i := 0) rfl ⟨by decide, by decide, Or.inr ⟨by decide, by decide⟩⟩ ?_
      intro mv11 hq13_ gq14_ kq15_
      have hq16_ : (mv11 7 9).toInt = ((M 7 9) + (1 : Int32)).toInt := by rw [hq13_, mu_at]
      refine T_ql (i_add rfl l_1 (by omega) (by omega)) ?_
      intro xv17 hq18_
      exact hK35 a2 xv17 mv11 gq14_ kq15_ (i_rng (lo := 1) (hi := 60) rfl (by omega) (by omega)) (i_rng (lo := (-2147483633)) (hi := 60) rfl (by omega) (by omega)) (by omega)
    · refine T_qc (t_X10_knows_c7 hn a4 M hG ) ?_
      rintro rv19 mv20 ⟨hq21_, hq22_, gq23_, kq24_⟩
      have hq25_ := kq24_.nil
      subst hq25_
      refine T_eq rfl l_0 (fun hq26_ => ?_) (fun hq26_ => ?_)
      · refine T_ql (i_add rfl l_1 (by omega) (by omega)) ?_
        intro xv27 hq28_
        exact ih a2 a3 xv27 M hG hS (i_rng (lo := 1) (hi := 60) rfl (by omega) (by omega)) (i_rng (lo := (-2147483634)) (hi := 59) rfl (by omega) (by omega)) (i_rng (lo := 0) (hi := 8) rfl (by omega) (by omega)) (by omega) (by omega)
      · refine T_qc (t_X0_doSteps_c7 hn hj a4 M hG (i_rng (lo := 0) (hi := 7) rfl (by omega) (by omega))) ?_
        rintro rv29 mv30 ⟨hq31_, gq32_, kq33_⟩
        have kq34_ := Sm.call hS kq33_ rfl
        refine T_ql (i_add rfl l_1 (by omega) (by omega)) ?_
        intro xv35 hq36_
        exact ih a2 a3 xv35 mv30 gq32_ kq34_ (i_rng (lo := 1) (hi := 60) rfl (by omega) (by omega)) (i_rng (lo := (-2147483634)) (hi := 59) rfl (by omega) (by omega)) (i_rng (lo := 0) (hi := 8) rfl (by omega) (by omega)) (by omega) (by omega)
theorem t_X0_goDays_c7_35 {n : Nat} (hn : 200000 ≤ n) {j : Nat} (hj : q_isLaw j) {oa2 : Int32} {M0 : qM} : ∀ (m : Nat) (a2 a3 : Int32) (M : qM), G M → Sm l_X0_goDays_c7 M0 M → 1 ≤ a2.toInt ∧ a2.toInt ≤ 60 → (-2147483633) ≤ a3.toInt ∧ a3.toInt ≤ 60 → 60 - a3.toInt < (m : Int) → qT (f_X0_goDays_35 n 7 j m a2 a3 M) (po_X0_goDays_c7 oa2 M0) := by
  intro m
  induction m with
  | zero =>
    intro a2 a3 M hG hS i0 i1 i4
    exfalso; omega
  | succ m ih =>
    intro a2 a3 M hG hS i0 i1 i4
    show qT (b_X0_goDays_35 n 7 j (f_X0_goDays_35 n 7 j m) a2 a3 M) _
    unfold b_X0_goDays_35
    try simp only [Nat.reduceAdd]
    refine T_le rfl rfl (fun hq40_ => ?_) (fun hq40_ => ?_)
    · exact T_ret ⟨(i_rng (lo := 0) (hi := 0) l_0 (by omega) (by omega)), hG, hS⟩
    · refine T_le l_9999 rfl (fun hq41_ => ?_) (fun hq41_ => ?_)
      · exact T_ret ⟨(i_rng (lo := 0) (hi := 0) l_0 (by omega) (by omega)), hG, hS⟩
      · exact (t_X0_goDays_c7_53 hn hj ih) n a2 a3 (0 : Int32) M hG hS (i_rng (lo := 1) (hi := 60) rfl (by omega) (by omega)) (i_rng (lo := (-2147483634)) (hi := 59) rfl (by omega) (by omega)) (i_rng (lo := 0) (hi := 8) l_0 (by omega) (by omega)) (by omega) (by have e2 : ((0 : Int32)).toInt = _ := l_0; omega)
theorem t_X0_goDays_c7 {n : Nat} (hn : 200000 ≤ n) {j : Nat} (hj : q_isLaw j) (a2 : Int32) (M : qM) (hG : G M) (pa2 : 1 ≤ a2.toInt ∧ a2.toInt ≤ 60) : qT (f_X0_goDays n 7 j a2 M) (po_X0_goDays_c7 a2 M) := by
  have hS : Sm l_X0_goDays_c7 M M := Sm.rf
  unfold f_X0_goDays
  try simp only [Nat.reduceAdd]
  refine T_mu hG hS (rn_44_4 _) (nw_44 _) (i := 5) rfl ⟨by decide, by decide, Or.inr ⟨by decide, by decide⟩⟩ ?_
  intro mv42 hq43_ gq44_ kq45_
  have hq46_ : (mv42 44 4).toInt = 0 := by rw [hq43_, mu_at]; exact l_0
  refine T_mu gq44_ kq45_ (rn_44_5 _) (nw_44 _) (i := 5) rfl ⟨by decide, by decide, Or.inr ⟨by decide, by decide⟩⟩ ?_
  intro mv47 hq48_ gq49_ kq50_
  have hq51_ : (mv47 44 4).toInt = (mv42 44 4).toInt := by rw [hq48_, mu_ne (Or.inr (by decide))]
  have hq52_ : (mv47 44 5).toInt = 0 := by rw [hq48_, mu_at]; exact l_0
  refine T_mu gq49_ kq50_ (rn_44_6 _) (nw_44 _) (i := 5) rfl ⟨by decide, by decide, Or.inr ⟨by decide, by decide⟩⟩ ?_
  intro mv53 hq54_ gq55_ kq56_
  have hq57_ : (mv53 44 4).toInt = (mv47 44 4).toInt := by rw [hq54_, mu_ne (Or.inr (by decide))]
  have hq58_ : (mv53 44 5).toInt = (mv47 44 5).toInt := by rw [hq54_, mu_ne (Or.inr (by decide))]
  have hq59_ : (mv53 44 6).toInt = 0 := by rw [hq54_, mu_at]; exact l_0
  refine T_mu gq55_ kq56_ (rn_44_7 _) (nw_44 _) (i := 5) rfl ⟨by decide, by decide, Or.inr ⟨by decide, by decide⟩⟩ ?_
  intro mv60 hq61_ gq62_ kq63_
  have hq64_ : (mv60 44 4).toInt = (mv53 44 4).toInt := by rw [hq61_, mu_ne (Or.inr (by decide))]
  have hq65_ : (mv60 44 5).toInt = (mv53 44 5).toInt := by rw [hq61_, mu_ne (Or.inr (by decide))]
  have hq66_ : (mv60 44 6).toInt = (mv53 44 6).toInt := by rw [hq61_, mu_ne (Or.inr (by decide))]
  have hq67_ : (mv60 44 7).toInt = (-2) := by rw [hq61_, mu_at]; exact l_m2
  refine T_mu gq62_ kq63_ (rn_44_8 _) (nw_44 _) (i := 5) rfl ⟨by decide, by decide, Or.inr ⟨by decide, by decide⟩⟩ ?_
  intro mv68 hq69_ gq70_ kq71_
  have hq72_ : (mv68 44 4).toInt = (mv60 44 4).toInt := by rw [hq69_, mu_ne (Or.inr (by decide))]
  have hq73_ : (mv68 44 5).toInt = (mv60 44 5).toInt := by rw [hq69_, mu_ne (Or.inr (by decide))]
  have hq74_ : (mv68 44 6).toInt = (mv60 44 6).toInt := by rw [hq69_, mu_ne (Or.inr (by decide))]
  have hq75_ : (mv68 44 7).toInt = (mv60 44 7).toInt := by rw [hq69_, mu_ne (Or.inr (by decide))]
  have hq76_ : (mv68 44 8).toInt = (-2) := by rw [hq69_, mu_at]; exact l_m2
  refine T_mu gq70_ kq71_ (rn_44_9 _) (nw_44 _) (i := 5) rfl ⟨by decide, by decide, Or.inr ⟨by decide, by decide⟩⟩ ?_
  intro mv77 hq78_ gq79_ kq80_
  have hq81_ : (mv77 44 4).toInt = (mv68 44 4).toInt := by rw [hq78_, mu_ne (Or.inr (by decide))]
  have hq82_ : (mv77 44 5).toInt = (mv68 44 5).toInt := by rw [hq78_, mu_ne (Or.inr (by decide))]
  have hq83_ : (mv77 44 6).toInt = (mv68 44 6).toInt := by rw [hq78_, mu_ne (Or.inr (by decide))]
  have hq84_ : (mv77 44 7).toInt = (mv68 44 7).toInt := by rw [hq78_, mu_ne (Or.inr (by decide))]
  have hq85_ : (mv77 44 8).toInt = (mv68 44 8).toInt := by rw [hq78_, mu_ne (Or.inr (by decide))]
  have hq86_ : (mv77 44 9).toInt = (-2) := by rw [hq78_, mu_at]; exact l_m2
  exact (t_X0_goDays_c7_35 hn hj) n a2 (0 : Int32) mv77 gq79_ kq80_ (i_rng (lo := 1) (hi := 60) rfl (by omega) (by omega)) (i_rng (lo := (-2147483633)) (hi := 60) l_0 (by omega) (by omega)) (by have e1 : ((0 : Int32)).toInt = _ := l_0; omega)
abbrev l_X11_days : List Bx := [(7, 8, 9, 10), (9, 12, 0, 0), (15, 16, 0, 0), (34, 35, 4, 5), (35, 37, 0, 0), (44, 45, 2, 10)]
abbrev po_X11_days (a1 : Int32) (M : qM) (v : Int32) (M' : qM) : Prop := G M' ∧ Sm l_X11_days M M'
theorem t_X11_days {n : Nat} (hn : 200000 ≤ n) {j : Nat} (hj : q_isLaw j) (a1 : Int32) (M : qM) (hG : G M) : qT (f_X11_days n j a1 M) (po_X11_days a1 M) := by
  have hS : Sm l_X11_days M M := Sm.rf
  unfold f_X11_days
  refine T_lt rfl l_1 (fun hq1_ => ?_) (fun hq1_ => ?_)
  · exact T_ret ⟨hG, hS⟩
  · refine T_le rfl l_60 (fun hq2_ => ?_) (fun hq2_ => ?_)
    · refine T_qc (t_X0_goDays_c7 hn hj a1 M hG (i_rng (lo := 1) (hi := 60) rfl (by omega) (by omega))) ?_
      rintro rv3 mv4 ⟨hq5_, gq6_, kq7_⟩
      have kq8_ := Sm.call hS kq7_ rfl
      exact T_ret ⟨gq6_, kq8_⟩
    · exact T_ret ⟨hG, hS⟩
abbrev l_X12_notesTry : List Bx := [(77, 78, 37, 43)]
abbrev po_X12_notesTry (a1 a2 a3 : Int32) (M : qM) (v : Int32) (M' : qM) : Prop := (0 ≤ v.toInt ∧ v.toInt ≤ 0) ∧ G M' ∧ Sm l_X12_notesTry M M'
theorem t_X12_notesTry {n : Nat} (hn : 200000 ≤ n) (a1 a2 a3 : Int32) (M : qM) (hG : G M) (pa1 : 0 ≤ a1.toInt ∧ a1.toInt ≤ 7) (pa2 : 0 ≤ a2.toInt ∧ a2.toInt ≤ 11) (pa3 : (-2) ≤ a3.toInt ∧ a3.toInt ≤ 1) : qT (f_X12_notesTry n a1 a2 a3 M) (po_X12_notesTry a1 a2 a3 M) := by
  have hS : Sm l_X12_notesTry M M := Sm.rf
  unfold f_X12_notesTry
  have hq2_ := i_full (M 77 37)
  refine T_mu hG hS (rn_77_37 _) nw_77_37 (i := 0) rfl ⟨by decide, by decide, Or.inr ⟨by decide, by decide⟩⟩ ?_
  intro mv1 hq3_ gq4_ kq5_
  have hq6_ : (mv1 77 37).toInt = ((M 77 37) + (1 : Int32)).toInt := by rw [hq3_, mu_at]
  refine T_qg rfl (by omega) (by omega) ?_
  have hq8_ := i_full (mv1 77 39)
  have hq9_ := i_full (mv1 81 a2.toNatClampNeg)
  refine T_mu gq4_ kq5_ (rn_77_39 _) nw_77_39 (i := 0) rfl ⟨by decide, by decide, Or.inr ⟨by decide, by decide⟩⟩ ?_
  intro mv7 hq10_ gq11_ kq12_
  have hq13_ : (mv7 77 37).toInt = (mv1 77 37).toInt := by rw [hq10_, mu_ne (Or.inr (by decide))]
  have hq14_ : (mv7 77 39).toInt = ((mv1 77 39) + (mv1 81 a2.toNatClampNeg)).toInt := by rw [hq10_, mu_at]
  refine T_eq rfl l_1 (fun hq15_ => ?_) (fun hq15_ => ?_)
  · unfold f_X12_notesTry_40
    have hq17_ := i_full (mv7 77 38)
    refine T_mu gq11_ kq12_ (rn_77_38 _) nw_77_38 (i := 0) rfl ⟨by decide, by decide, Or.inr ⟨by decide, by decide⟩⟩ ?_
    intro mv16 hq18_ gq19_ kq20_
    have hq21_ : (mv16 77 37).toInt = (mv7 77 37).toInt := by rw [hq18_, mu_ne (Or.inr (by decide))]
    have hq22_ : (mv16 77 39).toInt = (mv7 77 39).toInt := by rw [hq18_, mu_ne (Or.inr (by decide))]
    have hq23_ : (mv16 77 38).toInt = ((mv7 77 38) + (1 : Int32)).toInt := by rw [hq18_, mu_at]
    refine T_eq rfl l_m2 (fun hq24_ => ?_) (fun hq24_ => ?_)
    · exfalso; omega
    · exact T_ret ⟨(i_rng (lo := 0) (hi := 0) l_0 (by omega) (by omega)), gq19_, kq20_⟩
  · unfold f_X12_notesTry_40
    have hq26_ := i_full (mv7 77 38)
    refine T_mu gq11_ kq12_ (rn_77_38 _) nw_77_38 (i := 0) rfl ⟨by decide, by decide, Or.inr ⟨by decide, by decide⟩⟩ ?_
    intro mv25 hq27_ gq28_ kq29_
    have hq30_ : (mv25 77 37).toInt = (mv7 77 37).toInt := by rw [hq27_, mu_ne (Or.inr (by decide))]
    have hq31_ : (mv25 77 39).toInt = (mv7 77 39).toInt := by rw [hq27_, mu_ne (Or.inr (by decide))]
    have hq32_ : (mv25 77 38).toInt = ((mv7 77 38).toInt + 0) := by rw [hq27_, mu_at]; exact (i_add rfl l_0 (by omega) (by omega))
    refine T_eq rfl l_m2 (fun hq33_ => ?_) (fun hq33_ => ?_)
    · refine T_eq rfl l_m2 (fun hq34_ => ?_) (fun hq34_ => ?_)
      · refine T_mu gq28_ kq29_ (rn_77_40 _) nw_77_40 (i := 0) rfl ⟨by decide, by decide, Or.inr ⟨by decide, by decide⟩⟩ ?_
        intro mv35 hq36_ gq37_ kq38_
        have hq39_ : (mv35 77 37).toInt = (mv25 77 37).toInt := by rw [hq36_, mu_ne (Or.inr (by decide))]
        have hq40_ : (mv35 77 39).toInt = (mv25 77 39).toInt := by rw [hq36_, mu_ne (Or.inr (by decide))]
        have hq41_ : (mv35 77 38).toInt = (mv25 77 38).toInt := by rw [hq36_, mu_ne (Or.inr (by decide))]
        have hq42_ : (mv35 77 40).toInt = (mv25 78 313).toInt := by rw [hq36_, mu_at]
        refine T_mu gq37_ kq38_ (rn_77_41 _) nw_77_41 (i := 0) rfl ⟨by decide, by decide, Or.inr ⟨by decide, by decide⟩⟩ ?_
        intro mv43 hq44_ gq45_ kq46_
        have hq47_ : (mv43 77 37).toInt = (mv35 77 37).toInt := by rw [hq44_, mu_ne (Or.inr (by decide))]
        have hq48_ : (mv43 77 39).toInt = (mv35 77 39).toInt := by rw [hq44_, mu_ne (Or.inr (by decide))]
        have hq49_ : (mv43 77 38).toInt = (mv35 77 38).toInt := by rw [hq44_, mu_ne (Or.inr (by decide))]
        have hq50_ : (mv43 77 40).toInt = (mv35 77 40).toInt := by rw [hq44_, mu_ne (Or.inr (by decide))]
        have hq51_ : (mv43 77 41).toInt = a1.toInt := by rw [hq44_, mu_at]
        refine T_mu gq45_ kq46_ (rn_77_42 _) nw_77_42 (i := 0) rfl ⟨by decide, by decide, Or.inr ⟨by decide, by decide⟩⟩ ?_
        intro mv52 hq53_ gq54_ kq55_
        have hq56_ : (mv52 77 37).toInt = (mv43 77 37).toInt := by rw [hq53_, mu_ne (Or.inr (by decide))]
        have hq57_ : (mv52 77 39).toInt = (mv43 77 39).toInt := by rw [hq53_, mu_ne (Or.inr (by decide))]
        have hq58_ : (mv52 77 38).toInt = (mv43 77 38).toInt := by rw [hq53_, mu_ne (Or.inr (by decide))]
        have hq59_ : (mv52 77 40).toInt = (mv43 77 40).toInt := by rw [hq53_, mu_ne (Or.inr (by decide))]
        have hq60_ : (mv52 77 41).toInt = (mv43 77 41).toInt := by rw [hq53_, mu_ne (Or.inr (by decide))]
        have hq61_ : (mv52 77 42).toInt = a2.toInt := by rw [hq53_, mu_at]
        exact T_ret ⟨(i_rng (lo := 0) (hi := 0) l_0 (by omega) (by omega)), gq54_, kq55_⟩
      · exact T_ret ⟨(i_rng (lo := 0) (hi := 0) l_0 (by omega) (by omega)), gq28_, kq29_⟩
    · exact T_ret ⟨(i_rng (lo := 0) (hi := 0) l_0 (by omega) (by omega)), gq28_, kq29_⟩
abbrev l_X12_dayOf : List Bx := [(77, 78, 37, 43), (78, 79, 0, 954), (96, 98, 0, 0)]
abbrev po_X12_dayOf (a1 : Int32) (M : qM) (v : Int32) (M' : qM) : Prop := (0 ≤ v.toInt ∧ v.toInt ≤ 0) ∧ G M' ∧ Sm l_X12_dayOf M M'
theorem t_X12_dayOf_3 {n : Nat} (hn : 200000 ≤ n) {oa1 : Int32} {M0 : qM} : ∀ (m : Nat) (a1 a2 : Int32) (M : qM), G M → Sm l_X12_dayOf M0 M → 0 ≤ a1.toInt ∧ a1.toInt ≤ 7 → 40 - (M 78 ((304 : Int32) + a1).toNatClampNeg).toInt < (m : Int) → qT (f_X12_dayOf_3 n m a1 a2 M) (po_X12_dayOf oa1 M0) := by
  intro m
  induction m with
  | zero =>
    intro a1 a2 M hG hS i0 i3
    have hq1_ := r78 (c := 78) (s := (((304 : Int32) + a1).toNatClampNeg)) hG (by decide) (by rw [tnc, (i_add l_304 rfl (by omega) (by omega))]; omega) (by rw [tnc, (i_add l_304 rfl (by omega) (by omega))]; omega)
    have hq2_ := r78 (c := 78) (s := (((296 : Int32) + a1).toNatClampNeg)) hG (by decide) (by rw [tnc, (i_add l_296 rfl (by omega) (by omega))]; omega) (by rw [tnc, (i_add l_296 rfl (by omega) (by omega))]; omega)
    exfalso; omega
  | succ m ih =>
    intro a1 a2 M hG hS i0 i3
    show qT (b_X12_dayOf_3 n (f_X12_dayOf_3 n m) a1 a2 M) _
    unfold b_X12_dayOf_3
    have hq1_ := r78 (c := 78) (s := (((304 : Int32) + a1).toNatClampNeg)) hG (by decide) (by rw [tnc, (i_add l_304 rfl (by omega) (by omega))]; omega) (by rw [tnc, (i_add l_304 rfl (by omega) (by omega))]; omega)
    have hq2_ := r78 (c := 78) (s := (((296 : Int32) + a1).toNatClampNeg)) hG (by decide) (by rw [tnc, (i_add l_296 rfl (by omega) (by omega))]; omega) (by rw [tnc, (i_add l_296 rfl (by omega) (by omega))]; omega)
    refine T_qg (i_add l_304 rfl (by omega) (by omega)) (by omega) (by omega) ?_
    refine T_qg (i_add l_296 rfl (by omega) (by omega)) (by omega) (by omega) ?_
    refine T_le rfl rfl (fun hq3_ => ?_) (fun hq3_ => ?_)
    · exact T_ret ⟨(i_rng (lo := 0) (hi := 0) l_0 (by omega) (by omega)), hG, hS⟩
    · refine T_qg (i_add l_304 rfl (by omega) (by omega)) (by omega) (by omega) ?_
      refine T_ql (i_add (i_mul l_40 rfl (by omega) (by omega)) rfl (by omega) (by omega)) ?_
      intro xv4 hq5_
      refine T_qg (i_add l_314 rfl (by omega) (by omega)) (by omega) (by omega) ?_
      refine T_ql rfl ?_
      intro xv6 hq7_
      refine T_qg (i_add l_634 rfl (by omega) (by omega)) (by omega) (by omega) ?_
      refine T_ql rfl ?_
      intro xv8 hq9_
      refine T_qc (t_X12_isKind hn xv6 M hG ) ?_
      rintro rv10 mv11 ⟨hq12_, hq13_, gq14_, kq15_⟩
      have hq16_ := kq15_.nil
      subst hq16_
      refine T_eq rfl l_0 (fun hq17_ => ?_) (fun hq17_ => ?_)
      · unfold f_X12_dayOf_101
        unfold f_X12_dayOf_102
        refine T_eq l_0 l_0 (fun hq18_ => ?_) (fun hq18_ => ?_)
        · unfold f_X12_dayOf_121
          refine T_qg (i_add l_304 rfl (by omega) (by omega)) (by omega) (by omega) ?_
          refine T_qg (i_add l_304 rfl (by omega) (by omega)) (by omega) (by omega) ?_
          refine T_mu hG hS (ri78 (by decide) (i_rng (lo := 0) (hi := 40) (i_add rfl l_1 (by omega) (by omega)) (by omega) (by omega))) (nw_78 _) (i := 1) rfl ⟨by decide, by decide, Or.inr ⟨(show 0 ≤ _ by rw [tnc, (i_add l_304 rfl (by omega) (by omega))]; omega), (show _ < 954 by rw [tnc, (i_add l_304 rfl (by omega) (by omega))]; omega)⟩⟩ ?_
          intro mv19 hq20_ gq21_ kq22_
          have hq23_ : (mv19 78 (((304 : Int32) + a1).toNatClampNeg)).toInt = ((M 78 (((304 : Int32) + a1).toNatClampNeg)).toInt + 1) := by rw [hq20_, mu_at]; exact (i_add rfl l_1 (by omega) (by omega))
          refine T_eq l_0 l_0 (fun hq24_ => ?_) (fun hq24_ => ?_)
          · have hq25_ := r78 (c := 78) (s := (((304 : Int32) + a1).toNatClampNeg)) gq21_ (by decide) (by rw [tnc, (i_add l_304 rfl (by omega) (by omega))]; omega) (by rw [tnc, (i_add l_304 rfl (by omega) (by omega))]; omega)
            have hq26_ := r78 (c := 78) (s := (((296 : Int32) + a1).toNatClampNeg)) gq21_ (by decide) (by rw [tnc, (i_add l_296 rfl (by omega) (by omega))]; omega) (by rw [tnc, (i_add l_296 rfl (by omega) (by omega))]; omega)
            exact ih a1 a2 mv19 gq21_ kq22_ (i_rng (lo := 0) (hi := 7) rfl (by omega) (by omega)) (by omega)
          · exfalso; omega
        · exfalso; omega
      · refine T_eq rfl rfl (fun hq27_ => ?_) (fun hq27_ => ?_)
        · unfold f_X12_dayOf_101
          unfold f_X12_dayOf_102
          refine T_eq l_0 l_0 (fun hq28_ => ?_) (fun hq28_ => ?_)
          · unfold f_X12_dayOf_121
            refine T_qg (i_add l_304 rfl (by omega) (by omega)) (by omega) (by omega) ?_
            refine T_qg (i_add l_304 rfl (by omega) (by omega)) (by omega) (by omega) ?_
            refine T_mu hG hS (ri78 (by decide) (i_rng (lo := 0) (hi := 40) (i_add rfl l_1 (by omega) (by omega)) (by omega) (by omega))) (nw_78 _) (i := 1) rfl ⟨by decide, by decide, Or.inr ⟨(show 0 ≤ _ by rw [tnc, (i_add l_304 rfl (by omega) (by omega))]; omega), (show _ < 954 by rw [tnc, (i_add l_304 rfl (by omega) (by omega))]; omega)⟩⟩ ?_
            intro mv29 hq30_ gq31_ kq32_
            have hq33_ : (mv29 78 (((304 : Int32) + a1).toNatClampNeg)).toInt = ((M 78 (((304 : Int32) + a1).toNatClampNeg)).toInt + 1) := by rw [hq30_, mu_at]; exact (i_add rfl l_1 (by omega) (by omega))
            refine T_eq l_0 l_0 (fun hq34_ => ?_) (fun hq34_ => ?_)
            · have hq35_ := r78 (c := 78) (s := (((304 : Int32) + a1).toNatClampNeg)) gq31_ (by decide) (by rw [tnc, (i_add l_304 rfl (by omega) (by omega))]; omega) (by rw [tnc, (i_add l_304 rfl (by omega) (by omega))]; omega)
              have hq36_ := r78 (c := 78) (s := (((296 : Int32) + a1).toNatClampNeg)) gq31_ (by decide) (by rw [tnc, (i_add l_296 rfl (by omega) (by omega))]; omega) (by rw [tnc, (i_add l_296 rfl (by omega) (by omega))]; omega)
              exact ih a1 a2 mv29 gq31_ kq32_ (i_rng (lo := 0) (hi := 7) rfl (by omega) (by omega)) (by omega)
            · exfalso; omega
          · exfalso; omega
        · refine T_eq rfl l_8 (fun hq37_ => ?_) (fun hq37_ => ?_)
          · unfold f_X12_dayOf_102
            refine T_eq l_1 l_0 (fun hq38_ => ?_) (fun hq38_ => ?_)
            · exfalso; omega
            · refine T_qg rfl (by omega) (by omega) ?_
              refine T_le rfl rfl (fun hq39_ => ?_) (fun hq39_ => ?_)
              · unfold f_X12_dayOf_121
                refine T_qg (i_add l_304 rfl (by omega) (by omega)) (by omega) (by omega) ?_
                refine T_qg (i_add l_304 rfl (by omega) (by omega)) (by omega) (by omega) ?_
                refine T_mu hG hS (ri78 (by decide) (i_rng (lo := 0) (hi := 40) (i_add rfl l_1 (by omega) (by omega)) (by omega) (by omega))) (nw_78 _) (i := 1) rfl ⟨by decide, by decide, Or.inr ⟨(show 0 ≤ _ by rw [tnc, (i_add l_304 rfl (by omega) (by omega))]; omega), (show _ < 954 by rw [tnc, (i_add l_304 rfl (by omega) (by omega))]; omega)⟩⟩ ?_
                intro mv40 hq41_ gq42_ kq43_
                have hq44_ : (mv40 81 xv6.toNatClampNeg).toInt = (M 81 xv6.toNatClampNeg).toInt := by rw [hq41_, mu_ne (Or.inl (by decide))]
                have hq45_ : (mv40 78 (((304 : Int32) + a1).toNatClampNeg)).toInt = ((M 78 (((304 : Int32) + a1).toNatClampNeg)).toInt + 1) := by rw [hq41_, mu_at]; exact (i_add rfl l_1 (by omega) (by omega))
                refine T_eq l_1 l_0 (fun hq46_ => ?_) (fun hq46_ => ?_)
                · exfalso; omega
                · refine T_qg rfl (by omega) (by omega) ?_
                  have hq47_ := i_full (a2)
                  have hq48_ := i_full (mv40 81 xv6.toNatClampNeg)
                  refine T_ql rfl ?_
                  intro xv49 hq50_
                  refine T_qc (t_X12_triesNow hn a1 xv6 xv8 mv40 gq42_ (i_rng (lo := 0) (hi := 7) rfl (by omega) (by omega)) (i_rng (lo := 0) (hi := 11) rfl (by omega) (by omega)) (i_rng (lo := 0) (hi := 8) rfl (by omega) (by omega))) ?_
                  rintro rv51 mv52 ⟨hq53_, gq54_, kq55_⟩
                  have kq56_ := Sm.call kq43_ kq55_ rfl
                  have hq57_ : (mv52 81 xv6.toNatClampNeg).toInt = (mv40 81 xv6.toNatClampNeg).toInt := by rw [kq55_ 81 _ (outc rfl)]
                  have hq58_ : (mv52 78 (((304 : Int32) + a1).toNatClampNeg)).toInt = (mv40 78 (((304 : Int32) + a1).toNatClampNeg)).toInt := by rw [kq55_ 78 _ (out78 (lo := 304) (hi := 312) rfl (by rw [tnc, (i_add l_304 rfl (by omega) (by omega))]; omega) (by rw [tnc, (i_add l_304 rfl (by omega) (by omega))]; omega))]
                  refine T_qc (t_X12_notesTry hn a1 xv6 rv51 mv52 gq54_ (i_rng (lo := 0) (hi := 7) rfl (by omega) (by omega)) (i_rng (lo := 0) (hi := 11) rfl (by omega) (by omega)) (i_rng (lo := (-2)) (hi := 1) rfl (by omega) (by omega))) ?_
                  rintro rv59 mv60 ⟨hq61_, gq62_, kq63_⟩
                  have kq64_ := Sm.call kq56_ kq63_ rfl
                  have hq65_ : (mv60 81 xv6.toNatClampNeg).toInt = (mv52 81 xv6.toNatClampNeg).toInt := by rw [kq63_ 81 _ (outc rfl)]
                  have hq66_ : (mv60 78 (((304 : Int32) + a1).toNatClampNeg)).toInt = (mv52 78 (((304 : Int32) + a1).toNatClampNeg)).toInt := by rw [kq63_ 78 _ (out78 (lo := 304) (hi := 312) rfl (by rw [tnc, (i_add l_304 rfl (by omega) (by omega))]; omega) (by rw [tnc, (i_add l_304 rfl (by omega) (by omega))]; omega))]
                  have hq67_ := r78 (c := 78) (s := (((304 : Int32) + a1).toNatClampNeg)) gq62_ (by decide) (by rw [tnc, (i_add l_304 rfl (by omega) (by omega))]; omega) (by rw [tnc, (i_add l_304 rfl (by omega) (by omega))]; omega)
                  have hq68_ := r78 (c := 78) (s := (((296 : Int32) + a1).toNatClampNeg)) gq62_ (by decide) (by rw [tnc, (i_add l_296 rfl (by omega) (by omega))]; omega) (by rw [tnc, (i_add l_296 rfl (by omega) (by omega))]; omega)
                  exact ih a1 xv49 mv60 gq62_ kq64_ (i_rng (lo := 0) (hi := 7) rfl (by omega) (by omega)) (by omega)
              · exact T_ret ⟨(i_rng (lo := 0) (hi := 0) l_0 (by omega) (by omega)), hG, hS⟩
          · refine T_qc (t_X12_isPerson hn xv8 M hG ) ?_
            rintro rv69 mv70 ⟨hq71_, hq72_, gq73_, kq74_⟩
            have hq75_ := kq74_.nil
            subst hq75_
            refine T_eq rfl l_0 (fun hq76_ => ?_) (fun hq76_ => ?_)
            · unfold f_X12_dayOf_101
              unfold f_X12_dayOf_102
              refine T_eq l_0 l_0 (fun hq77_ => ?_) (fun hq77_ => ?_)
              · unfold f_X12_dayOf_121
                refine T_qg (i_add l_304 rfl (by omega) (by omega)) (by omega) (by omega) ?_
                refine T_qg (i_add l_304 rfl (by omega) (by omega)) (by omega) (by omega) ?_
                refine T_mu hG hS (ri78 (by decide) (i_rng (lo := 0) (hi := 40) (i_add rfl l_1 (by omega) (by omega)) (by omega) (by omega))) (nw_78 _) (i := 1) rfl ⟨by decide, by decide, Or.inr ⟨(show 0 ≤ _ by rw [tnc, (i_add l_304 rfl (by omega) (by omega))]; omega), (show _ < 954 by rw [tnc, (i_add l_304 rfl (by omega) (by omega))]; omega)⟩⟩ ?_
                intro mv78 hq79_ gq80_ kq81_
                have hq82_ : (mv78 78 (((304 : Int32) + a1).toNatClampNeg)).toInt = ((M 78 (((304 : Int32) + a1).toNatClampNeg)).toInt + 1) := by rw [hq79_, mu_at]; exact (i_add rfl l_1 (by omega) (by omega))
                refine T_eq l_0 l_0 (fun hq83_ => ?_) (fun hq83_ => ?_)
                · have hq84_ := r78 (c := 78) (s := (((304 : Int32) + a1).toNatClampNeg)) gq80_ (by decide) (by rw [tnc, (i_add l_304 rfl (by omega) (by omega))]; omega) (by rw [tnc, (i_add l_304 rfl (by omega) (by omega))]; omega)
                  have hq85_ := r78 (c := 78) (s := (((296 : Int32) + a1).toNatClampNeg)) gq80_ (by decide) (by rw [tnc, (i_add l_296 rfl (by omega) (by omega))]; omega) (by rw [tnc, (i_add l_296 rfl (by omega) (by omega))]; omega)
                  exact ih a1 a2 mv78 gq80_ kq81_ (i_rng (lo := 0) (hi := 7) rfl (by omega) (by omega)) (by omega)
                · exfalso; omega
              · exfalso; omega
            · unfold f_X12_dayOf_102
              refine T_eq l_1 l_0 (fun hq86_ => ?_) (fun hq86_ => ?_)
              · exfalso; omega
              · refine T_qg rfl (by omega) (by omega) ?_
                refine T_le rfl rfl (fun hq87_ => ?_) (fun hq87_ => ?_)
                · unfold f_X12_dayOf_121
                  refine T_qg (i_add l_304 rfl (by omega) (by omega)) (by omega) (by omega) ?_
                  refine T_qg (i_add l_304 rfl (by omega) (by omega)) (by omega) (by omega) ?_
                  refine T_mu hG hS (ri78 (by decide) (i_rng (lo := 0) (hi := 40) (i_add rfl l_1 (by omega) (by omega)) (by omega) (by omega))) (nw_78 _) (i := 1) rfl ⟨by decide, by decide, Or.inr ⟨(show 0 ≤ _ by rw [tnc, (i_add l_304 rfl (by omega) (by omega))]; omega), (show _ < 954 by rw [tnc, (i_add l_304 rfl (by omega) (by omega))]; omega)⟩⟩ ?_
                  intro mv88 hq89_ gq90_ kq91_
                  have hq92_ : (mv88 81 xv6.toNatClampNeg).toInt = (M 81 xv6.toNatClampNeg).toInt := by rw [hq89_, mu_ne (Or.inl (by decide))]
                  have hq93_ : (mv88 78 (((304 : Int32) + a1).toNatClampNeg)).toInt = ((M 78 (((304 : Int32) + a1).toNatClampNeg)).toInt + 1) := by rw [hq89_, mu_at]; exact (i_add rfl l_1 (by omega) (by omega))
                  refine T_eq l_1 l_0 (fun hq94_ => ?_) (fun hq94_ => ?_)
                  · exfalso; omega
                  · refine T_qg rfl (by omega) (by omega) ?_
                    have hq95_ := i_full (a2)
                    have hq96_ := i_full (mv88 81 xv6.toNatClampNeg)
                    refine T_ql rfl ?_
                    intro xv97 hq98_
                    refine T_qc (t_X12_triesNow hn a1 xv6 xv8 mv88 gq90_ (i_rng (lo := 0) (hi := 7) rfl (by omega) (by omega)) (i_rng (lo := 0) (hi := 11) rfl (by omega) (by omega)) (i_rng (lo := 0) (hi := 8) rfl (by omega) (by omega))) ?_
                    rintro rv99 mv100 ⟨hq101_, gq102_, kq103_⟩
                    have kq104_ := Sm.call kq91_ kq103_ rfl
                    have hq105_ : (mv100 81 xv6.toNatClampNeg).toInt = (mv88 81 xv6.toNatClampNeg).toInt := by rw [kq103_ 81 _ (outc rfl)]
                    have hq106_ : (mv100 78 (((304 : Int32) + a1).toNatClampNeg)).toInt = (mv88 78 (((304 : Int32) + a1).toNatClampNeg)).toInt := by rw [kq103_ 78 _ (out78 (lo := 304) (hi := 312) rfl (by rw [tnc, (i_add l_304 rfl (by omega) (by omega))]; omega) (by rw [tnc, (i_add l_304 rfl (by omega) (by omega))]; omega))]
                    refine T_qc (t_X12_notesTry hn a1 xv6 rv99 mv100 gq102_ (i_rng (lo := 0) (hi := 7) rfl (by omega) (by omega)) (i_rng (lo := 0) (hi := 11) rfl (by omega) (by omega)) (i_rng (lo := (-2)) (hi := 1) rfl (by omega) (by omega))) ?_
                    rintro rv107 mv108 ⟨hq109_, gq110_, kq111_⟩
                    have kq112_ := Sm.call kq104_ kq111_ rfl
                    have hq113_ : (mv108 81 xv6.toNatClampNeg).toInt = (mv100 81 xv6.toNatClampNeg).toInt := by rw [kq111_ 81 _ (outc rfl)]
                    have hq114_ : (mv108 78 (((304 : Int32) + a1).toNatClampNeg)).toInt = (mv100 78 (((304 : Int32) + a1).toNatClampNeg)).toInt := by rw [kq111_ 78 _ (out78 (lo := 304) (hi := 312) rfl (by rw [tnc, (i_add l_304 rfl (by omega) (by omega))]; omega) (by rw [tnc, (i_add l_304 rfl (by omega) (by omega))]; omega))]
                    have hq115_ := r78 (c := 78) (s := (((304 : Int32) + a1).toNatClampNeg)) gq110_ (by decide) (by rw [tnc, (i_add l_304 rfl (by omega) (by omega))]; omega) (by rw [tnc, (i_add l_304 rfl (by omega) (by omega))]; omega)
                    have hq116_ := r78 (c := 78) (s := (((296 : Int32) + a1).toNatClampNeg)) gq110_ (by decide) (by rw [tnc, (i_add l_296 rfl (by omega) (by omega))]; omega) (by rw [tnc, (i_add l_296 rfl (by omega) (by omega))]; omega)
                    exact ih a1 xv97 mv108 gq110_ kq112_ (i_rng (lo := 0) (hi := 7) rfl (by omega) (by omega)) (by omega)
                · exact T_ret ⟨(i_rng (lo := 0) (hi := 0) l_0 (by omega) (by omega)), hG, hS⟩
theorem t_X12_dayOf {n : Nat} (hn : 200000 ≤ n) (a1 : Int32) (M : qM) (hG : G M) (pa1 : 0 ≤ a1.toInt ∧ a1.toInt ≤ 7) : qT (f_X12_dayOf n a1 M) (po_X12_dayOf a1 M) := by
  have hS : Sm l_X12_dayOf M M := Sm.rf
  unfold f_X12_dayOf
  have hq117_ := r78 (c := 78) (s := (((304 : Int32) + a1).toNatClampNeg)) hG (by decide) (by rw [tnc, (i_add l_304 rfl (by omega) (by omega))]; omega) (by rw [tnc, (i_add l_304 rfl (by omega) (by omega))]; omega)
  have hq118_ := r78 (c := 78) (s := (((296 : Int32) + a1).toNatClampNeg)) hG (by decide) (by rw [tnc, (i_add l_296 rfl (by omega) (by omega))]; omega) (by rw [tnc, (i_add l_296 rfl (by omega) (by omega))]; omega)
  exact (t_X12_dayOf_3 hn) n a1 (12 : Int32) M hG hS (i_rng (lo := 0) (hi := 7) rfl (by omega) (by omega)) (by have e1 : ((12 : Int32)).toInt = _ := l_12; omega)
