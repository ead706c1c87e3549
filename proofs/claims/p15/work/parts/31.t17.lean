abbrev l_X0_goDays_c7 : List Bx := [(7, 8, 9, 10), (9, 12, 0, 0), (15, 16, 0, 0), (34, 35, 4, 5), (35, 37, 0, 0), (44, 45, 2, 10)]
abbrev po_X0_goDays_c7 (a2 : Int32) (M : qM) (v : Int32) (M' : qM) : Prop := (0 ≤ v.toInt ∧ v.toInt ≤ 0) ∧ (((9999 ≤ (M 7 9).toInt ∧ (M' 7 9).toInt = (M 7 9).toInt) ∨ ((M 7 9).toInt < 9999 ∧ (M 7 9).toInt + a2.toInt ≤ 9999 ∧ (M' 7 9).toInt = (M 7 9).toInt + a2.toInt) ∨ ((M 7 9).toInt < 9999 ∧ 9999 < (M 7 9).toInt + a2.toInt ∧ (M' 7 9).toInt = 9999))) ∧ G M' ∧ Sm l_X0_goDays_c7 M M'
theorem t_X0_goDays_c7_53 {n : Nat} (hn : 200000 ≤ n) {j : Nat} (hj : q_isLaw j) {oa2 : Int32} {M0 : qM} {K35 : Int32 → Int32 → qM → qR} {BK35 : Nat} (hK35 : ∀ (a2 a3 : Int32) (M : qM), G M → Sm l_X0_goDays_c7 M0 M → 1 ≤ a2.toInt ∧ a2.toInt ≤ 60 → (-2147483633) ≤ a3.toInt ∧ a3.toInt ≤ 60 → (a2.toInt = oa2.toInt ∧ a3.toInt ≤ a2.toInt ∧ ((a3.toInt = 0 ∧ (M 7 9).toInt = (M0 7 9).toInt) ∨ ((M0 7 9).toInt < 9999 ∧ (M 7 9).toInt = (M0 7 9).toInt + a3.toInt ∧ (M 7 9).toInt ≤ 9999))) → 60 - a3.toInt < (BK35 : Int) → qT (K35 a2 a3 M) (po_X0_goDays_c7 oa2 M0)) : ∀ (m : Nat) (a2 a3 a4 : Int32) (M : qM), G M → Sm l_X0_goDays_c7 M0 M → 1 ≤ a2.toInt ∧ a2.toInt ≤ 60 → (-2147483634) ≤ a3.toInt ∧ a3.toInt ≤ 59 → 0 ≤ a4.toInt ∧ a4.toInt ≤ 8 → (a2.toInt = oa2.toInt ∧ a3.toInt ≤ a2.toInt ∧ ((a3.toInt = 0 ∧ (M 7 9).toInt = (M0 7 9).toInt) ∨ ((M0 7 9).toInt < 9999 ∧ (M 7 9).toInt = (M0 7 9).toInt + a3.toInt ∧ (M 7 9).toInt ≤ 9999)) ∧ (M 7 9).toInt < 9999 ∧ a3.toInt < a2.toInt) → 60 - a3.toInt < (BK35 : Int) + 1 → 8 - a4.toInt < (m : Int) → qT (f_X0_goDays_53 n 7 j K35 m a2 a3 a4 M) (po_X0_goDays_c7 oa2 M0) := by
  intro m
  induction m with
  | zero =>
    intro a2 a3 a4 M hG hS i0 i1 i2 hE i6 i7
    exfalso; omega
  | succ m ih =>
    intro a2 a3 a4 M hG hS i0 i1 i2 hE i6 i7
    show qT (b_X0_goDays_53 n 7 j K35 (f_X0_goDays_53 n 7 j K35 m) a2 a3 a4 M) _
    unfold b_X0_goDays_53
    try simp only [Nat.reduceAdd]
    refine T_le l_8 rfl (fun hq10_ => ?_) (fun hq10_ => ?_)
    · have hq12_ := i_full (M 7 9)
      refine T_mu hG hS (rn_7_9 _) (nw_7 _) (i := 0) rfl ⟨by decide, by decide, Or.inr ⟨by decide, by decide⟩⟩ ?_
      intro mv11 hq13_ gq14_ kq15_
      have hq16_ : (mv11 7 9).toInt = ((M 7 9).toInt + 1) := by rw [hq13_, mu_at]; exact (i_add rfl l_1 (by omega) (by omega))
      refine T_ql (i_add rfl l_1 (by omega) (by omega)) ?_
      intro xv17 hq18_
      exact hK35 a2 xv17 mv11 gq14_ kq15_ (i_rng (lo := 1) (hi := 60) rfl (by omega) (by omega)) (i_rng (lo := (-2147483633)) (hi := 60) rfl (by omega) (by omega)) (by omega) (by omega)
    · refine T_qc (t_X10_knows_c7 hn a4 M hG ) ?_
      rintro rv19 mv20 ⟨hq21_, hq22_, gq23_, kq24_⟩
      have hq25_ := kq24_.nil
      subst hq25_
      refine T_eq rfl l_0 (fun hq26_ => ?_) (fun hq26_ => ?_)
      · refine T_ql (i_add rfl l_1 (by omega) (by omega)) ?_
        intro xv27 hq28_
        exact ih a2 a3 xv27 M hG hS (i_rng (lo := 1) (hi := 60) rfl (by omega) (by omega)) (i_rng (lo := (-2147483634)) (hi := 59) rfl (by omega) (by omega)) (i_rng (lo := 0) (hi := 8) rfl (by omega) (by omega)) (by omega) (by omega) (by omega)
      · refine T_qc (t_X0_doSteps_c7 hn hj a4 M hG (i_rng (lo := 0) (hi := 7) rfl (by omega) (by omega))) ?_
        rintro rv29 mv30 ⟨hq31_, gq32_, kq33_⟩
        have kq34_ := Sm.call hS kq33_ rfl
        have hq35_ : (mv30 7 9).toInt = (M 7 9).toInt := by rw [kq33_ 7 9 (by decide)]
        refine T_ql (i_add rfl l_1 (by omega) (by omega)) ?_
        intro xv36 hq37_
        exact ih a2 a3 xv36 mv30 gq32_ kq34_ (i_rng (lo := 1) (hi := 60) rfl (by omega) (by omega)) (i_rng (lo := (-2147483634)) (hi := 59) rfl (by omega) (by omega)) (i_rng (lo := 0) (hi := 8) rfl (by omega) (by omega)) (by omega) (by omega) (by omega)
theorem t_X0_goDays_c7_35 {n : Nat} (hn : 200000 ≤ n) {j : Nat} (hj : q_isLaw j) {oa2 : Int32} {M0 : qM} : ∀ (m : Nat) (a2 a3 : Int32) (M : qM), G M → Sm l_X0_goDays_c7 M0 M → 1 ≤ a2.toInt ∧ a2.toInt ≤ 60 → (-2147483633) ≤ a3.toInt ∧ a3.toInt ≤ 60 → (a2.toInt = oa2.toInt ∧ a3.toInt ≤ a2.toInt ∧ ((a3.toInt = 0 ∧ (M 7 9).toInt = (M0 7 9).toInt) ∨ ((M0 7 9).toInt < 9999 ∧ (M 7 9).toInt = (M0 7 9).toInt + a3.toInt ∧ (M 7 9).toInt ≤ 9999))) → 60 - a3.toInt < (m : Int) → qT (f_X0_goDays_35 n 7 j m a2 a3 M) (po_X0_goDays_c7 oa2 M0) := by
  intro m
  induction m with
  | zero =>
    intro a2 a3 M hG hS i0 i1 hE i5
    exfalso; omega
  | succ m ih =>
    intro a2 a3 M hG hS i0 i1 hE i5
    show qT (b_X0_goDays_35 n 7 j (f_X0_goDays_35 n 7 j m) a2 a3 M) _
    unfold b_X0_goDays_35
    try simp only [Nat.reduceAdd]
    refine T_le rfl rfl (fun hq41_ => ?_) (fun hq41_ => ?_)
    · exact T_ret ⟨(i_rng (lo := 0) (hi := 0) l_0 (by omega) (by omega)), (by have e9 : (0 : Int32).toInt = _ := l_0; omega), hG, hS⟩
    · refine T_le l_9999 rfl (fun hq42_ => ?_) (fun hq42_ => ?_)
      · exact T_ret ⟨(i_rng (lo := 0) (hi := 0) l_0 (by omega) (by omega)), (by have e9 : (0 : Int32).toInt = _ := l_0; omega), hG, hS⟩
      · exact (t_X0_goDays_c7_53 hn hj ih) n a2 a3 (0 : Int32) M hG hS (i_rng (lo := 1) (hi := 60) rfl (by omega) (by omega)) (i_rng (lo := (-2147483634)) (hi := 59) rfl (by omega) (by omega)) (i_rng (lo := 0) (hi := 8) l_0 (by omega) (by omega)) (by have e2 : ((0 : Int32)).toInt = _ := l_0; omega) (by omega) (by have e2 : ((0 : Int32)).toInt = _ := l_0; omega)
theorem t_X0_goDays_c7 {n : Nat} (hn : 200000 ≤ n) {j : Nat} (hj : q_isLaw j) (a2 : Int32) (M : qM) (hG : G M) (pa2 : 1 ≤ a2.toInt ∧ a2.toInt ≤ 60) : qT (f_X0_goDays n 7 j a2 M) (po_X0_goDays_c7 a2 M) := by
  have hS : Sm l_X0_goDays_c7 M M := Sm.rf
  unfold f_X0_goDays
  try simp only [Nat.reduceAdd]
  refine T_mu hG hS (rn_44_4 _) (nw_44 _) (i := 5) rfl ⟨by decide, by decide, Or.inr ⟨by decide, by decide⟩⟩ ?_
  intro mv43 hq44_ gq45_ kq46_
  have hq47_ : (mv43 7 9).toInt = (M 7 9).toInt := by rw [hq44_, mu_ne (Or.inl (by decide))]
  have hq48_ : (mv43 44 4).toInt = 0 := by rw [hq44_, mu_at]; exact l_0
  refine T_mu gq45_ kq46_ (rn_44_5 _) (nw_44 _) (i := 5) rfl ⟨by decide, by decide, Or.inr ⟨by decide, by decide⟩⟩ ?_
  intro mv49 hq50_ gq51_ kq52_
  have hq53_ : (mv49 7 9).toInt = (mv43 7 9).toInt := by rw [hq50_, mu_ne (Or.inl (by decide))]
  have hq54_ : (mv49 44 4).toInt = (mv43 44 4).toInt := by rw [hq50_, mu_ne (Or.inr (by decide))]
  have hq55_ : (mv49 44 5).toInt = 0 := by rw [hq50_, mu_at]; exact l_0
  refine T_mu gq51_ kq52_ (rn_44_6 _) (nw_44 _) (i := 5) rfl ⟨by decide, by decide, Or.inr ⟨by decide, by decide⟩⟩ ?_
  intro mv56 hq57_ gq58_ kq59_
  have hq60_ : (mv56 7 9).toInt = (mv49 7 9).toInt := by rw [hq57_, mu_ne (Or.inl (by decide))]
  have hq61_ : (mv56 44 4).toInt = (mv49 44 4).toInt := by rw [hq57_, mu_ne (Or.inr (by decide))]
  have hq62_ : (mv56 44 5).toInt = (mv49 44 5).toInt := by rw [hq57_, mu_ne (Or.inr (by decide))]
  have hq63_ : (mv56 44 6).toInt = 0 := by rw [hq57_, mu_at]; exact l_0
  refine T_mu gq58_ kq59_ (rn_44_7 _) (nw_44 _) (i := 5) rfl ⟨by decide, by decide, Or.inr ⟨by decide, by decide⟩⟩ ?_
  intro mv64 hq65_ gq66_ kq67_
  have hq68_ : (mv64 7 9).toInt = (mv56 7 9).toInt := by rw [hq65_, mu_ne (Or.inl (by decide))]
  have hq69_ : (mv64 44 4).toInt = (mv56 44 4).toInt := by rw [hq65_, mu_ne (Or.inr (by decide))]
  have hq70_ : (mv64 44 5).toInt = (mv56 44 5).toInt := by rw [hq65_, mu_ne (Or.inr (by decide))]
  have hq71_ : (mv64 44 6).toInt = (mv56 44 6).toInt := by rw [hq65_, mu_ne (Or.inr (by decide))]
  have hq72_ : (mv64 44 7).toInt = (-2) := by rw [hq65_, mu_at]; exact l_m2
  refine T_mu gq66_ kq67_ (rn_44_8 _) (nw_44 _) (i := 5) rfl ⟨by decide, by decide, Or.inr ⟨by decide, by decide⟩⟩ ?_
  intro mv73 hq74_ gq75_ kq76_
  have hq77_ : (mv73 7 9).toInt = (mv64 7 9).toInt := by rw [hq74_, mu_ne (Or.inl (by decide))]
  have hq78_ : (mv73 44 4).toInt = (mv64 44 4).toInt := by rw [hq74_, mu_ne (Or.inr (by decide))]
  have hq79_ : (mv73 44 5).toInt = (mv64 44 5).toInt := by rw [hq74_, mu_ne (Or.inr (by decide))]
  have hq80_ : (mv73 44 6).toInt = (mv64 44 6).toInt := by rw [hq74_, mu_ne (Or.inr (by decide))]
  have hq81_ : (mv73 44 7).toInt = (mv64 44 7).toInt := by rw [hq74_, mu_ne (Or.inr (by decide))]
  have hq82_ : (mv73 44 8).toInt = (-2) := by rw [hq74_, mu_at]; exact l_m2
  refine T_mu gq75_ kq76_ (rn_44_9 _) (nw_44 _) (i := 5) rfl ⟨by decide, by decide, Or.inr ⟨by decide, by decide⟩⟩ ?_
  intro mv83 hq84_ gq85_ kq86_
  have hq87_ : (mv83 7 9).toInt = (mv73 7 9).toInt := by rw [hq84_, mu_ne (Or.inl (by decide))]
  have hq88_ : (mv83 44 4).toInt = (mv73 44 4).toInt := by rw [hq84_, mu_ne (Or.inr (by decide))]
  have hq89_ : (mv83 44 5).toInt = (mv73 44 5).toInt := by rw [hq84_, mu_ne (Or.inr (by decide))]
  have hq90_ : (mv83 44 6).toInt = (mv73 44 6).toInt := by rw [hq84_, mu_ne (Or.inr (by decide))]
  have hq91_ : (mv83 44 7).toInt = (mv73 44 7).toInt := by rw [hq84_, mu_ne (Or.inr (by decide))]
  have hq92_ : (mv83 44 8).toInt = (mv73 44 8).toInt := by rw [hq84_, mu_ne (Or.inr (by decide))]
  have hq93_ : (mv83 44 9).toInt = (-2) := by rw [hq84_, mu_at]; exact l_m2
  exact (t_X0_goDays_c7_35 hn hj) n a2 (0 : Int32) mv83 gq85_ kq86_ (i_rng (lo := 1) (hi := 60) rfl (by omega) (by omega)) (i_rng (lo := (-2147483633)) (hi := 60) l_0 (by omega) (by omega)) (by have e1 : ((0 : Int32)).toInt = _ := l_0; omega) (by have e1 : ((0 : Int32)).toInt = _ := l_0; omega)
abbrev l_X11_days : List Bx := [(7, 8, 9, 10), (9, 12, 0, 0), (15, 16, 0, 0), (34, 35, 4, 5), (35, 37, 0, 0), (44, 45, 2, 10)]
abbrev po_X11_days (a1 : Int32) (M : qM) (v : Int32) (M' : qM) : Prop := ((¬ (1 ≤ a1.toInt ∧ a1.toInt ≤ 60) ∧ (M' 7 9).toInt = (M 7 9).toInt) ∨ (1 ≤ a1.toInt ∧ a1.toInt ≤ 60 ∧ ((9999 ≤ (M 7 9).toInt ∧ (M' 7 9).toInt = (M 7 9).toInt) ∨ ((M 7 9).toInt < 9999 ∧ (M 7 9).toInt + a1.toInt ≤ 9999 ∧ (M' 7 9).toInt = (M 7 9).toInt + a1.toInt) ∨ ((M 7 9).toInt < 9999 ∧ 9999 < (M 7 9).toInt + a1.toInt ∧ (M' 7 9).toInt = 9999)))) ∧ G M' ∧ Sm l_X11_days M M'
theorem t_X11_days {n : Nat} (hn : 200000 ≤ n) {j : Nat} (hj : q_isLaw j) (a1 : Int32) (M : qM) (hG : G M) : qT (f_X11_days n j a1 M) (po_X11_days a1 M) := by
  have hS : Sm l_X11_days M M := Sm.rf
  unfold f_X11_days
  refine T_lt rfl l_1 (fun hq1_ => ?_) (fun hq1_ => ?_)
  · exact T_ret ⟨(by have e9 : ((-1 : Int32)).toInt = _ := l_m1; omega), hG, hS⟩
  · refine T_le rfl l_60 (fun hq2_ => ?_) (fun hq2_ => ?_)
    · refine T_qc (t_X0_goDays_c7 hn hj a1 M hG (i_rng (lo := 1) (hi := 60) rfl (by omega) (by omega))) ?_
      rintro rv3 mv4 ⟨hq5_, hq6_, gq7_, kq8_⟩
      have kq9_ := Sm.call hS kq8_ rfl
      exact T_ret ⟨(by have e9 : (mv4 44 5).toInt = _ := rfl; omega), gq7_, kq9_⟩
    · exact T_ret ⟨(by have e9 : ((-1 : Int32)).toInt = _ := l_m1; omega), hG, hS⟩
abbrev l_X12_notesTry : List Bx := [(77, 78, 37, 43)]
abbrev po_X12_notesTry (a1 a2 a3 : Int32) (M : qM) (v : Int32) (M' : qM) : Prop := (0 ≤ v.toInt ∧ v.toInt ≤ 0) ∧ G M' ∧ Sm l_X12_notesTry M M'
theorem t_X12_notesTry {n : Nat} (hn : 200000 ≤ n) (a1 a2 a3 : Int32) (M : qM) (hG : G M) (pa1 : 0 ≤ a1.toInt ∧ a1.toInt ≤ 7) (pa2 : 0 ≤ a2.toInt ∧ a2.toInt ≤ 11) (pa3 : (-2) ≤ a3.toInt ∧ a3.toInt ≤ 1) : qT (f_X12_notesTry n a1 a2 a3 M) (po_X12_notesTry a1 a2 a3 M) := by
  have hS : Sm l_X12_notesTry M M := Sm.rf
  unfold f_X12_notesTry
  have hq2_ := i_full (M 77 37)
  refine T_mu hG hS (rn_77_37 _) nw_77_37 (i := 0) rfl ⟨by decide, by decide, Or.inr ⟨by decide, by decide⟩⟩ ?_
  intro mv1 hq3_ gq4_ kq5_
  have hq6_ : (mv1 77 37).toInt = ((M 77 37) + (1 : Int32)).toInt := by rw [hq3_, mu_at]
  refine T_qg rfl (by omega) (by omega) ?_
  have hq8_ := i_full (mv1 77 39)
  have hq9_ := i_full (mv1 81 a2.toNatClampNeg)
  refine T_mu gq4_ kq5_ (rn_77_39 _) nw_77_39 (i := 0) rfl ⟨by decide, by decide, Or.inr ⟨by decide, by decide⟩⟩ ?_
  intro mv7 hq10_ gq11_ kq12_
  have hq13_ : (mv7 77 37).toInt = (mv1 77 37).toInt := by rw [hq10_, mu_ne (Or.inr (by decide))]
  have hq14_ : (mv7 77 39).toInt = ((mv1 77 39) + (mv1 81 a2.toNatClampNeg)).toInt := by rw [hq10_, mu_at]
  refine T_eq rfl l_1 (fun hq15_ => ?_) (fun hq15_ => ?_)
  · unfold f_X12_notesTry_40
    have hq17_ := i_full (mv7 77 38)
    refine T_mu gq11_ kq12_ (rn_77_38 _) nw_77_38 (i := 0) rfl ⟨by decide, by decide, Or.inr ⟨by decide, by decide⟩⟩ ?_
    intro mv16 hq18_ gq19_ kq20_
    have hq21_ : (mv16 77 37).toInt = (mv7 77 37).toInt := by rw [hq18_, mu_ne (Or.inr (by decide))]
    have hq22_ : (mv16 77 39).toInt = (mv7 77 39).toInt := by rw [hq18_, mu_ne (Or.inr (by decide))]
    have hq23_ : (mv16 77 38).toInt = ((mv7 77 38) + (1 : Int32)).toInt := by rw [hq18_, mu_at]
    refine T_eq rfl l_m2 (fun hq24_ => ?_) (fun hq24_ => ?_)
    · exfalso; omega
    · exact T_ret ⟨(i_rng (lo := 0) (hi := 0) l_0 (by omega) (by omega)), gq19_, kq20_⟩
  · unfold f_X12_notesTry_40
    have hq26_ := i_full (mv7 77 38)
    refine T_mu gq11_ kq12_ (rn_77_38 _) nw_77_38 (i := 0) rfl ⟨by decide, by decide, Or.inr ⟨by decide, by decide⟩⟩ ?_
    intro mv25 hq27_ gq28_ kq29_
    have hq30_ : (mv25 77 37).toInt = (mv7 77 37).toInt := by rw [hq27_, mu_ne (Or.inr (by decide))]
    have hq31_ : (mv25 77 39).toInt = (mv7 77 39).toInt := by rw [hq27_, mu_ne (Or.inr (by decide))]
    have hq32_ : (mv25 77 38).toInt = ((mv7 77 38).toInt + 0) := by rw [hq27_, mu_at]; exact (i_add rfl l_0 (by omega) (by omega))
    refine T_eq rfl l_m2 (fun hq33_ => ?_) (fun hq33_ => ?_)
    · refine T_eq rfl l_m2 (fun hq34_ => ?_) (fun hq34_ => ?_)
      · refine T_mu gq28_ kq29_ (rn_77_40 _) nw_77_40 (i := 0) rfl ⟨by decide, by decide, Or.inr ⟨by decide, by decide⟩⟩ ?_
        intro mv35 hq36_ gq37_ kq38_
        have hq39_ : (mv35 77 37).toInt = (mv25 77 37).toInt := by rw [hq36_, mu_ne (Or.inr (by decide))]
        have hq40_ : (mv35 77 39).toInt = (mv25 77 39).toInt := by rw [hq36_, mu_ne (Or.inr (by decide))]
        have hq41_ : (mv35 77 38).toInt = (mv25 77 38).toInt := by rw [hq36_, mu_ne (Or.inr (by decide))]
        have hq42_ : (mv35 77 40).toInt = (mv25 78 313).toInt := by rw [hq36_, mu_at]
        refine T_mu gq37_ kq38_ (rn_77_41 _) nw_77_41 (i := 0) rfl ⟨by decide, by decide, Or.inr ⟨by decide, by decide⟩⟩ ?_
        intro mv43 hq44_ gq45_ kq46_
        have hq47_ : (mv43 77 37).toInt = (mv35 77 37).toInt := by rw [hq44_, mu_ne (Or.inr (by decide))]
        have hq48_ : (mv43 77 39).toInt = (mv35 77 39).toInt := by rw [hq44_, mu_ne (Or.inr (by decide))]
        have hq49_ : (mv43 77 38).toInt = (mv35 77 38).toInt := by rw [hq44_, mu_ne (Or.inr (by decide))]
        have hq50_ : (mv43 77 40).toInt = (mv35 77 40).toInt := by rw [hq44_, mu_ne (Or.inr (by decide))]
        have hq51_ : (mv43 77 41).toInt = a1.toInt := by rw [hq44_, mu_at]
        refine T_mu gq45_ kq46_ (rn_77_42 _) nw_77_42 (i := 0) rfl ⟨by decide, by decide, Or.inr ⟨by decide, by decide⟩⟩ ?_
        intro mv52 hq53_ gq54_ kq55_
        have hq56_ : (mv52 77 37).toInt = (mv43 77 37).toInt := by rw [hq53_, mu_ne (Or.inr (by decide))]
        have hq57_ : (mv52 77 39).toInt = (mv43 77 39).toInt := by rw [hq53_, mu_ne (Or.inr (by decide))]
        have hq58_ : (mv52 77 38).toInt = (mv43 77 38).toInt := by rw [hq53_, mu_ne (Or.inr (by decide))]
        have hq59_ : (mv52 77 40).toInt = (mv43 77 40).toInt := by rw [hq53_, mu_ne (Or.inr (by decide))]
        have hq60_ : (mv52 77 41).toInt = (mv43 77 41).toInt := by rw [hq53_, mu_ne (Or.inr (by decide))]
        have hq61_ : (mv52 77 42).toInt = a2.toInt := by rw [hq53_, mu_at]
        exact T_ret ⟨(i_rng (lo := 0) (hi := 0) l_0 (by omega) (by omega)), gq54_, kq55_⟩
      · exact T_ret ⟨(i_rng (lo := 0) (hi := 0) l_0 (by omega) (by omega)), gq28_, kq29_⟩
    · exact T_ret ⟨(i_rng (lo := 0) (hi := 0) l_0 (by omega) (by omega)), gq28_, kq29_⟩
