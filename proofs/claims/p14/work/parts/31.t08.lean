abbrev l_X10_takePlan_c7 : List Bx := [(12, 16, 0, 0)]
abbrev po_X10_takePlan_c7 (a1 : Int32) (M : qM) (v : Int32) (M' : qM) : Prop := (0 ≤ v.toInt ∧ v.toInt ≤ 0) ∧ G M' ∧ Sm l_X10_takePlan_c7 M M'
theorem t_X10_takePlan_c7 {n : Nat} (hn : 200000 ≤ n) (a1 : Int32) (M : qM) (hG : G M) (pa1 : 0 ≤ a1.toInt ∧ a1.toInt ≤ 7) : qT (f_X10_takePlan n 7 a1 M) (po_X10_takePlan_c7 a1 M) := by
  have hS : Sm l_X10_takePlan_c7 M M := Sm.rf
  unfold f_X10_takePlan
  try simp only [Nat.reduceAdd]
  refine T_qcp l_0 (i_mul rfl l_40 (by omega) (by omega)) l_40 (by omega) (by omega) (by omega) (by omega) (by omega) ?_
  refine T_mr hG hS (fun s => rn_12 s _) nw_12 (i := 0) rfl (fun s => ⟨by decide, by decide, Or.inl rfl⟩) ?_
  intro mv1 hq2_ gq3_ kq4_
  refine T_qcp l_0 (i_mul rfl l_40 (by omega) (by omega)) l_40 (by omega) (by omega) (by omega) (by omega) (by omega) ?_
  refine T_mr gq3_ kq4_ (fun s => rn_13 s _) nw_13 (i := 0) rfl (fun s => ⟨by decide, by decide, Or.inl rfl⟩) ?_
  intro mv5 hq6_ gq7_ kq8_
  refine T_qg rfl (by omega) (by omega) ?_
  have hq10_ := r_53_3 gq7_
  refine T_mu gq7_ kq8_ (i_rng (lo := 0) (hi := 40) rfl (by omega) (by omega)) (nw_14 _) (i := 0) rfl ⟨by decide, by decide, Or.inl rfl⟩ ?_
  intro mv9 hq11_ gq12_ kq13_
  have hq14_ : (mv9 14 a1.toNatClampNeg).toInt = (mv5 53 3).toInt := by rw [hq11_, mu_at]
  refine T_qg rfl (by omega) (by omega) ?_
  refine T_mu gq12_ kq13_ (i_rng (lo := 0) (hi := 40) l_0 (by omega) (by omega)) (nw_15 _) (i := 0) rfl ⟨by decide, by decide, Or.inl rfl⟩ ?_
  intro mv15 hq16_ gq17_ kq18_
  have hq19_ : (mv15 14 a1.toNatClampNeg).toInt = (mv9 14 a1.toNatClampNeg).toInt := by rw [hq16_, mu_ne (Or.inl (by decide))]
  have hq20_ : (mv15 15 a1.toNatClampNeg).toInt = 0 := by rw [hq16_, mu_at]; exact l_0
  exact T_ret ⟨(i_rng (lo := 0) (hi := 0) l_0 (by omega) (by omega)), gq17_, kq18_⟩
abbrev l_X11_plan : List Bx := [(1, 2, 1, 5), (12, 16, 0, 0), (53, 54, 3, 4), (54, 56, 0, 0)]
abbrev po_X11_plan (a1 a2 : Int32) (M : qM) (v : Int32) (M' : qM) : Prop := (((0 ≤ a1.toInt ∧ a1.toInt ≤ 7 ∧ (((M 7 8) >>> (a1 &&& 31)) &&& (1 : Int32)).toInt = 1 ∧ 1 ≤ a2.toInt ∧ a2.toInt ≤ 80 ∧ a2.toInt ≤ (M 1 1).toInt) ∧ (M' 1 1).toInt = 0) ∨ (¬ (0 ≤ a1.toInt ∧ a1.toInt ≤ 7 ∧ (((M 7 8) >>> (a1 &&& 31)) &&& (1 : Int32)).toInt = 1 ∧ 1 ≤ a2.toInt ∧ a2.toInt ≤ 80 ∧ a2.toInt ≤ (M 1 1).toInt) ∧ (M' 1 1).toInt = (M 1 1).toInt)) ∧ G M' ∧ Sm l_X11_plan M M'
theorem t_X11_plan {n : Nat} (hn : 200000 ≤ n) (a1 a2 : Int32) (M : qM) (hG : G M) : qT (f_X11_plan n a1 a2 M) (po_X11_plan a1 a2 M) := by
  have hS : Sm l_X11_plan M M := Sm.rf
  unfold f_X11_plan
  have hq1_ := r_1_1 hG
  refine T_qc (t_X10_knows_c7 hn a1 M hG ) ?_
  rintro rv2 mv3 ⟨hq4_, hq5_, gq6_, kq7_⟩
  have hq8_ := kq7_.nil
  subst hq8_
  refine T_eq rfl l_0 (fun hq9_ => ?_) (fun hq9_ => ?_)
  · exact T_ret ⟨(by have e9 : ((-1 : Int32)).toInt = _ := l_m1; omega), hG, hS⟩
  · refine T_lt rfl l_1 (fun hq10_ => ?_) (fun hq10_ => ?_)
    · exact T_ret ⟨(by have e9 : ((-1 : Int32)).toInt = _ := l_m1; omega), hG, hS⟩
    · refine T_lt l_80 rfl (fun hq11_ => ?_) (fun hq11_ => ?_)
      · exact T_ret ⟨(by have e9 : ((-1 : Int32)).toInt = _ := l_m1; omega), hG, hS⟩
      · refine T_le rfl rfl (fun hq12_ => ?_) (fun hq12_ => ?_)
        · refine T_qc (t_X6_read hn a2 M hG (i_rng (lo := 1) (hi := 80) rfl (by omega) (by omega))) ?_
          rintro rv13 mv14 ⟨gq15_, kq16_⟩
          have kq17_ := Sm.call hS kq16_ rfl
          have hq18_ : (mv14 1 1).toInt = (M 1 1).toInt := by rw [kq16_ 1 1 (by decide)]
          refine T_qc (t_X9_clear hn  mv14 gq15_ ) ?_
          rintro rv19 mv20 ⟨hq21_, hq22_, gq23_, kq24_⟩
          have kq25_ := Sm.call kq17_ kq24_ rfl
          have hq26_ := r_1_1 gq23_
          refine T_le rfl l_0 (fun hq27_ => ?_) (fun hq27_ => ?_)
          · exact T_ret ⟨(by have e9 : (rv13).toInt = _ := rfl; omega), gq23_, kq25_⟩
          · refine T_qc (t_X10_takePlan_c7 hn a1 mv20 gq23_ (i_rng (lo := 0) (hi := 7) rfl (by omega) (by omega))) ?_
            rintro rv28 mv29 ⟨hq30_, gq31_, kq32_⟩
            have kq33_ := Sm.call kq25_ kq32_ rfl
            have hq34_ : (mv29 1 1).toInt = (mv20 1 1).toInt := by rw [kq32_ 1 1 (by decide)]
            exact T_ret ⟨(by have e9 : (rv13).toInt = _ := rfl; omega), gq31_, kq33_⟩
        · exact T_ret ⟨(by have e9 : ((-1 : Int32)).toInt = _ := l_m1; omega), hG, hS⟩
abbrev l_X12_isPerson : List Bx := []
abbrev po_X12_isPerson (a1 : Int32) (M : qM) (v : Int32) (M' : qM) : Prop := (0 ≤ v.toInt ∧ v.toInt ≤ 1) ∧ ((v.toInt = 1 ∧ (0 ≤ a1.toInt ∧ a1.toInt ≤ 7 ∧ (((M 78 312) >>> (a1 &&& 31)) &&& (1 : Int32)).toInt = 1)) ∨ (v.toInt = 0 ∧ ¬ (0 ≤ a1.toInt ∧ a1.toInt ≤ 7 ∧ (((M 78 312) >>> (a1 &&& 31)) &&& (1 : Int32)).toInt = 1))) ∧ G M' ∧ Sm l_X12_isPerson M M'
theorem t_X12_isPerson {n : Nat} (hn : 200000 ≤ n) (a1 : Int32) (M : qM) (hG : G M) : qT (f_X12_isPerson n a1 M) (po_X12_isPerson a1 M) := by
  have hS : Sm l_X12_isPerson M M := Sm.rf
  unfold f_X12_isPerson
  refine T_lt rfl l_0 (fun hq1_ => ?_) (fun hq1_ => ?_)
  · exact T_ret ⟨(i_rng (lo := 0) (hi := 1) l_0 (by omega) (by omega)), (by have e9 : ((0 : Int32)).toInt = _ := l_0; omega), hG, hS⟩
  · refine T_le l_8 rfl (fun hq2_ => ?_) (fun hq2_ => ?_)
    · exact T_ret ⟨(i_rng (lo := 0) (hi := 1) l_0 (by omega) (by omega)), (by have e9 : ((0 : Int32)).toInt = _ := l_0; omega), hG, hS⟩
    · refine T_qc (t_X12_has0 hn (M 78 312) a1 M hG (i_rng (lo := 0) (hi := 11) rfl (by omega) (by omega))) ?_
      rintro rv3 mv4 ⟨hq5_, hq6_, gq7_, kq8_⟩
      have hq9_ := kq8_.nil
      subst hq9_
      refine T_eq rfl l_0 (fun hq10_ => ?_) (fun hq10_ => ?_)
      · exact T_ret ⟨(i_rng (lo := 0) (hi := 1) l_0 (by omega) (by omega)), (by have e9 : ((0 : Int32)).toInt = _ := l_0; omega), hG, hS⟩
      · exact T_ret ⟨(i_rng (lo := 0) (hi := 1) l_1 (by omega) (by omega)), (by have e9 : ((1 : Int32)).toInt = _ := l_1; omega), hG, hS⟩
abbrev l_X12_endsRound : List Bx := [(77, 78, 9, 10), (77, 78, 11, 12), (77, 78, 35, 37), (98, 100, 0, 0)]
abbrev po_X12_endsRound (M : qM) (v : Int32) (M' : qM) : Prop := (0 ≤ v.toInt ∧ v.toInt ≤ 1) ∧ ((M 77 9).toInt + 1 ≤ (M' 77 9).toInt) ∧ (v.toInt = 0 ∨ KR  M') ∧ G M' ∧ Sm l_X12_endsRound M M'
theorem t_X12_endsRound_108 {n : Nat} (hn : 200000 ≤ n) {M0 : qM} : ∀ (m : Nat) (a1 a2 a3 a4 : Int32) (M : qM), G M → Sm l_X12_endsRound M0 M → 2 ≤ a1.toInt ∧ a1.toInt ≤ 9 → 0 ≤ a2.toInt ∧ a2.toInt ≤ 40 → 0 ≤ a3.toInt ∧ a3.toInt ≤ 40 → 0 ≤ a4.toInt ∧ a4.toInt ≤ 40 → ((M0 77 9).toInt + 1 ≤ (M 77 9).toInt ∧ a2.toInt + (a3 * a1).toInt ≤ 40 ∧ a3.toInt ≤ a4.toInt ∧ a4.toInt ≤ (a3 * a1).toInt) → KRb (a2.toInt + a3.toInt) M → 41 - a4.toInt < (m : Int) → qT (f_X12_endsRound_108 n m a1 a2 a3 a4 M) (po_X12_endsRound  M0) := by
  intro m
  induction m with
  | zero =>
    intro a1 a2 a3 a4 M hG hS i0 i1 i2 i3 hE wKRb i8
    have hq1_ := r_77_9 hG
    exfalso; omega
  | succ m ih =>
    intro a1 a2 a3 a4 M hG hS i0 i1 i2 i3 hE wKRb i8
    show qT (b_X12_endsRound_108 n (f_X12_endsRound_108 n m) a1 a2 a3 a4 M) _
    unfold b_X12_endsRound_108
    have hq1_ := r_77_9 hG
    have hq2_ := i_mulk 9 (a := a3) (b := a1) rfl rfl (by omega) (by omega) (by omega) (by omega)
    refine T_le rfl rfl (fun hq3_ => ?_) (fun hq3_ => ?_)
    · refine T_mu hG hS (i_rng (lo := 0) (hi := 40) (i_add rfl rfl (by omega) (by omega)) (by omega) (by omega)) nw_77_35 (i := 2) rfl ⟨by decide, by decide, Or.inr ⟨by decide, by decide⟩⟩ ?_
      intro mv4 hq5_ gq6_ kq7_
      have hq8_ := (fun h_ => KRb_c (M := M) (M' := mv4) (by rw [hq5_, mu_ne (Or.inr (by decide))]) (by rw [hq5_, mu_nc (by decide)]) h_) wKRb
      have hq9_ : (mv4 77 9).toInt = (M 77 9).toInt := by rw [hq5_, mu_ne (Or.inr (by decide))]
      have hq10_ : (mv4 77 35).toInt = (a2.toInt + (a3 * a1).toInt) := by rw [hq5_, mu_at]; exact (i_add rfl rfl (by omega) (by omega))
      exact T_ret ⟨(i_rng (lo := 0) (hi := 1) l_1 (by omega) (by omega)), (by have e9 : ((1 : Int32)).toInt = _ := l_1; omega), (Or.inr (KR_of (M := mv4) hq8_ (by rfl) (by rfl) (by omega))), gq6_, kq7_⟩
    · refine T_qg (i_sub (i_add rfl rfl (by omega) (by omega)) rfl (by omega) (by omega)) (by omega) (by omega) ?_
      refine T_qg (i_add rfl rfl (by omega) (by omega)) (by omega) (by omega) ?_
      refine T_mu hG hS (rn_98 _ _) (nw_98 _) (i := 3) rfl ⟨by decide, by decide, Or.inl rfl⟩ ?_
      intro mv11 hq12_ gq13_ kq14_
      have hq15_ := (fun h_ => KRb_c (M := M) (M' := mv11) (by rw [hq12_, mu_ne (Or.inl (by decide))]) (by rw [hq12_, mu_nc (by decide)]) h_) wKRb
      have hq16_ : (mv11 77 9).toInt = (M 77 9).toInt := by rw [hq12_, mu_ne (Or.inl (by decide))]
      have hq17_ : (mv11 98 ((a2 + a4).toNatClampNeg)).toInt = (M 98 (((a2 + a4) - a3).toNatClampNeg)).toInt := by rw [hq12_, mu_at]
      refine T_qg (i_sub (i_add rfl rfl (by omega) (by omega)) rfl (by omega) (by omega)) (by omega) (by omega) ?_
      refine T_qg (i_add rfl rfl (by omega) (by omega)) (by omega) (by omega) ?_
      refine T_mu gq13_ kq14_ (rn_99 _ _) (nw_99 _) (i := 3) rfl ⟨by decide, by decide, Or.inl rfl⟩ ?_
      intro mv18 hq19_ gq20_ kq21_
      have hq22_ := (fun h_ => KRb_c (M := mv11) (M' := mv18) (by rw [hq19_, mu_ne (Or.inl (by decide))]) (by rw [hq19_, mu_nc (by decide)]) h_) hq15_
      have hq23_ : (mv18 77 9).toInt = (mv11 77 9).toInt := by rw [hq19_, mu_ne (Or.inl (by decide))]
      have hq24_ : (mv18 98 ((a2 + a4).toNatClampNeg)).toInt = (mv11 98 ((a2 + a4).toNatClampNeg)).toInt := by rw [hq19_, mu_ne (Or.inl (by decide))]
      have hq25_ : (mv18 99 ((a2 + a4).toNatClampNeg)).toInt = (mv11 99 (((a2 + a4) - a3).toNatClampNeg)).toInt := by rw [hq19_, mu_at]
      refine T_ql (i_add rfl l_1 (by omega) (by omega)) ?_
      intro xv26 hq27_
      have hq28_ := r_77_9 gq20_
      exact ih a1 a2 a3 xv26 mv18 gq20_ kq21_ (i_rng (lo := 2) (hi := 9) rfl (by omega) (by omega)) (i_rng (lo := 0) (hi := 40) rfl (by omega) (by omega)) (i_rng (lo := 0) (hi := 40) rfl (by omega) (by omega)) (i_rng (lo := 0) (hi := 40) rfl (by omega) (by omega)) (by omega) hq22_ (by omega)
theorem t_X12_endsRound {n : Nat} (hn : 200000 ≤ n) (M : qM) (hG : G M) (pe : (M 77 9).toInt < (M 77 10).toInt ∧ 1 ≤ (M 77 36).toInt) (wKR : KR  M) : qT (f_X12_endsRound n  M) (po_X12_endsRound  M) := by
  have hS : Sm l_X12_endsRound M M := Sm.rf
  unfold f_X12_endsRound
  have hq29_ := r_77_9 hG
  have hq30_ := r_77_10 hG
  have hq31_ := r_77_36 hG
  have hq32_ := r_77_35 hG
  refine T_mu hG hS (i_rng (lo := 0) (hi := 240) (i_add rfl l_1 (by omega) (by omega)) (by omega) (by omega)) nw_77_9 (i := 0) rfl ⟨by decide, by decide, Or.inr ⟨by decide, by decide⟩⟩ ?_
  intro mv33 hq34_ gq35_ kq36_
  have hq37_ := (fun h_ => KR_c (M := M) (M' := mv33) (by rw [hq34_, mu_ne (Or.inr (by decide))]) (by rw [hq34_, mu_ne (Or.inr (by decide))]) (by rw [hq34_, mu_nc (by decide)]) h_) wKR
  have hq38_ : (mv33 77 10).toInt = (M 77 10).toInt := by rw [hq34_, mu_ne (Or.inr (by decide))]
  have hq39_ : (mv33 77 36).toInt = (M 77 36).toInt := by rw [hq34_, mu_ne (Or.inr (by decide))]
  have hq40_ : (mv33 77 35).toInt = (M 77 35).toInt := by rw [hq34_, mu_ne (Or.inr (by decide))]
  have hq41_ : (mv33 77 9).toInt = ((M 77 9).toInt + 1) := by rw [hq34_, mu_at]; exact (i_add rfl l_1 (by omega) (by omega))
  refine T_qc (t_X12_here hn  mv33 gq35_ ) ?_
  rintro rv42 mv43 ⟨hq44_, hq45_, gq46_, kq47_⟩
  have hq48_ := r_77_9 gq35_
  have hq49_ := r_77_10 gq35_
  have hq50_ := kq47_.nil
  subst hq50_
  have hq53_ := (show ((50 : Int32)).toInt = _ from l_50)
  have hq54_ := (show ((57 : Int32)).toInt = _ from l_57)
  refine T_qc (t_X12_in hn rv42 (50 : Int32) (57 : Int32) mv33 gq35_ (i_rng (lo := 0) (hi := 70) l_50 (by omega) (by omega)) (i_rng (lo := 0) (hi := 99999) l_57 (by omega) (by omega))) ?_
  rintro rv51 mv52 ⟨hq55_, hq56_, gq57_, kq58_⟩
  have hq59_ := kq58_.nil
  subst hq59_
  refine T_eq rfl l_0 (fun hq60_ => ?_) (fun hq60_ => ?_)
  · refine T_qc (t_X12_wrongAt hn (1 : Int32) (mv33 77 9) mv33 gq35_ (i_rng (lo := 1) (hi := 6) l_1 (by omega) (by omega))) ?_
    rintro rv61 mv62 ⟨hq63_, gq64_, kq65_⟩
    have kq66_ := Sm.call kq36_ kq65_ rfl
    have hq67_ := (fun h_ => KR_c (kq65_ 77 35 (by decide)) (kq65_ 77 36 (by decide)) (funext (fun s_ => kq65_ 101 s_ (outc rfl))) h_) hq37_
    have hq68_ : (mv62 77 10).toInt = (mv33 77 10).toInt := by rw [kq65_ 77 10 (by decide)]
    have hq69_ : (mv62 77 36).toInt = (mv33 77 36).toInt := by rw [kq65_ 77 36 (by decide)]
    have hq70_ : (mv62 77 35).toInt = (mv33 77 35).toInt := by rw [kq65_ 77 35 (by decide)]
    have hq71_ : (mv62 77 9).toInt = (mv33 77 9).toInt := by rw [kq65_ 77 9 (by decide)]
    refine T_qb rfl (by omega) (by omega) ?_
    exact T_ret ⟨(i_rng (lo := 0) (hi := 1) rfl (by omega) (by omega)), (by have e9 : (rv61).toInt = _ := rfl; omega), (Or.inl (by first | exact l_0 | omega)), gq64_, kq66_⟩
  · refine T_qc (t_X12_here hn  mv33 gq35_ ) ?_
    rintro rv72 mv73 ⟨hq74_, hq75_, gq76_, kq77_⟩
    have hq78_ := kq77_.nil
    subst hq78_
    refine T_ql (i_sub rfl l_48 (by omega) (by omega)) ?_
    intro xv79 hq80_
    refine T_mu gq35_ kq36_ (i_rng (lo := 0) (hi := 240) (i_add rfl l_1 (by omega) (by omega)) (by omega) (by omega)) nw_77_9 (i := 0) rfl ⟨by decide, by decide, Or.inr ⟨by decide, by decide⟩⟩ ?_
    intro mv81 hq82_ gq83_ kq84_
    have hq85_ := (fun h_ => KR_c (M := mv33) (M' := mv81) (by rw [hq82_, mu_ne (Or.inr (by decide))]) (by rw [hq82_, mu_ne (Or.inr (by decide))]) (by rw [hq82_, mu_nc (by decide)]) h_) hq37_
    have hq86_ : (mv81 77 10).toInt = (mv33 77 10).toInt := by rw [hq82_, mu_ne (Or.inr (by decide))]
    have hq87_ : (mv81 77 36).toInt = (mv33 77 36).toInt := by rw [hq82_, mu_ne (Or.inr (by decide))]
    have hq88_ : (mv81 77 35).toInt = (mv33 77 35).toInt := by rw [hq82_, mu_ne (Or.inr (by decide))]
    have hq89_ : (mv81 77 9).toInt = ((mv33 77 9).toInt + 1) := by rw [hq82_, mu_at]; exact (i_add rfl l_1 (by omega) (by omega))
    have hq91_ := r_77_36 gq83_
    refine T_mu gq83_ kq84_ (i_rng (lo := 0) (hi := 3) (i_sub rfl l_1 (by omega) (by omega)) (by omega) (by omega)) nw_77_36 (i := 2) rfl ⟨by decide, by decide, Or.inr ⟨by decide, by decide⟩⟩ ?_
    intro mv90 hq92_ gq93_ kq94_
    have hq95_ : (mv90 77 10).toInt = (mv81 77 10).toInt := by rw [hq92_, mu_ne (Or.inr (by decide))]
    have hq96_ : (mv90 77 35).toInt = (mv81 77 35).toInt := by rw [hq92_, mu_ne (Or.inr (by decide))]
    have hq97_ : (mv90 77 9).toInt = (mv81 77 9).toInt := by rw [hq92_, mu_ne (Or.inr (by decide))]
    have hq98_ : (mv90 77 36).toInt = ((mv81 77 36).toInt - 1) := by rw [hq92_, mu_at]; exact (i_sub rfl l_1 (by omega) (by omega))
    have hq99_ := r_77_36 gq93_
    refine T_qg rfl (by omega) (by omega) ?_
    have hq100_ := KR_rd (M := mv81) (m := mv90) hq85_ (by rw [hq92_, mu_nc (by decide)]) (i := ((mv90 77 36).toNatClampNeg)) (by rw [tnc]; omega) (by omega)
    have hq101_ := r_101 gq93_ ((mv90 77 36).toNatClampNeg)
    refine T_ql rfl ?_
    intro xv102 hq103_
    have hq104_ := r_77_35 gq93_
    refine T_ql (i_sub rfl rfl (by omega) (by omega)) ?_
    intro xv105 hq106_
    have hq107_ := i_mulk 9 (a := xv105) (b := xv79) rfl rfl (by omega) (by omega) (by omega) (by omega)
    refine T_le (i_add rfl rfl (by omega) (by omega)) l_40 (fun hq108_ => ?_) (fun hq108_ => ?_)
    · have hq109_ := r_77_9 gq93_
      exact (t_X12_endsRound_108 hn) n xv79 xv102 xv105 xv105 mv90 gq93_ kq94_ (i_rng (lo := 2) (hi := 9) rfl (by omega) (by omega)) (i_rng (lo := 0) (hi := 40) rfl (by omega) (by omega)) (i_rng (lo := 0) (hi := 40) rfl (by omega) (by omega)) (i_rng (lo := 0) (hi := 40) rfl (by omega) (by omega)) (by omega) (KR_dn (M := mv81) hq85_ (by omega) (by rw [hq92_, mu_nc (by decide)]) (by omega)) (by omega)
    · refine T_qg rfl (by omega) (by omega) ?_
      refine T_qc (t_X12_wrongAt hn (6 : Int32) (mv90 100 ((mv90 77 36).toNatClampNeg)) mv90 gq93_ (i_rng (lo := 1) (hi := 6) l_6 (by omega) (by omega))) ?_
      rintro rv110 mv111 ⟨hq112_, gq113_, kq114_⟩
      have kq115_ := Sm.call kq94_ kq114_ rfl
      have hq116_ : (mv111 77 10).toInt = (mv90 77 10).toInt := by rw [kq114_ 77 10 (by decide)]
      have hq117_ : (mv111 77 35).toInt = (mv90 77 35).toInt := by rw [kq114_ 77 35 (by decide)]
      have hq118_ : (mv111 77 9).toInt = (mv90 77 9).toInt := by rw [kq114_ 77 9 (by decide)]
      have hq119_ : (mv111 77 36).toInt = (mv90 77 36).toInt := by rw [kq114_ 77 36 (by decide)]
      refine T_qb rfl (by omega) (by omega) ?_
      exact T_ret ⟨(i_rng (lo := 0) (hi := 1) rfl (by omega) (by omega)), (by have e9 : (rv110).toInt = _ := rfl; omega), (Or.inl (by first | exact l_0 | omega)), gq113_, kq115_⟩

abbrev l_X12_readsStep : List Bx := [(77, 78, 9, 10), (77, 78, 11, 13), (77, 78, 35, 37), (98, 102, 0, 0)]
abbrev po_X12_readsStep (M : qM) (v : Int32) (M' : qM) : Prop := (0 ≤ v.toInt ∧ v.toInt ≤ 1) ∧ ((M 77 9).toInt ≤ (M' 77 9).toInt) ∧ (v.toInt = 0 ∨ KR  M') ∧ G M' ∧ Sm l_X12_readsStep M M'
theorem t_X12_readsStep_296 {n : Nat} (hn : 200000 ≤ n) {M0 : qM} : ∀ (m : Nat) (M : qM), G M → Sm l_X12_readsStep M0 M → (M0 77 9).toInt ≤ (M 77 9).toInt → KR  M → 241 - (M 77 9).toInt < (m : Int) → qT (f_X12_readsStep_296 n m  M) (po_X12_readsStep  M0) := by
  intro m
  induction m with
  | zero =>
    intro  M hG hS hE wKR i4
    have hq1_ := r_77_9 hG
    have hq2_ := r_77_10 hG
    have hq3_ := r_77_35 hG
    have hq4_ := r_77_36 hG
    exfalso; omega
  | succ m ih =>
    intro  M hG hS hE wKR i4
    show qT (b_X12_readsStep_296 n (f_X12_readsStep_296 n m)  M) _
    unfold b_X12_readsStep_296
    have hq1_ := r_77_9 hG
    have hq2_ := r_77_10 hG
    have hq3_ := r_77_35 hG
    have hq4_ := r_77_36 hG
    refine T_qc (t_X12_here hn  M hG ) ?_
    rintro rv5 mv6 ⟨hq7_, hq8_, gq9_, kq10_⟩
    have hq11_ := kq10_.nil
    subst hq11_
    refine T_eq rfl l_41 (fun hq12_ => ?_) (fun hq12_ => ?_)
    · refine T_le rfl l_0 (fun hq13_ => ?_) (fun hq13_ => ?_)
      · exact T_ret ⟨(i_rng (lo := 0) (hi := 1) l_1 (by omega) (by omega)), (by have e9 : ((1 : Int32)).toInt = _ := l_1; omega), (Or.inr wKR), hG, hS⟩
      · refine T_qc (t_X12_endsRound hn  M hG (by omega) wKR) ?_
        rintro rv14 mv15 ⟨hq16_, hq17_, hq18_, gq19_, kq20_⟩
        have kq21_ := Sm.call hS kq20_ rfl
        have hq22_ : (mv15 77 10).toInt = (M 77 10).toInt := by rw [kq20_ 77 10 (by decide)]
        have hq23_ := r_77_9 gq19_
        refine T_eq rfl l_0 (fun hq24_ => ?_) (fun hq24_ => ?_)
        · exact T_ret ⟨(i_rng (lo := 0) (hi := 1) l_0 (by omega) (by omega)), (by have e9 : ((0 : Int32)).toInt = _ := l_0; omega), (Or.inl (by first | exact l_0 | omega)), gq19_, kq21_⟩
        · have hq25_ := r_77_10 gq19_
          have hq26_ := r_77_35 gq19_
          have hq27_ := r_77_36 gq19_
          exact ih  mv15 gq19_ kq21_ (by omega) (hq18_.resolve_left (by omega)) (by omega)
    · exact T_ret ⟨(i_rng (lo := 0) (hi := 1) l_1 (by omega) (by omega)), (by have e9 : ((1 : Int32)).toInt = _ := l_1; omega), (Or.inr wKR), hG, hS⟩
theorem t_X12_readsStep_108 {n : Nat} (hn : 200000 ≤ n) {M0 : qM} : ∀ (m : Nat) (a1 : Int32) (M : qM), G M → Sm l_X12_readsStep M0 M → 0 ≤ a1.toInt ∧ a1.toInt ≤ 240 → (M0 77 9).toInt ≤ (M 77 9).toInt → KR  M → 241 - (M 77 9).toInt < (m : Int) → qT (f_X12_readsStep_108 n m a1 M) (po_X12_readsStep  M0) := by
  intro m
  induction m with
  | zero =>
    intro a1 M hG hS i0 hE wKR i5
    have hq28_ := r_77_9 hG
    have hq29_ := r_77_10 hG
    have hq30_ := r_77_35 hG
    have hq31_ := r_77_36 hG
    exfalso; omega
  | succ m ih =>
    intro a1 M hG hS i0 hE wKR i5
    show qT (b_X12_readsStep_108 n (f_X12_readsStep_108 n m) a1 M) _
    unfold b_X12_readsStep_108
    have hq28_ := r_77_9 hG
    have hq29_ := r_77_10 hG
    have hq30_ := r_77_35 hG
    have hq31_ := r_77_36 hG
    refine T_qc (t_X12_isDigit hn  M hG ) ?_
    rintro rv32 mv33 ⟨hq34_, hq35_, gq36_, kq37_⟩
    have hq38_ := kq37_.nil
    subst hq38_
    refine T_eq rfl l_0 (fun hq39_ => ?_) (fun hq39_ => ?_)
    · unfold f_X12_readsStep_157
      refine T_lt rfl l_12 (fun hq40_ => ?_) (fun hq40_ => ?_)
      · refine T_qc (t_X12_here hn  M hG ) ?_
        rintro rv41 mv42 ⟨hq43_, hq44_, gq45_, kq46_⟩
        have hq47_ := kq46_.nil
        subst hq47_
        refine T_eq rfl l_38 (fun hq48_ => ?_) (fun hq48_ => ?_)
        · refine T_mu hG hS (i_rng (lo := 0) (hi := 240) (i_add rfl l_1 (by omega) (by omega)) (by omega) (by omega)) nw_77_9 (i := 0) rfl ⟨by decide, by decide, Or.inr ⟨by decide, by decide⟩⟩ ?_
          intro mv49 hq50_ gq51_ kq52_
          have hq53_ := (fun h_ => KR_c (M := M) (M' := mv49) (by rw [hq50_, mu_ne (Or.inr (by decide))]) (by rw [hq50_, mu_ne (Or.inr (by decide))]) (by rw [hq50_, mu_nc (by decide)]) h_) wKR
          have hq54_ : (mv49 77 10).toInt = (M 77 10).toInt := by rw [hq50_, mu_ne (Or.inr (by decide))]
          have hq55_ : (mv49 77 35).toInt = (M 77 35).toInt := by rw [hq50_, mu_ne (Or.inr (by decide))]
          have hq56_ : (mv49 77 36).toInt = (M 77 36).toInt := by rw [hq50_, mu_ne (Or.inr (by decide))]
          have hq57_ : (mv49 77 12).toInt = (M 77 12).toInt := by rw [hq50_, mu_ne (Or.inr (by decide))]
          have hq58_ : (mv49 77 9).toInt = ((M 77 9).toInt + 1) := by rw [hq50_, mu_at]; exact (i_add rfl l_1 (by omega) (by omega))
          refine T_qc (t_X12_isDigit hn  mv49 gq51_ ) ?_
          rintro rv59 mv60 ⟨hq61_, hq62_, gq63_, kq64_⟩
          have hq65_ := r_77_9 gq51_
          have hq66_ := r_77_10 gq51_
          have hq67_ := kq64_.nil
          subst hq67_
          refine T_eq rfl l_0 (fun hq68_ => ?_) (fun hq68_ => ?_)
          · refine T_qc (t_X12_wrongAt hn (1 : Int32) (mv49 77 9) mv49 gq51_ (i_rng (lo := 1) (hi := 6) l_1 (by omega) (by omega))) ?_
            rintro rv69 mv70 ⟨hq71_, gq72_, kq73_⟩
            have kq74_ := Sm.call kq52_ kq73_ rfl
            have hq75_ := (fun h_ => KR_c (kq73_ 77 35 (by decide)) (kq73_ 77 36 (by decide)) (funext (fun s_ => kq73_ 101 s_ (outc rfl))) h_) hq53_
            have hq76_ : (mv70 77 10).toInt = (mv49 77 10).toInt := by rw [kq73_ 77 10 (by decide)]
            have hq77_ : (mv70 77 35).toInt = (mv49 77 35).toInt := by rw [kq73_ 77 35 (by decide)]
            have hq78_ : (mv70 77 36).toInt = (mv49 77 36).toInt := by rw [kq73_ 77 36 (by decide)]
            have hq79_ : (mv70 77 12).toInt = (mv49 77 12).toInt := by rw [kq73_ 77 12 (by decide)]
            have hq80_ : (mv70 77 9).toInt = (mv49 77 9).toInt := by rw [kq73_ 77 9 (by decide)]
            refine T_qb rfl (by omega) (by omega) ?_
            exact T_ret ⟨(i_rng (lo := 0) (hi := 1) rfl (by omega) (by omega)), (by have e9 : (rv69).toInt = _ := rfl; omega), (Or.inl (by first | exact l_0 | omega)), gq72_, kq74_⟩
          · refine T_qc (t_X12_here hn  mv49 gq51_ ) ?_
            rintro rv81 mv82 ⟨hq83_, hq84_, gq85_, kq86_⟩
            have hq87_ := kq86_.nil
            subst hq87_
            refine T_ql (i_sub rfl l_48 (by omega) (by omega)) ?_
            intro xv88 hq89_
            refine T_lt rfl l_8 (fun hq90_ => ?_) (fun hq90_ => ?_)
            · refine T_mu gq51_ kq52_ (i_rng (lo := 0) (hi := 240) (i_add rfl l_1 (by omega) (by omega)) (by omega) (by omega)) nw_77_9 (i := 0) rfl ⟨by decide, by decide, Or.inr ⟨by decide, by decide⟩⟩ ?_
              intro mv91 hq92_ gq93_ kq94_
              have hq95_ := (fun h_ => KR_c (M := mv49) (M' := mv91) (by rw [hq92_, mu_ne (Or.inr (by decide))]) (by rw [hq92_, mu_ne (Or.inr (by decide))]) (by rw [hq92_, mu_nc (by decide)]) h_) hq53_
              have hq96_ : (mv91 77 10).toInt = (mv49 77 10).toInt := by rw [hq92_, mu_ne (Or.inr (by decide))]
              have hq97_ : (mv91 77 35).toInt = (mv49 77 35).toInt := by rw [hq92_, mu_ne (Or.inr (by decide))]
              have hq98_ : (mv91 77 36).toInt = (mv49 77 36).toInt := by rw [hq92_, mu_ne (Or.inr (by decide))]
              have hq99_ : (mv91 77 12).toInt = (mv49 77 12).toInt := by rw [hq92_, mu_ne (Or.inr (by decide))]
              have hq100_ : (mv91 77 9).toInt = ((mv49 77 9).toInt + 1) := by rw [hq92_, mu_at]; exact (i_add rfl l_1 (by omega) (by omega))
              unfold f_X12_readsStep_246
              have hq101_ := r_77_35 gq93_
              refine T_eq rfl l_40 (fun hq102_ => ?_) (fun hq102_ => ?_)
              · refine T_qc (t_X12_wrongAt hn (6 : Int32) a1 mv91 gq93_ (i_rng (lo := 1) (hi := 6) l_6 (by omega) (by omega))) ?_
                rintro rv103 mv104 ⟨hq105_, gq106_, kq107_⟩
                have kq108_ := Sm.call kq94_ kq107_ rfl
                have hq109_ := (fun h_ => KR_c (kq107_ 77 35 (by decide)) (kq107_ 77 36 (by decide)) (funext (fun s_ => kq107_ 101 s_ (outc rfl))) h_) hq95_
                have hq110_ : (mv104 77 10).toInt = (mv91 77 10).toInt := by rw [kq107_ 77 10 (by decide)]
                have hq111_ : (mv104 77 35).toInt = (mv91 77 35).toInt := by rw [kq107_ 77 35 (by decide)]
                have hq112_ : (mv104 77 36).toInt = (mv91 77 36).toInt := by rw [kq107_ 77 36 (by decide)]
                have hq113_ : (mv104 77 12).toInt = (mv91 77 12).toInt := by rw [kq107_ 77 12 (by decide)]
                have hq114_ : (mv104 77 9).toInt = (mv91 77 9).toInt := by rw [kq107_ 77 9 (by decide)]
                refine T_qb rfl (by omega) (by omega) ?_
                exact T_ret ⟨(i_rng (lo := 0) (hi := 1) rfl (by omega) (by omega)), (by have e9 : (rv103).toInt = _ := rfl; omega), (Or.inl (by first | exact l_0 | omega)), gq106_, kq108_⟩
              · refine T_qg rfl (by omega) (by omega) ?_
                refine T_mu gq93_ kq94_ (rn_98 _ _) (nw_98 _) (i := 3) rfl ⟨by decide, by decide, Or.inl rfl⟩ ?_
                intro mv115 hq116_ gq117_ kq118_
                have hq119_ := (fun h_ => KR_c (M := mv91) (M' := mv115) (by rw [hq116_, mu_ne (Or.inl (by decide))]) (by rw [hq116_, mu_ne (Or.inl (by decide))]) (by rw [hq116_, mu_nc (by decide)]) h_) hq95_
                have hq120_ : (mv115 77 10).toInt = (mv91 77 10).toInt := by rw [hq116_, mu_ne (Or.inl (by decide))]
                have hq121_ : (mv115 77 35).toInt = (mv91 77 35).toInt := by rw [hq116_, mu_ne (Or.inl (by decide))]
                have hq122_ : (mv115 77 36).toInt = (mv91 77 36).toInt := by rw [hq116_, mu_ne (Or.inl (by decide))]
                have hq123_ : (mv115 77 12).toInt = (mv91 77 12).toInt := by rw [hq116_, mu_ne (Or.inl (by decide))]
                have hq124_ : (mv115 77 9).toInt = (mv91 77 9).toInt := by rw [hq116_, mu_ne (Or.inl (by decide))]
                have hq125_ : (mv115 98 ((mv91 77 35).toNatClampNeg)).toInt = (mv91 77 12).toInt := by rw [hq116_, mu_at]
                have hq126_ := r_77_35 gq117_
                refine T_qg rfl (by omega) (by omega) ?_
                refine T_mu gq117_ kq118_ (rn_99 _ _) (nw_99 _) (i := 3) rfl ⟨by decide, by decide, Or.inl rfl⟩ ?_
                intro mv127 hq128_ gq129_ kq130_
                have hq131_ := (fun h_ => KR_c (M := mv115) (M' := mv127) (by rw [hq128_, mu_ne (Or.inl (by decide))]) (by rw [hq128_, mu_ne (Or.inl (by decide))]) (by rw [hq128_, mu_nc (by decide)]) h_) hq119_
                have hq132_ : (mv127 77 10).toInt = (mv115 77 10).toInt := by rw [hq128_, mu_ne (Or.inl (by decide))]
                have hq133_ : (mv127 77 35).toInt = (mv115 77 35).toInt := by rw [hq128_, mu_ne (Or.inl (by decide))]
                have hq134_ : (mv127 77 36).toInt = (mv115 77 36).toInt := by rw [hq128_, mu_ne (Or.inl (by decide))]
                have hq135_ : (mv127 77 12).toInt = (mv115 77 12).toInt := by rw [hq128_, mu_ne (Or.inl (by decide))]
                have hq136_ : (mv127 77 9).toInt = (mv115 77 9).toInt := by rw [hq128_, mu_ne (Or.inl (by decide))]
                have hq137_ : (mv127 98 ((mv91 77 35).toNatClampNeg)).toInt = (mv115 98 ((mv91 77 35).toNatClampNeg)).toInt := by rw [hq128_, mu_ne (Or.inl (by decide))]
                have hq138_ : (mv127 99 ((mv115 77 35).toNatClampNeg)).toInt = xv88.toInt := by rw [hq128_, mu_at]
                have hq140_ := r_77_35 gq129_
                refine T_mu gq129_ kq130_ (i_rng (lo := 0) (hi := 40) (i_add rfl l_1 (by omega) (by omega)) (by omega) (by omega)) nw_77_35 (i := 2) rfl ⟨by decide, by decide, Or.inr ⟨by decide, by decide⟩⟩ ?_
                intro mv139 hq141_ gq142_ kq143_
                have hq144_ : (mv139 77 10).toInt = (mv127 77 10).toInt := by rw [hq141_, mu_ne (Or.inr (by decide))]
                have hq145_ : (mv139 77 36).toInt = (mv127 77 36).toInt := by rw [hq141_, mu_ne (Or.inr (by decide))]
                have hq146_ : (mv139 77 12).toInt = (mv127 77 12).toInt := by rw [hq141_, mu_ne (Or.inr (by decide))]
                have hq147_ : (mv139 77 9).toInt = (mv127 77 9).toInt := by rw [hq141_, mu_ne (Or.inr (by decide))]
                have hq148_ : (mv139 98 ((mv91 77 35).toNatClampNeg)).toInt = (mv127 98 ((mv91 77 35).toNatClampNeg)).toInt := by rw [hq141_, mu_ne (Or.inl (by decide))]
                have hq149_ : (mv139 99 ((mv115 77 35).toNatClampNeg)).toInt = (mv127 99 ((mv115 77 35).toNatClampNeg)).toInt := by rw [hq141_, mu_ne (Or.inl (by decide))]
                have hq150_ : (mv139 77 35).toInt = ((mv127 77 35).toInt + 1) := by rw [hq141_, mu_at]; exact (i_add rfl l_1 (by omega) (by omega))
                have hq151_ := r_77_9 gq142_
                have hq152_ := r_77_10 gq142_
                have hq153_ := r_77_35 gq142_
                have hq154_ := r_77_36 gq142_
                exact (t_X12_readsStep_296 hn) n  mv139 gq142_ kq143_ (by omega) (KR_up (M := mv127) hq131_ (by rw [hq141_, mu_ne (Or.inr (by decide))]) (by rw [hq141_, mu_nc (by decide)]) (by omega)) (by omega)
            · refine T_qc (t_X12_wrongAt hn (3 : Int32) (mv49 77 9) mv49 gq51_ (i_rng (lo := 1) (hi := 6) l_3 (by omega) (by omega))) ?_
              rintro rv155 mv156 ⟨hq157_, gq158_, kq159_⟩
              have kq160_ := Sm.call kq52_ kq159_ rfl
              have hq161_ := (fun h_ => KR_c (kq159_ 77 35 (by decide)) (kq159_ 77 36 (by decide)) (funext (fun s_ => kq159_ 101 s_ (outc rfl))) h_) hq53_
              have hq162_ : (mv156 77 10).toInt = (mv49 77 10).toInt := by rw [kq159_ 77 10 (by decide)]
              have hq163_ : (mv156 77 35).toInt = (mv49 77 35).toInt := by rw [kq159_ 77 35 (by decide)]
              have hq164_ : (mv156 77 36).toInt = (mv49 77 36).toInt := by rw [kq159_ 77 36 (by decide)]
              have hq165_ : (mv156 77 12).toInt = (mv49 77 12).toInt := by rw [kq159_ 77 12 (by decide)]
              have hq166_ : (mv156 77 9).toInt = (mv49 77 9).toInt := by rw [kq159_ 77 9 (by decide)]
              refine T_qb rfl (by omega) (by omega) ?_
              exact T_ret ⟨(i_rng (lo := 0) (hi := 1) rfl (by omega) (by omega)), (by have e9 : (rv155).toInt = _ := rfl; omega), (Or.inl (by first | exact l_0 | omega)), gq158_, kq160_⟩
        · unfold f_X12_readsStep_246
          refine T_eq rfl l_40 (fun hq167_ => ?_) (fun hq167_ => ?_)
          · refine T_qc (t_X12_wrongAt hn (6 : Int32) a1 M hG (i_rng (lo := 1) (hi := 6) l_6 (by omega) (by omega))) ?_
            rintro rv168 mv169 ⟨hq170_, gq171_, kq172_⟩
            have kq173_ := Sm.call hS kq172_ rfl
            have hq174_ := (fun h_ => KR_c (kq172_ 77 35 (by decide)) (kq172_ 77 36 (by decide)) (funext (fun s_ => kq172_ 101 s_ (outc rfl))) h_) wKR
            have hq175_ : (mv169 77 9).toInt = (M 77 9).toInt := by rw [kq172_ 77 9 (by decide)]
            have hq176_ : (mv169 77 10).toInt = (M 77 10).toInt := by rw [kq172_ 77 10 (by decide)]
            have hq177_ : (mv169 77 35).toInt = (M 77 35).toInt := by rw [kq172_ 77 35 (by decide)]
            have hq178_ : (mv169 77 36).toInt = (M 77 36).toInt := by rw [kq172_ 77 36 (by decide)]
            have hq179_ : (mv169 77 12).toInt = (M 77 12).toInt := by rw [kq172_ 77 12 (by decide)]
            refine T_qb rfl (by omega) (by omega) ?_
            exact T_ret ⟨(i_rng (lo := 0) (hi := 1) rfl (by omega) (by omega)), (by have e9 : (rv168).toInt = _ := rfl; omega), (Or.inl (by first | exact l_0 | omega)), gq171_, kq173_⟩
          · refine T_qg rfl (by omega) (by omega) ?_
            refine T_mu hG hS (rn_98 _ _) (nw_98 _) (i := 3) rfl ⟨by decide, by decide, Or.inl rfl⟩ ?_
            intro mv180 hq181_ gq182_ kq183_
            have hq184_ := (fun h_ => KR_c (M := M) (M' := mv180) (by rw [hq181_, mu_ne (Or.inl (by decide))]) (by rw [hq181_, mu_ne (Or.inl (by decide))]) (by rw [hq181_, mu_nc (by decide)]) h_) wKR
            have hq185_ : (mv180 77 9).toInt = (M 77 9).toInt := by rw [hq181_, mu_ne (Or.inl (by decide))]
            have hq186_ : (mv180 77 10).toInt = (M 77 10).toInt := by rw [hq181_, mu_ne (Or.inl (by decide))]
            have hq187_ : (mv180 77 35).toInt = (M 77 35).toInt := by rw [hq181_, mu_ne (Or.inl (by decide))]
            have hq188_ : (mv180 77 36).toInt = (M 77 36).toInt := by rw [hq181_, mu_ne (Or.inl (by decide))]
            have hq189_ : (mv180 77 12).toInt = (M 77 12).toInt := by rw [hq181_, mu_ne (Or.inl (by decide))]
            have hq190_ : (mv180 98 ((M 77 35).toNatClampNeg)).toInt = (M 77 12).toInt := by rw [hq181_, mu_at]
            have hq191_ := r_77_35 gq182_
            refine T_qg rfl (by omega) (by omega) ?_
            refine T_mu gq182_ kq183_ (rn_99 _ _) (nw_99 _) (i := 3) rfl ⟨by decide, by decide, Or.inl rfl⟩ ?_
            intro mv192 hq193_ gq194_ kq195_
            have hq196_ := (fun h_ => KR_c (M := mv180) (M' := mv192) (by rw [hq193_, mu_ne (Or.inl (by decide))]) (by rw [hq193_, mu_ne (Or.inl (by decide))]) (by rw [hq193_, mu_nc (by decide)]) h_) hq184_
            have hq197_ : (mv192 77 9).toInt = (mv180 77 9).toInt := by rw [hq193_, mu_ne (Or.inl (by decide))]
            have hq198_ : (mv192 77 10).toInt = (mv180 77 10).toInt := by rw [hq193_, mu_ne (Or.inl (by decide))]
            have hq199_ : (mv192 77 35).toInt = (mv180 77 35).toInt := by rw [hq193_, mu_ne (Or.inl (by decide))]
            have hq200_ : (mv192 77 36).toInt = (mv180 77 36).toInt := by rw [hq193_, mu_ne (Or.inl (by decide))]
            have hq201_ : (mv192 77 12).toInt = (mv180 77 12).toInt := by rw [hq193_, mu_ne (Or.inl (by decide))]
            have hq202_ : (mv192 98 ((M 77 35).toNatClampNeg)).toInt = (mv180 98 ((M 77 35).toNatClampNeg)).toInt := by rw [hq193_, mu_ne (Or.inl (by decide))]
            have hq203_ : (mv192 99 ((mv180 77 35).toNatClampNeg)).toInt = 8 := by rw [hq193_, mu_at]; exact l_8
            have hq205_ := r_77_35 gq194_
            refine T_mu gq194_ kq195_ (i_rng (lo := 0) (hi := 40) (i_add rfl l_1 (by omega) (by omega)) (by omega) (by omega)) nw_77_35 (i := 2) rfl ⟨by decide, by decide, Or.inr ⟨by decide, by decide⟩⟩ ?_
            intro mv204 hq206_ gq207_ kq208_
            have hq209_ : (mv204 77 9).toInt = (mv192 77 9).toInt := by rw [hq206_, mu_ne (Or.inr (by decide))]
            have hq210_ : (mv204 77 10).toInt = (mv192 77 10).toInt := by rw [hq206_, mu_ne (Or.inr (by decide))]
            have hq211_ : (mv204 77 36).toInt = (mv192 77 36).toInt := by rw [hq206_, mu_ne (Or.inr (by decide))]
            have hq212_ : (mv204 77 12).toInt = (mv192 77 12).toInt := by rw [hq206_, mu_ne (Or.inr (by decide))]
            have hq213_ : (mv204 98 ((M 77 35).toNatClampNeg)).toInt = (mv192 98 ((M 77 35).toNatClampNeg)).toInt := by rw [hq206_, mu_ne (Or.inl (by decide))]
            have hq214_ : (mv204 99 ((mv180 77 35).toNatClampNeg)).toInt = (mv192 99 ((mv180 77 35).toNatClampNeg)).toInt := by rw [hq206_, mu_ne (Or.inl (by decide))]
            have hq215_ : (mv204 77 35).toInt = ((mv192 77 35).toInt + 1) := by rw [hq206_, mu_at]; exact (i_add rfl l_1 (by omega) (by omega))
            have hq216_ := r_77_9 gq207_
            have hq217_ := r_77_10 gq207_
            have hq218_ := r_77_35 gq207_
            have hq219_ := r_77_36 gq207_
            exact (t_X12_readsStep_296 hn) n  mv204 gq207_ kq208_ (by omega) (KR_up (M := mv192) hq196_ (by rw [hq206_, mu_ne (Or.inr (by decide))]) (by rw [hq206_, mu_nc (by decide)]) (by omega)) (by omega)
      · refine T_qc (t_X12_wrongAt hn (3 : Int32) a1 M hG (i_rng (lo := 1) (hi := 6) l_3 (by omega) (by omega))) ?_
        rintro rv220 mv221 ⟨hq222_, gq223_, kq224_⟩
        have kq225_ := Sm.call hS kq224_ rfl
        have hq226_ := (fun h_ => KR_c (kq224_ 77 35 (by decide)) (kq224_ 77 36 (by decide)) (funext (fun s_ => kq224_ 101 s_ (outc rfl))) h_) wKR
        have hq227_ : (mv221 77 9).toInt = (M 77 9).toInt := by rw [kq224_ 77 9 (by decide)]
        have hq228_ : (mv221 77 10).toInt = (M 77 10).toInt := by rw [kq224_ 77 10 (by decide)]
        have hq229_ : (mv221 77 35).toInt = (M 77 35).toInt := by rw [kq224_ 77 35 (by decide)]
        have hq230_ : (mv221 77 36).toInt = (M 77 36).toInt := by rw [kq224_ 77 36 (by decide)]
        have hq231_ : (mv221 77 12).toInt = (M 77 12).toInt := by rw [kq224_ 77 12 (by decide)]
        refine T_qb rfl (by omega) (by omega) ?_
        exact T_ret ⟨(i_rng (lo := 0) (hi := 1) rfl (by omega) (by omega)), (by have e9 : (rv220).toInt = _ := rfl; omega), (Or.inl (by first | exact l_0 | omega)), gq223_, kq225_⟩
    · refine T_le (i_add rfl l_2 (by omega) (by omega)) rfl (fun hq232_ => ?_) (fun hq232_ => ?_)
      · unfold f_X12_readsStep_157
        refine T_lt rfl l_12 (fun hq233_ => ?_) (fun hq233_ => ?_)
        · refine T_qc (t_X12_here hn  M hG ) ?_
          rintro rv234 mv235 ⟨hq236_, hq237_, gq238_, kq239_⟩
          have hq240_ := kq239_.nil
          subst hq240_
          refine T_eq rfl l_38 (fun hq241_ => ?_) (fun hq241_ => ?_)
          · refine T_mu hG hS (i_rng (lo := 0) (hi := 240) (i_add rfl l_1 (by omega) (by omega)) (by omega) (by omega)) nw_77_9 (i := 0) rfl ⟨by decide, by decide, Or.inr ⟨by decide, by decide⟩⟩ ?_
            intro mv242 hq243_ gq244_ kq245_
            have hq246_ := (fun h_ => KR_c (M := M) (M' := mv242) (by rw [hq243_, mu_ne (Or.inr (by decide))]) (by rw [hq243_, mu_ne (Or.inr (by decide))]) (by rw [hq243_, mu_nc (by decide)]) h_) wKR
            have hq247_ : (mv242 77 10).toInt = (M 77 10).toInt := by rw [hq243_, mu_ne (Or.inr (by decide))]
            have hq248_ : (mv242 77 35).toInt = (M 77 35).toInt := by rw [hq243_, mu_ne (Or.inr (by decide))]
            have hq249_ : (mv242 77 36).toInt = (M 77 36).toInt := by rw [hq243_, mu_ne (Or.inr (by decide))]
            have hq250_ : (mv242 77 12).toInt = (M 77 12).toInt := by rw [hq243_, mu_ne (Or.inr (by decide))]
            have hq251_ : (mv242 77 9).toInt = ((M 77 9).toInt + 1) := by rw [hq243_, mu_at]; exact (i_add rfl l_1 (by omega) (by omega))
            refine T_qc (t_X12_isDigit hn  mv242 gq244_ ) ?_
            rintro rv252 mv253 ⟨hq254_, hq255_, gq256_, kq257_⟩
            have hq258_ := r_77_9 gq244_
            have hq259_ := r_77_10 gq244_
            have hq260_ := kq257_.nil
            subst hq260_
            refine T_eq rfl l_0 (fun hq261_ => ?_) (fun hq261_ => ?_)
            · refine T_qc (t_X12_wrongAt hn (1 : Int32) (mv242 77 9) mv242 gq244_ (i_rng (lo := 1) (hi := 6) l_1 (by omega) (by omega))) ?_
              rintro rv262 mv263 ⟨hq264_, gq265_, kq266_⟩
              have kq267_ := Sm.call kq245_ kq266_ rfl
              have hq268_ := (fun h_ => KR_c (kq266_ 77 35 (by decide)) (kq266_ 77 36 (by decide)) (funext (fun s_ => kq266_ 101 s_ (outc rfl))) h_) hq246_
              have hq269_ : (mv263 77 10).toInt = (mv242 77 10).toInt := by rw [kq266_ 77 10 (by decide)]
              have hq270_ : (mv263 77 35).toInt = (mv242 77 35).toInt := by rw [kq266_ 77 35 (by decide)]
              have hq271_ : (mv263 77 36).toInt = (mv242 77 36).toInt := by rw [kq266_ 77 36 (by decide)]
              have hq272_ : (mv263 77 12).toInt = (mv242 77 12).toInt := by rw [kq266_ 77 12 (by decide)]
              have hq273_ : (mv263 77 9).toInt = (mv242 77 9).toInt := by rw [kq266_ 77 9 (by decide)]
              refine T_qb rfl (by omega) (by omega) ?_
              exact T_ret ⟨(i_rng (lo := 0) (hi := 1) rfl (by omega) (by omega)), (by have e9 : (rv262).toInt = _ := rfl; omega), (Or.inl (by first | exact l_0 | omega)), gq265_, kq267_⟩
            · refine T_qc (t_X12_here hn  mv242 gq244_ ) ?_
              rintro rv274 mv275 ⟨hq276_, hq277_, gq278_, kq279_⟩
              have hq280_ := kq279_.nil
              subst hq280_
              refine T_ql (i_sub rfl l_48 (by omega) (by omega)) ?_
              intro xv281 hq282_
              refine T_lt rfl l_8 (fun hq283_ => ?_) (fun hq283_ => ?_)
              · refine T_mu gq244_ kq245_ (i_rng (lo := 0) (hi := 240) (i_add rfl l_1 (by omega) (by omega)) (by omega) (by omega)) nw_77_9 (i := 0) rfl ⟨by decide, by decide, Or.inr ⟨by decide, by decide⟩⟩ ?_
                intro mv284 hq285_ gq286_ kq287_
                have hq288_ := (fun h_ => KR_c (M := mv242) (M' := mv284) (by rw [hq285_, mu_ne (Or.inr (by decide))]) (by rw [hq285_, mu_ne (Or.inr (by decide))]) (by rw [hq285_, mu_nc (by decide)]) h_) hq246_
                have hq289_ : (mv284 77 10).toInt = (mv242 77 10).toInt := by rw [hq285_, mu_ne (Or.inr (by decide))]
                have hq290_ : (mv284 77 35).toInt = (mv242 77 35).toInt := by rw [hq285_, mu_ne (Or.inr (by decide))]
                have hq291_ : (mv284 77 36).toInt = (mv242 77 36).toInt := by rw [hq285_, mu_ne (Or.inr (by decide))]
                have hq292_ : (mv284 77 12).toInt = (mv242 77 12).toInt := by rw [hq285_, mu_ne (Or.inr (by decide))]
                have hq293_ : (mv284 77 9).toInt = ((mv242 77 9).toInt + 1) := by rw [hq285_, mu_at]; exact (i_add rfl l_1 (by omega) (by omega))
                unfold f_X12_readsStep_246
                have hq294_ := r_77_35 gq286_
                refine T_eq rfl l_40 (fun hq295_ => ?_) (fun hq295_ => ?_)
                · refine T_qc (t_X12_wrongAt hn (6 : Int32) a1 mv284 gq286_ (i_rng (lo := 1) (hi := 6) l_6 (by omega) (by omega))) ?_
                  rintro rv296 mv297 ⟨hq298_, gq299_, kq300_⟩
                  have kq301_ := Sm.call kq287_ kq300_ rfl
                  have hq302_ := (fun h_ => KR_c (kq300_ 77 35 (by decide)) (kq300_ 77 36 (by decide)) (funext (fun s_ => kq300_ 101 s_ (outc rfl))) h_) hq288_
                  have hq303_ : (mv297 77 10).toInt = (mv284 77 10).toInt := by rw [kq300_ 77 10 (by decide)]
                  have hq304_ : (mv297 77 35).toInt = (mv284 77 35).toInt := by rw [kq300_ 77 35 (by decide)]
                  have hq305_ : (mv297 77 36).toInt = (mv284 77 36).toInt := by rw [kq300_ 77 36 (by decide)]
                  have hq306_ : (mv297 77 12).toInt = (mv284 77 12).toInt := by rw [kq300_ 77 12 (by decide)]
                  have hq307_ : (mv297 77 9).toInt = (mv284 77 9).toInt := by rw [kq300_ 77 9 (by decide)]
                  refine T_qb rfl (by omega) (by omega) ?_
                  exact T_ret ⟨(i_rng (lo := 0) (hi := 1) rfl (by omega) (by omega)), (by have e9 : (rv296).toInt = _ := rfl; omega), (Or.inl (by first | exact l_0 | omega)), gq299_, kq301_⟩
                · refine T_qg rfl (by omega) (by omega) ?_
                  refine T_mu gq286_ kq287_ (rn_98 _ _) (nw_98 _) (i := 3) rfl ⟨by decide, by decide, Or.inl rfl⟩ ?_
                  intro mv308 hq309_ gq310_ kq311_
                  have hq312_ := (fun h_ => KR_c (M := mv284) (M' := mv308) (by rw [hq309_, mu_ne (Or.inl (by decide))]) (by rw [hq309_, mu_ne (Or.inl (by decide))]) (by rw [hq309_, mu_nc (by decide)]) h_) hq288_
                  have hq313_ : (mv308 77 10).toInt = (mv284 77 10).toInt := by rw [hq309_, mu_ne (Or.inl (by decide))]
                  have hq314_ : (mv308 77 35).toInt = (mv284 77 35).toInt := by rw [hq309_, mu_ne (Or.inl (by decide))]
                  have hq315_ : (mv308 77 36).toInt = (mv284 77 36).toInt := by rw [hq309_, mu_ne (Or.inl (by decide))]
                  have hq316_ : (mv308 77 12).toInt = (mv284 77 12).toInt := by rw [hq309_, mu_ne (Or.inl (by decide))]
                  have hq317_ : (mv308 77 9).toInt = (mv284 77 9).toInt := by rw [hq309_, mu_ne (Or.inl (by decide))]
                  have hq318_ : (mv308 98 ((mv284 77 35).toNatClampNeg)).toInt = (mv284 77 12).toInt := by rw [hq309_, mu_at]
                  have hq319_ := r_77_35 gq310_
                  refine T_qg rfl (by omega) (by omega) ?_
                  refine T_mu gq310_ kq311_ (rn_99 _ _) (nw_99 _) (i := 3) rfl ⟨by decide, by decide, Or.inl rfl⟩ ?_
                  intro mv320 hq321_ gq322_ kq323_
                  have hq324_ := (fun h_ => KR_c (M := mv308) (M' := mv320) (by rw [hq321_, mu_ne (Or.inl (by decide))]) (by rw [hq321_, mu_ne (Or.inl (by decide))]) (by rw [hq321_, mu_nc (by decide)]) h_) hq312_
                  have hq325_ : (mv320 77 10).toInt = (mv308 77 10).toInt := by rw [hq321_, mu_ne (Or.inl (by decide))]
                  have hq326_ : (mv320 77 35).toInt = (mv308 77 35).toInt := by rw [hq321_, mu_ne (Or.inl (by decide))]
                  have hq327_ : (mv320 77 36).toInt = (mv308 77 36).toInt := by rw [hq321_, mu_ne (Or.inl (by decide))]
                  have hq328_ : (mv320 77 12).toInt = (mv308 77 12).toInt := by rw [hq321_, mu_ne (Or.inl (by decide))]
                  have hq329_ : (mv320 77 9).toInt = (mv308 77 9).toInt := by rw [hq321_, mu_ne (Or.inl (by decide))]
                  have hq330_ : (mv320 98 ((mv284 77 35).toNatClampNeg)).toInt = (mv308 98 ((mv284 77 35).toNatClampNeg)).toInt := by rw [hq321_, mu_ne (Or.inl (by decide))]
                  have hq331_ : (mv320 99 ((mv308 77 35).toNatClampNeg)).toInt = xv281.toInt := by rw [hq321_, mu_at]
                  have hq333_ := r_77_35 gq322_
                  refine T_mu gq322_ kq323_ (i_rng (lo := 0) (hi := 40) (i_add rfl l_1 (by omega) (by omega)) (by omega) (by omega)) nw_77_35 (i := 2) rfl ⟨by decide, by decide, Or.inr ⟨by decide, by decide⟩⟩ ?_
                  intro mv332 hq334_ gq335_ kq336_
                  have hq337_ : (mv332 77 10).toInt = (mv320 77 10).toInt := by rw [hq334_, mu_ne (Or.inr (by decide))]
                  have hq338_ : (mv332 77 36).toInt = (mv320 77 36).toInt := by rw [hq334_, mu_ne (Or.inr (by decide))]
                  have hq339_ : (mv332 77 12).toInt = (mv320 77 12).toInt := by rw [hq334_, mu_ne (Or.inr (by decide))]
                  have hq340_ : (mv332 77 9).toInt = (mv320 77 9).toInt := by rw [hq334_, mu_ne (Or.inr (by decide))]
                  have hq341_ : (mv332 98 ((mv284 77 35).toNatClampNeg)).toInt = (mv320 98 ((mv284 77 35).toNatClampNeg)).toInt := by rw [hq334_, mu_ne (Or.inl (by decide))]
                  have hq342_ : (mv332 99 ((mv308 77 35).toNatClampNeg)).toInt = (mv320 99 ((mv308 77 35).toNatClampNeg)).toInt := by rw [hq334_, mu_ne (Or.inl (by decide))]
                  have hq343_ : (mv332 77 35).toInt = ((mv320 77 35).toInt + 1) := by rw [hq334_, mu_at]; exact (i_add rfl l_1 (by omega) (by omega))
                  have hq344_ := r_77_9 gq335_
                  have hq345_ := r_77_10 gq335_
                  have hq346_ := r_77_35 gq335_
                  have hq347_ := r_77_36 gq335_
                  exact (t_X12_readsStep_296 hn) n  mv332 gq335_ kq336_ (by omega) (KR_up (M := mv320) hq324_ (by rw [hq334_, mu_ne (Or.inr (by decide))]) (by rw [hq334_, mu_nc (by decide)]) (by omega)) (by omega)
              · refine T_qc (t_X12_wrongAt hn (3 : Int32) (mv242 77 9) mv242 gq244_ (i_rng (lo := 1) (hi := 6) l_3 (by omega) (by omega))) ?_
                rintro rv348 mv349 ⟨hq350_, gq351_, kq352_⟩
                have kq353_ := Sm.call kq245_ kq352_ rfl
                have hq354_ := (fun h_ => KR_c (kq352_ 77 35 (by decide)) (kq352_ 77 36 (by decide)) (funext (fun s_ => kq352_ 101 s_ (outc rfl))) h_) hq246_
                have hq355_ : (mv349 77 10).toInt = (mv242 77 10).toInt := by rw [kq352_ 77 10 (by decide)]
                have hq356_ : (mv349 77 35).toInt = (mv242 77 35).toInt := by rw [kq352_ 77 35 (by decide)]
                have hq357_ : (mv349 77 36).toInt = (mv242 77 36).toInt := by rw [kq352_ 77 36 (by decide)]
                have hq358_ : (mv349 77 12).toInt = (mv242 77 12).toInt := by rw [kq352_ 77 12 (by decide)]
                have hq359_ : (mv349 77 9).toInt = (mv242 77 9).toInt := by rw [kq352_ 77 9 (by decide)]
                refine T_qb rfl (by omega) (by omega) ?_
                exact T_ret ⟨(i_rng (lo := 0) (hi := 1) rfl (by omega) (by omega)), (by have e9 : (rv348).toInt = _ := rfl; omega), (Or.inl (by first | exact l_0 | omega)), gq351_, kq353_⟩
          · unfold f_X12_readsStep_246
            refine T_eq rfl l_40 (fun hq360_ => ?_) (fun hq360_ => ?_)
            · refine T_qc (t_X12_wrongAt hn (6 : Int32) a1 M hG (i_rng (lo := 1) (hi := 6) l_6 (by omega) (by omega))) ?_
              rintro rv361 mv362 ⟨hq363_, gq364_, kq365_⟩
              have kq366_ := Sm.call hS kq365_ rfl
              have hq367_ := (fun h_ => KR_c (kq365_ 77 35 (by decide)) (kq365_ 77 36 (by decide)) (funext (fun s_ => kq365_ 101 s_ (outc rfl))) h_) wKR
              have hq368_ : (mv362 77 9).toInt = (M 77 9).toInt := by rw [kq365_ 77 9 (by decide)]
              have hq369_ : (mv362 77 10).toInt = (M 77 10).toInt := by rw [kq365_ 77 10 (by decide)]
              have hq370_ : (mv362 77 35).toInt = (M 77 35).toInt := by rw [kq365_ 77 35 (by decide)]
              have hq371_ : (mv362 77 36).toInt = (M 77 36).toInt := by rw [kq365_ 77 36 (by decide)]
              have hq372_ : (mv362 77 12).toInt = (M 77 12).toInt := by rw [kq365_ 77 12 (by decide)]
              refine T_qb rfl (by omega) (by omega) ?_
              exact T_ret ⟨(i_rng (lo := 0) (hi := 1) rfl (by omega) (by omega)), (by have e9 : (rv361).toInt = _ := rfl; omega), (Or.inl (by first | exact l_0 | omega)), gq364_, kq366_⟩
            · refine T_qg rfl (by omega) (by omega) ?_
              refine T_mu hG hS (rn_98 _ _) (nw_98 _) (i := 3) rfl ⟨by decide, by decide, Or.inl rfl⟩ ?_
              intro mv373 hq374_ gq375_ kq376_
              have hq377_ := (fun h_ => KR_c (M := M) (M' := mv373) (by rw [hq374_, mu_ne (Or.inl (by decide))]) (by rw [hq374_, mu_ne (Or.inl (by decide))]) (by rw [hq374_, mu_nc (by decide)]) h_) wKR
              have hq378_ : (mv373 77 9).toInt = (M 77 9).toInt := by rw [hq374_, mu_ne (Or.inl (by decide))]
              have hq379_ : (mv373 77 10).toInt = (M 77 10).toInt := by rw [hq374_, mu_ne (Or.inl (by decide))]
              have hq380_ : (mv373 77 35).toInt = (M 77 35).toInt := by rw [hq374_, mu_ne (Or.inl (by decide))]
              have hq381_ : (mv373 77 36).toInt = (M 77 36).toInt := by rw [hq374_, mu_ne (Or.inl (by decide))]
              have hq382_ : (mv373 77 12).toInt = (M 77 12).toInt := by rw [hq374_, mu_ne (Or.inl (by decide))]
              have hq383_ : (mv373 98 ((M 77 35).toNatClampNeg)).toInt = (M 77 12).toInt := by rw [hq374_, mu_at]
              have hq384_ := r_77_35 gq375_
              refine T_qg rfl (by omega) (by omega) ?_
              refine T_mu gq375_ kq376_ (rn_99 _ _) (nw_99 _) (i := 3) rfl ⟨by decide, by decide, Or.inl rfl⟩ ?_
              intro mv385 hq386_ gq387_ kq388_
              have hq389_ := (fun h_ => KR_c (M := mv373) (M' := mv385) (by rw [hq386_, mu_ne (Or.inl (by decide))]) (by rw [hq386_, mu_ne (Or.inl (by decide))]) (by rw [hq386_, mu_nc (by decide)]) h_) hq377_
              have hq390_ : (mv385 77 9).toInt = (mv373 77 9).toInt := by rw [hq386_, mu_ne (Or.inl (by decide))]
              have hq391_ : (mv385 77 10).toInt = (mv373 77 10).toInt := by rw [hq386_, mu_ne (Or.inl (by decide))]
              have hq392_ : (mv385 77 35).toInt = (mv373 77 35).toInt := by rw [hq386_, mu_ne (Or.inl (by decide))]
              have hq393_ : (mv385 77 36).toInt = (mv373 77 36).toInt := by rw [hq386_, mu_ne (Or.inl (by decide))]
              have hq394_ : (mv385 77 12).toInt = (mv373 77 12).toInt := by rw [hq386_, mu_ne (Or.inl (by decide))]
              have hq395_ : (mv385 98 ((M 77 35).toNatClampNeg)).toInt = (mv373 98 ((M 77 35).toNatClampNeg)).toInt := by rw [hq386_, mu_ne (Or.inl (by decide))]
              have hq396_ : (mv385 99 ((mv373 77 35).toNatClampNeg)).toInt = 8 := by rw [hq386_, mu_at]; exact l_8
              have hq398_ := r_77_35 gq387_
              refine T_mu gq387_ kq388_ (i_rng (lo := 0) (hi := 40) (i_add rfl l_1 (by omega) (by omega)) (by omega) (by omega)) nw_77_35 (i := 2) rfl ⟨by decide, by decide, Or.inr ⟨by decide, by decide⟩⟩ ?_
              intro mv397 hq399_ gq400_ kq401_
              have hq402_ : (mv397 77 9).toInt = (mv385 77 9).toInt := by rw [hq399_, mu_ne (Or.inr (by decide))]
              have hq403_ : (mv397 77 10).toInt = (mv385 77 10).toInt := by rw [hq399_, mu_ne (Or.inr (by decide))]
              have hq404_ : (mv397 77 36).toInt = (mv385 77 36).toInt := by rw [hq399_, mu_ne (Or.inr (by decide))]
              have hq405_ : (mv397 77 12).toInt = (mv385 77 12).toInt := by rw [hq399_, mu_ne (Or.inr (by decide))]
              have hq406_ : (mv397 98 ((M 77 35).toNatClampNeg)).toInt = (mv385 98 ((M 77 35).toNatClampNeg)).toInt := by rw [hq399_, mu_ne (Or.inl (by decide))]
              have hq407_ : (mv397 99 ((mv373 77 35).toNatClampNeg)).toInt = (mv385 99 ((mv373 77 35).toNatClampNeg)).toInt := by rw [hq399_, mu_ne (Or.inl (by decide))]
              have hq408_ : (mv397 77 35).toInt = ((mv385 77 35).toInt + 1) := by rw [hq399_, mu_at]; exact (i_add rfl l_1 (by omega) (by omega))
              have hq409_ := r_77_9 gq400_
              have hq410_ := r_77_10 gq400_
              have hq411_ := r_77_35 gq400_
              have hq412_ := r_77_36 gq400_
              exact (t_X12_readsStep_296 hn) n  mv397 gq400_ kq401_ (by omega) (KR_up (M := mv385) hq389_ (by rw [hq399_, mu_ne (Or.inr (by decide))]) (by rw [hq399_, mu_nc (by decide)]) (by omega)) (by omega)
        · refine T_qc (t_X12_wrongAt hn (3 : Int32) a1 M hG (i_rng (lo := 1) (hi := 6) l_3 (by omega) (by omega))) ?_
          rintro rv413 mv414 ⟨hq415_, gq416_, kq417_⟩
          have kq418_ := Sm.call hS kq417_ rfl
          have hq419_ := (fun h_ => KR_c (kq417_ 77 35 (by decide)) (kq417_ 77 36 (by decide)) (funext (fun s_ => kq417_ 101 s_ (outc rfl))) h_) wKR
          have hq420_ : (mv414 77 9).toInt = (M 77 9).toInt := by rw [kq417_ 77 9 (by decide)]
          have hq421_ : (mv414 77 10).toInt = (M 77 10).toInt := by rw [kq417_ 77 10 (by decide)]
          have hq422_ : (mv414 77 35).toInt = (M 77 35).toInt := by rw [kq417_ 77 35 (by decide)]
          have hq423_ : (mv414 77 36).toInt = (M 77 36).toInt := by rw [kq417_ 77 36 (by decide)]
          have hq424_ : (mv414 77 12).toInt = (M 77 12).toInt := by rw [kq417_ 77 12 (by decide)]
          refine T_qb rfl (by omega) (by omega) ?_
          exact T_ret ⟨(i_rng (lo := 0) (hi := 1) rfl (by omega) (by omega)), (by have e9 : (rv413).toInt = _ := rfl; omega), (Or.inl (by first | exact l_0 | omega)), gq416_, kq418_⟩
      · refine T_qc (t_X12_here hn  M hG ) ?_
        rintro rv425 mv426 ⟨hq427_, hq428_, gq429_, kq430_⟩
        have hq431_ := kq430_.nil
        subst hq431_
        have hq433_ := i_full (M 77 12)
        have hq434_ := i_full ((10 : Int32) * (M 77 12))
        have hq435_ := i_full (((10 : Int32) * (M 77 12)) + rv425)
        refine T_mu hG hS (rn_77_12 _) nw_77_12 (i := 1) rfl ⟨by decide, by decide, Or.inr ⟨by decide, by decide⟩⟩ ?_
        intro mv432 hq436_ gq437_ kq438_
        have hq439_ := (fun h_ => KR_c (M := M) (M' := mv432) (by rw [hq436_, mu_ne (Or.inr (by decide))]) (by rw [hq436_, mu_ne (Or.inr (by decide))]) (by rw [hq436_, mu_nc (by decide)]) h_) wKR
        have hq440_ : (mv432 77 9).toInt = (M 77 9).toInt := by rw [hq436_, mu_ne (Or.inr (by decide))]
        have hq441_ : (mv432 77 10).toInt = (M 77 10).toInt := by rw [hq436_, mu_ne (Or.inr (by decide))]
        have hq442_ : (mv432 77 35).toInt = (M 77 35).toInt := by rw [hq436_, mu_ne (Or.inr (by decide))]
        have hq443_ : (mv432 77 36).toInt = (M 77 36).toInt := by rw [hq436_, mu_ne (Or.inr (by decide))]
        have hq444_ : (mv432 77 12).toInt = ((((10 : Int32) * (M 77 12)) + rv425) - (48 : Int32)).toInt := by rw [hq436_, mu_at]
        have hq446_ := r_77_9 gq437_
        refine T_mu gq437_ kq438_ (i_rng (lo := 0) (hi := 240) (i_add rfl l_1 (by omega) (by omega)) (by omega) (by omega)) nw_77_9 (i := 0) rfl ⟨by decide, by decide, Or.inr ⟨by decide, by decide⟩⟩ ?_
        intro mv445 hq447_ gq448_ kq449_
        have hq450_ := (fun h_ => KR_c (M := mv432) (M' := mv445) (by rw [hq447_, mu_ne (Or.inr (by decide))]) (by rw [hq447_, mu_ne (Or.inr (by decide))]) (by rw [hq447_, mu_nc (by decide)]) h_) hq439_
        have hq451_ : (mv445 77 10).toInt = (mv432 77 10).toInt := by rw [hq447_, mu_ne (Or.inr (by decide))]
        have hq452_ : (mv445 77 35).toInt = (mv432 77 35).toInt := by rw [hq447_, mu_ne (Or.inr (by decide))]
        have hq453_ : (mv445 77 36).toInt = (mv432 77 36).toInt := by rw [hq447_, mu_ne (Or.inr (by decide))]
        have hq454_ : (mv445 77 12).toInt = (mv432 77 12).toInt := by rw [hq447_, mu_ne (Or.inr (by decide))]
        have hq455_ : (mv445 77 9).toInt = ((mv432 77 9).toInt + 1) := by rw [hq447_, mu_at]; exact (i_add rfl l_1 (by omega) (by omega))
        have hq456_ := r_77_9 gq448_
        have hq457_ := r_77_10 gq448_
        have hq458_ := r_77_35 gq448_
        have hq459_ := r_77_36 gq448_
        exact ih a1 mv445 gq448_ kq449_ (i_rng (lo := 0) (hi := 240) rfl (by omega) (by omega)) (by omega) hq450_ (by omega)
theorem t_X12_readsStep_5 {n : Nat} (hn : 200000 ≤ n) {M0 : qM} : ∀ (m : Nat) (a1 : Int32) (M : qM), G M → Sm l_X12_readsStep M0 M → 0 ≤ a1.toInt ∧ a1.toInt ≤ 240 → (M0 77 9).toInt ≤ (M 77 9).toInt → KR  M → 241 - (M 77 9).toInt < (m : Int) → qT (f_X12_readsStep_5 n m a1 M) (po_X12_readsStep  M0) := by
  intro m
  induction m with
  | zero =>
    intro a1 M hG hS i0 hE wKR i5
    have hq460_ := r_77_9 hG
    have hq461_ := r_77_10 hG
    have hq462_ := r_77_35 hG
    have hq463_ := r_77_36 hG
    exfalso; omega
  | succ m ih =>
    intro a1 M hG hS i0 hE wKR i5
    show qT (b_X12_readsStep_5 n (f_X12_readsStep_5 n m) a1 M) _
    unfold b_X12_readsStep_5
    have hq460_ := r_77_9 hG
    have hq461_ := r_77_10 hG
    have hq462_ := r_77_35 hG
    have hq463_ := r_77_36 hG
    refine T_qc (t_X12_here hn  M hG ) ?_
    rintro rv464 mv465 ⟨hq466_, hq467_, gq468_, kq469_⟩
    have hq470_ := kq469_.nil
    subst hq470_
    refine T_eq rfl l_40 (fun hq471_ => ?_) (fun hq471_ => ?_)
    · refine T_eq rfl l_3 (fun hq472_ => ?_) (fun hq472_ => ?_)
      · refine T_qc (t_X12_wrongAt hn (5 : Int32) (M 77 9) M hG (i_rng (lo := 1) (hi := 6) l_5 (by omega) (by omega))) ?_
        rintro rv473 mv474 ⟨hq475_, gq476_, kq477_⟩
        have kq478_ := Sm.call hS kq477_ rfl
        have hq479_ := (fun h_ => KR_c (kq477_ 77 35 (by decide)) (kq477_ 77 36 (by decide)) (funext (fun s_ => kq477_ 101 s_ (outc rfl))) h_) wKR
        have hq480_ : (mv474 77 9).toInt = (M 77 9).toInt := by rw [kq477_ 77 9 (by decide)]
        have hq481_ : (mv474 77 10).toInt = (M 77 10).toInt := by rw [kq477_ 77 10 (by decide)]
        have hq482_ : (mv474 77 35).toInt = (M 77 35).toInt := by rw [kq477_ 77 35 (by decide)]
        have hq483_ : (mv474 77 36).toInt = (M 77 36).toInt := by rw [kq477_ 77 36 (by decide)]
        refine T_qb rfl (by omega) (by omega) ?_
        exact T_ret ⟨(i_rng (lo := 0) (hi := 1) rfl (by omega) (by omega)), (by have e9 : (rv473).toInt = _ := rfl; omega), (Or.inl (by first | exact l_0 | omega)), gq476_, kq478_⟩
      · refine T_qg rfl (by omega) (by omega) ?_
        refine T_mu hG hS (rn_100 _ _) (nw_100 _) (i := 3) rfl ⟨by decide, by decide, Or.inl rfl⟩ ?_
        intro mv484 hq485_ gq486_ kq487_
        have hq488_ := (fun h_ => KR_c (M := M) (M' := mv484) (by rw [hq485_, mu_ne (Or.inl (by decide))]) (by rw [hq485_, mu_ne (Or.inl (by decide))]) (by rw [hq485_, mu_nc (by decide)]) h_) wKR
        have hq489_ : (mv484 77 9).toInt = (M 77 9).toInt := by rw [hq485_, mu_ne (Or.inl (by decide))]
        have hq490_ : (mv484 77 10).toInt = (M 77 10).toInt := by rw [hq485_, mu_ne (Or.inl (by decide))]
        have hq491_ : (mv484 77 35).toInt = (M 77 35).toInt := by rw [hq485_, mu_ne (Or.inl (by decide))]
        have hq492_ : (mv484 77 36).toInt = (M 77 36).toInt := by rw [hq485_, mu_ne (Or.inl (by decide))]
        have hq493_ : (mv484 100 ((M 77 36).toNatClampNeg)).toInt = (M 77 9).toInt := by rw [hq485_, mu_at]
        have hq494_ := r_77_36 gq486_
        refine T_qg rfl (by omega) (by omega) ?_
        have hq496_ := r_77_35 gq486_
        refine T_mu gq486_ kq487_ (i_rng (lo := 0) (hi := 40) rfl (by omega) (by omega)) (nw_101 _) (i := 3) rfl ⟨by decide, by decide, Or.inl rfl⟩ ?_
        intro mv495 hq497_ gq498_ kq499_
        have hq500_ : (mv495 77 9).toInt = (mv484 77 9).toInt := by rw [hq497_, mu_ne (Or.inl (by decide))]
        have hq501_ : (mv495 77 10).toInt = (mv484 77 10).toInt := by rw [hq497_, mu_ne (Or.inl (by decide))]
        have hq502_ : (mv495 77 35).toInt = (mv484 77 35).toInt := by rw [hq497_, mu_ne (Or.inl (by decide))]
        have hq503_ : (mv495 77 36).toInt = (mv484 77 36).toInt := by rw [hq497_, mu_ne (Or.inl (by decide))]
        have hq504_ : (mv495 100 ((M 77 36).toNatClampNeg)).toInt = (mv484 100 ((M 77 36).toNatClampNeg)).toInt := by rw [hq497_, mu_ne (Or.inl (by decide))]
        have hq505_ : (mv495 101 ((mv484 77 36).toNatClampNeg)).toInt = (mv484 77 35).toInt := by rw [hq497_, mu_at]
        have hq507_ := r_77_36 gq498_
        refine T_mu gq498_ kq499_ (i_rng (lo := 0) (hi := 3) (i_add rfl l_1 (by omega) (by omega)) (by omega) (by omega)) nw_77_36 (i := 2) rfl ⟨by decide, by decide, Or.inr ⟨by decide, by decide⟩⟩ ?_
        intro mv506 hq508_ gq509_ kq510_
        have hq511_ : (mv506 77 9).toInt = (mv495 77 9).toInt := by rw [hq508_, mu_ne (Or.inr (by decide))]
        have hq512_ : (mv506 77 10).toInt = (mv495 77 10).toInt := by rw [hq508_, mu_ne (Or.inr (by decide))]
        have hq513_ : (mv506 77 35).toInt = (mv495 77 35).toInt := by rw [hq508_, mu_ne (Or.inr (by decide))]
        have hq514_ : (mv506 100 ((M 77 36).toNatClampNeg)).toInt = (mv495 100 ((M 77 36).toNatClampNeg)).toInt := by rw [hq508_, mu_ne (Or.inl (by decide))]
        have hq515_ : (mv506 101 ((mv484 77 36).toNatClampNeg)).toInt = (mv495 101 ((mv484 77 36).toNatClampNeg)).toInt := by rw [hq508_, mu_ne (Or.inl (by decide))]
        have hq516_ : (mv506 77 36).toInt = ((mv495 77 36).toInt + 1) := by rw [hq508_, mu_at]; exact (i_add rfl l_1 (by omega) (by omega))
        have hq518_ := r_77_9 gq509_
        refine T_mu gq509_ kq510_ (i_rng (lo := 0) (hi := 240) (i_add rfl l_1 (by omega) (by omega)) (by omega) (by omega)) nw_77_9 (i := 0) rfl ⟨by decide, by decide, Or.inr ⟨by decide, by decide⟩⟩ ?_
        intro mv517 hq519_ gq520_ kq521_
        have hq522_ : (mv517 77 10).toInt = (mv506 77 10).toInt := by rw [hq519_, mu_ne (Or.inr (by decide))]
        have hq523_ : (mv517 77 35).toInt = (mv506 77 35).toInt := by rw [hq519_, mu_ne (Or.inr (by decide))]
        have hq524_ : (mv517 100 ((M 77 36).toNatClampNeg)).toInt = (mv506 100 ((M 77 36).toNatClampNeg)).toInt := by rw [hq519_, mu_ne (Or.inl (by decide))]
        have hq525_ : (mv517 101 ((mv484 77 36).toNatClampNeg)).toInt = (mv506 101 ((mv484 77 36).toNatClampNeg)).toInt := by rw [hq519_, mu_ne (Or.inl (by decide))]
        have hq526_ : (mv517 77 36).toInt = (mv506 77 36).toInt := by rw [hq519_, mu_ne (Or.inr (by decide))]
        have hq527_ : (mv517 77 9).toInt = ((mv506 77 9).toInt + 1) := by rw [hq519_, mu_at]; exact (i_add rfl l_1 (by omega) (by omega))
        have hq528_ := r_77_9 gq520_
        refine T_ql rfl ?_
        intro xv529 hq530_
        have hq531_ := r_77_10 gq520_
        have hq532_ := r_77_35 gq520_
        have hq533_ := r_77_36 gq520_
        exact ih xv529 mv517 gq520_ kq521_ (i_rng (lo := 0) (hi := 240) rfl (by omega) (by omega)) (by omega) (KR_push (M := mv484) (j := ((mv484 77 36).toNatClampNeg)) hq488_ (by omega) (by omega) (by rw [tnc]; omega) (fun s_ hs_ => by rw [hq519_, mu_ne (Or.inl (by decide))]; rw [hq508_, mu_ne (Or.inl (by decide))]; rw [hq497_, mu_ne (Or.inr hs_)]) (by rw [hq519_, mu_ne (Or.inl (by decide))]; rw [hq508_, mu_ne (Or.inl (by decide))]; rw [hq497_, mu_at]; all_goals omega)) (by omega)
    · refine T_qc (t_X12_isDigit hn  M hG ) ?_
      rintro rv534 mv535 ⟨hq536_, hq537_, gq538_, kq539_⟩
      have hq540_ := kq539_.nil
      subst hq540_
      refine T_eq rfl l_0 (fun hq541_ => ?_) (fun hq541_ => ?_)
      · refine T_qc (t_X12_wrongAt hn (1 : Int32) (M 77 9) M hG (i_rng (lo := 1) (hi := 6) l_1 (by omega) (by omega))) ?_
        rintro rv542 mv543 ⟨hq544_, gq545_, kq546_⟩
        have kq547_ := Sm.call hS kq546_ rfl
        have hq548_ := (fun h_ => KR_c (kq546_ 77 35 (by decide)) (kq546_ 77 36 (by decide)) (funext (fun s_ => kq546_ 101 s_ (outc rfl))) h_) wKR
        have hq549_ : (mv543 77 9).toInt = (M 77 9).toInt := by rw [kq546_ 77 9 (by decide)]
        have hq550_ : (mv543 77 10).toInt = (M 77 10).toInt := by rw [kq546_ 77 10 (by decide)]
        have hq551_ : (mv543 77 35).toInt = (M 77 35).toInt := by rw [kq546_ 77 35 (by decide)]
        have hq552_ : (mv543 77 36).toInt = (M 77 36).toInt := by rw [kq546_ 77 36 (by decide)]
        refine T_qb rfl (by omega) (by omega) ?_
        exact T_ret ⟨(i_rng (lo := 0) (hi := 1) rfl (by omega) (by omega)), (by have e9 : (rv542).toInt = _ := rfl; omega), (Or.inl (by first | exact l_0 | omega)), gq545_, kq547_⟩
      · refine T_mu hG hS (rn_77_12 _) nw_77_12 (i := 1) rfl ⟨by decide, by decide, Or.inr ⟨by decide, by decide⟩⟩ ?_
        intro mv553 hq554_ gq555_ kq556_
        have hq557_ := (fun h_ => KR_c (M := M) (M' := mv553) (by rw [hq554_, mu_ne (Or.inr (by decide))]) (by rw [hq554_, mu_ne (Or.inr (by decide))]) (by rw [hq554_, mu_nc (by decide)]) h_) wKR
        have hq558_ : (mv553 77 9).toInt = (M 77 9).toInt := by rw [hq554_, mu_ne (Or.inr (by decide))]
        have hq559_ : (mv553 77 10).toInt = (M 77 10).toInt := by rw [hq554_, mu_ne (Or.inr (by decide))]
        have hq560_ : (mv553 77 35).toInt = (M 77 35).toInt := by rw [hq554_, mu_ne (Or.inr (by decide))]
        have hq561_ : (mv553 77 36).toInt = (M 77 36).toInt := by rw [hq554_, mu_ne (Or.inr (by decide))]
        have hq562_ : (mv553 77 12).toInt = 0 := by rw [hq554_, mu_at]; exact l_0
        have hq563_ := r_77_9 gq555_
        have hq564_ := r_77_10 gq555_
        have hq565_ := r_77_35 gq555_
        have hq566_ := r_77_36 gq555_
        exact (t_X12_readsStep_108 hn) n a1 mv553 gq555_ kq556_ (i_rng (lo := 0) (hi := 240) rfl (by omega) (by omega)) (by omega) hq557_ (by omega)
theorem t_X12_readsStep {n : Nat} (hn : 200000 ≤ n) (M : qM) (hG : G M) (wKR : KR  M) : qT (f_X12_readsStep n  M) (po_X12_readsStep  M) := by
  have hS : Sm l_X12_readsStep M M := Sm.rf
  unfold f_X12_readsStep
  have hq567_ := r_77_9 hG
  refine T_ql rfl ?_
  intro xv568 hq569_
  have hq570_ := r_77_10 hG
  have hq571_ := r_77_35 hG
  have hq572_ := r_77_36 hG
  exact (t_X12_readsStep_5 hn) n xv568 M hG hS (i_rng (lo := 0) (hi := 240) rfl (by omega) (by omega)) (by omega) wKR (by omega)

abbrev l_X12_plan : List Bx := [(77, 78, 8, 13), (77, 78, 35, 37), (78, 79, 296, 312), (78, 79, 314, 954), (98, 102, 0, 0)]
abbrev po_X12_plan (a1 a2 : Int32) (M : qM) (v : Int32) (M' : qM) : Prop := (((0 ≤ a1.toInt ∧ a1.toInt ≤ 7 ∧ (((M 78 312) >>> (a1 &&& 31)) &&& (1 : Int32)).toInt = 1 ∧ 1 ≤ a2.toInt ∧ a2.toInt ≤ 80 ∧ a2.toInt ≤ (M 77 8).toInt) ∧ (M' 77 8).toInt = 0) ∨ (¬ (0 ≤ a1.toInt ∧ a1.toInt ≤ 7 ∧ (((M 78 312) >>> (a1 &&& 31)) &&& (1 : Int32)).toInt = 1 ∧ 1 ≤ a2.toInt ∧ a2.toInt ≤ 80 ∧ a2.toInt ≤ (M 77 8).toInt) ∧ (M' 77 8).toInt = (M 77 8).toInt)) ∧ G M' ∧ Sm l_X12_plan M M'
theorem t_X12_plan_142 {n : Nat} (hn : 200000 ≤ n) {oa1 oa2 : Int32} {M0 : qM} : ∀ (m : Nat) (a1 a4 : Int32) (M : qM), G M → Sm l_X12_plan M0 M → 0 ≤ a1.toInt ∧ a1.toInt ≤ 7 → 0 ≤ a4.toInt ∧ a4.toInt ≤ 40 → ((0 ≤ oa1.toInt ∧ oa1.toInt ≤ 7 ∧ (((M0 78 312) >>> (oa1 &&& 31)) &&& (1 : Int32)).toInt = 1 ∧ 1 ≤ oa2.toInt ∧ oa2.toInt ≤ 80 ∧ oa2.toInt ≤ (M0 77 8).toInt) ∧ (M 77 8).toInt = 0) → 40 - a4.toInt < (m : Int) → qT (f_X12_plan_142 n m a1 a4 M) (po_X12_plan oa1 oa2 M0) := by
  intro m
  induction m with
  | zero =>
    intro a1 a4 M hG hS i0 i1 hE i5
    have hq2_ := r_77_8 hG
    exfalso; omega
  | succ m ih =>
    intro a1 a4 M hG hS i0 i1 hE i5
    show qT (b_X12_plan_142 n (f_X12_plan_142 n m) a1 a4 M) _
    unfold b_X12_plan_142
    have hq2_ := r_77_8 hG
    have hq3_ := r_77_35 hG
    refine T_le rfl rfl (fun hq4_ => ?_) (fun hq4_ => ?_)
    · exact T_ret ⟨(by have e9 : (M 77 35).toInt = _ := rfl; omega), hG, hS⟩
    · refine T_qg rfl (by omega) (by omega) ?_
      refine T_qg (i_add (i_add l_314 (i_mul l_40 rfl (by omega) (by omega)) (by omega) (by omega)) rfl (by omega) (by omega)) (by omega) (by omega) ?_
      refine T_mu hG hS (ro78 (by decide) (by rw [tnc, (i_add (i_add l_314 (i_mul l_40 rfl (by omega) (by omega)) (by omega) (by omega)) rfl (by omega) (by omega))]; omega)) (nw_78 _) (i := 3) rfl ⟨by decide, by decide, Or.inr ⟨(show 314 ≤ _ by rw [tnc, (i_add (i_add l_314 (i_mul l_40 rfl (by omega) (by omega)) (by omega) (by omega)) rfl (by omega) (by omega))]; omega), (show _ < 954 by rw [tnc, (i_add (i_add l_314 (i_mul l_40 rfl (by omega) (by omega)) (by omega) (by omega)) rfl (by omega) (by omega))]; omega)⟩⟩ ?_
      intro mv5 hq6_ gq7_ kq8_
      have hq9_ : (mv5 77 8).toInt = (M 77 8).toInt := by rw [hq6_, mu_ne (Or.inl (by decide))]
      have hq10_ : (mv5 77 35).toInt = (M 77 35).toInt := by rw [hq6_, mu_ne (Or.inl (by decide))]
      have hq11_ : (mv5 78 ((((314 : Int32) + ((40 : Int32) * a1)) + a4).toNatClampNeg)).toInt = (M 98 a4.toNatClampNeg).toInt := by rw [hq6_, mu_at]
      refine T_qg rfl (by omega) (by omega) ?_
      refine T_qg (i_add (i_add l_634 (i_mul l_40 rfl (by omega) (by omega)) (by omega) (by omega)) rfl (by omega) (by omega)) (by omega) (by omega) ?_
      refine T_mu gq7_ kq8_ (ro78 (by decide) (by rw [tnc, (i_add (i_add l_634 (i_mul l_40 rfl (by omega) (by omega)) (by omega) (by omega)) rfl (by omega) (by omega))]; omega)) (nw_78 _) (i := 3) rfl ⟨by decide, by decide, Or.inr ⟨(show 314 ≤ _ by rw [tnc, (i_add (i_add l_634 (i_mul l_40 rfl (by omega) (by omega)) (by omega) (by omega)) rfl (by omega) (by omega))]; omega), (show _ < 954 by rw [tnc, (i_add (i_add l_634 (i_mul l_40 rfl (by omega) (by omega)) (by omega) (by omega)) rfl (by omega) (by omega))]; omega)⟩⟩ ?_
      intro mv12 hq13_ gq14_ kq15_
      have hq16_ : (mv12 77 8).toInt = (mv5 77 8).toInt := by rw [hq13_, mu_ne (Or.inl (by decide))]
      have hq17_ : (mv12 77 35).toInt = (mv5 77 35).toInt := by rw [hq13_, mu_ne (Or.inl (by decide))]
      have hq18_ : (mv12 78 ((((634 : Int32) + ((40 : Int32) * a1)) + a4).toNatClampNeg)).toInt = (mv5 99 a4.toNatClampNeg).toInt := by rw [hq13_, mu_at]
      refine T_ql (i_add rfl l_1 (by omega) (by omega)) ?_
      intro xv19 hq20_
      have hq21_ := r_77_8 gq14_
      exact ih a1 xv19 mv12 gq14_ kq15_ (i_rng (lo := 0) (hi := 7) rfl (by omega) (by omega)) (i_rng (lo := 0) (hi := 40) rfl (by omega) (by omega)) (by omega) (by omega)
theorem t_X12_plan_53 {n : Nat} (hn : 200000 ≤ n) {oa1 oa2 : Int32} {M0 : qM} : ∀ (m : Nat) (a1 a3 : Int32) (M : qM), G M → Sm l_X12_plan M0 M → 0 ≤ a1.toInt ∧ a1.toInt ≤ 7 → 0 ≤ a3.toInt ∧ a3.toInt ≤ 1 → ((0 ≤ oa1.toInt ∧ oa1.toInt ≤ 7 ∧ (((M0 78 312) >>> (oa1 &&& 31)) &&& (1 : Int32)).toInt = 1 ∧ 1 ≤ oa2.toInt ∧ oa2.toInt ≤ 80 ∧ oa2.toInt ≤ (M0 77 8).toInt) ∧ (M 77 8).toInt = (M0 77 8).toInt) → (a3.toInt = 0 ∨ KR  M) → 2 * (240 - (M 77 9).toInt) + a3.toInt < (m : Int) → qT (f_X12_plan_53 n m a1 a3 M) (po_X12_plan oa1 oa2 M0) := by
  intro m
  induction m with
  | zero =>
    intro a1 a3 M hG hS i0 i1 hE wKR i6
    have hq22_ := r_77_9 hG
    have hq23_ := r_77_10 hG
    have hq24_ := r_77_8 hG
    exfalso; omega
  | succ m ih =>
    intro a1 a3 M hG hS i0 i1 hE wKR i6
    show qT (b_X12_plan_53 n (f_X12_plan_53 n m) a1 a3 M) _
    unfold b_X12_plan_53
    have hq22_ := r_77_9 hG
    have hq23_ := r_77_10 hG
    have hq24_ := r_77_8 hG
    refine T_eq rfl l_0 (fun hq25_ => ?_) (fun hq25_ => ?_)
    · unfold f_X12_plan_100
      refine T_mu hG hS (i_rng (lo := 0) (hi := 260) l_0 (by omega) (by omega)) nw_77_8 (i := 0) rfl ⟨by decide, by decide, Or.inr ⟨by decide, by decide⟩⟩ ?_
      intro mv26 hq27_ gq28_ kq29_
      have hq30_ := Or.imp_right (fun h_ => KR_c (M := M) (M' := mv26) (by rw [hq27_, mu_ne (Or.inr (by decide))]) (by rw [hq27_, mu_ne (Or.inr (by decide))]) (by rw [hq27_, mu_nc (by decide)]) h_) wKR
      have hq31_ : (mv26 77 9).toInt = (M 77 9).toInt := by rw [hq27_, mu_ne (Or.inr (by decide))]
      have hq32_ : (mv26 77 10).toInt = (M 77 10).toInt := by rw [hq27_, mu_ne (Or.inr (by decide))]
      have hq33_ : (mv26 77 8).toInt = 0 := by rw [hq27_, mu_at]; exact l_0
      refine T_eq rfl l_0 (fun hq34_ => ?_) (fun hq34_ => ?_)
      · exact T_ret ⟨(by have e9 : (mv26 77 11).toInt = _ := rfl; omega), gq28_, kq29_⟩
      · exfalso; omega
    · refine T_lt rfl rfl (fun hq35_ => ?_) (fun hq35_ => ?_)
      · unfold f_X12_plan_75
        have hq38_ := (show ((44 : Int32)).toInt = _ from l_44)
        refine T_qc (t_X12_takes hn (44 : Int32) M hG (i_rng (lo := 44) (hi := 59) l_44 (by omega) (by omega))) ?_
        rintro rv36 mv37 ⟨hq39_, hq40_, gq41_, kq42_⟩
        have kq43_ := Sm.call hS kq42_ rfl
        have hq44_ := Or.imp_right (fun h_ => KR_c (kq42_ 77 35 (by decide)) (kq42_ 77 36 (by decide)) (funext (fun s_ => kq42_ 101 s_ (outc rfl))) h_) wKR
        have hq45_ : (mv37 77 10).toInt = (M 77 10).toInt := by rw [kq42_ 77 10 (by decide)]
        have hq46_ : (mv37 77 8).toInt = (M 77 8).toInt := by rw [kq42_ 77 8 (by decide)]
        have hq47_ := r_77_9 gq41_
        refine T_eq rfl l_0 (fun hq48_ => ?_) (fun hq48_ => ?_)
        · have hq49_ := r_77_10 gq41_
          have hq50_ := r_77_8 gq41_
          exact ih a1 (0 : Int32) mv37 gq41_ kq43_ (i_rng (lo := 0) (hi := 7) rfl (by omega) (by omega)) (i_rng (lo := 0) (hi := 1) l_0 (by omega) (by omega)) (by have e1 : ((0 : Int32)).toInt = _ := l_0; omega) (Or.inl l_0) (by have e1 : ((0 : Int32)).toInt = _ := l_0; omega)
        · refine T_qc (t_X12_readsStep hn  mv37 gq41_ (hq44_.resolve_left (by omega))) ?_
          rintro rv51 mv52 ⟨hq53_, hq54_, hq55_, gq56_, kq57_⟩
          have kq58_ := Sm.call kq43_ kq57_ rfl
          have hq59_ : (mv52 77 10).toInt = (mv37 77 10).toInt := by rw [kq57_ 77 10 (by decide)]
          have hq60_ : (mv52 77 8).toInt = (mv37 77 8).toInt := by rw [kq57_ 77 8 (by decide)]
          have hq61_ := r_77_9 gq56_
          refine T_eq rfl l_0 (fun hq62_ => ?_) (fun hq62_ => ?_)
          · have hq63_ := r_77_10 gq56_
            have hq64_ := r_77_8 gq56_
            exact ih a1 (0 : Int32) mv52 gq56_ kq58_ (i_rng (lo := 0) (hi := 7) rfl (by omega) (by omega)) (i_rng (lo := 0) (hi := 1) l_0 (by omega) (by omega)) (by have e1 : ((0 : Int32)).toInt = _ := l_0; omega) (Or.inl l_0) (by have e1 : ((0 : Int32)).toInt = _ := l_0; omega)
          · have hq65_ := r_77_10 gq56_
            have hq66_ := r_77_8 gq56_
            exact ih a1 (1 : Int32) mv52 gq56_ kq58_ (i_rng (lo := 0) (hi := 7) rfl (by omega) (by omega)) (i_rng (lo := 0) (hi := 1) l_1 (by omega) (by omega)) (by have e1 : ((1 : Int32)).toInt = _ := l_1; omega) (Or.inr (hq55_.resolve_left (by omega))) (by have e1 : ((1 : Int32)).toInt = _ := l_1; omega)
      · have hq67_ := r_77_36 hG
        refine T_le rfl l_0 (fun hq68_ => ?_) (fun hq68_ => ?_)
        · unfold f_X12_plan_100
          refine T_mu hG hS (i_rng (lo := 0) (hi := 260) l_0 (by omega) (by omega)) nw_77_8 (i := 0) rfl ⟨by decide, by decide, Or.inr ⟨by decide, by decide⟩⟩ ?_
          intro mv69 hq70_ gq71_ kq72_
          have hq73_ := Or.imp_right (fun h_ => KR_c (M := M) (M' := mv69) (by rw [hq70_, mu_ne (Or.inr (by decide))]) (by rw [hq70_, mu_ne (Or.inr (by decide))]) (by rw [hq70_, mu_nc (by decide)]) h_) wKR
          have hq74_ : (mv69 77 9).toInt = (M 77 9).toInt := by rw [hq70_, mu_ne (Or.inr (by decide))]
          have hq75_ : (mv69 77 10).toInt = (M 77 10).toInt := by rw [hq70_, mu_ne (Or.inr (by decide))]
          have hq76_ : (mv69 77 36).toInt = (M 77 36).toInt := by rw [hq70_, mu_ne (Or.inr (by decide))]
          have hq77_ : (mv69 77 8).toInt = 0 := by rw [hq70_, mu_at]; exact l_0
          refine T_eq rfl l_0 (fun hq78_ => ?_) (fun hq78_ => ?_)
          · exfalso; omega
          · refine T_qg (i_add l_296 rfl (by omega) (by omega)) (by omega) (by omega) ?_
            have hq80_ := r_77_35 gq71_
            refine T_mu gq71_ kq72_ (ri78 (by decide) (i_rng (lo := 0) (hi := 40) rfl (by omega) (by omega))) (nw_78 _) (i := 2) rfl ⟨by decide, by decide, Or.inr ⟨(show 296 ≤ _ by rw [tnc, (i_add l_296 rfl (by omega) (by omega))]; omega), (show _ < 312 by rw [tnc, (i_add l_296 rfl (by omega) (by omega))]; omega)⟩⟩ ?_
            intro mv79 hq81_ gq82_ kq83_
            have hq84_ := Or.imp_right (fun h_ => KR_c (M := mv69) (M' := mv79) (by rw [hq81_, mu_ne (Or.inl (by decide))]) (by rw [hq81_, mu_ne (Or.inl (by decide))]) (by rw [hq81_, mu_nc (by decide)]) h_) hq73_
            have hq85_ : (mv79 77 9).toInt = (mv69 77 9).toInt := by rw [hq81_, mu_ne (Or.inl (by decide))]
            have hq86_ : (mv79 77 10).toInt = (mv69 77 10).toInt := by rw [hq81_, mu_ne (Or.inl (by decide))]
            have hq87_ : (mv79 77 36).toInt = (mv69 77 36).toInt := by rw [hq81_, mu_ne (Or.inl (by decide))]
            have hq88_ : (mv79 77 8).toInt = (mv69 77 8).toInt := by rw [hq81_, mu_ne (Or.inl (by decide))]
            have hq89_ : (mv79 78 (((296 : Int32) + a1).toNatClampNeg)).toInt = (mv69 77 35).toInt := by rw [hq81_, mu_at]
            refine T_qg (i_add l_304 rfl (by omega) (by omega)) (by omega) (by omega) ?_
            refine T_mu gq82_ kq83_ (ri78 (by decide) (i_rng (lo := 0) (hi := 40) l_0 (by omega) (by omega))) (nw_78 _) (i := 2) rfl ⟨by decide, by decide, Or.inr ⟨(show 296 ≤ _ by rw [tnc, (i_add l_304 rfl (by omega) (by omega))]; omega), (show _ < 312 by rw [tnc, (i_add l_304 rfl (by omega) (by omega))]; omega)⟩⟩ ?_
            intro mv90 hq91_ gq92_ kq93_
            have hq94_ := Or.imp_right (fun h_ => KR_c (M := mv79) (M' := mv90) (by rw [hq91_, mu_ne (Or.inl (by decide))]) (by rw [hq91_, mu_ne (Or.inl (by decide))]) (by rw [hq91_, mu_nc (by decide)]) h_) hq84_
            have hq95_ : (mv90 77 9).toInt = (mv79 77 9).toInt := by rw [hq91_, mu_ne (Or.inl (by decide))]
            have hq96_ : (mv90 77 10).toInt = (mv79 77 10).toInt := by rw [hq91_, mu_ne (Or.inl (by decide))]
            have hq97_ : (mv90 77 36).toInt = (mv79 77 36).toInt := by rw [hq91_, mu_ne (Or.inl (by decide))]
            have hq98_ : (mv90 77 8).toInt = (mv79 77 8).toInt := by rw [hq91_, mu_ne (Or.inl (by decide))]
            have hq99_ : (mv90 78 (((304 : Int32) + a1).toNatClampNeg)).toInt = 0 := by rw [hq91_, mu_at]; exact l_0
            have hq100_ := r_77_8 gq92_
            exact (t_X12_plan_142 hn) n a1 (0 : Int32) mv90 gq92_ kq93_ (i_rng (lo := 0) (hi := 7) rfl (by omega) (by omega)) (i_rng (lo := 0) (hi := 40) l_0 (by omega) (by omega)) (by have e1 : ((0 : Int32)).toInt = _ := l_0; omega) (by have e1 : ((0 : Int32)).toInt = _ := l_0; omega)
        · unfold f_X12_plan_75
          have hq103_ := (show ((44 : Int32)).toInt = _ from l_44)
          refine T_qc (t_X12_takes hn (44 : Int32) M hG (i_rng (lo := 44) (hi := 59) l_44 (by omega) (by omega))) ?_
          rintro rv101 mv102 ⟨hq104_, hq105_, gq106_, kq107_⟩
          have kq108_ := Sm.call hS kq107_ rfl
          have hq109_ := Or.imp_right (fun h_ => KR_c (kq107_ 77 35 (by decide)) (kq107_ 77 36 (by decide)) (funext (fun s_ => kq107_ 101 s_ (outc rfl))) h_) wKR
          have hq110_ : (mv102 77 10).toInt = (M 77 10).toInt := by rw [kq107_ 77 10 (by decide)]
          have hq111_ : (mv102 77 8).toInt = (M 77 8).toInt := by rw [kq107_ 77 8 (by decide)]
          have hq112_ : (mv102 77 36).toInt = (M 77 36).toInt := by rw [kq107_ 77 36 (by decide)]
          have hq113_ := r_77_9 gq106_
          refine T_eq rfl l_0 (fun hq114_ => ?_) (fun hq114_ => ?_)
          · have hq115_ := r_77_10 gq106_
            have hq116_ := r_77_8 gq106_
            exact ih a1 (0 : Int32) mv102 gq106_ kq108_ (i_rng (lo := 0) (hi := 7) rfl (by omega) (by omega)) (i_rng (lo := 0) (hi := 1) l_0 (by omega) (by omega)) (by have e1 : ((0 : Int32)).toInt = _ := l_0; omega) (Or.inl l_0) (by have e1 : ((0 : Int32)).toInt = _ := l_0; omega)
          · refine T_qc (t_X12_readsStep hn  mv102 gq106_ (hq109_.resolve_left (by omega))) ?_
            rintro rv117 mv118 ⟨hq119_, hq120_, hq121_, gq122_, kq123_⟩
            have kq124_ := Sm.call kq108_ kq123_ rfl
            have hq125_ : (mv118 77 10).toInt = (mv102 77 10).toInt := by rw [kq123_ 77 10 (by decide)]
            have hq126_ : (mv118 77 8).toInt = (mv102 77 8).toInt := by rw [kq123_ 77 8 (by decide)]
            have hq127_ := r_77_9 gq122_
            refine T_eq rfl l_0 (fun hq128_ => ?_) (fun hq128_ => ?_)
            · have hq129_ := r_77_10 gq122_
              have hq130_ := r_77_8 gq122_
              exact ih a1 (0 : Int32) mv118 gq122_ kq124_ (i_rng (lo := 0) (hi := 7) rfl (by omega) (by omega)) (i_rng (lo := 0) (hi := 1) l_0 (by omega) (by omega)) (by have e1 : ((0 : Int32)).toInt = _ := l_0; omega) (Or.inl l_0) (by have e1 : ((0 : Int32)).toInt = _ := l_0; omega)
            · have hq131_ := r_77_10 gq122_
              have hq132_ := r_77_8 gq122_
              exact ih a1 (1 : Int32) mv118 gq122_ kq124_ (i_rng (lo := 0) (hi := 7) rfl (by omega) (by omega)) (i_rng (lo := 0) (hi := 1) l_1 (by omega) (by omega)) (by have e1 : ((1 : Int32)).toInt = _ := l_1; omega) (Or.inr (hq121_.resolve_left (by omega))) (by have e1 : ((1 : Int32)).toInt = _ := l_1; omega)
theorem t_X12_plan {n : Nat} (hn : 200000 ≤ n) (a1 a2 : Int32) (M : qM) (hG : G M) : qT (f_X12_plan n a1 a2 M) (po_X12_plan a1 a2 M) := by
  have hS : Sm l_X12_plan M M := Sm.rf
  unfold f_X12_plan
  have hq133_ := r_77_8 hG
  refine T_qc (t_X12_isPerson hn a1 M hG ) ?_
  rintro rv134 mv135 ⟨hq136_, hq137_, gq138_, kq139_⟩
  have hq140_ := kq139_.nil
  subst hq140_
  refine T_eq rfl l_0 (fun hq141_ => ?_) (fun hq141_ => ?_)
  · exact T_ret ⟨(by have e9 : ((-1 : Int32)).toInt = _ := l_m1; omega), hG, hS⟩
  · have hq144_ := (show ((1 : Int32)).toInt = _ from l_1)
    have hq145_ := (show ((80 : Int32)).toInt = _ from l_80)
    refine T_qc (t_X12_in hn a2 (1 : Int32) (80 : Int32) M hG (i_rng (lo := 0) (hi := 70) l_1 (by omega) (by omega)) (i_rng (lo := 0) (hi := 99999) l_80 (by omega) (by omega))) ?_
    rintro rv142 mv143 ⟨hq146_, hq147_, gq148_, kq149_⟩
    have hq150_ := kq149_.nil
    subst hq150_
    refine T_eq rfl l_0 (fun hq151_ => ?_) (fun hq151_ => ?_)
    · exact T_ret ⟨(by have e9 : ((-1 : Int32)).toInt = _ := l_m1; omega), hG, hS⟩
    · refine T_le rfl rfl (fun hq152_ => ?_) (fun hq152_ => ?_)
      · refine T_mu hG hS (i_rng (lo := 0) (hi := 240) l_0 (by omega) (by omega)) nw_77_9 (i := 0) rfl ⟨by decide, by decide, Or.inr ⟨by decide, by decide⟩⟩ ?_
        intro mv153 hq154_ gq155_ kq156_
        have hq157_ : (mv153 77 8).toInt = (M 77 8).toInt := by rw [hq154_, mu_ne (Or.inr (by decide))]
        have hq158_ : (mv153 77 9).toInt = 0 := by rw [hq154_, mu_at]; exact l_0
        refine T_mu gq155_ kq156_ (i_rng (lo := 0) (hi := 240) rfl (by omega) (by omega)) nw_77_10 (i := 0) rfl ⟨by decide, by decide, Or.inr ⟨by decide, by decide⟩⟩ ?_
        intro mv159 hq160_ gq161_ kq162_
        have hq163_ : (mv159 77 8).toInt = (mv153 77 8).toInt := by rw [hq160_, mu_ne (Or.inr (by decide))]
        have hq164_ : (mv159 77 9).toInt = (mv153 77 9).toInt := by rw [hq160_, mu_ne (Or.inr (by decide))]
        have hq165_ : (mv159 77 10).toInt = a2.toInt := by rw [hq160_, mu_at]
        refine T_mu gq161_ kq162_ (i_rng (lo := 0) (hi := 40) l_0 (by omega) (by omega)) nw_77_35 (i := 1) rfl ⟨by decide, by decide, Or.inr ⟨by decide, by decide⟩⟩ ?_
        intro mv166 hq167_ gq168_ kq169_
        have hq170_ : (mv166 77 8).toInt = (mv159 77 8).toInt := by rw [hq167_, mu_ne (Or.inr (by decide))]
        have hq171_ : (mv166 77 9).toInt = (mv159 77 9).toInt := by rw [hq167_, mu_ne (Or.inr (by decide))]
        have hq172_ : (mv166 77 10).toInt = (mv159 77 10).toInt := by rw [hq167_, mu_ne (Or.inr (by decide))]
        have hq173_ : (mv166 77 35).toInt = 0 := by rw [hq167_, mu_at]; exact l_0
        refine T_mu gq168_ kq169_ (i_rng (lo := 0) (hi := 3) l_0 (by omega) (by omega)) nw_77_36 (i := 1) rfl ⟨by decide, by decide, Or.inr ⟨by decide, by decide⟩⟩ ?_
        intro mv174 hq175_ gq176_ kq177_
        have hq178_ : (mv174 77 8).toInt = (mv166 77 8).toInt := by rw [hq175_, mu_ne (Or.inr (by decide))]
        have hq179_ : (mv174 77 9).toInt = (mv166 77 9).toInt := by rw [hq175_, mu_ne (Or.inr (by decide))]
        have hq180_ : (mv174 77 10).toInt = (mv166 77 10).toInt := by rw [hq175_, mu_ne (Or.inr (by decide))]
        have hq181_ : (mv174 77 35).toInt = (mv166 77 35).toInt := by rw [hq175_, mu_ne (Or.inr (by decide))]
        have hq182_ : (mv174 77 36).toInt = 0 := by rw [hq175_, mu_at]; exact l_0
        refine T_qc (t_X12_readsStep hn  mv174 gq176_ (KR_0 (by omega))) ?_
        rintro rv183 mv184 ⟨hq185_, hq186_, hq187_, gq188_, kq189_⟩
        have hq190_ := r_77_9 gq176_
        have kq191_ := Sm.call kq177_ kq189_ rfl
        have hq192_ : (mv184 77 8).toInt = (mv174 77 8).toInt := by rw [kq189_ 77 8 (by decide)]
        have hq193_ : (mv184 77 10).toInt = (mv174 77 10).toInt := by rw [kq189_ 77 10 (by decide)]
        have hq194_ := r_77_9 gq188_
        have hq195_ := r_77_10 gq188_
        have hq196_ := r_77_8 gq188_
        exact (t_X12_plan_53 hn) n a1 rv183 mv184 gq188_ kq191_ (i_rng (lo := 0) (hi := 7) rfl (by omega) (by omega)) (i_rng (lo := 0) (hi := 1) rfl (by omega) (by omega)) (by omega) hq187_ (by omega)
      · exact T_ret ⟨(by have e9 : ((-1 : Int32)).toInt = _ := l_m1; omega), hG, hS⟩
abbrev l_J7_fill_53178_c35_12 : List Bx := [(35, 36, 0, 0)]
abbrev po_J7_fill_53178_c35_12 (a1 : Int32) (M : qM) (v : Int32) (M' : qM) : Prop := (0 ≤ v.toInt ∧ v.toInt ≤ 0) ∧ G M' ∧ Sm l_J7_fill_53178_c35_12 M M'
theorem t_J7_fill_53178_c35_12_5 {n : Nat} (hn : 200000 ≤ n) {oa1 : Int32} {M0 : qM} : ∀ (m : Nat) (a1 a2 a3 : Int32) (M : qM), G M → Sm l_J7_fill_53178_c35_12 M0 M → 0 ≤ a1.toInt ∧ a1.toInt ≤ 0 → 0 ≤ a2.toInt ∧ a2.toInt ≤ 12 → 12 ≤ a3.toInt ∧ a3.toInt ≤ 12 → 12 - a2.toInt < (m : Int) → qT (f_J7_fill_53178_5 n 35 12 m a1 a2 a3 M) (po_J7_fill_53178_c35_12 oa1 M0) := by
  intro m
  induction m with
  | zero =>
    intro a1 a2 a3 M hG hS i0 i1 i2 i5
    exfalso; omega
  | succ m ih =>
    intro a1 a2 a3 M hG hS i0 i1 i2 i5
    show qT (b_J7_fill_53178_5 n 35 12 (f_J7_fill_53178_5 n 35 12 m) a1 a2 a3 M) _
    unfold b_J7_fill_53178_5
    try simp only [Nat.reduceAdd]
    refine T_le rfl rfl (fun hq2_ => ?_) (fun hq2_ => ?_)
    · exact T_ret ⟨(i_rng (lo := 0) (hi := 0) l_0 (by omega) (by omega)), hG, hS⟩
    · refine T_qg rfl (by omega) (by omega) ?_
      refine T_mu hG hS (rn_35 _ _) (nw_35 _) (i := 0) rfl ⟨by decide, by decide, Or.inl rfl⟩ ?_
      intro mv3 hq4_ gq5_ kq6_
      have hq7_ : (mv3 35 a2.toNatClampNeg).toInt = a1.toInt := by rw [hq4_, mu_at]
      refine T_ql (i_add rfl l_1 (by omega) (by omega)) ?_
      intro xv8 hq9_
      exact ih a1 xv8 a3 mv3 gq5_ kq6_ (i_rng (lo := 0) (hi := 0) rfl (by omega) (by omega)) (i_rng (lo := 0) (hi := 12) rfl (by omega) (by omega)) (i_rng (lo := 12) (hi := 12) rfl (by omega) (by omega)) (by omega)
theorem t_J7_fill_53178_c35_12 {n : Nat} (hn : 200000 ≤ n) (a1 : Int32) (M : qM) (hG : G M) (pa1 : 0 ≤ a1.toInt ∧ a1.toInt ≤ 0) : qT (f_J7_fill_53178 n 35 12 a1 M) (po_J7_fill_53178_c35_12 a1 M) := by
  have hS : Sm l_J7_fill_53178_c35_12 M M := Sm.rf
  unfold f_J7_fill_53178
  try simp only [Nat.reduceAdd]
  refine T_ql (show (Int32.ofNat 12).toInt = 12 from by decide) ?_
  intro xv10 hq11_
  exact (t_J7_fill_53178_c35_12_5 hn) n a1 (0 : Int32) xv10 M hG hS (i_rng (lo := 0) (hi := 0) rfl (by omega) (by omega)) (i_rng (lo := 0) (hi := 12) l_0 (by omega) (by omega)) (i_rng (lo := 12) (hi := 12) rfl (by omega) (by omega)) (by have e1 : ((0 : Int32)).toInt = _ := l_0; omega)
abbrev l_X1_tellDeed : List Bx := [(35, 36, 0, 0)]
abbrev po_X1_tellDeed (a1 a2 a3 a4 : Int32) (M : qM) (v : Int32) (M' : qM) : Prop := (0 ≤ v.toInt ∧ v.toInt ≤ 0) ∧ G M' ∧ Sm l_X1_tellDeed M M'
theorem t_X1_tellDeed {n : Nat} (hn : 200000 ≤ n) (a1 a2 a3 a4 : Int32) (M : qM) (hG : G M) (pa1 : 0 ≤ a1.toInt ∧ a1.toInt ≤ 12) : qT (f_X1_tellDeed n a1 a2 a3 a4 M) (po_X1_tellDeed a1 a2 a3 a4 M) := by
  have hS : Sm l_X1_tellDeed M M := Sm.rf
  unfold f_X1_tellDeed
  refine T_qc (t_J7_fill_53178_c35_12 hn (0 : Int32) M hG (i_rng (lo := 0) (hi := 0) l_0 (by omega) (by omega))) ?_
  rintro rv1 mv2 ⟨hq3_, gq4_, kq5_⟩
  have kq6_ := Sm.call hS kq5_ rfl
  refine T_mu gq4_ kq6_ (rn_35 _ _) (nw_35 _) (i := 0) rfl ⟨by decide, by decide, Or.inl rfl⟩ ?_
  intro mv7 hq8_ gq9_ kq10_
  have hq11_ : (mv7 35 0).toInt = a1.toInt := by rw [hq8_, mu_at]
  refine T_mu gq9_ kq10_ (rn_35 _ _) (nw_35 _) (i := 0) rfl ⟨by decide, by decide, Or.inl rfl⟩ ?_
  intro mv12 hq13_ gq14_ kq15_
  have hq16_ : (mv12 35 0).toInt = (mv7 35 0).toInt := by rw [hq13_, mu_ne (Or.inr (by decide))]
  have hq17_ : (mv12 35 1).toInt = a2.toInt := by rw [hq13_, mu_at]
  refine T_mu gq14_ kq15_ (rn_35 _ _) (nw_35 _) (i := 0) rfl ⟨by decide, by decide, Or.inl rfl⟩ ?_
  intro mv18 hq19_ gq20_ kq21_
  have hq22_ : (mv18 35 0).toInt = (mv12 35 0).toInt := by rw [hq19_, mu_ne (Or.inr (by decide))]
  have hq23_ : (mv18 35 1).toInt = (mv12 35 1).toInt := by rw [hq19_, mu_ne (Or.inr (by decide))]
  have hq24_ : (mv18 35 2).toInt = a3.toInt := by rw [hq19_, mu_at]
  refine T_mu gq20_ kq21_ (rn_35 _ _) (nw_35 _) (i := 0) rfl ⟨by decide, by decide, Or.inl rfl⟩ ?_
  intro mv25 hq26_ gq27_ kq28_
  have hq29_ : (mv25 35 0).toInt = (mv18 35 0).toInt := by rw [hq26_, mu_ne (Or.inr (by decide))]
  have hq30_ : (mv25 35 1).toInt = (mv18 35 1).toInt := by rw [hq26_, mu_ne (Or.inr (by decide))]
  have hq31_ : (mv25 35 2).toInt = (mv18 35 2).toInt := by rw [hq26_, mu_ne (Or.inr (by decide))]
  have hq32_ : (mv25 35 6).toInt = a4.toInt := by rw [hq26_, mu_at]
  exact T_ret ⟨(i_rng (lo := 0) (hi := 0) l_0 (by omega) (by omega)), gq27_, kq28_⟩
abbrev l_J6_bitCount_0f7a4 : List Bx := []
abbrev po_J6_bitCount_0f7a4 (a0 : Int32) (M : qM) (v : Int32) (M' : qM) : Prop := (0 ≤ v.toInt ∧ v.toInt ≤ 63) ∧ G M' ∧ Sm l_J6_bitCount_0f7a4 M M'
theorem t_J6_bitCount_0f7a4 {n : Nat} (hn : 200000 ≤ n) (a0 : Int32) (M : qM) (hG : G M) : qT (f_J6_bitCount_0f7a4 n a0 M) (po_J6_bitCount_0f7a4 a0 M) := by
  have hS : Sm l_J6_bitCount_0f7a4 M M := Sm.rf
  unfold f_J6_bitCount_0f7a4
  have hq1_ := i_and (a := (a0.toUInt32 >>> (((1 : Int32).toUInt32) &&& (Int32.toUInt32 31))).toInt32) (b := (1431655765 : Int32)) l_1431655765 (by omega)
  have hq2_ := i_full (a0)
  refine T_ql rfl ?_
  intro xv3 hq4_
  have hq5_ := i_and (a := xv3) (b := (858993459 : Int32)) l_858993459 (by omega)
  have hq6_ := i_and (a := (xv3.toUInt32 >>> (((2 : Int32).toUInt32) &&& (Int32.toUInt32 31))).toInt32) (b := (858993459 : Int32)) l_858993459 (by omega)
  refine T_ql (i_add rfl rfl (by omega) (by omega)) ?_
  intro xv7 hq8_
  have hq9_ := i_full ((xv7.toUInt32 >>> (((4 : Int32).toUInt32) &&& (Int32.toUInt32 31))).toInt32)
  have hq10_ := i_and (a := xv7 + ((xv7.toUInt32 >>> (((4 : Int32).toUInt32) &&& (Int32.toUInt32 31))).toInt32)) (b := (252645135 : Int32)) l_252645135 (by omega)
  refine T_ql rfl ?_
  intro xv11 hq12_
  have hq13_ := i_full ((xv11.toUInt32 >>> (((8 : Int32).toUInt32) &&& (Int32.toUInt32 31))).toInt32)
  refine T_ql rfl ?_
  intro xv14 hq15_
  have hq16_ := i_full (xv14)
  have hq17_ := i_full ((xv14.toUInt32 >>> (((16 : Int32).toUInt32) &&& (Int32.toUInt32 31))).toInt32)
  refine T_ql rfl ?_
  intro xv18 hq19_
  have hq20_ := i_and (a := xv18) (b := (63 : Int32)) l_63 (by omega)
  exact T_ret ⟨(i_rng (lo := 0) (hi := 63) rfl (by omega) (by omega)), hG, hS⟩
abbrev l_X1_reckon : List Bx := [(34, 35, 4, 5)]
abbrev po_X1_reckon (a1 a2 a3 : Int32) (M : qM) (v : Int32) (M' : qM) : Prop := G M' ∧ Sm l_X1_reckon M M'
theorem t_X1_reckon {n : Nat} (hn : 200000 ≤ n) (a1 a2 a3 : Int32) (M : qM) (hG : G M) (pa1 : 32 ≤ a1.toInt ∧ a1.toInt ≤ 2147483647) : qT (f_X1_reckon n a1 a2 a3 M) (po_X1_reckon a1 a2 a3 M) := by
  have hS : Sm l_X1_reckon M M := Sm.rf
  unfold f_X1_reckon
  refine T_sw rfl l_42 (fun hq1_ => ?_) (fun hq1_ => ?_)
  · have hq2_ := i_full (a2)
    have hq3_ := i_full (a3)
    exact T_ret ⟨hG, hS⟩
  refine T_sw rfl l_43 (fun hq4_ => ?_) (fun hq4_ => ?_)
  · have hq5_ := i_full (a2)
    have hq6_ := i_full (a3)
    exact T_ret ⟨hG, hS⟩
  refine T_sw rfl l_45 (fun hq7_ => ?_) (fun hq7_ => ?_)
  · have hq8_ := i_full (a2)
    have hq9_ := i_full (a3)
    exact T_ret ⟨hG, hS⟩
  refine T_sw rfl l_60 (fun hq10_ => ?_) (fun hq10_ => ?_)
  · refine T_le rfl rfl (fun hq11_ => ?_) (fun hq11_ => ?_)
    · exact T_ret ⟨hG, hS⟩
    · exact T_ret ⟨hG, hS⟩
  refine T_sw rfl l_61 (fun hq12_ => ?_) (fun hq12_ => ?_)
  · refine T_eq rfl rfl (fun hq13_ => ?_) (fun hq13_ => ?_)
    · exact T_ret ⟨hG, hS⟩
    · exact T_ret ⟨hG, hS⟩
  refine T_sw rfl l_62 (fun hq14_ => ?_) (fun hq14_ => ?_)
  · refine T_le rfl rfl (fun hq15_ => ?_) (fun hq15_ => ?_)
    · exact T_ret ⟨hG, hS⟩
    · exact T_ret ⟨hG, hS⟩
  refine T_sw0 ?_
  refine T_eq rfl l_0 (fun hq16_ => ?_) (fun hq16_ => ?_)
  · refine T_mu hG hS (rn_34_4 _) (nw_34 _) (i := 0) rfl ⟨by decide, by decide, Or.inr ⟨by decide, by decide⟩⟩ ?_
    intro mv17 hq18_ gq19_ kq20_
    have hq21_ : (mv17 34 4).toInt = 1 := by rw [hq18_, mu_at]; exact l_1
    exact T_ret ⟨gq19_, kq20_⟩
  · refine T_eq rfl l_47 (fun hq22_ => ?_) (fun hq22_ => ?_)
    · refine T_qd rfl (by omega) ?_
      have hq23_ := i_full (a2)
      have hq24_ := i_full (a3)
      exact T_ret ⟨hG, hS⟩
    · refine T_qd rfl (by omega) ?_
      exact T_ret ⟨hG, hS⟩

abbrev l_X1_run : List Bx := [(34, 35, 4, 5), (36, 37, 0, 0)]
abbrev po_X1_run (a1 a2 : Int32) (M : qM) (v : Int32) (M' : qM) : Prop := G M' ∧ Sm l_X1_run M M'
theorem t_X1_run_10 {n : Nat} (hn : 200000 ≤ n) {j : Nat} (hj : q_isLaw j) {oa1 oa2 : Int32} {M0 : qM} : ∀ (m : Nat) (a2 a3 a4 : Int32) (M : qM), G M → Sm l_X1_run M0 M → 0 ≤ a2.toInt ∧ a2.toInt ≤ 240 → 0 ≤ a3.toInt ∧ a3.toInt ≤ 64 → 0 ≤ a4.toInt ∧ a4.toInt ≤ 1000001 → (0 : Int) < (m : Int) ∧ 241 - a4.toInt < (m : Int) → qT (f_X1_run_10 n j m a2 a3 a4 M) (po_X1_run oa1 oa2 M0) := by
  intro m
  induction m with
  | zero =>
    intro a2 a3 a4 M hG hS i0 i1 i2 i5
    exfalso; omega
  | succ m ih =>
    intro a2 a3 a4 M hG hS i0 i1 i2 i5
    show qT (b_X1_run_10 n j (f_X1_run_10 n j m) a2 a3 a4 M) _
    unfold b_X1_run_10
    refine T_le rfl rfl (fun hq1_ => ?_) (fun hq1_ => ?_)
    · unfold f_X1_run_243
      refine T_eq rfl l_0 (fun hq2_ => ?_) (fun hq2_ => ?_)
      · refine T_le l_1 rfl (fun hq3_ => ?_) (fun hq3_ => ?_)
        · exact T_ret ⟨hG, hS⟩
        · exact T_ret ⟨hG, hS⟩
      · exact T_ret ⟨hG, hS⟩
    · refine T_eq rfl l_0 (fun hq4_ => ?_) (fun hq4_ => ?_)
      · refine T_qg rfl (by omega) (by omega) ?_
        refine T_ql rfl ?_
        intro xv5 hq6_
        refine T_qg rfl (by omega) (by omega) ?_
        have hq7_ := rw_2 hj hG a4.toNatClampNeg
        have hq8_ := hG.2.1 j hj a4.toNatClampNeg
        refine T_ql rfl ?_
        intro xv9 hq10_
        refine T_eq rfl l_0 (fun hq11_ => ?_) (fun hq11_ => ?_)
        · unfold f_X1_run_58
          refine T_le l_64 rfl (fun hq12_ => ?_) (fun hq12_ => ?_)
          · refine T_ql (i_add rfl l_1 (by omega) (by omega)) ?_
            intro xv13 hq14_
            exact ih a2 a3 xv13 M hG hS (i_rng (lo := 0) (hi := 240) rfl (by omega) (by omega)) (i_rng (lo := 0) (hi := 64) rfl (by omega) (by omega)) (i_rng (lo := 0) (hi := 1000001) rfl (by omega) (by omega)) (by omega)
          · refine T_eq rfl l_0 (fun hq15_ => ?_) (fun hq15_ => ?_)
            · refine T_qg rfl (by omega) (by omega) ?_
              refine T_mu hG hS (rn_36 _ _) (nw_36 _) (i := 1) rfl ⟨by decide, by decide, Or.inl rfl⟩ ?_
              intro mv16 hq17_ gq18_ kq19_
              have hq20_ : (mv16 34 4).toInt = (M 34 4).toInt := by rw [hq17_, mu_ne (Or.inl (by decide))]
              have hq21_ : (mv16 36 a3.toNatClampNeg).toInt = xv9.toInt := by rw [hq17_, mu_at]
              refine T_ql (i_add rfl l_1 (by omega) (by omega)) ?_
              intro xv22 hq23_
              refine T_ql (i_add rfl l_1 (by omega) (by omega)) ?_
              intro xv24 hq25_
              exact ih a2 xv22 xv24 mv16 gq18_ kq19_ (i_rng (lo := 0) (hi := 240) rfl (by omega) (by omega)) (i_rng (lo := 0) (hi := 64) rfl (by omega) (by omega)) (i_rng (lo := 0) (hi := 1000001) rfl (by omega) (by omega)) (by omega)
            · exfalso; omega
        · refine T_eq rfl l_1 (fun hq26_ => ?_) (fun hq26_ => ?_)
          · unfold f_X1_run_58
            refine T_le l_64 rfl (fun hq27_ => ?_) (fun hq27_ => ?_)
            · refine T_ql (i_add rfl l_1 (by omega) (by omega)) ?_
              intro xv28 hq29_
              exact ih a2 a3 xv28 M hG hS (i_rng (lo := 0) (hi := 240) rfl (by omega) (by omega)) (i_rng (lo := 0) (hi := 64) rfl (by omega) (by omega)) (i_rng (lo := 0) (hi := 1000001) rfl (by omega) (by omega)) (by omega)
            · refine T_eq rfl l_0 (fun hq30_ => ?_) (fun hq30_ => ?_)
              · exfalso; omega
              · refine T_qg rfl (by omega) (by omega) ?_
                refine T_qg rfl (by omega) (by omega) ?_
                refine T_mu hG hS (rn_36 _ _) (nw_36 _) (i := 1) rfl ⟨by decide, by decide, Or.inl rfl⟩ ?_
                intro mv31 hq32_ gq33_ kq34_
                have hq35_ : (mv31 34 4).toInt = (M 34 4).toInt := by rw [hq32_, mu_ne (Or.inl (by decide))]
                have hq36_ : (mv31 36 a3.toNatClampNeg).toInt = (M 35 xv9.toNatClampNeg).toInt := by rw [hq32_, mu_at]
                refine T_ql (i_add rfl l_1 (by omega) (by omega)) ?_
                intro xv37 hq38_
                refine T_ql (i_add rfl l_1 (by omega) (by omega)) ?_
                intro xv39 hq40_
                exact ih a2 xv37 xv39 mv31 gq33_ kq34_ (i_rng (lo := 0) (hi := 240) rfl (by omega) (by omega)) (i_rng (lo := 0) (hi := 64) rfl (by omega) (by omega)) (i_rng (lo := 0) (hi := 1000001) rfl (by omega) (by omega)) (by omega)
          · refine T_lt rfl l_32 (fun hq41_ => ?_) (fun hq41_ => ?_)
            · unfold f_X1_run_139
              refine T_eq rfl l_2 (fun hq42_ => ?_) (fun hq42_ => ?_)
              · refine T_lt rfl l_1 (fun hq43_ => ?_) (fun hq43_ => ?_)
                · unfold f_X1_run_171
                  refine T_lt rfl l_1 (fun hq44_ => ?_) (fun hq44_ => ?_)
                  · refine T_ql (i_add rfl l_1 (by omega) (by omega)) ?_
                    intro xv45 hq46_
                    exact ih a2 a3 xv45 M hG hS (i_rng (lo := 0) (hi := 240) rfl (by omega) (by omega)) (i_rng (lo := 0) (hi := 64) rfl (by omega) (by omega)) (i_rng (lo := 0) (hi := 1000001) rfl (by omega) (by omega)) (by omega)
                  · exfalso; omega
                · refine T_qg (i_sub rfl l_1 (by omega) (by omega)) (by omega) (by omega) ?_
                  refine T_qg (i_sub rfl l_1 (by omega) (by omega)) (by omega) (by omega) ?_
                  have hq48_ := i_full (M 36 ((a3 - (1 : Int32)).toNatClampNeg))
                  refine T_mu hG hS (rn_36 _ _) (nw_36 _) (i := 1) rfl ⟨by decide, by decide, Or.inl rfl⟩ ?_
                  intro mv47 hq49_ gq50_ kq51_
                  have hq52_ : (mv47 34 4).toInt = (M 34 4).toInt := by rw [hq49_, mu_ne (Or.inl (by decide))]
                  have hq53_ : (mv47 36 ((a3 - (1 : Int32)).toNatClampNeg)).toInt = ((1 : Int32) - (M 36 ((a3 - (1 : Int32)).toNatClampNeg))).toInt := by rw [hq49_, mu_at]
                  refine T_ql (i_add rfl l_1 (by omega) (by omega)) ?_
                  intro xv54 hq55_
                  exact ih a2 a3 xv54 mv47 gq50_ kq51_ (i_rng (lo := 0) (hi := 240) rfl (by omega) (by omega)) (i_rng (lo := 0) (hi := 64) rfl (by omega) (by omega)) (i_rng (lo := 0) (hi := 1000001) rfl (by omega) (by omega)) (by omega)
              · unfold f_X1_run_171
                refine T_lt rfl l_1 (fun hq56_ => ?_) (fun hq56_ => ?_)
                · refine T_ql (i_add rfl l_1 (by omega) (by omega)) ?_
                  intro xv57 hq58_
                  exact ih a2 a3 xv57 M hG hS (i_rng (lo := 0) (hi := 240) rfl (by omega) (by omega)) (i_rng (lo := 0) (hi := 64) rfl (by omega) (by omega)) (i_rng (lo := 0) (hi := 1000001) rfl (by omega) (by omega)) (by omega)
                · refine T_qg (i_sub rfl l_1 (by omega) (by omega)) (by omega) (by omega) ?_
                  refine T_eq rfl l_4 (fun hq59_ => ?_) (fun hq59_ => ?_)
                  · unfold f_X1_run_195
                    refine T_eq rfl l_1 (fun hq60_ => ?_) (fun hq60_ => ?_)
                    · unfold f_X1_run_203
                      refine T_eq l_1 l_0 (fun hq61_ => ?_) (fun hq61_ => ?_)
                      · exfalso; omega
                      · unfold f_X1_run_222
                        refine T_eq l_1 l_0 (fun hq62_ => ?_) (fun hq62_ => ?_)
                        · exfalso; omega
                        · have hq63_ := i_max (a := a4) (b := xv9) rfl rfl
                          refine T_ql (i_add rfl l_1 (by omega) (by omega)) ?_
                          intro xv64 hq65_
                          exact ih a2 a3 xv64 M hG hS (i_rng (lo := 0) (hi := 240) rfl (by omega) (by omega)) (i_rng (lo := 0) (hi := 64) rfl (by omega) (by omega)) (i_rng (lo := 0) (hi := 1000001) rfl (by omega) (by omega)) (by omega)
                    · unfold f_X1_run_203
                      refine T_eq l_0 l_0 (fun hq66_ => ?_) (fun hq66_ => ?_)
                      · unfold f_X1_run_222
                        refine T_eq l_0 l_0 (fun hq67_ => ?_) (fun hq67_ => ?_)
                        · refine T_ql (i_sub rfl l_1 (by omega) (by omega)) ?_
                          intro xv68 hq69_
                          refine T_ql (i_add rfl l_1 (by omega) (by omega)) ?_
                          intro xv70 hq71_
                          exact ih a2 xv68 xv70 M hG hS (i_rng (lo := 0) (hi := 240) rfl (by omega) (by omega)) (i_rng (lo := 0) (hi := 64) rfl (by omega) (by omega)) (i_rng (lo := 0) (hi := 1000001) rfl (by omega) (by omega)) (by omega)
                        · exfalso; omega
                      · exfalso; omega
                  · unfold f_X1_run_195
                    refine T_eq rfl l_0 (fun hq72_ => ?_) (fun hq72_ => ?_)
                    · unfold f_X1_run_203
                      refine T_eq l_1 l_0 (fun hq73_ => ?_) (fun hq73_ => ?_)
                      · exfalso; omega
                      · unfold f_X1_run_222
                        refine T_eq l_1 l_0 (fun hq74_ => ?_) (fun hq74_ => ?_)
                        · exfalso; omega
                        · have hq75_ := i_max (a := a4) (b := xv9) rfl rfl
                          refine T_ql (i_add rfl l_1 (by omega) (by omega)) ?_
                          intro xv76 hq77_
                          exact ih a2 a3 xv76 M hG hS (i_rng (lo := 0) (hi := 240) rfl (by omega) (by omega)) (i_rng (lo := 0) (hi := 64) rfl (by omega) (by omega)) (i_rng (lo := 0) (hi := 1000001) rfl (by omega) (by omega)) (by omega)
                    · unfold f_X1_run_203
                      refine T_eq l_0 l_0 (fun hq78_ => ?_) (fun hq78_ => ?_)
                      · unfold f_X1_run_222
                        refine T_eq l_0 l_0 (fun hq79_ => ?_) (fun hq79_ => ?_)
                        · refine T_ql (i_sub rfl l_1 (by omega) (by omega)) ?_
                          intro xv80 hq81_
                          refine T_ql (i_add rfl l_1 (by omega) (by omega)) ?_
                          intro xv82 hq83_
                          exact ih a2 xv80 xv82 M hG hS (i_rng (lo := 0) (hi := 240) rfl (by omega) (by omega)) (i_rng (lo := 0) (hi := 64) rfl (by omega) (by omega)) (i_rng (lo := 0) (hi := 1000001) rfl (by omega) (by omega)) (by omega)
                        · exfalso; omega
                      · exfalso; omega
            · refine T_lt rfl l_2 (fun hq84_ => ?_) (fun hq84_ => ?_)
              · unfold f_X1_run_139
                refine T_eq rfl l_2 (fun hq85_ => ?_) (fun hq85_ => ?_)
                · exfalso; omega
                · unfold f_X1_run_171
                  refine T_lt rfl l_1 (fun hq86_ => ?_) (fun hq86_ => ?_)
                  · refine T_ql (i_add rfl l_1 (by omega) (by omega)) ?_
                    intro xv87 hq88_
                    exact ih a2 a3 xv87 M hG hS (i_rng (lo := 0) (hi := 240) rfl (by omega) (by omega)) (i_rng (lo := 0) (hi := 64) rfl (by omega) (by omega)) (i_rng (lo := 0) (hi := 1000001) rfl (by omega) (by omega)) (by omega)
                  · refine T_qg (i_sub rfl l_1 (by omega) (by omega)) (by omega) (by omega) ?_
                    refine T_eq rfl l_4 (fun hq89_ => ?_) (fun hq89_ => ?_)
                    · exfalso; omega
                    · unfold f_X1_run_195
                      refine T_eq rfl l_0 (fun hq90_ => ?_) (fun hq90_ => ?_)
                      · unfold f_X1_run_203
                        refine T_eq l_1 l_0 (fun hq91_ => ?_) (fun hq91_ => ?_)
                        · exfalso; omega
                        · unfold f_X1_run_222
                          refine T_eq l_1 l_0 (fun hq92_ => ?_) (fun hq92_ => ?_)
                          · exfalso; omega
                          · have hq93_ := i_max (a := a4) (b := xv9) rfl rfl
                            refine T_ql (i_add rfl l_1 (by omega) (by omega)) ?_
                            intro xv94 hq95_
                            exact ih a2 a3 xv94 M hG hS (i_rng (lo := 0) (hi := 240) rfl (by omega) (by omega)) (i_rng (lo := 0) (hi := 64) rfl (by omega) (by omega)) (i_rng (lo := 0) (hi := 1000001) rfl (by omega) (by omega)) (by omega)
                      · unfold f_X1_run_203
                        refine T_eq l_0 l_0 (fun hq96_ => ?_) (fun hq96_ => ?_)
                        · unfold f_X1_run_222
                          refine T_eq l_0 l_0 (fun hq97_ => ?_) (fun hq97_ => ?_)
                          · refine T_ql (i_sub rfl l_1 (by omega) (by omega)) ?_
                            intro xv98 hq99_
                            refine T_ql (i_add rfl l_1 (by omega) (by omega)) ?_
                            intro xv100 hq101_
                            exact ih a2 xv98 xv100 M hG hS (i_rng (lo := 0) (hi := 240) rfl (by omega) (by omega)) (i_rng (lo := 0) (hi := 64) rfl (by omega) (by omega)) (i_rng (lo := 0) (hi := 1000001) rfl (by omega) (by omega)) (by omega)
                          · exfalso; omega
                        · exfalso; omega
              · refine T_ql (i_add rfl l_m1 (by omega) (by omega)) ?_
                intro xv102 hq103_
                refine T_qg (i_sub rfl l_1 (by omega) (by omega)) (by omega) (by omega) ?_
                refine T_qg rfl (by omega) (by omega) ?_
                have hq106_ := i_full (xv5)
                refine T_qc (t_X1_reckon hn xv5 (M 36 ((xv102 - (1 : Int32)).toNatClampNeg)) (M 36 xv102.toNatClampNeg) M hG (i_rng (lo := 32) (hi := 2147483647) rfl (by omega) (by omega))) ?_
                rintro rv104 mv105 ⟨gq107_, kq108_⟩
                have kq109_ := Sm.call hS kq108_ rfl
                refine T_qg (i_sub rfl l_1 (by omega) (by omega)) (by omega) (by omega) ?_
                refine T_mu gq107_ kq109_ (rn_36 _ _) (nw_36 _) (i := 1) rfl ⟨by decide, by decide, Or.inl rfl⟩ ?_
                intro mv110 hq111_ gq112_ kq113_
                have hq114_ : (mv110 36 ((xv102 - (1 : Int32)).toNatClampNeg)).toInt = rv104.toInt := by rw [hq111_, mu_at]
                refine T_ql (i_add rfl l_1 (by omega) (by omega)) ?_
                intro xv115 hq116_
                exact ih a2 xv102 xv115 mv110 gq112_ kq113_ (i_rng (lo := 0) (hi := 240) rfl (by omega) (by omega)) (i_rng (lo := 0) (hi := 64) rfl (by omega) (by omega)) (i_rng (lo := 0) (hi := 1000001) rfl (by omega) (by omega)) (by omega)
      · unfold f_X1_run_243
        refine T_eq rfl l_0 (fun hq117_ => ?_) (fun hq117_ => ?_)
        · refine T_le l_1 rfl (fun hq118_ => ?_) (fun hq118_ => ?_)
          · exact T_ret ⟨hG, hS⟩
          · exact T_ret ⟨hG, hS⟩
        · exact T_ret ⟨hG, hS⟩
theorem t_X1_run {n : Nat} (hn : 200000 ≤ n) {j : Nat} (hj : q_isLaw j) (a1 a2 : Int32) (M : qM) (hG : G M) (pa1 : 0 ≤ a1.toInt ∧ a1.toInt ≤ 240) (pa2 : 0 ≤ a2.toInt ∧ a2.toInt ≤ 240) : qT (f_X1_run n j a1 a2 M) (po_X1_run a1 a2 M) := by
  have hS : Sm l_X1_run M M := Sm.rf
  unfold f_X1_run
  refine T_mu hG hS (rn_34_4 _) (nw_34 _) (i := 0) rfl ⟨by decide, by decide, Or.inr ⟨by decide, by decide⟩⟩ ?_
  intro mv119 hq120_ gq121_ kq122_
  have hq123_ : (mv119 34 4).toInt = 0 := by rw [hq120_, mu_at]; exact l_0
  exact (t_X1_run_10 hn hj) n a2 (0 : Int32) a1 mv119 gq121_ kq122_ (i_rng (lo := 0) (hi := 240) rfl (by omega) (by omega)) (i_rng (lo := 0) (hi := 64) l_0 (by omega) (by omega)) (i_rng (lo := 0) (hi := 1000001) rfl (by omega) (by omega)) (by have e1 : ((0 : Int32)).toInt = _ := l_0; omega)
abbrev l_X1_isAlike : List Bx := [(34, 35, 4, 5), (35, 36, 3, 6), (36, 37, 0, 0)]
abbrev po_X1_isAlike (a1 : Int32) (M : qM) (v : Int32) (M' : qM) : Prop := (0 ≤ v.toInt ∧ v.toInt ≤ 1) ∧ G M' ∧ Sm l_X1_isAlike M M'
theorem t_X1_isAlike_49 {n : Nat} (hn : 200000 ≤ n) {j : Nat} (hj : q_isLaw j) {oa1 : Int32} {M0 : qM} : ∀ (m : Nat) (a2 : Int32) (M : qM), G M → Sm l_X1_isAlike M0 M → 0 ≤ a2.toInt ∧ a2.toInt ≤ 16 → 16 - a2.toInt < (m : Int) → qT (f_X1_isAlike_49 n j m a2 M) (po_X1_isAlike oa1 M0) := by
  intro m
  induction m with
  | zero =>
    intro a2 M hG hS i0 i3
    exfalso; omega
  | succ m ih =>
    intro a2 M hG hS i0 i3
    show qT (b_X1_isAlike_49 n j (f_X1_isAlike_49 n j m) a2 M) _
    unfold b_X1_isAlike_49
    have hq3_ := rw_0_7 hj hG
    refine T_le rfl rfl (fun hq4_ => ?_) (fun hq4_ => ?_)
    · exact T_ret ⟨(i_rng (lo := 0) (hi := 1) l_0 (by omega) (by omega)), hG, hS⟩
    · refine T_qg rfl (by omega) (by omega) ?_
      refine T_eq rfl l_97 (fun hq5_ => ?_) (fun hq5_ => ?_)
      · refine T_qg rfl (by omega) (by omega) ?_
        refine T_qg rfl (by omega) (by omega) ?_
        have hq8_ := rw_5 hj hG a2.toNatClampNeg
        have hq9_ := rw_6 hj hG a2.toNatClampNeg
        refine T_qc (t_X1_run hn hj (M (j + 5) a2.toNatClampNeg) (M (j + 6) a2.toNatClampNeg) M hG (i_rng (lo := 0) (hi := 240) rfl (by omega) (by omega)) (i_rng (lo := 0) (hi := 240) rfl (by omega) (by omega))) ?_
        rintro rv6 mv7 ⟨gq10_, kq11_⟩
        have kq12_ := Sm.call hS kq11_ rfl
        have hq13_ : (mv7 j 7).toInt = (M j 7).toInt := by rw [kq11_ j 7 (outl (lawin hj).1 rfl)]
        refine T_eq rfl l_0 (fun hq14_ => ?_) (fun hq14_ => ?_)
        · refine T_ql (i_add rfl l_1 (by omega) (by omega)) ?_
          intro xv15 hq16_
          exact ih xv15 mv7 gq10_ kq12_ (i_rng (lo := 0) (hi := 16) rfl (by omega) (by omega)) (by omega)
        · exact T_ret ⟨(i_rng (lo := 0) (hi := 1) l_1 (by omega) (by omega)), gq10_, kq12_⟩
      · refine T_ql (i_add rfl l_1 (by omega) (by omega)) ?_
        intro xv17 hq18_
        exact ih xv17 M hG hS (i_rng (lo := 0) (hi := 16) rfl (by omega) (by omega)) (by omega)
theorem t_X1_isAlike {n : Nat} (hn : 200000 ≤ n) {j : Nat} (hj : q_isLaw j) (a1 : Int32) (M : qM) (hG : G M) (pa1 : 0 ≤ a1.toInt ∧ a1.toInt ≤ 11) : qT (f_X1_isAlike n j a1 M) (po_X1_isAlike a1 M) := by
  have hS : Sm l_X1_isAlike M M := Sm.rf
  unfold f_X1_isAlike
  refine T_mu hG hS (rn_35 _ _) (nw_35 _) (i := 1) rfl ⟨by decide, by decide, Or.inr ⟨by decide, by decide⟩⟩ ?_
  intro mv19 hq20_ gq21_ kq22_
  have hq23_ : (mv19 35 3).toInt = a1.toInt := by rw [hq20_, mu_at]
  refine T_qg rfl (by omega) (by omega) ?_
  refine T_mu gq21_ kq22_ (rn_35 _ _) (nw_35 _) (i := 1) rfl ⟨by decide, by decide, Or.inr ⟨by decide, by decide⟩⟩ ?_
  intro mv24 hq25_ gq26_ kq27_
  have hq28_ : (mv24 35 3).toInt = (mv19 35 3).toInt := by rw [hq25_, mu_ne (Or.inr (by decide))]
  have hq29_ : (mv24 35 4).toInt = (mv19 5 a1.toNatClampNeg).toInt := by rw [hq25_, mu_at]
  refine T_qg rfl (by omega) (by omega) ?_
  refine T_qc (t_J6_bitCount_0f7a4 hn ((mv24 35 2) &&& (mv24 5 a1.toNatClampNeg)) mv24 gq26_ ) ?_
  rintro rv30 mv31 ⟨hq32_, gq33_, kq34_⟩
  have hq35_ := kq34_.nil
  subst hq35_
  refine T_mu gq26_ kq27_ (rn_35 _ _) (nw_35 _) (i := 1) rfl ⟨by decide, by decide, Or.inr ⟨by decide, by decide⟩⟩ ?_
  intro mv36 hq37_ gq38_ kq39_
  have hq40_ : (mv36 35 3).toInt = (mv24 35 3).toInt := by rw [hq37_, mu_ne (Or.inr (by decide))]
  have hq41_ : (mv36 35 4).toInt = (mv24 35 4).toInt := by rw [hq37_, mu_ne (Or.inr (by decide))]
  have hq42_ : (mv36 35 5).toInt = rv30.toInt := by rw [hq37_, mu_at]
  exact (t_X1_isAlike_49 hn hj) n (0 : Int32) mv36 gq38_ kq39_ (i_rng (lo := 0) (hi := 16) l_0 (by omega) (by omega)) (by have e0 : ((0 : Int32)).toInt = _ := l_0; omega)
abbrev l_X1_alikes : List Bx := [(34, 35, 4, 5), (35, 37, 0, 0)]
abbrev po_X1_alikes (a1 a2 : Int32) (M : qM) (v : Int32) (M' : qM) : Prop := G M' ∧ Sm l_X1_alikes M M'
theorem t_X1_alikes_29 {n : Nat} (hn : 200000 ≤ n) {j : Nat} (hj : q_isLaw j) {oa1 oa2 : Int32} {M0 : qM} : ∀ (m : Nat) (a1 a3 a4 : Int32) (M : qM), G M → Sm l_X1_alikes M0 M → 0 ≤ a1.toInt ∧ a1.toInt ≤ 11 → 0 ≤ a4.toInt ∧ a4.toInt ≤ 12 → 12 - a4.toInt < (m : Int) → qT (f_X1_alikes_29 n j m a1 a3 a4 M) (po_X1_alikes oa1 oa2 M0) := by
  intro m
  induction m with
  | zero =>
    intro a1 a3 a4 M hG hS i0 i1 i4
    exfalso; omega
  | succ m ih =>
    intro a1 a3 a4 M hG hS i0 i1 i4
    show qT (b_X1_alikes_29 n j (f_X1_alikes_29 n j m) a1 a3 a4 M) _
    unfold b_X1_alikes_29
    refine T_le l_12 rfl (fun hq7_ => ?_) (fun hq7_ => ?_)
    · exact T_ret ⟨hG, hS⟩
    · refine T_eq rfl rfl (fun hq8_ => ?_) (fun hq8_ => ?_)
      · unfold f_X1_alikes_63
        have hq9_ := i_shl1 (c := 11) (k := a4) (by decide) rfl (by omega) (by omega)
        refine T_ql rfl ?_
        intro xv10 hq11_
        refine T_ql (i_add rfl l_1 (by omega) (by omega)) ?_
        intro xv12 hq13_
        exact ih a1 xv10 xv12 M hG hS (i_rng (lo := 0) (hi := 11) rfl (by omega) (by omega)) (i_rng (lo := 0) (hi := 12) rfl (by omega) (by omega)) (by omega)
      · refine T_qc (t_X2_knows hn a4 M hG ) ?_
        rintro rv14 mv15 ⟨hq16_, hq17_, gq18_, kq19_⟩
        have hq20_ := kq19_.nil
        subst hq20_
        refine T_eq rfl l_0 (fun hq21_ => ?_) (fun hq21_ => ?_)
        · refine T_ql (i_add rfl l_1 (by omega) (by omega)) ?_
          intro xv22 hq23_
          exact ih a1 a3 xv22 M hG hS (i_rng (lo := 0) (hi := 11) rfl (by omega) (by omega)) (i_rng (lo := 0) (hi := 12) rfl (by omega) (by omega)) (by omega)
        · refine T_qc (t_X1_isAlike hn hj a4 M hG (i_rng (lo := 0) (hi := 11) rfl (by omega) (by omega))) ?_
          rintro rv24 mv25 ⟨hq26_, gq27_, kq28_⟩
          have kq29_ := Sm.call hS kq28_ rfl
          refine T_eq rfl l_0 (fun hq30_ => ?_) (fun hq30_ => ?_)
          · refine T_ql (i_add rfl l_1 (by omega) (by omega)) ?_
            intro xv31 hq32_
            exact ih a1 a3 xv31 mv25 gq27_ kq29_ (i_rng (lo := 0) (hi := 11) rfl (by omega) (by omega)) (i_rng (lo := 0) (hi := 12) rfl (by omega) (by omega)) (by omega)
          · unfold f_X1_alikes_63
            have hq33_ := i_shl1 (c := 11) (k := a4) (by decide) rfl (by omega) (by omega)
            refine T_ql rfl ?_
            intro xv34 hq35_
            refine T_ql (i_add rfl l_1 (by omega) (by omega)) ?_
            intro xv36 hq37_
            exact ih a1 xv34 xv36 mv25 gq27_ kq29_ (i_rng (lo := 0) (hi := 11) rfl (by omega) (by omega)) (i_rng (lo := 0) (hi := 12) rfl (by omega) (by omega)) (by omega)
theorem t_X1_alikes {n : Nat} (hn : 200000 ≤ n) {j : Nat} (hj : q_isLaw j) (a1 a2 : Int32) (M : qM) (hG : G M) (pa1 : 0 ≤ a1.toInt ∧ a1.toInt ≤ 11) : qT (f_X1_alikes n j a1 a2 M) (po_X1_alikes a1 a2 M) := by
  have hS : Sm l_X1_alikes M M := Sm.rf
  unfold f_X1_alikes
  refine T_qg rfl (by omega) (by omega) ?_
  refine T_qg rfl (by omega) (by omega) ?_
  refine T_qc (t_X1_tellDeed hn a1 (M 4 a1.toNatClampNeg) (M 5 a1.toNatClampNeg) a2 M hG (i_rng (lo := 0) (hi := 12) rfl (by omega) (by omega))) ?_
  rintro rv38 mv39 ⟨hq40_, gq41_, kq42_⟩
  have kq43_ := Sm.call hS kq42_ rfl
  exact (t_X1_alikes_29 hn hj) n a1 (0 : Int32) (0 : Int32) mv39 gq41_ kq43_ (i_rng (lo := 0) (hi := 11) rfl (by omega) (by omega)) (i_rng (lo := 0) (hi := 12) l_0 (by omega) (by omega)) (by have e1 : ((0 : Int32)).toInt = _ := l_0; have e2 : ((0 : Int32)).toInt = _ := l_0; omega)
abbrev l_X10_triesByAll_c7 : List Bx := []
abbrev po_X10_triesByAll_c7 (a1 : Int32) (M : qM) (v : Int32) (M' : qM) : Prop := G M' ∧ Sm l_X10_triesByAll_c7 M M'
theorem t_X10_triesByAll_c7_4 {n : Nat} (hn : 200000 ≤ n) {oa1 : Int32} {M0 : qM} : ∀ (m : Nat) (a1 a2 a3 : Int32) (M : qM), G M → Sm l_X10_triesByAll_c7 M0 M → 0 ≤ a1.toInt ∧ a1.toInt ≤ 11 → 0 ≤ a3.toInt ∧ a3.toInt ≤ 8 → 8 - a3.toInt < (m : Int) → qT (f_X10_triesByAll_4 n 7 m a1 a2 a3 M) (po_X10_triesByAll_c7 oa1 M0) := by
  intro m
  induction m with
  | zero =>
    intro a1 a2 a3 M hG hS i0 i1 i4
    exfalso; omega
  | succ m ih =>
    intro a1 a2 a3 M hG hS i0 i1 i4
    show qT (b_X10_triesByAll_4 n 7 (f_X10_triesByAll_4 n 7 m) a1 a2 a3 M) _
    unfold b_X10_triesByAll_4
    try simp only [Nat.reduceAdd]
    refine T_le l_8 rfl (fun hq3_ => ?_) (fun hq3_ => ?_)
    · exact T_ret ⟨hG, hS⟩
    · refine T_qg (i_add (i_mul rfl l_12 (by omega) (by omega)) rfl (by omega) (by omega)) (by omega) (by omega) ?_
      have hq4_ := i_full (a2)
      have hq5_ := i_full (M 9 (((a3 * (12 : Int32)) + a1).toNatClampNeg))
      refine T_ql rfl ?_
      intro xv6 hq7_
      refine T_ql (i_add rfl l_1 (by omega) (by omega)) ?_
      intro xv8 hq9_
      exact ih a1 xv6 xv8 M hG hS (i_rng (lo := 0) (hi := 11) rfl (by omega) (by omega)) (i_rng (lo := 0) (hi := 8) rfl (by omega) (by omega)) (by omega)
theorem t_X10_triesByAll_c7 {n : Nat} (hn : 200000 ≤ n) (a1 : Int32) (M : qM) (hG : G M) (pa1 : 0 ≤ a1.toInt ∧ a1.toInt ≤ 11) : qT (f_X10_triesByAll n 7 a1 M) (po_X10_triesByAll_c7 a1 M) := by
  have hS : Sm l_X10_triesByAll_c7 M M := Sm.rf
  unfold f_X10_triesByAll
  try simp only [Nat.reduceAdd]
  exact (t_X10_triesByAll_c7_4 hn) n a1 (0 : Int32) (0 : Int32) M hG hS (i_rng (lo := 0) (hi := 11) rfl (by omega) (by omega)) (i_rng (lo := 0) (hi := 8) l_0 (by omega) (by omega)) (by have e1 : ((0 : Int32)).toInt = _ := l_0; have e2 : ((0 : Int32)).toInt = _ := l_0; omega)
abbrev l_X1_tellTry : List Bx := [(35, 36, 7, 12)]
abbrev po_X1_tellTry (a1 a2 a3 a4 a5 : Int32) (M : qM) (v : Int32) (M' : qM) : Prop := (0 ≤ v.toInt ∧ v.toInt ≤ 0) ∧ G M' ∧ Sm l_X1_tellTry M M'
theorem t_X1_tellTry {n : Nat} (hn : 200000 ≤ n) (a1 a2 a3 a4 a5 : Int32) (M : qM) (hG : G M) (pa1 : 0 ≤ a1.toInt ∧ a1.toInt ≤ 7) (pa2 : 0 ≤ a2.toInt ∧ a2.toInt ≤ 8) : qT (f_X1_tellTry n a1 a2 a3 a4 a5 M) (po_X1_tellTry a1 a2 a3 a4 a5 M) := by
  have hS : Sm l_X1_tellTry M M := Sm.rf
  unfold f_X1_tellTry
  refine T_mu hG hS (rn_35 _ _) (nw_35 _) (i := 0) rfl ⟨by decide, by decide, Or.inr ⟨by decide, by decide⟩⟩ ?_
  intro mv1 hq2_ gq3_ kq4_
  have hq5_ : (mv1 35 7).toInt = a1.toInt := by rw [hq2_, mu_at]
  refine T_mu gq3_ kq4_ (rn_35 _ _) (nw_35 _) (i := 0) rfl ⟨by decide, by decide, Or.inr ⟨by decide, by decide⟩⟩ ?_
  intro mv6 hq7_ gq8_ kq9_
  have hq10_ : (mv6 35 7).toInt = (mv1 35 7).toInt := by rw [hq7_, mu_ne (Or.inr (by decide))]
  have hq11_ : (mv6 35 8).toInt = a2.toInt := by rw [hq7_, mu_at]
  refine T_mu gq8_ kq9_ (rn_35 _ _) (nw_35 _) (i := 0) rfl ⟨by decide, by decide, Or.inr ⟨by decide, by decide⟩⟩ ?_
  intro mv12 hq13_ gq14_ kq15_
  have hq16_ : (mv12 35 7).toInt = (mv6 35 7).toInt := by rw [hq13_, mu_ne (Or.inr (by decide))]
  have hq17_ : (mv12 35 8).toInt = (mv6 35 8).toInt := by rw [hq13_, mu_ne (Or.inr (by decide))]
  have hq18_ : (mv12 35 9).toInt = a3.toInt := by rw [hq13_, mu_at]
  refine T_mu gq14_ kq15_ (rn_35 _ _) (nw_35 _) (i := 0) rfl ⟨by decide, by decide, Or.inr ⟨by decide, by decide⟩⟩ ?_
  intro mv19 hq20_ gq21_ kq22_
  have hq23_ : (mv19 35 7).toInt = (mv12 35 7).toInt := by rw [hq20_, mu_ne (Or.inr (by decide))]
  have hq24_ : (mv19 35 8).toInt = (mv12 35 8).toInt := by rw [hq20_, mu_ne (Or.inr (by decide))]
  have hq25_ : (mv19 35 9).toInt = (mv12 35 9).toInt := by rw [hq20_, mu_ne (Or.inr (by decide))]
  have hq26_ : (mv19 35 10).toInt = a4.toInt := by rw [hq20_, mu_at]
  refine T_mu gq21_ kq22_ (rn_35 _ _) (nw_35 _) (i := 0) rfl ⟨by decide, by decide, Or.inr ⟨by decide, by decide⟩⟩ ?_
  intro mv27 hq28_ gq29_ kq30_
  have hq31_ : (mv27 35 7).toInt = (mv19 35 7).toInt := by rw [hq28_, mu_ne (Or.inr (by decide))]
  have hq32_ : (mv27 35 8).toInt = (mv19 35 8).toInt := by rw [hq28_, mu_ne (Or.inr (by decide))]
  have hq33_ : (mv27 35 9).toInt = (mv19 35 9).toInt := by rw [hq28_, mu_ne (Or.inr (by decide))]
  have hq34_ : (mv27 35 10).toInt = (mv19 35 10).toInt := by rw [hq28_, mu_ne (Or.inr (by decide))]
  have hq35_ : (mv27 35 11).toInt = a5.toInt := by rw [hq28_, mu_at]
  exact T_ret ⟨(i_rng (lo := 0) (hi := 0) l_0 (by omega) (by omega)), gq29_, kq30_⟩
abbrev l_X0_tellAll_c7 : List Bx := [(35, 36, 0, 0)]
abbrev po_X0_tellAll_c7 (a2 a3 a4 : Int32) (M : qM) (v : Int32) (M' : qM) : Prop := (0 ≤ v.toInt ∧ v.toInt ≤ 0) ∧ G M' ∧ Sm l_X0_tellAll_c7 M M'
theorem t_X0_tellAll_c7 {n : Nat} (hn : 200000 ≤ n) (a2 a3 a4 : Int32) (M : qM) (hG : G M) (pa2 : 0 ≤ a2.toInt ∧ a2.toInt ≤ 7) (pa3 : 0 ≤ a3.toInt ∧ a3.toInt ≤ 11) (pa4 : 0 ≤ a4.toInt ∧ a4.toInt ≤ 8) : qT (f_X0_tellAll n 7 a2 a3 a4 M) (po_X0_tellAll_c7 a2 a3 a4 M) := by
  have hS : Sm l_X0_tellAll_c7 M M := Sm.rf
  unfold f_X0_tellAll
  try simp only [Nat.reduceAdd]
  refine T_ql (i_add (i_mul rfl l_12 (by omega) (by omega)) rfl (by omega) (by omega)) ?_
  intro xv1 hq2_
  refine T_qg rfl (by omega) (by omega) ?_
  refine T_qg rfl (by omega) (by omega) ?_
  refine T_qc (t_X1_tellDeed hn a3 (M 4 a3.toNatClampNeg) (M 5 a3.toNatClampNeg) (M 7 9) M hG (i_rng (lo := 0) (hi := 12) rfl (by omega) (by omega))) ?_
  rintro rv3 mv4 ⟨hq5_, gq6_, kq7_⟩
  have kq8_ := Sm.call hS kq7_ rfl
  refine T_qg rfl (by omega) (by omega) ?_
  refine T_qc (t_X10_triesByAll_c7 hn a3 mv4 gq6_ (i_rng (lo := 0) (hi := 11) rfl (by omega) (by omega))) ?_
  rintro rv9 mv10 ⟨gq11_, kq12_⟩
  have hq13_ := kq12_.nil
  subst hq13_
  refine T_qg rfl (by omega) (by omega) ?_
  refine T_qc (t_X1_tellTry hn a2 a4 (mv4 9 xv1.toNatClampNeg) rv9 (mv4 11 xv1.toNatClampNeg) mv4 gq6_ (i_rng (lo := 0) (hi := 7) rfl (by omega) (by omega)) (i_rng (lo := 0) (hi := 8) rfl (by omega) (by omega))) ?_
  rintro rv14 mv15 ⟨hq16_, gq17_, kq18_⟩
  have kq19_ := Sm.call kq8_ kq18_ rfl
  exact T_ret ⟨(i_rng (lo := 0) (hi := 0) l_0 (by omega) (by omega)), gq17_, kq19_⟩

abbrev l_X1_amount : List Bx := [(34, 35, 4, 5), (36, 37, 0, 0)]
abbrev po_X1_amount (a1 a2 a3 : Int32) (M : qM) (v : Int32) (M' : qM) : Prop := (0 ≤ v.toInt ∧ v.toInt ≤ 999) ∧ G M' ∧ Sm l_X1_amount M M'
theorem t_X1_amount_6 {n : Nat} (hn : 200000 ≤ n) {j : Nat} (hj : q_isLaw j) {oa1 oa2 oa3 : Int32} {M0 : qM} : ∀ (m : Nat) (a1 a2 a4 a5 : Int32) (M : qM), G M → Sm l_X1_amount M0 M → 99 ≤ a1.toInt ∧ a1.toInt ≤ 118 → 99 ≤ a2.toInt ∧ a2.toInt ≤ 999 → 0 ≤ a4.toInt ∧ a4.toInt ≤ 1 → 0 ≤ a5.toInt ∧ a5.toInt ≤ 16 → 16 - a5.toInt < (m : Int) → qT (f_X1_amount_6 n j m a1 a2 a4 a5 M) (po_X1_amount oa1 oa2 oa3 M0) := by
  intro m
  induction m with
  | zero =>
    intro a1 a2 a4 a5 M hG hS i0 i1 i2 i3 i6
    exfalso; omega
  | succ m ih =>
    intro a1 a2 a4 a5 M hG hS i0 i1 i2 i3 i6
    show qT (b_X1_amount_6 n j (f_X1_amount_6 n j m) a1 a2 a4 a5 M) _
    unfold b_X1_amount_6
    have hq3_ := rw_0_7 hj hG
    refine T_le rfl rfl (fun hq4_ => ?_) (fun hq4_ => ?_)
    · exact T_ret ⟨(i_rng (lo := 0) (hi := 999) rfl (by omega) (by omega)), hG, hS⟩
    · refine T_qg rfl (by omega) (by omega) ?_
      refine T_eq rfl rfl (fun hq5_ => ?_) (fun hq5_ => ?_)
      · refine T_qg rfl (by omega) (by omega) ?_
        refine T_qg rfl (by omega) (by omega) ?_
        have hq8_ := rw_5 hj hG a5.toNatClampNeg
        have hq9_ := rw_6 hj hG a5.toNatClampNeg
        refine T_qc (t_X1_run hn hj (M (j + 5) a5.toNatClampNeg) (M (j + 6) a5.toNatClampNeg) M hG (i_rng (lo := 0) (hi := 240) rfl (by omega) (by omega)) (i_rng (lo := 0) (hi := 240) rfl (by omega) (by omega))) ?_
        rintro rv6 mv7 ⟨gq10_, kq11_⟩
        have kq12_ := Sm.call hS kq11_ rfl
        have hq13_ : (mv7 j 7).toInt = (M j 7).toInt := by rw [kq11_ j 7 (outl (lawin hj).1 rfl)]
        refine T_eq rfl l_0 (fun hq14_ => ?_) (fun hq14_ => ?_)
        · refine T_ql (i_add rfl l_1 (by omega) (by omega)) ?_
          intro xv15 hq16_
          exact ih a1 a2 (0 : Int32) xv15 mv7 gq10_ kq12_ (i_rng (lo := 99) (hi := 118) rfl (by omega) (by omega)) (i_rng (lo := 99) (hi := 999) rfl (by omega) (by omega)) (i_rng (lo := 0) (hi := 1) l_0 (by omega) (by omega)) (i_rng (lo := 0) (hi := 16) rfl (by omega) (by omega)) (by have e2 : ((0 : Int32)).toInt = _ := l_0; omega)
        · refine T_qg rfl (by omega) (by omega) ?_
          refine T_qg rfl (by omega) (by omega) ?_
          have hq19_ := rw_4 hj gq10_ a5.toNatClampNeg
          have hq20_ := rw_5 hj gq10_ a5.toNatClampNeg
          refine T_qc (t_X1_run hn hj (mv7 (j + 4) a5.toNatClampNeg) (mv7 (j + 5) a5.toNatClampNeg) mv7 gq10_ (i_rng (lo := 0) (hi := 240) rfl (by omega) (by omega)) (i_rng (lo := 0) (hi := 240) rfl (by omega) (by omega))) ?_
          rintro rv17 mv18 ⟨gq21_, kq22_⟩
          have kq23_ := Sm.call kq12_ kq22_ rfl
          have hq24_ : (mv18 j 7).toInt = (mv7 j 7).toInt := by rw [kq22_ j 7 (outl (lawin hj).1 rfl)]
          have hq25_ := i_min (a := a2) (b := rv17) rfl rfl
          have hq26_ := i_max (a := (0 : Int32)) (b := qmin a2 rv17) l_0 rfl
          exact T_ret ⟨(i_rng (lo := 0) (hi := 999) rfl (by omega) (by omega)), gq21_, kq23_⟩
      · refine T_ql (i_add rfl l_1 (by omega) (by omega)) ?_
        intro xv27 hq28_
        exact ih a1 a2 a4 xv27 M hG hS (i_rng (lo := 99) (hi := 118) rfl (by omega) (by omega)) (i_rng (lo := 99) (hi := 999) rfl (by omega) (by omega)) (i_rng (lo := 0) (hi := 1) rfl (by omega) (by omega)) (i_rng (lo := 0) (hi := 16) rfl (by omega) (by omega)) (by omega)
theorem t_X1_amount {n : Nat} (hn : 200000 ≤ n) {j : Nat} (hj : q_isLaw j) (a1 a2 a3 : Int32) (M : qM) (hG : G M) (pa1 : 99 ≤ a1.toInt ∧ a1.toInt ≤ 118) (pa2 : 99 ≤ a2.toInt ∧ a2.toInt ≤ 999) (pa3 : 0 ≤ a3.toInt ∧ a3.toInt ≤ 1) : qT (f_X1_amount n j a1 a2 a3 M) (po_X1_amount a1 a2 a3 M) := by
  have hS : Sm l_X1_amount M M := Sm.rf
  unfold f_X1_amount
  exact (t_X1_amount_6 hn hj) n a1 a2 a3 (0 : Int32) M hG hS (i_rng (lo := 99) (hi := 118) rfl (by omega) (by omega)) (i_rng (lo := 99) (hi := 999) rfl (by omega) (by omega)) (i_rng (lo := 0) (hi := 1) rfl (by omega) (by omega)) (i_rng (lo := 0) (hi := 16) l_0 (by omega) (by omega)) (by have e3 : ((0 : Int32)).toInt = _ := l_0; omega)
abbrev l_X0_forget_c7 : List Bx := [(9, 10, 0, 0), (34, 35, 4, 5), (35, 37, 0, 0)]
abbrev po_X0_forget_c7 (a2 a3 : Int32) (M : qM) (v : Int32) (M' : qM) : Prop := (0 ≤ v.toInt ∧ v.toInt ≤ 0) ∧ G M' ∧ Sm l_X0_forget_c7 M M'
theorem t_X0_forget_c7_3 {n : Nat} (hn : 200000 ≤ n) {j : Nat} (hj : q_isLaw j) {oa2 oa3 : Int32} {M0 : qM} : ∀ (m : Nat) (a2 a3 a4 : Int32) (M : qM), G M → Sm l_X0_forget_c7 M0 M → 0 ≤ a2.toInt ∧ a2.toInt ≤ 7 → 0 ≤ a4.toInt ∧ a4.toInt ≤ 12 → 12 - a4.toInt < (m : Int) → qT (f_X0_forget_3 n 7 j m a2 a3 a4 M) (po_X0_forget_c7 oa2 oa3 M0) := by
  intro m
  induction m with
  | zero =>
    intro a2 a3 a4 M hG hS i0 i1 i4
    exfalso; omega
  | succ m ih =>
    intro a2 a3 a4 M hG hS i0 i1 i4
    show qT (b_X0_forget_3 n 7 j (f_X0_forget_3 n 7 j m) a2 a3 a4 M) _
    unfold b_X0_forget_3
    try simp only [Nat.reduceAdd]
    refine T_le l_12 rfl (fun hq7_ => ?_) (fun hq7_ => ?_)
    · exact T_ret ⟨(i_rng (lo := 0) (hi := 0) l_0 (by omega) (by omega)), hG, hS⟩
    · refine T_ql (i_add (i_mul rfl l_12 (by omega) (by omega)) rfl (by omega) (by omega)) ?_
      intro xv8 hq9_
      have hq10_ := i_and (a := a3 >>> (a4 &&& 31)) (b := (1 : Int32)) l_1 (by omega)
      refine T_eq rfl l_1 (fun hq11_ => ?_) (fun hq11_ => ?_)
      · refine T_qg rfl (by omega) (by omega) ?_
        refine T_le rfl l_0 (fun hq12_ => ?_) (fun hq12_ => ?_)
        · refine T_ql (i_add rfl l_1 (by omega) (by omega)) ?_
          intro xv13 hq14_
          exact ih a2 a3 xv13 M hG hS (i_rng (lo := 0) (hi := 7) rfl (by omega) (by omega)) (i_rng (lo := 0) (hi := 12) rfl (by omega) (by omega)) (by omega)
        · refine T_qc (t_X0_tellAll_c7 hn a2 a4 (8 : Int32) M hG (i_rng (lo := 0) (hi := 7) rfl (by omega) (by omega)) (i_rng (lo := 0) (hi := 11) rfl (by omega) (by omega)) (i_rng (lo := 0) (hi := 8) l_8 (by omega) (by omega))) ?_
          rintro rv15 mv16 ⟨hq17_, gq18_, kq19_⟩
          have kq20_ := Sm.call hS kq19_ rfl
          have hq21_ : (mv16 9 xv8.toNatClampNeg).toInt = (M 9 xv8.toNatClampNeg).toInt := by rw [kq19_ 9 _ (outc rfl)]
          refine T_qc (t_X1_amount hn hj (102 : Int32) (999 : Int32) (0 : Int32) mv16 gq18_ (i_rng (lo := 99) (hi := 118) l_102 (by omega) (by omega)) (i_rng (lo := 99) (hi := 999) l_999 (by omega) (by omega)) (i_rng (lo := 0) (hi := 1) l_0 (by omega) (by omega))) ?_
          rintro rv22 mv23 ⟨hq24_, gq25_, kq26_⟩
          have kq27_ := Sm.call kq20_ kq26_ rfl
          have hq28_ : (mv23 9 xv8.toNatClampNeg).toInt = (mv16 9 xv8.toNatClampNeg).toInt := by rw [kq26_ 9 _ (outc rfl)]
          refine T_le rfl l_0 (fun hq29_ => ?_) (fun hq29_ => ?_)
          · refine T_ql (i_add rfl l_1 (by omega) (by omega)) ?_
            intro xv30 hq31_
            exact ih a2 a3 xv30 mv23 gq25_ kq27_ (i_rng (lo := 0) (hi := 7) rfl (by omega) (by omega)) (i_rng (lo := 0) (hi := 12) rfl (by omega) (by omega)) (by omega)
          · refine T_qg rfl (by omega) (by omega) ?_
            have hq32_ := i_full (mv23 7 9)
            have hq33_ := i_full (mv23 10 xv8.toNatClampNeg)
            refine T_lt rfl rfl (fun hq34_ => ?_) (fun hq34_ => ?_)
            · refine T_ql (i_add rfl l_1 (by omega) (by omega)) ?_
              intro xv35 hq36_
              exact ih a2 a3 xv35 mv23 gq25_ kq27_ (i_rng (lo := 0) (hi := 7) rfl (by omega) (by omega)) (i_rng (lo := 0) (hi := 12) rfl (by omega) (by omega)) (by omega)
            · refine T_qg rfl (by omega) (by omega) ?_
              refine T_mu gq25_ kq27_ (rn_9 _ _) (nw_9 _) (i := 0) rfl ⟨by decide, by decide, Or.inl rfl⟩ ?_
              intro mv37 hq38_ gq39_ kq40_
              have hq41_ : (mv37 9 xv8.toNatClampNeg).toInt = 0 := by rw [hq38_, mu_at]; exact l_0
              refine T_ql (i_add rfl l_1 (by omega) (by omega)) ?_
              intro xv42 hq43_
              exact ih a2 a3 xv42 mv37 gq39_ kq40_ (i_rng (lo := 0) (hi := 7) rfl (by omega) (by omega)) (i_rng (lo := 0) (hi := 12) rfl (by omega) (by omega)) (by omega)
      · refine T_ql (i_add rfl l_1 (by omega) (by omega)) ?_
        intro xv44 hq45_
        exact ih a2 a3 xv44 M hG hS (i_rng (lo := 0) (hi := 7) rfl (by omega) (by omega)) (i_rng (lo := 0) (hi := 12) rfl (by omega) (by omega)) (by omega)
theorem t_X0_forget_c7 {n : Nat} (hn : 200000 ≤ n) {j : Nat} (hj : q_isLaw j) (a2 a3 : Int32) (M : qM) (hG : G M) (pa2 : 0 ≤ a2.toInt ∧ a2.toInt ≤ 7) : qT (f_X0_forget n 7 j a2 a3 M) (po_X0_forget_c7 a2 a3 M) := by
  have hS : Sm l_X0_forget_c7 M M := Sm.rf
  unfold f_X0_forget
  try simp only [Nat.reduceAdd]
  exact (t_X0_forget_c7_3 hn hj) n a2 a3 (0 : Int32) M hG hS (i_rng (lo := 0) (hi := 7) rfl (by omega) (by omega)) (i_rng (lo := 0) (hi := 12) l_0 (by omega) (by omega)) (by have e2 : ((0 : Int32)).toInt = _ := l_0; omega)
abbrev l_X10_triesAmong_c7 : List Bx := []
abbrev po_X10_triesAmong_c7 (a1 a2 : Int32) (M : qM) (v : Int32) (M' : qM) : Prop := G M' ∧ Sm l_X10_triesAmong_c7 M M'
theorem t_X10_triesAmong_c7_5 {n : Nat} (hn : 200000 ≤ n) {oa1 oa2 : Int32} {M0 : qM} : ∀ (m : Nat) (a1 a2 a3 a4 : Int32) (M : qM), G M → Sm l_X10_triesAmong_c7 M0 M → 0 ≤ a1.toInt ∧ a1.toInt ≤ 7 → 0 ≤ a4.toInt ∧ a4.toInt ≤ 12 → 12 - a4.toInt < (m : Int) → qT (f_X10_triesAmong_5 n 7 m a1 a2 a3 a4 M) (po_X10_triesAmong_c7 oa1 oa2 M0) := by
  intro m
  induction m with
  | zero =>
    intro a1 a2 a3 a4 M hG hS i0 i1 i4
    exfalso; omega
  | succ m ih =>
    intro a1 a2 a3 a4 M hG hS i0 i1 i4
    show qT (b_X10_triesAmong_5 n 7 (f_X10_triesAmong_5 n 7 m) a1 a2 a3 a4 M) _
    unfold b_X10_triesAmong_5
    try simp only [Nat.reduceAdd]
    refine T_le l_12 rfl (fun hq4_ => ?_) (fun hq4_ => ?_)
    · exact T_ret ⟨hG, hS⟩
    · have hq5_ := i_and (a := a2 >>> (a4 &&& 31)) (b := (1 : Int32)) l_1 (by omega)
      refine T_eq rfl l_1 (fun hq6_ => ?_) (fun hq6_ => ?_)
      · refine T_qg (i_add (i_mul rfl l_12 (by omega) (by omega)) rfl (by omega) (by omega)) (by omega) (by omega) ?_
        have hq7_ := i_full (a3)
        have hq8_ := i_full (M 9 (((a1 * (12 : Int32)) + a4).toNatClampNeg))
        refine T_ql rfl ?_
        intro xv9 hq10_
        refine T_ql (i_add rfl l_1 (by omega) (by omega)) ?_
        intro xv11 hq12_
        exact ih a1 a2 xv9 xv11 M hG hS (i_rng (lo := 0) (hi := 7) rfl (by omega) (by omega)) (i_rng (lo := 0) (hi := 12) rfl (by omega) (by omega)) (by omega)
      · refine T_ql (i_add rfl l_1 (by omega) (by omega)) ?_
        intro xv13 hq14_
        exact ih a1 a2 a3 xv13 M hG hS (i_rng (lo := 0) (hi := 7) rfl (by omega) (by omega)) (i_rng (lo := 0) (hi := 12) rfl (by omega) (by omega)) (by omega)
theorem t_X10_triesAmong_c7 {n : Nat} (hn : 200000 ≤ n) (a1 a2 : Int32) (M : qM) (hG : G M) (pa1 : 0 ≤ a1.toInt ∧ a1.toInt ≤ 7) : qT (f_X10_triesAmong n 7 a1 a2 M) (po_X10_triesAmong_c7 a1 a2 M) := by
  have hS : Sm l_X10_triesAmong_c7 M M := Sm.rf
  unfold f_X10_triesAmong
  try simp only [Nat.reduceAdd]
  exact (t_X10_triesAmong_c7_5 hn) n a1 a2 (0 : Int32) (0 : Int32) M hG hS (i_rng (lo := 0) (hi := 7) rfl (by omega) (by omega)) (i_rng (lo := 0) (hi := 12) l_0 (by omega) (by omega)) (by have e2 : ((0 : Int32)).toInt = _ := l_0; have e3 : ((0 : Int32)).toInt = _ := l_0; omega)
abbrev l_X1_voidTries : List Bx := [(34, 35, 4, 5), (36, 37, 0, 0)]
abbrev po_X1_voidTries (M : qM) (v : Int32) (M' : qM) : Prop := (0 ≤ v.toInt ∧ v.toInt ≤ 999) ∧ G M' ∧ Sm l_X1_voidTries M M'
theorem t_X1_voidTries {n : Nat} (hn : 200000 ≤ n) {j : Nat} (hj : q_isLaw j) (M : qM) (hG : G M) : qT (f_X1_voidTries n j  M) (po_X1_voidTries  M) := by
  have hS : Sm l_X1_voidTries M M := Sm.rf
  unfold f_X1_voidTries
  refine T_qc (t_X1_amount hn hj (118 : Int32) (99 : Int32) (1 : Int32) M hG (i_rng (lo := 99) (hi := 118) l_118 (by omega) (by omega)) (i_rng (lo := 99) (hi := 999) l_99 (by omega) (by omega)) (i_rng (lo := 0) (hi := 1) l_1 (by omega) (by omega))) ?_
  rintro rv1 mv2 ⟨hq3_, gq4_, kq5_⟩
  have kq6_ := Sm.call hS kq5_ rfl
  exact T_ret ⟨(i_rng (lo := 0) (hi := 999) rfl (by omega) (by omega)), gq4_, kq6_⟩
abbrev l_X10_addTry_c7 : List Bx := [(9, 11, 0, 0)]
abbrev po_X10_addTry_c7 (a1 a2 : Int32) (M : qM) (v : Int32) (M' : qM) : Prop := (0 ≤ v.toInt ∧ v.toInt ≤ 0) ∧ G M' ∧ Sm l_X10_addTry_c7 M M'
theorem t_X10_addTry_c7 {n : Nat} (hn : 200000 ≤ n) (a1 a2 : Int32) (M : qM) (hG : G M) (pa1 : 0 ≤ a1.toInt ∧ a1.toInt ≤ 7) (pa2 : 0 ≤ a2.toInt ∧ a2.toInt ≤ 11) : qT (f_X10_addTry n 7 a1 a2 M) (po_X10_addTry_c7 a1 a2 M) := by
  have hS : Sm l_X10_addTry_c7 M M := Sm.rf
  unfold f_X10_addTry
  try simp only [Nat.reduceAdd]
  refine T_ql (i_add (i_mul rfl l_12 (by omega) (by omega)) rfl (by omega) (by omega)) ?_
  intro xv1 hq2_
  refine T_qg rfl (by omega) (by omega) ?_
  refine T_qg rfl (by omega) (by omega) ?_
  have hq4_ := i_full (M 9 xv1.toNatClampNeg)
  have hq5_ := i_min (a := (999 : Int32)) (b := (M 9 xv1.toNatClampNeg) + (1 : Int32)) l_999 rfl
  refine T_mu hG hS (rn_9 _ _) (nw_9 _) (i := 0) rfl ⟨by decide, by decide, Or.inl rfl⟩ ?_
  intro mv3 hq6_ gq7_ kq8_
  have hq9_ : (mv3 9 xv1.toNatClampNeg).toInt = (qmin (999 : Int32) ((M 9 xv1.toNatClampNeg) + (1 : Int32))).toInt := by rw [hq6_, mu_at]
  refine T_qg rfl (by omega) (by omega) ?_
  refine T_mu gq7_ kq8_ (rn_10 _ _) (nw_10 _) (i := 0) rfl ⟨by decide, by decide, Or.inl rfl⟩ ?_
  intro mv10 hq11_ gq12_ kq13_
  have hq14_ : (mv10 9 xv1.toNatClampNeg).toInt = (mv3 9 xv1.toNatClampNeg).toInt := by rw [hq11_, mu_ne (Or.inl (by decide))]
  have hq15_ : (mv10 10 xv1.toNatClampNeg).toInt = (mv3 7 9).toInt := by rw [hq11_, mu_at]
  exact T_ret ⟨(i_rng (lo := 0) (hi := 0) l_0 (by omega) (by omega)), gq12_, kq13_⟩
abbrev l_X10_hasCounted_c7 : List Bx := []
abbrev po_X10_hasCounted_c7 (a1 a2 : Int32) (M : qM) (v : Int32) (M' : qM) : Prop := (0 ≤ v.toInt ∧ v.toInt ≤ 1) ∧ G M' ∧ Sm l_X10_hasCounted_c7 M M'
theorem t_X10_hasCounted_c7_2 {n : Nat} (hn : 200000 ≤ n) {oa1 oa2 : Int32} {M0 : qM} : ∀ (m : Nat) (a1 a2 a3 : Int32) (M : qM), G M → Sm l_X10_hasCounted_c7 M0 M → 0 ≤ a1.toInt ∧ a1.toInt ≤ 7 → 0 ≤ a3.toInt ∧ a3.toInt ≤ 12 → 12 - a3.toInt < (m : Int) → qT (f_X10_hasCounted_2 n 7 m a1 a2 a3 M) (po_X10_hasCounted_c7 oa1 oa2 M0) := by
  intro m
  induction m with
  | zero =>
    intro a1 a2 a3 M hG hS i0 i1 i4
    exfalso; omega
  | succ m ih =>
    intro a1 a2 a3 M hG hS i0 i1 i4
    show qT (b_X10_hasCounted_2 n 7 (f_X10_hasCounted_2 n 7 m) a1 a2 a3 M) _
    unfold b_X10_hasCounted_2
    try simp only [Nat.reduceAdd]
    refine T_le l_12 rfl (fun hq3_ => ?_) (fun hq3_ => ?_)
    · exact T_ret ⟨(i_rng (lo := 0) (hi := 1) l_1 (by omega) (by omega)), hG, hS⟩
    · have hq4_ := i_and (a := a2 >>> (a3 &&& 31)) (b := (1 : Int32)) l_1 (by omega)
      refine T_eq rfl l_1 (fun hq5_ => ?_) (fun hq5_ => ?_)
      · refine T_qg (i_add (i_mul rfl l_12 (by omega) (by omega)) rfl (by omega) (by omega)) (by omega) (by omega) ?_
        refine T_eq rfl l_0 (fun hq6_ => ?_) (fun hq6_ => ?_)
        · exact T_ret ⟨(i_rng (lo := 0) (hi := 1) l_0 (by omega) (by omega)), hG, hS⟩
        · refine T_ql (i_add rfl l_1 (by omega) (by omega)) ?_
          intro xv7 hq8_
          exact ih a1 a2 xv7 M hG hS (i_rng (lo := 0) (hi := 7) rfl (by omega) (by omega)) (i_rng (lo := 0) (hi := 12) rfl (by omega) (by omega)) (by omega)
      · refine T_ql (i_add rfl l_1 (by omega) (by omega)) ?_
        intro xv9 hq10_
        exact ih a1 a2 xv9 M hG hS (i_rng (lo := 0) (hi := 7) rfl (by omega) (by omega)) (i_rng (lo := 0) (hi := 12) rfl (by omega) (by omega)) (by omega)
theorem t_X10_hasCounted_c7 {n : Nat} (hn : 200000 ≤ n) (a1 a2 : Int32) (M : qM) (hG : G M) (pa1 : 0 ≤ a1.toInt ∧ a1.toInt ≤ 7) : qT (f_X10_hasCounted n 7 a1 a2 M) (po_X10_hasCounted_c7 a1 a2 M) := by
  have hS : Sm l_X10_hasCounted_c7 M M := Sm.rf
  unfold f_X10_hasCounted
  try simp only [Nat.reduceAdd]
  exact (t_X10_hasCounted_c7_2 hn) n a1 a2 (0 : Int32) M hG hS (i_rng (lo := 0) (hi := 7) rfl (by omega) (by omega)) (i_rng (lo := 0) (hi := 12) l_0 (by omega) (by omega)) (by have e2 : ((0 : Int32)).toInt = _ := l_0; omega)
abbrev l_X10_addCounted_c7 : List Bx := [(11, 12, 0, 0)]
abbrev po_X10_addCounted_c7 (a1 a2 : Int32) (M : qM) (v : Int32) (M' : qM) : Prop := (0 ≤ v.toInt ∧ v.toInt ≤ 0) ∧ G M' ∧ Sm l_X10_addCounted_c7 M M'
theorem t_X10_addCounted_c7 {n : Nat} (hn : 200000 ≤ n) (a1 a2 : Int32) (M : qM) (hG : G M) (pa1 : 0 ≤ a1.toInt ∧ a1.toInt ≤ 7) (pa2 : 0 ≤ a2.toInt ∧ a2.toInt ≤ 11) : qT (f_X10_addCounted n 7 a1 a2 M) (po_X10_addCounted_c7 a1 a2 M) := by
  have hS : Sm l_X10_addCounted_c7 M M := Sm.rf
  unfold f_X10_addCounted
  try simp only [Nat.reduceAdd]
  refine T_ql (i_add (i_mul rfl l_12 (by omega) (by omega)) rfl (by omega) (by omega)) ?_
  intro xv1 hq2_
  refine T_qg rfl (by omega) (by omega) ?_
  refine T_qg rfl (by omega) (by omega) ?_
  have hq4_ := i_full (M 11 xv1.toNatClampNeg)
  have hq5_ := i_min (a := (999 : Int32)) (b := (M 11 xv1.toNatClampNeg) + (1 : Int32)) l_999 rfl
  refine T_mu hG hS (rn_11 _ _) (nw_11 _) (i := 0) rfl ⟨by decide, by decide, Or.inl rfl⟩ ?_
  intro mv3 hq6_ gq7_ kq8_
  have hq9_ : (mv3 11 xv1.toNatClampNeg).toInt = (qmin (999 : Int32) ((M 11 xv1.toNatClampNeg) + (1 : Int32))).toInt := by rw [hq6_, mu_at]
  exact T_ret ⟨(i_rng (lo := 0) (hi := 0) l_0 (by omega) (by omega)), gq7_, kq8_⟩
abbrev l_X0_attempt_c7 : List Bx := [(9, 12, 0, 0), (34, 35, 4, 5), (35, 37, 0, 0), (44, 45, 2, 4)]
abbrev po_X0_attempt_c7 (a2 a3 a4 : Int32) (M : qM) (v : Int32) (M' : qM) : Prop := ((-2) ≤ v.toInt ∧ v.toInt ≤ 1) ∧ G M' ∧ Sm l_X0_attempt_c7 M M'
theorem t_X0_attempt_c7 {n : Nat} (hn : 200000 ≤ n) {j : Nat} (hj : q_isLaw j) (a2 a3 a4 : Int32) (M : qM) (hG : G M) (pa2 : 0 ≤ a2.toInt ∧ a2.toInt ≤ 7) (pa3 : 0 ≤ a3.toInt ∧ a3.toInt ≤ 11) (pa4 : 0 ≤ a4.toInt ∧ a4.toInt ≤ 8) : qT (f_X0_attempt n 7 j a2 a3 a4 M) (po_X0_attempt_c7 a2 a3 a4 M) := by
  have hS : Sm l_X0_attempt_c7 M M := Sm.rf
  unfold f_X0_attempt
  try simp only [Nat.reduceAdd]
  refine T_qc (t_X1_alikes hn hj a3 (M 7 9) M hG (i_rng (lo := 0) (hi := 11) rfl (by omega) (by omega))) ?_
  rintro rv1 mv2 ⟨gq3_, kq4_⟩
  have kq5_ := Sm.call hS kq4_ rfl
  refine T_qc (t_X0_forget_c7 hn hj a2 rv1 mv2 gq3_ (i_rng (lo := 0) (hi := 7) rfl (by omega) (by omega))) ?_
  rintro rv6 mv7 ⟨hq8_, gq9_, kq10_⟩
  have kq11_ := Sm.call kq5_ kq10_ rfl
  refine T_qc (t_X10_triesAmong_c7 hn a2 rv1 mv7 gq9_ (i_rng (lo := 0) (hi := 7) rfl (by omega) (by omega))) ?_
  rintro rv12 mv13 ⟨gq14_, kq15_⟩
  have hq16_ := kq15_.nil
  subst hq16_
  refine T_mu gq9_ kq11_ (rn_44_2 _) (nw_44 _) (i := 3) rfl ⟨by decide, by decide, Or.inr ⟨by decide, by decide⟩⟩ ?_
  intro mv17 hq18_ gq19_ kq20_
  have hq21_ : (mv17 44 2).toInt = rv12.toInt := by rw [hq18_, mu_at]
  refine T_qc (t_X0_tellAll_c7 hn a2 a3 a4 mv17 gq19_ (i_rng (lo := 0) (hi := 7) rfl (by omega) (by omega)) (i_rng (lo := 0) (hi := 11) rfl (by omega) (by omega)) (i_rng (lo := 0) (hi := 8) rfl (by omega) (by omega))) ?_
  rintro rv22 mv23 ⟨hq24_, gq25_, kq26_⟩
  have kq27_ := Sm.call kq20_ kq26_ rfl
  have hq28_ : (mv23 44 2).toInt = (mv17 44 2).toInt := by rw [kq26_ 44 2 (by decide)]
  refine T_qc (t_X1_voidTries hn hj  mv23 gq25_ ) ?_
  rintro rv29 mv30 ⟨hq31_, gq32_, kq33_⟩
  have kq34_ := Sm.call kq27_ kq33_ rfl
  have hq35_ : (mv30 44 2).toInt = (mv23 44 2).toInt := by rw [kq33_ 44 2 (by decide)]
  refine T_mu gq32_ kq34_ (rn_44_3 _) (nw_44 _) (i := 3) rfl ⟨by decide, by decide, Or.inr ⟨by decide, by decide⟩⟩ ?_
  intro mv36 hq37_ gq38_ kq39_
  have hq40_ : (mv36 44 2).toInt = (mv30 44 2).toInt := by rw [hq37_, mu_ne (Or.inr (by decide))]
  have hq41_ : (mv36 44 3).toInt = rv29.toInt := by rw [hq37_, mu_at]
  refine T_qc (t_X10_addTry_c7 hn a2 a3 mv36 gq38_ (i_rng (lo := 0) (hi := 7) rfl (by omega) (by omega)) (i_rng (lo := 0) (hi := 11) rfl (by omega) (by omega))) ?_
  rintro rv42 mv43 ⟨hq44_, gq45_, kq46_⟩
  have kq47_ := Sm.call kq39_ kq46_ rfl
  have hq48_ : (mv43 44 2).toInt = (mv36 44 2).toInt := by rw [kq46_ 44 2 (by decide)]
  have hq49_ : (mv43 44 3).toInt = (mv36 44 3).toInt := by rw [kq46_ 44 3 (by decide)]
  refine T_le rfl rfl (fun hq50_ => ?_) (fun hq50_ => ?_)
  · refine T_qg rfl (by omega) (by omega) ?_
    refine T_qc (t_X10_hasCounted_c7 hn a2 (mv43 6 a3.toNatClampNeg) mv43 gq45_ (i_rng (lo := 0) (hi := 7) rfl (by omega) (by omega))) ?_
    rintro rv51 mv52 ⟨hq53_, gq54_, kq55_⟩
    have hq56_ := kq55_.nil
    subst hq56_
    refine T_eq rfl l_0 (fun hq57_ => ?_) (fun hq57_ => ?_)
    · exact T_ret ⟨(i_rng (lo := (-2)) (hi := 1) l_m2 (by omega) (by omega)), gq45_, kq47_⟩
    · refine T_qc (t_X10_addCounted_c7 hn a2 a3 mv43 gq45_ (i_rng (lo := 0) (hi := 7) rfl (by omega) (by omega)) (i_rng (lo := 0) (hi := 11) rfl (by omega) (by omega))) ?_
      rintro rv58 mv59 ⟨hq60_, gq61_, kq62_⟩
      have kq63_ := Sm.call kq47_ kq62_ rfl
      have hq64_ : (mv59 44 2).toInt = (mv43 44 2).toInt := by rw [kq62_ 44 2 (by decide)]
      have hq65_ : (mv59 44 3).toInt = (mv43 44 3).toInt := by rw [kq62_ 44 3 (by decide)]
      exact T_ret ⟨(i_rng (lo := (-2)) (hi := 1) l_1 (by omega) (by omega)), gq61_, kq63_⟩
  · exact T_ret ⟨(i_rng (lo := (-2)) (hi := 1) l_0 (by omega) (by omega)), gq45_, kq47_⟩
abbrev l_X11_tries : List Bx := [(9, 12, 0, 0), (34, 35, 4, 5), (35, 37, 0, 0), (44, 45, 2, 4)]
abbrev po_X11_tries (a1 a2 a3 : Int32) (M : qM) (v : Int32) (M' : qM) : Prop := ((-2) ≤ v.toInt ∧ v.toInt ≤ 1) ∧ G M' ∧ Sm l_X11_tries M M'
theorem t_X11_tries {n : Nat} (hn : 200000 ≤ n) {j : Nat} (hj : q_isLaw j) (a1 a2 a3 : Int32) (M : qM) (hG : G M) : qT (f_X11_tries n j a1 a2 a3 M) (po_X11_tries a1 a2 a3 M) := by
  have hS : Sm l_X11_tries M M := Sm.rf
  unfold f_X11_tries
  refine T_qc (t_X10_knows_c7 hn a1 M hG ) ?_
  rintro rv1 mv2 ⟨hq3_, hq4_, gq5_, kq6_⟩
  have hq7_ := kq6_.nil
  subst hq7_
  refine T_eq rfl l_0 (fun hq8_ => ?_) (fun hq8_ => ?_)
  · exact T_ret ⟨(i_rng (lo := (-2)) (hi := 1) l_m1 (by omega) (by omega)), hG, hS⟩
  · refine T_qc (t_X2_knows hn a2 M hG ) ?_
    rintro rv9 mv10 ⟨hq11_, hq12_, gq13_, kq14_⟩
    have hq15_ := kq14_.nil
    subst hq15_
    refine T_eq rfl l_0 (fun hq16_ => ?_) (fun hq16_ => ?_)
    · exact T_ret ⟨(i_rng (lo := (-2)) (hi := 1) l_m1 (by omega) (by omega)), hG, hS⟩
    · refine T_eq rfl l_m1 (fun hq17_ => ?_) (fun hq17_ => ?_)
      · refine T_qc (t_X0_attempt_c7 hn hj a1 a2 (8 : Int32) M hG (i_rng (lo := 0) (hi := 7) rfl (by omega) (by omega)) (i_rng (lo := 0) (hi := 11) rfl (by omega) (by omega)) (i_rng (lo := 0) (hi := 8) l_8 (by omega) (by omega))) ?_
        rintro rv18 mv19 ⟨hq20_, gq21_, kq22_⟩
        have kq23_ := Sm.call hS kq22_ rfl
        exact T_ret ⟨(i_rng (lo := (-2)) (hi := 1) rfl (by omega) (by omega)), gq21_, kq23_⟩
      · refine T_eq rfl rfl (fun hq24_ => ?_) (fun hq24_ => ?_)
        · exact T_ret ⟨(i_rng (lo := (-2)) (hi := 1) l_m1 (by omega) (by omega)), hG, hS⟩
        · refine T_qc (t_X10_knows_c7 hn a3 M hG ) ?_
          rintro rv25 mv26 ⟨hq27_, hq28_, gq29_, kq30_⟩
          have hq31_ := kq30_.nil
          subst hq31_
          refine T_eq rfl l_0 (fun hq32_ => ?_) (fun hq32_ => ?_)
          · exact T_ret ⟨(i_rng (lo := (-2)) (hi := 1) l_m1 (by omega) (by omega)), hG, hS⟩
          · refine T_qc (t_X0_attempt_c7 hn hj a1 a2 a3 M hG (i_rng (lo := 0) (hi := 7) rfl (by omega) (by omega)) (i_rng (lo := 0) (hi := 11) rfl (by omega) (by omega)) (i_rng (lo := 0) (hi := 8) rfl (by omega) (by omega))) ?_
            rintro rv33 mv34 ⟨hq35_, gq36_, kq37_⟩
            have kq38_ := Sm.call hS kq37_ rfl
            exact T_ret ⟨(i_rng (lo := (-2)) (hi := 1) rfl (by omega) (by omega)), gq36_, kq38_⟩
abbrev l_X12_at : List Bx := []
abbrev po_X12_at (a0 a1 : Int32) (M : qM) (v : Int32) (M' : qM) : Prop := (0 ≤ v.toInt ∧ v.toInt ≤ 95) ∧ (v.toInt = 12 * a0.toInt + a1.toInt) ∧ G M' ∧ Sm l_X12_at M M'
theorem t_X12_at {n : Nat} (hn : 200000 ≤ n) (a0 a1 : Int32) (M : qM) (hG : G M) (pa0 : 0 ≤ a0.toInt ∧ a0.toInt ≤ 7) (pa1 : 0 ≤ a1.toInt ∧ a1.toInt ≤ 11) : qT (f_X12_at n a0 a1 M) (po_X12_at a0 a1 M) := by
  have hS : Sm l_X12_at M M := Sm.rf
  unfold f_X12_at
  exact T_ret ⟨(i_rng (lo := 0) (hi := 95) (i_add (i_mul l_12 rfl (by omega) (by omega)) rfl (by omega) (by omega)) (by omega) (by omega)), (by have e9 : (((12 : Int32) * a0) + a1).toInt = _ := (i_add (i_mul l_12 rfl (by omega) (by omega)) rfl (by omega) (by omega)); omega), hG, hS⟩
abbrev l_X12_feelsKind : List Bx := [(97, 98, 0, 0)]
abbrev po_X12_feelsKind (a1 : Int32) (M : qM) (v : Int32) (M' : qM) : Prop := (0 ≤ v.toInt ∧ v.toInt ≤ 0) ∧ G M' ∧ Sm l_X12_feelsKind M M'
theorem t_X12_feelsKind_2 {n : Nat} (hn : 200000 ≤ n) {oa1 : Int32} {M0 : qM} : ∀ (m : Nat) (a1 a2 : Int32) (M : qM), G M → Sm l_X12_feelsKind M0 M → 0 ≤ a1.toInt ∧ a1.toInt ≤ 12 → 0 ≤ a2.toInt ∧ a2.toInt ≤ 12 → 12 - a2.toInt < (m : Int) → qT (f_X12_feelsKind_2 n m a1 a2 M) (po_X12_feelsKind oa1 M0) := by
  intro m
  induction m with
  | zero =>
    intro a1 a2 M hG hS i0 i1 i4
    exfalso; omega
  | succ m ih =>
    intro a1 a2 M hG hS i0 i1 i4
    show qT (b_X12_feelsKind_2 n (f_X12_feelsKind_2 n m) a1 a2 M) _
    unfold b_X12_feelsKind_2
    refine T_le l_12 rfl (fun hq2_ => ?_) (fun hq2_ => ?_)
    · refine T_mu hG hS (rn_97 _ _) (nw_97 _) (i := 0) rfl ⟨by decide, by decide, Or.inl rfl⟩ ?_
      intro mv3 hq4_ gq5_ kq6_
      have hq7_ : (mv3 97 0).toInt = a1.toInt := by rw [hq4_, mu_at]
      refine T_qg rfl (by omega) (by omega) ?_
      refine T_mu gq5_ kq6_ (rn_97 _ _) (nw_97 _) (i := 0) rfl ⟨by decide, by decide, Or.inl rfl⟩ ?_
      intro mv8 hq9_ gq10_ kq11_
      have hq12_ : (mv8 97 0).toInt = (mv3 97 0).toInt := by rw [hq9_, mu_ne (Or.inr (by decide))]
      have hq13_ : (mv8 97 1).toInt = (mv3 81 a1.toNatClampNeg).toInt := by rw [hq9_, mu_at]
      refine T_qg rfl (by omega) (by omega) ?_
      refine T_mu gq10_ kq11_ (rn_97 _ _) (nw_97 _) (i := 0) rfl ⟨by decide, by decide, Or.inl rfl⟩ ?_
      intro mv14 hq15_ gq16_ kq17_
      have hq18_ : (mv14 97 0).toInt = (mv8 97 0).toInt := by rw [hq15_, mu_ne (Or.inr (by decide))]
      have hq19_ : (mv14 97 1).toInt = (mv8 97 1).toInt := by rw [hq15_, mu_ne (Or.inr (by decide))]
      have hq20_ : (mv14 97 2).toInt = (mv8 82 a1.toNatClampNeg).toInt := by rw [hq15_, mu_at]
      refine T_mu gq16_ kq17_ (rn_97 _ _) (nw_97 _) (i := 0) rfl ⟨by decide, by decide, Or.inl rfl⟩ ?_
      intro mv21 hq22_ gq23_ kq24_
      have hq25_ : (mv21 97 0).toInt = (mv14 97 0).toInt := by rw [hq22_, mu_ne (Or.inr (by decide))]
      have hq26_ : (mv21 97 1).toInt = (mv14 97 1).toInt := by rw [hq22_, mu_ne (Or.inr (by decide))]
      have hq27_ : (mv21 97 2).toInt = (mv14 97 2).toInt := by rw [hq22_, mu_ne (Or.inr (by decide))]
      have hq28_ : (mv21 97 6).toInt = (mv14 78 313).toInt := by rw [hq22_, mu_at]
      exact T_ret ⟨(i_rng (lo := 0) (hi := 0) l_0 (by omega) (by omega)), gq23_, kq24_⟩
    · refine T_qg rfl (by omega) (by omega) ?_
      refine T_mu hG hS (rn_97 _ _) (nw_97 _) (i := 0) rfl ⟨by decide, by decide, Or.inl rfl⟩ ?_
      intro mv29 hq30_ gq31_ kq32_
      have hq33_ : (mv29 97 a2.toNatClampNeg).toInt = 0 := by rw [hq30_, mu_at]; exact l_0
      refine T_ql (i_add rfl l_1 (by omega) (by omega)) ?_
      intro xv34 hq35_
      exact ih a1 xv34 mv29 gq31_ kq32_ (i_rng (lo := 0) (hi := 12) rfl (by omega) (by omega)) (i_rng (lo := 0) (hi := 12) rfl (by omega) (by omega)) (by omega)
theorem t_X12_feelsKind {n : Nat} (hn : 200000 ≤ n) (a1 : Int32) (M : qM) (hG : G M) (pa1 : 0 ≤ a1.toInt ∧ a1.toInt ≤ 12) : qT (f_X12_feelsKind n a1 M) (po_X12_feelsKind a1 M) := by
  have hS : Sm l_X12_feelsKind M M := Sm.rf
  unfold f_X12_feelsKind
  exact (t_X12_feelsKind_2 hn) n a1 (0 : Int32) M hG hS (i_rng (lo := 0) (hi := 12) rfl (by omega) (by omega)) (i_rng (lo := 0) (hi := 12) l_0 (by omega) (by omega)) (by have e1 : ((0 : Int32)).toInt = _ := l_0; omega)

abbrev l_X12_bits : List Bx := []
abbrev po_X12_bits (a0 : Int32) (M : qM) (v : Int32) (M' : qM) : Prop := (0 ≤ v.toInt ∧ v.toInt ≤ 12) ∧ (v.toInt = bS a0 12) ∧ G M' ∧ Sm l_X12_bits M M'
theorem t_X12_bits_4 {n : Nat} (hn : 200000 ≤ n) {oa0 : Int32} {M0 : qM} : ∀ (m : Nat) (a0 a1 a2 : Int32) (M : qM), G M → Sm l_X12_bits M0 M → 0 ≤ a1.toInt ∧ a1.toInt ≤ 12 → 0 ≤ a2.toInt ∧ a2.toInt ≤ 12 → (a0 = oa0 ∧ a1.toInt = bS a0 a2.toInt.toNat ∧ a1.toInt ≤ a2.toInt) → 12 - a2.toInt < (m : Int) → qT (f_X12_bits_4 n m a0 a1 a2 M) (po_X12_bits oa0 M0) := by
  intro m
  induction m with
  | zero =>
    intro a0 a1 a2 M hG hS i0 i1 hE i5
    exfalso; omega
  | succ m ih =>
    intro a0 a1 a2 M hG hS i0 i1 hE i5
    show qT (b_X12_bits_4 n (f_X12_bits_4 n m) a0 a1 a2 M) _
    unfold b_X12_bits_4
    refine T_le l_12 rfl (fun hq3_ => ?_) (fun hq3_ => ?_)
    · exact T_ret ⟨(i_rng (lo := 0) (hi := 12) rfl (by omega) (by omega)), (by rw [← hE.1]; have h_ := hE.2.1; rw [show a2.toInt.toNat = 12 by omega] at h_; exact h_), hG, hS⟩
    · have hq4_ := i_and (a := a0 >>> (a2 &&& 31)) (b := (1 : Int32)) l_1 (by omega)
      refine T_ql (i_add rfl rfl (by omega) (by omega)) ?_
      intro xv5 hq6_
      refine T_ql (i_add rfl l_1 (by omega) (by omega)) ?_
      intro xv7 hq8_
      exact ih a0 xv5 xv7 M hG hS (i_rng (lo := 0) (hi := 12) rfl (by omega) (by omega)) (i_rng (lo := 0) (hi := 12) rfl (by omega) (by omega)) (by first | exact ⟨rfl, rfl, by have := l_0; omega⟩ | (refine ⟨hE.1, ?_, by omega⟩; rw [show (xv7).toInt.toNat = a2.toInt.toNat + 1 by omega, bS_s (by omega)]; have := hE.2; omega)) (by omega)
theorem t_X12_bits {n : Nat} (hn : 200000 ≤ n) (a0 : Int32) (M : qM) (hG : G M) : qT (f_X12_bits n a0 M) (po_X12_bits a0 M) := by
  have hS : Sm l_X12_bits M M := Sm.rf
  unfold f_X12_bits
  exact (t_X12_bits_4 hn) n a0 (0 : Int32) (0 : Int32) M hG hS (i_rng (lo := 0) (hi := 12) l_0 (by omega) (by omega)) (i_rng (lo := 0) (hi := 12) l_0 (by omega) (by omega)) (by have e1 : ((0 : Int32)).toInt = _ := l_0; have e2 : ((0 : Int32)).toInt = _ := l_0; first | exact ⟨rfl, rfl, by have := l_0; omega⟩ | (refine ⟨hE.1, ?_, by omega⟩; rw [show ((0 : Int32)).toInt.toNat = a2.toInt.toNat + 1 by omega, bS_s (by omega)]; have := hE.2; omega)) (by have e1 : ((0 : Int32)).toInt = _ := l_0; have e2 : ((0 : Int32)).toInt = _ := l_0; omega)
abbrev l_X12_reckon : List Bx := []
abbrev po_X12_reckon (a0 a1 a2 : Int32) (M : qM) (v : Int32) (M' : qM) : Prop := G M' ∧ Sm l_X12_reckon M M'
theorem t_X12_reckon {n : Nat} (hn : 200000 ≤ n) (a0 a1 a2 : Int32) (M : qM) (hG : G M) (pa0 : 2 ≤ a0.toInt ∧ a0.toInt ≤ 19) (pe : a2.toInt ≠ 0 ∨ (a0.toInt ≠ 5 ∧ a0.toInt ≠ 6)) : qT (f_X12_reckon n a0 a1 a2 M) (po_X12_reckon a0 a1 a2 M) := by
  have hS : Sm l_X12_reckon M M := Sm.rf
  unfold f_X12_reckon
  refine T_sw rfl l_2 (fun hq1_ => ?_) (fun hq1_ => ?_)
  · have hq2_ := i_full (a1)
    have hq3_ := i_full (a2)
    exact T_ret ⟨hG, hS⟩
  refine T_sw rfl l_3 (fun hq4_ => ?_) (fun hq4_ => ?_)
  · have hq5_ := i_full (a1)
    have hq6_ := i_full (a2)
    exact T_ret ⟨hG, hS⟩
  refine T_sw rfl l_4 (fun hq7_ => ?_) (fun hq7_ => ?_)
  · have hq8_ := i_full (a1)
    have hq9_ := i_full (a2)
    exact T_ret ⟨hG, hS⟩
  refine T_sw rfl l_5 (fun hq10_ => ?_) (fun hq10_ => ?_)
  · refine T_qd rfl (by omega) ?_
    have hq11_ := i_full (a1)
    have hq12_ := i_full (a2)
    exact T_ret ⟨hG, hS⟩
  refine T_sw rfl l_6 (fun hq13_ => ?_) (fun hq13_ => ?_)
  · refine T_qd rfl (by omega) ?_
    exact T_ret ⟨hG, hS⟩
  refine T_sw rfl l_7 (fun hq14_ => ?_) (fun hq14_ => ?_)
  · refine T_le rfl rfl (fun hq15_ => ?_) (fun hq15_ => ?_)
    · exact T_ret ⟨hG, hS⟩
    · exact T_ret ⟨hG, hS⟩
  refine T_sw rfl l_8 (fun hq16_ => ?_) (fun hq16_ => ?_)
  · refine T_le rfl rfl (fun hq17_ => ?_) (fun hq17_ => ?_)
    · exact T_ret ⟨hG, hS⟩
    · exact T_ret ⟨hG, hS⟩
  refine T_sw0 ?_
  refine T_eq rfl rfl (fun hq18_ => ?_) (fun hq18_ => ?_)
  · exact T_ret ⟨hG, hS⟩
  · exact T_ret ⟨hG, hS⟩
abbrev l_X12_comesTo : List Bx := [(96, 97, 0, 0)]
abbrev po_X12_comesTo (a1 a2 : Int32) (M : qM) (v : Int32) (M' : qM) : Prop := G M' ∧ Sm l_X12_comesTo M M'
theorem t_X12_comesTo_16 {n : Nat} (hn : 200000 ≤ n) {oa1 oa2 : Int32} {M0 : qM} {D : Nat → Nat} {f : Nat} {tt : Nat} (hD : ∀ k, f ≤ k → k < tt → 0 ≤ (M0 91 k).toInt ∧ D k ≤ 250 ∧ (((M0 91 k).toInt / 1048576 = 0 ∧ D (k + 1) = D k + 1) ∨ ((M0 91 k).toInt / 1048576 = 1 ∧ (M0 91 k).toInt % 1048576 ≤ 11 ∧ D (k + 1) = D k + 1) ∨ ((M0 91 k).toInt / 1048576 = 10 ∧ 1 ≤ D k ∧ D (k + 1) = D k) ∨ (((M0 91 k).toInt / 1048576 = 11 ∨ (M0 91 k).toInt / 1048576 = 12) ∧ 1 ≤ D k ∧ D (k + 1) + 1 = D k ∧ (k : Int) < (M0 91 k).toInt % 1048576 ∧ D ((M0 91 k).toInt % 1048576).toNat = D k) ∨ (2 ≤ (M0 91 k).toInt / 1048576 ∧ (M0 91 k).toInt / 1048576 ≤ 9 ∧ 2 ≤ D k ∧ D (k + 1) + 1 = D k))) : ∀ (m : Nat) (a2 a3 a4 a5 : Int32) (M : qM), G M → Sm l_X12_comesTo M0 M → 0 ≤ a2.toInt ∧ a2.toInt ≤ 250 → 0 ≤ a3.toInt ∧ a3.toInt ≤ 252 → 0 ≤ a4.toInt ∧ a4.toInt ≤ 0 → 0 ≤ a5.toInt ∧ a5.toInt ≤ 2000000 → (a2.toInt = (tt : Int) ∧ (f : Int) ≤ a5.toInt ∧ (a5.toInt < a2.toInt → (D a5.toInt.toNat : Int) = a3.toInt)) → (0 : Int) < (m : Int) ∧ 251 - a5.toInt < (m : Int) → qT (f_X12_comesTo_16 n m a2 a3 a4 a5 M) (po_X12_comesTo oa1 oa2 M0) := by
  intro m
  induction m with
  | zero =>
    intro a2 a3 a4 a5 M hG hS i0 i1 i2 i3 hE i7
    exfalso; omega
  | succ m ih =>
    intro a2 a3 a4 a5 M hG hS i0 i1 i2 i3 hE i7
    show qT (b_X12_comesTo_16 n (f_X12_comesTo_16 n m) a2 a3 a4 a5 M) _
    unfold b_X12_comesTo_16
    refine T_le rfl rfl (fun hq1_ => ?_) (fun hq1_ => ?_)
    · exact T_ret ⟨hG, hS⟩
    · refine T_qg rfl (by omega) (by omega) ?_
      have hw9_ := hD a5.toInt.toNat (by omega) (by omega)
      have hw8_ : (M 91 a5.toNatClampNeg).toInt = (M0 91 a5.toInt.toNat).toInt := by rw [tnc, hS 91 _ (outc rfl)]
      have hq2_ := r_91 hG a5.toNatClampNeg
      refine T_ql (i_div rfl l_1048576 (by omega) (by omega)) ?_
      intro xv3 hq4_
      refine T_qg rfl (by omega) (by omega) ?_
      refine T_ql (i_sub rfl (i_mul (i_div rfl l_1048576 (by omega) (by omega)) l_1048576 (by omega) (by omega)) (by omega) (by omega)) ?_
      intro xv5 hq6_
      refine T_ql (i_add rfl l_1 (by omega) (by omega)) ?_
      intro xv7 hq8_
      refine T_eq rfl l_0 (fun hq9_ => ?_) (fun hq9_ => ?_)
      · unfold f_X12_comesTo_63
        refine T_eq rfl l_0 (fun hq10_ => ?_) (fun hq10_ => ?_)
        · unfold f_X12_comesTo_85
          refine T_qg rfl (by omega) (by omega) ?_
          refine T_mu hG hS (rn_96 _ _) (nw_96 _) (i := 0) rfl ⟨by decide, by decide, Or.inl rfl⟩ ?_
          intro mv11 hq12_ gq13_ kq14_
          have hq15_ : (mv11 96 a3.toNatClampNeg).toInt = xv5.toInt := by rw [hq12_, mu_at]
          refine T_ql (i_add rfl l_1 (by omega) (by omega)) ?_
          intro xv16 hq17_
          exact ih a2 xv16 a4 xv7 mv11 gq13_ kq14_ (i_rng (lo := 0) (hi := 250) rfl (by omega) (by omega)) (i_rng (lo := 0) (hi := 252) rfl (by omega) (by omega)) (i_rng (lo := 0) (hi := 0) rfl (by omega) (by omega)) (i_rng (lo := 0) (hi := 2000000) rfl (by omega) (by omega)) (by refine ⟨by omega, by omega, fun _ => ?_⟩; first | (rw [show (xv7).toInt.toNat = a5.toInt.toNat + 1 by omega]; omega) | (rw [show (xv7).toInt.toNat = ((M0 91 a5.toInt.toNat).toInt % 1048576).toNat by omega]; omega) | (rw [hD0]; decide)) (by omega)
        · exfalso; omega
      · refine T_eq rfl l_1 (fun hq18_ => ?_) (fun hq18_ => ?_)
        · unfold f_X12_comesTo_63
          refine T_eq rfl l_0 (fun hq19_ => ?_) (fun hq19_ => ?_)
          · exfalso; omega
          · refine T_qg rfl (by omega) (by omega) ?_
            unfold f_X12_comesTo_85
            refine T_qg rfl (by omega) (by omega) ?_
            refine T_mu hG hS (rn_96 _ _) (nw_96 _) (i := 0) rfl ⟨by decide, by decide, Or.inl rfl⟩ ?_
            intro mv20 hq21_ gq22_ kq23_
            have hq24_ : (mv20 96 a3.toNatClampNeg).toInt = (M 97 xv5.toNatClampNeg).toInt := by rw [hq21_, mu_at]
            refine T_ql (i_add rfl l_1 (by omega) (by omega)) ?_
            intro xv25 hq26_
            exact ih a2 xv25 a4 xv7 mv20 gq22_ kq23_ (i_rng (lo := 0) (hi := 250) rfl (by omega) (by omega)) (i_rng (lo := 0) (hi := 252) rfl (by omega) (by omega)) (i_rng (lo := 0) (hi := 0) rfl (by omega) (by omega)) (i_rng (lo := 0) (hi := 2000000) rfl (by omega) (by omega)) (by refine ⟨by omega, by omega, fun _ => ?_⟩; first | (rw [show (xv7).toInt.toNat = a5.toInt.toNat + 1 by omega]; omega) | (rw [show (xv7).toInt.toNat = ((M0 91 a5.toInt.toNat).toInt % 1048576).toNat by omega]; omega) | (rw [hD0]; decide)) (by omega)
        · refine T_eq rfl l_10 (fun hq27_ => ?_) (fun hq27_ => ?_)
          · refine T_qg (i_sub rfl l_1 (by omega) (by omega)) (by omega) (by omega) ?_
            refine T_qg (i_sub rfl l_1 (by omega) (by omega)) (by omega) (by omega) ?_
            have hq29_ := i_full (M 96 ((a3 - (1 : Int32)).toNatClampNeg))
            refine T_mu hG hS (rn_96 _ _) (nw_96 _) (i := 0) rfl ⟨by decide, by decide, Or.inl rfl⟩ ?_
            intro mv28 hq30_ gq31_ kq32_
            have hq33_ : (mv28 96 ((a3 - (1 : Int32)).toNatClampNeg)).toInt = ((1 : Int32) - (M 96 ((a3 - (1 : Int32)).toNatClampNeg))).toInt := by rw [hq30_, mu_at]
            exact ih a2 a3 a4 xv7 mv28 gq31_ kq32_ (i_rng (lo := 0) (hi := 250) rfl (by omega) (by omega)) (i_rng (lo := 0) (hi := 252) rfl (by omega) (by omega)) (i_rng (lo := 0) (hi := 0) rfl (by omega) (by omega)) (i_rng (lo := 0) (hi := 2000000) rfl (by omega) (by omega)) (by refine ⟨by omega, by omega, fun _ => ?_⟩; first | (rw [show (xv7).toInt.toNat = a5.toInt.toNat + 1 by omega]; omega) | (rw [show (xv7).toInt.toNat = ((M0 91 a5.toInt.toNat).toInt % 1048576).toNat by omega]; omega) | (rw [hD0]; decide)) (by omega)
          · refine T_eq rfl l_11 (fun hq34_ => ?_) (fun hq34_ => ?_)
            · unfold f_X12_comesTo_135
              refine T_qg (i_sub rfl l_1 (by omega) (by omega)) (by omega) (by omega) ?_
              refine T_eq rfl l_12 (fun hq35_ => ?_) (fun hq35_ => ?_)
              · exfalso; omega
              · unfold f_X12_comesTo_155
                refine T_eq rfl l_0 (fun hq36_ => ?_) (fun hq36_ => ?_)
                · refine T_ql (i_add rfl rfl (by omega) (by omega)) ?_
                  intro xv37 hq38_
                  exact ih a2 a3 a4 xv37 M hG hS (i_rng (lo := 0) (hi := 250) rfl (by omega) (by omega)) (i_rng (lo := 0) (hi := 252) rfl (by omega) (by omega)) (i_rng (lo := 0) (hi := 0) rfl (by omega) (by omega)) (i_rng (lo := 0) (hi := 2000000) rfl (by omega) (by omega)) (by refine ⟨by omega, by omega, fun _ => ?_⟩; first | (rw [show (xv37).toInt.toNat = a5.toInt.toNat + 1 by omega]; omega) | (rw [show (xv37).toInt.toNat = ((M0 91 a5.toInt.toNat).toInt % 1048576).toNat by omega]; omega) | (rw [hD0]; decide)) (by omega)
                · refine T_ql (i_sub rfl l_1 (by omega) (by omega)) ?_
                  intro xv39 hq40_
                  exact ih a2 xv39 a4 xv7 M hG hS (i_rng (lo := 0) (hi := 250) rfl (by omega) (by omega)) (i_rng (lo := 0) (hi := 252) rfl (by omega) (by omega)) (i_rng (lo := 0) (hi := 0) rfl (by omega) (by omega)) (i_rng (lo := 0) (hi := 2000000) rfl (by omega) (by omega)) (by refine ⟨by omega, by omega, fun _ => ?_⟩; first | (rw [show (xv7).toInt.toNat = a5.toInt.toNat + 1 by omega]; omega) | (rw [show (xv7).toInt.toNat = ((M0 91 a5.toInt.toNat).toInt % 1048576).toNat by omega]; omega) | (rw [hD0]; decide)) (by omega)
            · refine T_eq rfl l_12 (fun hq41_ => ?_) (fun hq41_ => ?_)
              · unfold f_X12_comesTo_135
                refine T_qg (i_sub rfl l_1 (by omega) (by omega)) (by omega) (by omega) ?_
                refine T_eq rfl l_12 (fun hq42_ => ?_) (fun hq42_ => ?_)
                · unfold f_X12_comesTo_155
                  refine T_eq rfl l_1 (fun hq43_ => ?_) (fun hq43_ => ?_)
                  · refine T_ql (i_add rfl rfl (by omega) (by omega)) ?_
                    intro xv44 hq45_
                    exact ih a2 a3 a4 xv44 M hG hS (i_rng (lo := 0) (hi := 250) rfl (by omega) (by omega)) (i_rng (lo := 0) (hi := 252) rfl (by omega) (by omega)) (i_rng (lo := 0) (hi := 0) rfl (by omega) (by omega)) (i_rng (lo := 0) (hi := 2000000) rfl (by omega) (by omega)) (by refine ⟨by omega, by omega, fun _ => ?_⟩; first | (rw [show (xv44).toInt.toNat = a5.toInt.toNat + 1 by omega]; omega) | (rw [show (xv44).toInt.toNat = ((M0 91 a5.toInt.toNat).toInt % 1048576).toNat by omega]; omega) | (rw [hD0]; decide)) (by omega)
                  · refine T_ql (i_sub rfl l_1 (by omega) (by omega)) ?_
                    intro xv46 hq47_
                    exact ih a2 xv46 a4 xv7 M hG hS (i_rng (lo := 0) (hi := 250) rfl (by omega) (by omega)) (i_rng (lo := 0) (hi := 252) rfl (by omega) (by omega)) (i_rng (lo := 0) (hi := 0) rfl (by omega) (by omega)) (i_rng (lo := 0) (hi := 2000000) rfl (by omega) (by omega)) (by refine ⟨by omega, by omega, fun _ => ?_⟩; first | (rw [show (xv7).toInt.toNat = a5.toInt.toNat + 1 by omega]; omega) | (rw [show (xv7).toInt.toNat = ((M0 91 a5.toInt.toNat).toInt % 1048576).toNat by omega]; omega) | (rw [hD0]; decide)) (by omega)
                · exfalso; omega
              · refine T_ql (i_sub rfl l_1 (by omega) (by omega)) ?_
                intro xv48 hq49_
                refine T_eq rfl l_5 (fun hq50_ => ?_) (fun hq50_ => ?_)
                · unfold f_X12_comesTo_192
                  refine T_qg rfl (by omega) (by omega) ?_
                  refine T_eq rfl l_0 (fun hq51_ => ?_) (fun hq51_ => ?_)
                  · exact T_ret ⟨hG, hS⟩
                  · unfold f_X12_comesTo_203
                    refine T_qg (i_sub rfl l_1 (by omega) (by omega)) (by omega) (by omega) ?_
                    refine T_qg rfl (by omega) (by omega) ?_
                    refine T_qc (t_X12_reckon hn xv3 (M 96 ((xv48 - (1 : Int32)).toNatClampNeg)) (M 96 xv48.toNatClampNeg) M hG (i_rng (lo := 2) (hi := 19) rfl (by omega) (by omega)) (by omega)) ?_
                    rintro rv52 mv53 ⟨gq54_, kq55_⟩
                    have hq56_ := kq55_.nil
                    subst hq56_
                    refine T_qg (i_sub rfl l_1 (by omega) (by omega)) (by omega) (by omega) ?_
                    refine T_mu hG hS (rn_96 _ _) (nw_96 _) (i := 0) rfl ⟨by decide, by decide, Or.inl rfl⟩ ?_
                    intro mv57 hq58_ gq59_ kq60_
                    have hq61_ : (mv57 96 ((xv48 - (1 : Int32)).toNatClampNeg)).toInt = rv52.toInt := by rw [hq58_, mu_at]
                    exact ih a2 xv48 a4 xv7 mv57 gq59_ kq60_ (i_rng (lo := 0) (hi := 250) rfl (by omega) (by omega)) (i_rng (lo := 0) (hi := 252) rfl (by omega) (by omega)) (i_rng (lo := 0) (hi := 0) rfl (by omega) (by omega)) (i_rng (lo := 0) (hi := 2000000) rfl (by omega) (by omega)) (by refine ⟨by omega, by omega, fun _ => ?_⟩; first | (rw [show (xv7).toInt.toNat = a5.toInt.toNat + 1 by omega]; omega) | (rw [show (xv7).toInt.toNat = ((M0 91 a5.toInt.toNat).toInt % 1048576).toNat by omega]; omega) | (rw [hD0]; decide)) (by omega)
                · refine T_eq rfl l_6 (fun hq62_ => ?_) (fun hq62_ => ?_)
                  · unfold f_X12_comesTo_192
                    refine T_qg rfl (by omega) (by omega) ?_
                    refine T_eq rfl l_0 (fun hq63_ => ?_) (fun hq63_ => ?_)
                    · exact T_ret ⟨hG, hS⟩
                    · unfold f_X12_comesTo_203
                      refine T_qg (i_sub rfl l_1 (by omega) (by omega)) (by omega) (by omega) ?_
                      refine T_qg rfl (by omega) (by omega) ?_
                      refine T_qc (t_X12_reckon hn xv3 (M 96 ((xv48 - (1 : Int32)).toNatClampNeg)) (M 96 xv48.toNatClampNeg) M hG (i_rng (lo := 2) (hi := 19) rfl (by omega) (by omega)) (by omega)) ?_
                      rintro rv64 mv65 ⟨gq66_, kq67_⟩
                      have hq68_ := kq67_.nil
                      subst hq68_
                      refine T_qg (i_sub rfl l_1 (by omega) (by omega)) (by omega) (by omega) ?_
                      refine T_mu hG hS (rn_96 _ _) (nw_96 _) (i := 0) rfl ⟨by decide, by decide, Or.inl rfl⟩ ?_
                      intro mv69 hq70_ gq71_ kq72_
                      have hq73_ : (mv69 96 ((xv48 - (1 : Int32)).toNatClampNeg)).toInt = rv64.toInt := by rw [hq70_, mu_at]
                      exact ih a2 xv48 a4 xv7 mv69 gq71_ kq72_ (i_rng (lo := 0) (hi := 250) rfl (by omega) (by omega)) (i_rng (lo := 0) (hi := 252) rfl (by omega) (by omega)) (i_rng (lo := 0) (hi := 0) rfl (by omega) (by omega)) (i_rng (lo := 0) (hi := 2000000) rfl (by omega) (by omega)) (by refine ⟨by omega, by omega, fun _ => ?_⟩; first | (rw [show (xv7).toInt.toNat = a5.toInt.toNat + 1 by omega]; omega) | (rw [show (xv7).toInt.toNat = ((M0 91 a5.toInt.toNat).toInt % 1048576).toNat by omega]; omega) | (rw [hD0]; decide)) (by omega)
                  · unfold f_X12_comesTo_203
                    refine T_qg (i_sub rfl l_1 (by omega) (by omega)) (by omega) (by omega) ?_
                    refine T_qg rfl (by omega) (by omega) ?_
                    refine T_qc (t_X12_reckon hn xv3 (M 96 ((xv48 - (1 : Int32)).toNatClampNeg)) (M 96 xv48.toNatClampNeg) M hG (i_rng (lo := 2) (hi := 19) rfl (by omega) (by omega)) (by omega)) ?_
                    rintro rv74 mv75 ⟨gq76_, kq77_⟩
                    have hq78_ := kq77_.nil
                    subst hq78_
                    refine T_qg (i_sub rfl l_1 (by omega) (by omega)) (by omega) (by omega) ?_
                    refine T_mu hG hS (rn_96 _ _) (nw_96 _) (i := 0) rfl ⟨by decide, by decide, Or.inl rfl⟩ ?_
                    intro mv79 hq80_ gq81_ kq82_
                    have hq83_ : (mv79 96 ((xv48 - (1 : Int32)).toNatClampNeg)).toInt = rv74.toInt := by rw [hq80_, mu_at]
                    exact ih a2 xv48 a4 xv7 mv79 gq81_ kq82_ (i_rng (lo := 0) (hi := 250) rfl (by omega) (by omega)) (i_rng (lo := 0) (hi := 252) rfl (by omega) (by omega)) (i_rng (lo := 0) (hi := 0) rfl (by omega) (by omega)) (i_rng (lo := 0) (hi := 2000000) rfl (by omega) (by omega)) (by refine ⟨by omega, by omega, fun _ => ?_⟩; first | (rw [show (xv7).toInt.toNat = a5.toInt.toNat + 1 by omega]; omega) | (rw [show (xv7).toInt.toNat = ((M0 91 a5.toInt.toNat).toInt % 1048576).toNat by omega]; omega) | (rw [hD0]; decide)) (by omega)
theorem t_X12_comesTo {n : Nat} (hn : 200000 ≤ n) (a1 a2 : Int32) (M : qM) (hG : G M) (pa1 : 0 ≤ a1.toInt ∧ a1.toInt ≤ 250) (pa2 : 0 ≤ a2.toInt ∧ a2.toInt ≤ 250) (pe : WFs (M 91) a1.toInt.toNat a2.toInt.toNat) : qT (f_X12_comesTo n a1 a2 M) (po_X12_comesTo a1 a2 M) := by
  have hS : Sm l_X12_comesTo M M := Sm.rf
  obtain ⟨D, hD0, hD⟩ := pe
  unfold f_X12_comesTo
  refine T_ql (i_mul l_260 (i_div rfl l_260 (by omega) (by omega)) (by omega) (by omega)) ?_
  intro xv84 hq85_
  exact (t_X12_comesTo_16 hn hD) n a2 (0 : Int32) xv84 a1 M hG hS (i_rng (lo := 0) (hi := 250) rfl (by omega) (by omega)) (i_rng (lo := 0) (hi := 252) l_0 (by omega) (by omega)) (i_rng (lo := 0) (hi := 0) rfl (by omega) (by omega)) (i_rng (lo := 0) (hi := 2000000) rfl (by omega) (by omega)) (by have e1 : ((0 : Int32)).toInt = _ := l_0; refine ⟨by omega, by omega, fun _ => ?_⟩; first | (rw [show (a1).toInt.toNat = a5.toInt.toNat + 1 by omega]; omega) | (rw [show (a1).toInt.toNat = ((M0 91 a5.toInt.toNat).toInt % 1048576).toNat by omega]; omega) | (rw [hD0]; decide)) (by have e1 : ((0 : Int32)).toInt = _ := l_0; omega)
abbrev l_X12_isLike : List Bx := [(96, 98, 0, 0)]
abbrev po_X12_isLike (a1 a2 : Int32) (M : qM) (v : Int32) (M' : qM) : Prop := (0 ≤ v.toInt ∧ v.toInt ≤ 1) ∧ G M' ∧ Sm l_X12_isLike M M'
theorem t_X12_isLike_55 {n : Nat} (hn : 200000 ≤ n) {oa1 oa2 : Int32} {M0 : qM} : ∀ (m : Nat) (a3 : Int32) (M : qM), G M → Sm l_X12_isLike M0 M → 0 ≤ a3.toInt ∧ a3.toInt ≤ 16 → 16 - a3.toInt < (m : Int) → qT (f_X12_isLike_55 n m a3 M) (po_X12_isLike oa1 oa2 M0) := by
  intro m
  induction m with
  | zero =>
    intro a3 M hG hS i0 i3
    exfalso; omega
  | succ m ih =>
    intro a3 M hG hS i0 i3
    show qT (b_X12_isLike_55 n (f_X12_isLike_55 n m) a3 M) _
    unfold b_X12_isLike_55
    have hq3_ := r_77_17 hG
    refine T_le rfl rfl (fun hq4_ => ?_) (fun hq4_ => ?_)
    · exact T_ret ⟨(i_rng (lo := 0) (hi := 1) l_0 (by omega) (by omega)), hG, hS⟩
    · refine T_qg rfl (by omega) (by omega) ?_
      refine T_eq rfl l_97 (fun hq5_ => ?_) (fun hq5_ => ?_)
      · refine T_qg rfl (by omega) (by omega) ?_
        refine T_qg rfl (by omega) (by omega) ?_
        have hq8_ := r_94 hG a3.toNatClampNeg
        have hq9_ := r_95 hG a3.toNatClampNeg
        refine T_qc (t_X12_comesTo hn (M 94 a3.toNatClampNeg) (M 95 a3.toNatClampNeg) M hG (i_rng (lo := 0) (hi := 250) rfl (by omega) (by omega)) (i_rng (lo := 0) (hi := 250) rfl (by omega) (by omega)) (hG.2.2.1 a3.toNatClampNeg (by rw [tnc]; omega)).2) ?_
        rintro rv6 mv7 ⟨gq10_, kq11_⟩
        have kq12_ := Sm.call hS kq11_ rfl
        have hq13_ : (mv7 77 17).toInt = (M 77 17).toInt := by rw [kq11_ 77 17 (by decide)]
        have hq14_ : (mv7 92 a3.toNatClampNeg).toInt = (M 92 a3.toNatClampNeg).toInt := by rw [kq11_ 92 _ (outc rfl)]
        refine T_eq rfl l_1 (fun hq15_ => ?_) (fun hq15_ => ?_)
        · exact T_ret ⟨(i_rng (lo := 0) (hi := 1) l_1 (by omega) (by omega)), gq10_, kq12_⟩
        · refine T_ql (i_add rfl l_1 (by omega) (by omega)) ?_
          intro xv16 hq17_
          exact ih xv16 mv7 gq10_ kq12_ (i_rng (lo := 0) (hi := 16) rfl (by omega) (by omega)) (by omega)
      · refine T_ql (i_add rfl l_1 (by omega) (by omega)) ?_
        intro xv18 hq19_
        exact ih xv18 M hG hS (i_rng (lo := 0) (hi := 16) rfl (by omega) (by omega)) (by omega)
theorem t_X12_isLike {n : Nat} (hn : 200000 ≤ n) (a1 a2 : Int32) (M : qM) (hG : G M) (pa1 : 0 ≤ a1.toInt ∧ a1.toInt ≤ 12) (pa2 : 0 ≤ a2.toInt ∧ a2.toInt ≤ 11) : qT (f_X12_isLike n a1 a2 M) (po_X12_isLike a1 a2 M) := by
  have hS : Sm l_X12_isLike M M := Sm.rf
  unfold f_X12_isLike
  refine T_eq rfl rfl (fun hq20_ => ?_) (fun hq20_ => ?_)
  · exact T_ret ⟨(i_rng (lo := 0) (hi := 1) l_1 (by omega) (by omega)), hG, hS⟩
  · refine T_qc (t_X12_feelsKind hn a1 M hG (i_rng (lo := 0) (hi := 12) rfl (by omega) (by omega))) ?_
    rintro rv21 mv22 ⟨hq23_, gq24_, kq25_⟩
    have kq26_ := Sm.call hS kq25_ rfl
    refine T_mu gq24_ kq26_ (rn_97 _ _) (nw_97 _) (i := 0) rfl ⟨by decide, by decide, Or.inl rfl⟩ ?_
    intro mv27 hq28_ gq29_ kq30_
    have hq31_ : (mv27 97 3).toInt = a2.toInt := by rw [hq28_, mu_at]
    refine T_qg rfl (by omega) (by omega) ?_
    refine T_mu gq29_ kq30_ (rn_97 _ _) (nw_97 _) (i := 0) rfl ⟨by decide, by decide, Or.inl rfl⟩ ?_
    intro mv32 hq33_ gq34_ kq35_
    have hq36_ : (mv32 97 3).toInt = (mv27 97 3).toInt := by rw [hq33_, mu_ne (Or.inr (by decide))]
    have hq37_ : (mv32 97 4).toInt = (mv27 82 a2.toNatClampNeg).toInt := by rw [hq33_, mu_at]
    refine T_qg rfl (by omega) (by omega) ?_
    refine T_qg rfl (by omega) (by omega) ?_
    refine T_qc (t_X12_bits hn ((mv32 82 a1.toNatClampNeg) &&& (mv32 82 a2.toNatClampNeg)) mv32 gq34_ ) ?_
    rintro rv38 mv39 ⟨hq40_, hq41_, gq42_, kq43_⟩
    have hq44_ := kq43_.nil
    subst hq44_
    refine T_mu gq34_ kq35_ (rn_97 _ _) (nw_97 _) (i := 0) rfl ⟨by decide, by decide, Or.inl rfl⟩ ?_
    intro mv45 hq46_ gq47_ kq48_
    have hq49_ : (mv45 97 3).toInt = (mv32 97 3).toInt := by rw [hq46_, mu_ne (Or.inr (by decide))]
    have hq50_ : (mv45 97 4).toInt = (mv32 97 4).toInt := by rw [hq46_, mu_ne (Or.inr (by decide))]
    have hq51_ : (mv45 97 5).toInt = rv38.toInt := by rw [hq46_, mu_at]
    exact (t_X12_isLike_55 hn) n (0 : Int32) mv45 gq47_ kq48_ (i_rng (lo := 0) (hi := 16) l_0 (by omega) (by omega)) (by have e0 : ((0 : Int32)).toInt = _ := l_0; omega)
abbrev l_X12_allTries : List Bx := []
abbrev po_X12_allTries (a1 : Int32) (M : qM) (v : Int32) (M' : qM) : Prop := G M' ∧ Sm l_X12_allTries M M'
theorem t_X12_allTries_4 {n : Nat} (hn : 200000 ≤ n) {oa1 : Int32} {M0 : qM} : ∀ (m : Nat) (a1 a2 a3 : Int32) (M : qM), G M → Sm l_X12_allTries M0 M → 0 ≤ a1.toInt ∧ a1.toInt ≤ 11 → 0 ≤ a3.toInt ∧ a3.toInt ≤ 8 → 8 - a3.toInt < (m : Int) → qT (f_X12_allTries_4 n m a1 a2 a3 M) (po_X12_allTries oa1 M0) := by
  intro m
  induction m with
  | zero =>
    intro a1 a2 a3 M hG hS i0 i1 i4
    exfalso; omega
  | succ m ih =>
    intro a1 a2 a3 M hG hS i0 i1 i4
    show qT (b_X12_allTries_4 n (f_X12_allTries_4 n m) a1 a2 a3 M) _
    unfold b_X12_allTries_4
    refine T_le l_8 rfl (fun hq3_ => ?_) (fun hq3_ => ?_)
    · exact T_ret ⟨hG, hS⟩
    · refine T_qc (t_X12_at hn a3 a1 M hG (i_rng (lo := 0) (hi := 7) rfl (by omega) (by omega)) (i_rng (lo := 0) (hi := 11) rfl (by omega) (by omega))) ?_
      rintro rv4 mv5 ⟨hq6_, hq7_, gq8_, kq9_⟩
      have hq10_ := kq9_.nil
      subst hq10_
      refine T_qg (i_add l_0 rfl (by omega) (by omega)) (by omega) (by omega) ?_
      have hq11_ := i_full (a2)
      have hq12_ := i_full (M 78 (((0 : Int32) + rv4).toNatClampNeg))
      refine T_ql rfl ?_
      intro xv13 hq14_
      refine T_ql (i_add rfl l_1 (by omega) (by omega)) ?_
      intro xv15 hq16_
      exact ih a1 xv13 xv15 M hG hS (i_rng (lo := 0) (hi := 11) rfl (by omega) (by omega)) (i_rng (lo := 0) (hi := 8) rfl (by omega) (by omega)) (by omega)
theorem t_X12_allTries {n : Nat} (hn : 200000 ≤ n) (a1 : Int32) (M : qM) (hG : G M) (pa1 : 0 ≤ a1.toInt ∧ a1.toInt ≤ 11) : qT (f_X12_allTries n a1 M) (po_X12_allTries a1 M) := by
  have hS : Sm l_X12_allTries M M := Sm.rf
  unfold f_X12_allTries
  exact (t_X12_allTries_4 hn) n a1 (0 : Int32) (0 : Int32) M hG hS (i_rng (lo := 0) (hi := 11) rfl (by omega) (by omega)) (i_rng (lo := 0) (hi := 8) l_0 (by omega) (by omega)) (by have e1 : ((0 : Int32)).toInt = _ := l_0; have e2 : ((0 : Int32)).toInt = _ := l_0; omega)
abbrev l_X12_feels : List Bx := [(97, 98, 0, 0)]
abbrev po_X12_feels (a1 a2 a3 : Int32) (M : qM) (v : Int32) (M' : qM) : Prop := (0 ≤ v.toInt ∧ v.toInt ≤ 0) ∧ G M' ∧ Sm l_X12_feels M M'
theorem t_X12_feels {n : Nat} (hn : 200000 ≤ n) (a1 a2 a3 : Int32) (M : qM) (hG : G M) (pa1 : 0 ≤ a1.toInt ∧ a1.toInt ≤ 7) (pa2 : 0 ≤ a2.toInt ∧ a2.toInt ≤ 11) (pa3 : 0 ≤ a3.toInt ∧ a3.toInt ≤ 8) : qT (f_X12_feels n a1 a2 a3 M) (po_X12_feels a1 a2 a3 M) := by
  have hS : Sm l_X12_feels M M := Sm.rf
  unfold f_X12_feels
  refine T_qc (t_X12_feelsKind hn a2 M hG (i_rng (lo := 0) (hi := 12) rfl (by omega) (by omega))) ?_
  rintro rv1 mv2 ⟨hq3_, gq4_, kq5_⟩
  have kq6_ := Sm.call hS kq5_ rfl
  refine T_mu gq4_ kq6_ (rn_97 _ _) (nw_97 _) (i := 0) rfl ⟨by decide, by decide, Or.inl rfl⟩ ?_
  intro mv7 hq8_ gq9_ kq10_
  have hq11_ : (mv7 97 7).toInt = a1.toInt := by rw [hq8_, mu_at]
  refine T_mu gq9_ kq10_ (rn_97 _ _) (nw_97 _) (i := 0) rfl ⟨by decide, by decide, Or.inl rfl⟩ ?_
  intro mv12 hq13_ gq14_ kq15_
  have hq16_ : (mv12 97 7).toInt = (mv7 97 7).toInt := by rw [hq13_, mu_ne (Or.inr (by decide))]
  have hq17_ : (mv12 97 8).toInt = a3.toInt := by rw [hq13_, mu_at]
  refine T_qc (t_X12_at hn a1 a2 mv12 gq14_ (i_rng (lo := 0) (hi := 7) rfl (by omega) (by omega)) (i_rng (lo := 0) (hi := 11) rfl (by omega) (by omega))) ?_
  rintro rv18 mv19 ⟨hq20_, hq21_, gq22_, kq23_⟩
  have hq24_ := kq23_.nil
  subst hq24_
  refine T_qg (i_add l_0 rfl (by omega) (by omega)) (by omega) (by omega) ?_
  refine T_mu gq14_ kq15_ (rn_97 _ _) (nw_97 _) (i := 0) rfl ⟨by decide, by decide, Or.inl rfl⟩ ?_
  intro mv25 hq26_ gq27_ kq28_
  have hq29_ : (mv25 97 7).toInt = (mv12 97 7).toInt := by rw [hq26_, mu_ne (Or.inr (by decide))]
  have hq30_ : (mv25 97 8).toInt = (mv12 97 8).toInt := by rw [hq26_, mu_ne (Or.inr (by decide))]
  have hq31_ : (mv25 97 9).toInt = (mv12 78 (((0 : Int32) + rv18).toNatClampNeg)).toInt := by rw [hq26_, mu_at]
  refine T_qc (t_X12_allTries hn a2 mv25 gq27_ (i_rng (lo := 0) (hi := 11) rfl (by omega) (by omega))) ?_
  rintro rv32 mv33 ⟨gq34_, kq35_⟩
  have hq36_ := kq35_.nil
  subst hq36_
  refine T_mu gq27_ kq28_ (rn_97 _ _) (nw_97 _) (i := 0) rfl ⟨by decide, by decide, Or.inl rfl⟩ ?_
  intro mv37 hq38_ gq39_ kq40_
  have hq41_ : (mv37 97 7).toInt = (mv25 97 7).toInt := by rw [hq38_, mu_ne (Or.inr (by decide))]
  have hq42_ : (mv37 97 8).toInt = (mv25 97 8).toInt := by rw [hq38_, mu_ne (Or.inr (by decide))]
  have hq43_ : (mv37 97 9).toInt = (mv25 97 9).toInt := by rw [hq38_, mu_ne (Or.inr (by decide))]
  have hq44_ : (mv37 97 10).toInt = rv32.toInt := by rw [hq38_, mu_at]
  refine T_qc (t_X12_at hn a1 a2 mv37 gq39_ (i_rng (lo := 0) (hi := 7) rfl (by omega) (by omega)) (i_rng (lo := 0) (hi := 11) rfl (by omega) (by omega))) ?_
  rintro rv45 mv46 ⟨hq47_, hq48_, gq49_, kq50_⟩
  have hq51_ := kq50_.nil
  subst hq51_
  refine T_qg (i_add l_192 rfl (by omega) (by omega)) (by omega) (by omega) ?_
  refine T_mu gq39_ kq40_ (rn_97 _ _) (nw_97 _) (i := 0) rfl ⟨by decide, by decide, Or.inl rfl⟩ ?_
  intro mv52 hq53_ gq54_ kq55_
  have hq56_ : (mv52 97 7).toInt = (mv37 97 7).toInt := by rw [hq53_, mu_ne (Or.inr (by decide))]
  have hq57_ : (mv52 97 8).toInt = (mv37 97 8).toInt := by rw [hq53_, mu_ne (Or.inr (by decide))]
  have hq58_ : (mv52 97 9).toInt = (mv37 97 9).toInt := by rw [hq53_, mu_ne (Or.inr (by decide))]
  have hq59_ : (mv52 97 10).toInt = (mv37 97 10).toInt := by rw [hq53_, mu_ne (Or.inr (by decide))]
  have hq60_ : (mv52 97 11).toInt = (mv37 78 (((192 : Int32) + rv45).toNatClampNeg)).toInt := by rw [hq53_, mu_at]
  exact T_ret ⟨(i_rng (lo := 0) (hi := 0) l_0 (by omega) (by omega)), gq54_, kq55_⟩

abbrev l_X12_byLaw : List Bx := [(96, 97, 0, 0)]
abbrev po_X12_byLaw (a1 a2 a3 : Int32) (M : qM) (v : Int32) (M' : qM) : Prop := (0 ≤ v.toInt ∧ v.toInt ≤ 999) ∧ G M' ∧ Sm l_X12_byLaw M M'
theorem t_X12_byLaw_6 {n : Nat} (hn : 200000 ≤ n) {oa1 oa2 oa3 : Int32} {M0 : qM} : ∀ (m : Nat) (a1 a2 a4 a5 : Int32) (M : qM), G M → Sm l_X12_byLaw M0 M → 99 ≤ a1.toInt ∧ a1.toInt ≤ 118 → 99 ≤ a2.toInt ∧ a2.toInt ≤ 999 → 0 ≤ a4.toInt ∧ a4.toInt ≤ 1 → 0 ≤ a5.toInt ∧ a5.toInt ≤ 16 → 16 - a5.toInt < (m : Int) → qT (f_X12_byLaw_6 n m a1 a2 a4 a5 M) (po_X12_byLaw oa1 oa2 oa3 M0) := by
  intro m
  induction m with
  | zero =>
    intro a1 a2 a4 a5 M hG hS i0 i1 i2 i3 i6
    exfalso; omega
  | succ m ih =>
    intro a1 a2 a4 a5 M hG hS i0 i1 i2 i3 i6
    show qT (b_X12_byLaw_6 n (f_X12_byLaw_6 n m) a1 a2 a4 a5 M) _
    unfold b_X12_byLaw_6
    have hq3_ := r_77_17 hG
    refine T_le rfl rfl (fun hq4_ => ?_) (fun hq4_ => ?_)
    · exact T_ret ⟨(i_rng (lo := 0) (hi := 999) rfl (by omega) (by omega)), hG, hS⟩
    · refine T_qg rfl (by omega) (by omega) ?_
      refine T_eq rfl rfl (fun hq5_ => ?_) (fun hq5_ => ?_)
      · refine T_qg rfl (by omega) (by omega) ?_
        refine T_qg rfl (by omega) (by omega) ?_
        have hq8_ := r_94 hG a5.toNatClampNeg
        have hq9_ := r_95 hG a5.toNatClampNeg
        refine T_qc (t_X12_comesTo hn (M 94 a5.toNatClampNeg) (M 95 a5.toNatClampNeg) M hG (i_rng (lo := 0) (hi := 250) rfl (by omega) (by omega)) (i_rng (lo := 0) (hi := 250) rfl (by omega) (by omega)) (hG.2.2.1 a5.toNatClampNeg (by rw [tnc]; omega)).2) ?_
        rintro rv6 mv7 ⟨gq10_, kq11_⟩
        have kq12_ := Sm.call hS kq11_ rfl
        have hq13_ : (mv7 77 17).toInt = (M 77 17).toInt := by rw [kq11_ 77 17 (by decide)]
        have hq14_ : (mv7 92 a5.toNatClampNeg).toInt = (M 92 a5.toNatClampNeg).toInt := by rw [kq11_ 92 _ (outc rfl)]
        refine T_eq rfl l_1 (fun hq15_ => ?_) (fun hq15_ => ?_)
        · refine T_qg rfl (by omega) (by omega) ?_
          refine T_qg rfl (by omega) (by omega) ?_
          have hq18_ := r_93 gq10_ a5.toNatClampNeg
          have hq19_ := r_94 gq10_ a5.toNatClampNeg
          refine T_qc (t_X12_comesTo hn (mv7 93 a5.toNatClampNeg) (mv7 94 a5.toNatClampNeg) mv7 gq10_ (i_rng (lo := 0) (hi := 250) rfl (by omega) (by omega)) (i_rng (lo := 0) (hi := 250) rfl (by omega) (by omega)) (gq10_.2.2.1 a5.toNatClampNeg (by rw [tnc]; omega)).1) ?_
          rintro rv16 mv17 ⟨gq20_, kq21_⟩
          have kq22_ := Sm.call kq12_ kq21_ rfl
          have hq23_ : (mv17 77 17).toInt = (mv7 77 17).toInt := by rw [kq21_ 77 17 (by decide)]
          have hq24_ : (mv17 92 a5.toNatClampNeg).toInt = (mv7 92 a5.toNatClampNeg).toInt := by rw [kq21_ 92 _ (outc rfl)]
          refine T_le l_0 rfl (fun hq25_ => ?_) (fun hq25_ => ?_)
          · refine T_le rfl rfl (fun hq26_ => ?_) (fun hq26_ => ?_)
            · exact T_ret ⟨(i_rng (lo := 0) (hi := 999) rfl (by omega) (by omega)), gq20_, kq22_⟩
            · exact T_ret ⟨(i_rng (lo := 0) (hi := 999) rfl (by omega) (by omega)), gq20_, kq22_⟩
          · exact T_ret ⟨(i_rng (lo := 0) (hi := 999) l_0 (by omega) (by omega)), gq20_, kq22_⟩
        · refine T_ql (i_add rfl l_1 (by omega) (by omega)) ?_
          intro xv27 hq28_
          exact ih a1 a2 (0 : Int32) xv27 mv7 gq10_ kq12_ (i_rng (lo := 99) (hi := 118) rfl (by omega) (by omega)) (i_rng (lo := 99) (hi := 999) rfl (by omega) (by omega)) (i_rng (lo := 0) (hi := 1) l_0 (by omega) (by omega)) (i_rng (lo := 0) (hi := 16) rfl (by omega) (by omega)) (by have e2 : ((0 : Int32)).toInt = _ := l_0; omega)
      · refine T_ql (i_add rfl l_1 (by omega) (by omega)) ?_
        intro xv29 hq30_
        exact ih a1 a2 a4 xv29 M hG hS (i_rng (lo := 99) (hi := 118) rfl (by omega) (by omega)) (i_rng (lo := 99) (hi := 999) rfl (by omega) (by omega)) (i_rng (lo := 0) (hi := 1) rfl (by omega) (by omega)) (i_rng (lo := 0) (hi := 16) rfl (by omega) (by omega)) (by omega)
theorem t_X12_byLaw {n : Nat} (hn : 200000 ≤ n) (a1 a2 a3 : Int32) (M : qM) (hG : G M) (pa1 : 99 ≤ a1.toInt ∧ a1.toInt ≤ 118) (pa2 : 99 ≤ a2.toInt ∧ a2.toInt ≤ 999) (pa3 : 0 ≤ a3.toInt ∧ a3.toInt ≤ 1) : qT (f_X12_byLaw n a1 a2 a3 M) (po_X12_byLaw a1 a2 a3 M) := by
  have hS : Sm l_X12_byLaw M M := Sm.rf
  unfold f_X12_byLaw
  exact (t_X12_byLaw_6 hn) n a1 a2 a3 (0 : Int32) M hG hS (i_rng (lo := 99) (hi := 118) rfl (by omega) (by omega)) (i_rng (lo := 99) (hi := 999) rfl (by omega) (by omega)) (i_rng (lo := 0) (hi := 1) rfl (by omega) (by omega)) (i_rng (lo := 0) (hi := 16) l_0 (by omega) (by omega)) (by have e3 : ((0 : Int32)).toInt = _ := l_0; omega)
abbrev l_X12_forgets : List Bx := [(78, 79, 0, 192), (96, 98, 0, 0)]
abbrev po_X12_forgets (a1 a2 : Int32) (M : qM) (v : Int32) (M' : qM) : Prop := (0 ≤ v.toInt ∧ v.toInt ≤ 0) ∧ G M' ∧ Sm l_X12_forgets M M'
theorem t_X12_forgets_2 {n : Nat} (hn : 200000 ≤ n) {oa1 oa2 : Int32} {M0 : qM} : ∀ (m : Nat) (a1 a2 a3 : Int32) (M : qM), G M → Sm l_X12_forgets M0 M → 0 ≤ a1.toInt ∧ a1.toInt ≤ 7 → 0 ≤ a2.toInt ∧ a2.toInt ≤ 11 → 0 ≤ a3.toInt ∧ a3.toInt ≤ 12 → 12 - a3.toInt < (m : Int) → qT (f_X12_forgets_2 n m a1 a2 a3 M) (po_X12_forgets oa1 oa2 M0) := by
  intro m
  induction m with
  | zero =>
    intro a1 a2 a3 M hG hS i0 i1 i2 i5
    exfalso; omega
  | succ m ih =>
    intro a1 a2 a3 M hG hS i0 i1 i2 i5
    show qT (b_X12_forgets_2 n (f_X12_forgets_2 n m) a1 a2 a3 M) _
    unfold b_X12_forgets_2
    refine T_le l_12 rfl (fun hq7_ => ?_) (fun hq7_ => ?_)
    · exact T_ret ⟨(i_rng (lo := 0) (hi := 0) l_0 (by omega) (by omega)), hG, hS⟩
    · refine T_qc (t_X12_at hn a1 a3 M hG (i_rng (lo := 0) (hi := 7) rfl (by omega) (by omega)) (i_rng (lo := 0) (hi := 11) rfl (by omega) (by omega))) ?_
      rintro rv8 mv9 ⟨hq10_, hq11_, gq12_, kq13_⟩
      have hq14_ := kq13_.nil
      subst hq14_
      refine T_qc (t_X12_isKind hn a3 M hG ) ?_
      rintro rv15 mv16 ⟨hq17_, hq18_, gq19_, kq20_⟩
      have hq21_ := kq20_.nil
      subst hq21_
      refine T_eq rfl l_0 (fun hq22_ => ?_) (fun hq22_ => ?_)
      · refine T_ql (i_add rfl l_1 (by omega) (by omega)) ?_
        intro xv23 hq24_
        exact ih a1 a2 xv23 M hG hS (i_rng (lo := 0) (hi := 7) rfl (by omega) (by omega)) (i_rng (lo := 0) (hi := 11) rfl (by omega) (by omega)) (i_rng (lo := 0) (hi := 12) rfl (by omega) (by omega)) (by omega)
      · refine T_qg (i_add l_0 rfl (by omega) (by omega)) (by omega) (by omega) ?_
        refine T_eq rfl l_0 (fun hq25_ => ?_) (fun hq25_ => ?_)
        · refine T_ql (i_add rfl l_1 (by omega) (by omega)) ?_
          intro xv26 hq27_
          exact ih a1 a2 xv26 M hG hS (i_rng (lo := 0) (hi := 7) rfl (by omega) (by omega)) (i_rng (lo := 0) (hi := 11) rfl (by omega) (by omega)) (i_rng (lo := 0) (hi := 12) rfl (by omega) (by omega)) (by omega)
        · refine T_qc (t_X12_isLike hn a2 a3 M hG (i_rng (lo := 0) (hi := 12) rfl (by omega) (by omega)) (i_rng (lo := 0) (hi := 11) rfl (by omega) (by omega))) ?_
          rintro rv28 mv29 ⟨hq30_, gq31_, kq32_⟩
          have kq33_ := Sm.call hS kq32_ rfl
          have hq34_ : (mv29 78 (((0 : Int32) + rv8).toNatClampNeg)).toInt = (M 78 (((0 : Int32) + rv8).toNatClampNeg)).toInt := by rw [kq32_ 78 _ (out78 (lo := 0) (hi := 96) rfl (by rw [tnc, (i_add l_0 rfl (by omega) (by omega))]; omega) (by rw [tnc, (i_add l_0 rfl (by omega) (by omega))]; omega))]
          refine T_eq rfl l_0 (fun hq35_ => ?_) (fun hq35_ => ?_)
          · refine T_ql (i_add rfl l_1 (by omega) (by omega)) ?_
            intro xv36 hq37_
            exact ih a1 a2 xv36 mv29 gq31_ kq33_ (i_rng (lo := 0) (hi := 7) rfl (by omega) (by omega)) (i_rng (lo := 0) (hi := 11) rfl (by omega) (by omega)) (i_rng (lo := 0) (hi := 12) rfl (by omega) (by omega)) (by omega)
          · refine T_qc (t_X12_feels hn a1 a3 (8 : Int32) mv29 gq31_ (i_rng (lo := 0) (hi := 7) rfl (by omega) (by omega)) (i_rng (lo := 0) (hi := 11) rfl (by omega) (by omega)) (i_rng (lo := 0) (hi := 8) l_8 (by omega) (by omega))) ?_
            rintro rv38 mv39 ⟨hq40_, gq41_, kq42_⟩
            have kq43_ := Sm.call kq33_ kq42_ rfl
            have hq44_ : (mv39 78 (((0 : Int32) + rv8).toNatClampNeg)).toInt = (mv29 78 (((0 : Int32) + rv8).toNatClampNeg)).toInt := by rw [kq42_ 78 _ (out78 (lo := 0) (hi := 96) rfl (by rw [tnc, (i_add l_0 rfl (by omega) (by omega))]; omega) (by rw [tnc, (i_add l_0 rfl (by omega) (by omega))]; omega))]
            refine T_qc (t_X12_byLaw hn (102 : Int32) (999 : Int32) (0 : Int32) mv39 gq41_ (i_rng (lo := 99) (hi := 118) l_102 (by omega) (by omega)) (i_rng (lo := 99) (hi := 999) l_999 (by omega) (by omega)) (i_rng (lo := 0) (hi := 1) l_0 (by omega) (by omega))) ?_
            rintro rv45 mv46 ⟨hq47_, gq48_, kq49_⟩
            have kq50_ := Sm.call kq43_ kq49_ rfl
            have hq51_ : (mv46 78 (((0 : Int32) + rv8).toNatClampNeg)).toInt = (mv39 78 (((0 : Int32) + rv8).toNatClampNeg)).toInt := by rw [kq49_ 78 _ (out78 (lo := 0) (hi := 96) rfl (by rw [tnc, (i_add l_0 rfl (by omega) (by omega))]; omega) (by rw [tnc, (i_add l_0 rfl (by omega) (by omega))]; omega))]
            refine T_eq rfl l_0 (fun hq52_ => ?_) (fun hq52_ => ?_)
            · refine T_ql (i_add rfl l_1 (by omega) (by omega)) ?_
              intro xv53 hq54_
              exact ih a1 a2 xv53 mv46 gq48_ kq50_ (i_rng (lo := 0) (hi := 7) rfl (by omega) (by omega)) (i_rng (lo := 0) (hi := 11) rfl (by omega) (by omega)) (i_rng (lo := 0) (hi := 12) rfl (by omega) (by omega)) (by omega)
            · refine T_qg (i_add l_96 rfl (by omega) (by omega)) (by omega) (by omega) ?_
              have hq55_ := i_full (mv46 78 313)
              have hq56_ := i_full (mv46 78 (((96 : Int32) + rv8).toNatClampNeg))
              refine T_le rfl rfl (fun hq57_ => ?_) (fun hq57_ => ?_)
              · refine T_qg (i_add l_0 rfl (by omega) (by omega)) (by omega) (by omega) ?_
                refine T_mu gq48_ kq50_ (ro78 (by decide) (by rw [tnc, (i_add l_0 rfl (by omega) (by omega))]; omega)) (nw_78 _) (i := 0) rfl ⟨by decide, by decide, Or.inr ⟨(show 0 ≤ _ by rw [tnc, (i_add l_0 rfl (by omega) (by omega))]; omega), (show _ < 192 by rw [tnc, (i_add l_0 rfl (by omega) (by omega))]; omega)⟩⟩ ?_
                intro mv58 hq59_ gq60_ kq61_
                have hq62_ : (mv58 78 (((0 : Int32) + rv8).toNatClampNeg)).toInt = 0 := by rw [hq59_, mu_at]; exact l_0
                refine T_qg (i_add l_96 rfl (by omega) (by omega)) (by omega) (by omega) ?_
                refine T_mu gq60_ kq61_ (ro78 (by decide) (by rw [tnc, (i_add l_96 rfl (by omega) (by omega))]; omega)) (nw_78 _) (i := 0) rfl ⟨by decide, by decide, Or.inr ⟨(show 0 ≤ _ by rw [tnc, (i_add l_96 rfl (by omega) (by omega))]; omega), (show _ < 192 by rw [tnc, (i_add l_96 rfl (by omega) (by omega))]; omega)⟩⟩ ?_
                intro mv63 hq64_ gq65_ kq66_
                have hq67_ : (mv63 78 (((96 : Int32) + rv8).toNatClampNeg)).toInt = (-2) := by rw [hq64_, mu_at]; exact l_m2
                refine T_ql (i_add rfl l_1 (by omega) (by omega)) ?_
                intro xv68 hq69_
                exact ih a1 a2 xv68 mv63 gq65_ kq66_ (i_rng (lo := 0) (hi := 7) rfl (by omega) (by omega)) (i_rng (lo := 0) (hi := 11) rfl (by omega) (by omega)) (i_rng (lo := 0) (hi := 12) rfl (by omega) (by omega)) (by omega)
              · refine T_ql (i_add rfl l_1 (by omega) (by omega)) ?_
                intro xv70 hq71_
                exact ih a1 a2 xv70 mv46 gq48_ kq50_ (i_rng (lo := 0) (hi := 7) rfl (by omega) (by omega)) (i_rng (lo := 0) (hi := 11) rfl (by omega) (by omega)) (i_rng (lo := 0) (hi := 12) rfl (by omega) (by omega)) (by omega)
theorem t_X12_forgets {n : Nat} (hn : 200000 ≤ n) (a1 a2 : Int32) (M : qM) (hG : G M) (pa1 : 0 ≤ a1.toInt ∧ a1.toInt ≤ 7) (pa2 : 0 ≤ a2.toInt ∧ a2.toInt ≤ 11) : qT (f_X12_forgets n a1 a2 M) (po_X12_forgets a1 a2 M) := by
  have hS : Sm l_X12_forgets M M := Sm.rf
  unfold f_X12_forgets
  exact (t_X12_forgets_2 hn) n a1 a2 (0 : Int32) M hG hS (i_rng (lo := 0) (hi := 7) rfl (by omega) (by omega)) (i_rng (lo := 0) (hi := 11) rfl (by omega) (by omega)) (i_rng (lo := 0) (hi := 12) l_0 (by omega) (by omega)) (by have e2 : ((0 : Int32)).toInt = _ := l_0; omega)
abbrev l_X12_oldOnes : List Bx := [(96, 98, 0, 0)]
abbrev po_X12_oldOnes (a1 a2 : Int32) (M : qM) (v : Int32) (M' : qM) : Prop := G M' ∧ Sm l_X12_oldOnes M M'
theorem t_X12_oldOnes_5 {n : Nat} (hn : 200000 ≤ n) {oa1 oa2 : Int32} {M0 : qM} : ∀ (m : Nat) (a1 a2 a3 a4 : Int32) (M : qM), G M → Sm l_X12_oldOnes M0 M → 0 ≤ a1.toInt ∧ a1.toInt ≤ 7 → 0 ≤ a2.toInt ∧ a2.toInt ≤ 11 → 0 ≤ a4.toInt ∧ a4.toInt ≤ 12 → 12 - a4.toInt < (m : Int) → qT (f_X12_oldOnes_5 n m a1 a2 a3 a4 M) (po_X12_oldOnes oa1 oa2 M0) := by
  intro m
  induction m with
  | zero =>
    intro a1 a2 a3 a4 M hG hS i0 i1 i2 i5
    exfalso; omega
  | succ m ih =>
    intro a1 a2 a3 a4 M hG hS i0 i1 i2 i5
    show qT (b_X12_oldOnes_5 n (f_X12_oldOnes_5 n m) a1 a2 a3 a4 M) _
    unfold b_X12_oldOnes_5
    refine T_le l_12 rfl (fun hq6_ => ?_) (fun hq6_ => ?_)
    · exact T_ret ⟨hG, hS⟩
    · refine T_qc (t_X12_isKind hn a4 M hG ) ?_
      rintro rv7 mv8 ⟨hq9_, hq10_, gq11_, kq12_⟩
      have hq13_ := kq12_.nil
      subst hq13_
      refine T_eq rfl l_0 (fun hq14_ => ?_) (fun hq14_ => ?_)
      · refine T_ql (i_add rfl l_1 (by omega) (by omega)) ?_
        intro xv15 hq16_
        exact ih a1 a2 a3 xv15 M hG hS (i_rng (lo := 0) (hi := 7) rfl (by omega) (by omega)) (i_rng (lo := 0) (hi := 11) rfl (by omega) (by omega)) (i_rng (lo := 0) (hi := 12) rfl (by omega) (by omega)) (by omega)
      · refine T_qc (t_X12_at hn a1 a4 M hG (i_rng (lo := 0) (hi := 7) rfl (by omega) (by omega)) (i_rng (lo := 0) (hi := 11) rfl (by omega) (by omega))) ?_
        rintro rv17 mv18 ⟨hq19_, hq20_, gq21_, kq22_⟩
        have hq23_ := kq22_.nil
        subst hq23_
        refine T_qg (i_add l_0 rfl (by omega) (by omega)) (by omega) (by omega) ?_
        refine T_le rfl l_0 (fun hq24_ => ?_) (fun hq24_ => ?_)
        · refine T_ql (i_add rfl l_1 (by omega) (by omega)) ?_
          intro xv25 hq26_
          exact ih a1 a2 a3 xv25 M hG hS (i_rng (lo := 0) (hi := 7) rfl (by omega) (by omega)) (i_rng (lo := 0) (hi := 11) rfl (by omega) (by omega)) (i_rng (lo := 0) (hi := 12) rfl (by omega) (by omega)) (by omega)
        · refine T_qc (t_X12_isLike hn a2 a4 M hG (i_rng (lo := 0) (hi := 12) rfl (by omega) (by omega)) (i_rng (lo := 0) (hi := 11) rfl (by omega) (by omega))) ?_
          rintro rv27 mv28 ⟨hq29_, gq30_, kq31_⟩
          have kq32_ := Sm.call hS kq31_ rfl
          have hq33_ : (mv28 78 (((0 : Int32) + rv17).toNatClampNeg)).toInt = (M 78 (((0 : Int32) + rv17).toNatClampNeg)).toInt := by rw [kq31_ 78 _ (out78 (lo := 0) (hi := 96) rfl (by rw [tnc, (i_add l_0 rfl (by omega) (by omega))]; omega) (by rw [tnc, (i_add l_0 rfl (by omega) (by omega))]; omega))]
          refine T_eq rfl l_0 (fun hq34_ => ?_) (fun hq34_ => ?_)
          · refine T_ql (i_add rfl l_1 (by omega) (by omega)) ?_
            intro xv35 hq36_
            exact ih a1 a2 a3 xv35 mv28 gq30_ kq32_ (i_rng (lo := 0) (hi := 7) rfl (by omega) (by omega)) (i_rng (lo := 0) (hi := 11) rfl (by omega) (by omega)) (i_rng (lo := 0) (hi := 12) rfl (by omega) (by omega)) (by omega)
          · refine T_qc (t_X12_at hn a1 a4 mv28 gq30_ (i_rng (lo := 0) (hi := 7) rfl (by omega) (by omega)) (i_rng (lo := 0) (hi := 11) rfl (by omega) (by omega))) ?_
            rintro rv37 mv38 ⟨hq39_, hq40_, gq41_, kq42_⟩
            have hq43_ := kq42_.nil
            subst hq43_
            refine T_qg (i_add l_0 rfl (by omega) (by omega)) (by omega) (by omega) ?_
            have hq44_ := i_full (a3)
            have hq45_ := i_full (mv28 78 (((0 : Int32) + rv37).toNatClampNeg))
            refine T_ql rfl ?_
            intro xv46 hq47_
            refine T_ql (i_add rfl l_1 (by omega) (by omega)) ?_
            intro xv48 hq49_
            exact ih a1 a2 xv46 xv48 mv28 gq30_ kq32_ (i_rng (lo := 0) (hi := 7) rfl (by omega) (by omega)) (i_rng (lo := 0) (hi := 11) rfl (by omega) (by omega)) (i_rng (lo := 0) (hi := 12) rfl (by omega) (by omega)) (by omega)
theorem t_X12_oldOnes {n : Nat} (hn : 200000 ≤ n) (a1 a2 : Int32) (M : qM) (hG : G M) (pa1 : 0 ≤ a1.toInt ∧ a1.toInt ≤ 7) (pa2 : 0 ≤ a2.toInt ∧ a2.toInt ≤ 11) : qT (f_X12_oldOnes n a1 a2 M) (po_X12_oldOnes a1 a2 M) := by
  have hS : Sm l_X12_oldOnes M M := Sm.rf
  unfold f_X12_oldOnes
  exact (t_X12_oldOnes_5 hn) n a1 a2 (0 : Int32) (0 : Int32) M hG hS (i_rng (lo := 0) (hi := 7) rfl (by omega) (by omega)) (i_rng (lo := 0) (hi := 11) rfl (by omega) (by omega)) (i_rng (lo := 0) (hi := 12) l_0 (by omega) (by omega)) (by have e2 : ((0 : Int32)).toInt = _ := l_0; have e3 : ((0 : Int32)).toInt = _ := l_0; omega)
abbrev l_X12_voidFor : List Bx := [(96, 98, 0, 0)]
abbrev po_X12_voidFor (a1 a2 a3 : Int32) (M : qM) (v : Int32) (M' : qM) : Prop := (0 ≤ v.toInt ∧ v.toInt ≤ 999) ∧ G M' ∧ Sm l_X12_voidFor M M'
theorem t_X12_voidFor {n : Nat} (hn : 200000 ≤ n) (a1 a2 a3 : Int32) (M : qM) (hG : G M) (pa1 : 0 ≤ a1.toInt ∧ a1.toInt ≤ 7) (pa2 : 0 ≤ a2.toInt ∧ a2.toInt ≤ 11) (pa3 : 0 ≤ a3.toInt ∧ a3.toInt ≤ 8) : qT (f_X12_voidFor n a1 a2 a3 M) (po_X12_voidFor a1 a2 a3 M) := by
  have hS : Sm l_X12_voidFor M M := Sm.rf
  unfold f_X12_voidFor
  refine T_qc (t_X12_feels hn a1 a2 a3 M hG (i_rng (lo := 0) (hi := 7) rfl (by omega) (by omega)) (i_rng (lo := 0) (hi := 11) rfl (by omega) (by omega)) (i_rng (lo := 0) (hi := 8) rfl (by omega) (by omega))) ?_
  rintro rv1 mv2 ⟨hq3_, gq4_, kq5_⟩
  have kq6_ := Sm.call hS kq5_ rfl
  refine T_qc (t_X12_byLaw hn (118 : Int32) (99 : Int32) (1 : Int32) mv2 gq4_ (i_rng (lo := 99) (hi := 118) l_118 (by omega) (by omega)) (i_rng (lo := 99) (hi := 999) l_99 (by omega) (by omega)) (i_rng (lo := 0) (hi := 1) l_1 (by omega) (by omega))) ?_
  rintro rv7 mv8 ⟨hq9_, gq10_, kq11_⟩
  have kq12_ := Sm.call kq6_ kq11_ rfl
  exact T_ret ⟨(i_rng (lo := 0) (hi := 999) rfl (by omega) (by omega)), gq10_, kq12_⟩
abbrev l_X12_hasNeeds : List Bx := []
abbrev po_X12_hasNeeds (a1 a2 : Int32) (M : qM) (v : Int32) (M' : qM) : Prop := (0 ≤ v.toInt ∧ v.toInt ≤ 1) ∧ G M' ∧ Sm l_X12_hasNeeds M M'
theorem t_X12_hasNeeds_2 {n : Nat} (hn : 200000 ≤ n) {oa1 oa2 : Int32} {M0 : qM} : ∀ (m : Nat) (a1 a2 a3 : Int32) (M : qM), G M → Sm l_X12_hasNeeds M0 M → 0 ≤ a1.toInt ∧ a1.toInt ≤ 7 → 0 ≤ a2.toInt ∧ a2.toInt ≤ 11 → 0 ≤ a3.toInt ∧ a3.toInt ≤ 12 → 12 - a3.toInt < (m : Int) → qT (f_X12_hasNeeds_2 n m a1 a2 a3 M) (po_X12_hasNeeds oa1 oa2 M0) := by
  intro m
  induction m with
  | zero =>
    intro a1 a2 a3 M hG hS i0 i1 i2 i5
    exfalso; omega
  | succ m ih =>
    intro a1 a2 a3 M hG hS i0 i1 i2 i5
    show qT (b_X12_hasNeeds_2 n (f_X12_hasNeeds_2 n m) a1 a2 a3 M) _
    unfold b_X12_hasNeeds_2
    refine T_le l_12 rfl (fun hq3_ => ?_) (fun hq3_ => ?_)
    · exact T_ret ⟨(i_rng (lo := 0) (hi := 1) l_1 (by omega) (by omega)), hG, hS⟩
    · refine T_qg rfl (by omega) (by omega) ?_
      refine T_qc (t_X12_has0 hn (M 83 a2.toNatClampNeg) a3 M hG (i_rng (lo := 0) (hi := 11) rfl (by omega) (by omega))) ?_
      rintro rv4 mv5 ⟨hq6_, hq7_, gq8_, kq9_⟩
      have hq10_ := kq9_.nil
      subst hq10_
      refine T_eq rfl l_0 (fun hq11_ => ?_) (fun hq11_ => ?_)
      · refine T_ql (i_add rfl l_1 (by omega) (by omega)) ?_
        intro xv12 hq13_
        exact ih a1 a2 xv12 M hG hS (i_rng (lo := 0) (hi := 7) rfl (by omega) (by omega)) (i_rng (lo := 0) (hi := 11) rfl (by omega) (by omega)) (i_rng (lo := 0) (hi := 12) rfl (by omega) (by omega)) (by omega)
      · refine T_qc (t_X12_at hn a1 a3 M hG (i_rng (lo := 0) (hi := 7) rfl (by omega) (by omega)) (i_rng (lo := 0) (hi := 11) rfl (by omega) (by omega))) ?_
        rintro rv14 mv15 ⟨hq16_, hq17_, gq18_, kq19_⟩
        have hq20_ := kq19_.nil
        subst hq20_
        refine T_qg (i_add l_192 rfl (by omega) (by omega)) (by omega) (by omega) ?_
        refine T_eq rfl l_0 (fun hq21_ => ?_) (fun hq21_ => ?_)
        · exact T_ret ⟨(i_rng (lo := 0) (hi := 1) l_0 (by omega) (by omega)), hG, hS⟩
        · refine T_ql (i_add rfl l_1 (by omega) (by omega)) ?_
          intro xv22 hq23_
          exact ih a1 a2 xv22 M hG hS (i_rng (lo := 0) (hi := 7) rfl (by omega) (by omega)) (i_rng (lo := 0) (hi := 11) rfl (by omega) (by omega)) (i_rng (lo := 0) (hi := 12) rfl (by omega) (by omega)) (by omega)
theorem t_X12_hasNeeds {n : Nat} (hn : 200000 ≤ n) (a1 a2 : Int32) (M : qM) (hG : G M) (pa1 : 0 ≤ a1.toInt ∧ a1.toInt ≤ 7) (pa2 : 0 ≤ a2.toInt ∧ a2.toInt ≤ 11) : qT (f_X12_hasNeeds n a1 a2 M) (po_X12_hasNeeds a1 a2 M) := by
  have hS : Sm l_X12_hasNeeds M M := Sm.rf
  unfold f_X12_hasNeeds
  exact (t_X12_hasNeeds_2 hn) n a1 a2 (0 : Int32) M hG hS (i_rng (lo := 0) (hi := 7) rfl (by omega) (by omega)) (i_rng (lo := 0) (hi := 11) rfl (by omega) (by omega)) (i_rng (lo := 0) (hi := 12) l_0 (by omega) (by omega)) (by have e2 : ((0 : Int32)).toInt = _ := l_0; omega)
abbrev l_X12_min : List Bx := []
abbrev po_X12_min (a0 a1 : Int32) (M : qM) (v : Int32) (M' : qM) : Prop := ((-2147483648) ≤ v.toInt ∧ v.toInt ≤ 1000000000) ∧ G M' ∧ Sm l_X12_min M M'
theorem t_X12_min {n : Nat} (hn : 200000 ≤ n) (a0 a1 : Int32) (M : qM) (hG : G M) (pa0 : (-2147483648) ≤ a0.toInt ∧ a0.toInt ≤ 1000000000) : qT (f_X12_min n a0 a1 M) (po_X12_min a0 a1 M) := by
  have hS : Sm l_X12_min M M := Sm.rf
  unfold f_X12_min
  refine T_le rfl rfl (fun hq1_ => ?_) (fun hq1_ => ?_)
  · have hq2_ := i_full (a1)
    exact T_ret ⟨(i_rng (lo := (-2147483648)) (hi := 1000000000) rfl (by omega) (by omega)), hG, hS⟩
  · have hq3_ := i_full (a0)
    exact T_ret ⟨(i_rng (lo := (-2147483648)) (hi := 1000000000) rfl (by omega) (by omega)), hG, hS⟩

abbrev l_X12_triesNow : List Bx := [(78, 79, 0, 288), (96, 98, 0, 0)]
abbrev po_X12_triesNow (a1 a2 a3 : Int32) (M : qM) (v : Int32) (M' : qM) : Prop := ((-2) ≤ v.toInt ∧ v.toInt ≤ 1) ∧ G M' ∧ Sm l_X12_triesNow M M'
theorem t_X12_triesNow {n : Nat} (hn : 200000 ≤ n) (a1 a2 a3 : Int32) (M : qM) (hG : G M) (pa1 : 0 ≤ a1.toInt ∧ a1.toInt ≤ 7) (pa2 : 0 ≤ a2.toInt ∧ a2.toInt ≤ 11) (pa3 : 0 ≤ a3.toInt ∧ a3.toInt ≤ 8) : qT (f_X12_triesNow n a1 a2 a3 M) (po_X12_triesNow a1 a2 a3 M) := by
  have hS : Sm l_X12_triesNow M M := Sm.rf
  unfold f_X12_triesNow
  refine T_qc (t_X12_forgets hn a1 a2 M hG (i_rng (lo := 0) (hi := 7) rfl (by omega) (by omega)) (i_rng (lo := 0) (hi := 11) rfl (by omega) (by omega))) ?_
  rintro rv1 mv2 ⟨hq3_, gq4_, kq5_⟩
  have kq6_ := Sm.call hS kq5_ rfl
  refine T_qc (t_X12_oldOnes hn a1 a2 mv2 gq4_ (i_rng (lo := 0) (hi := 7) rfl (by omega) (by omega)) (i_rng (lo := 0) (hi := 11) rfl (by omega) (by omega))) ?_
  rintro rv7 mv8 ⟨gq9_, kq10_⟩
  have kq11_ := Sm.call kq6_ kq10_ rfl
  refine T_qc (t_X12_voidFor hn a1 a2 a3 mv8 gq9_ (i_rng (lo := 0) (hi := 7) rfl (by omega) (by omega)) (i_rng (lo := 0) (hi := 11) rfl (by omega) (by omega)) (i_rng (lo := 0) (hi := 8) rfl (by omega) (by omega))) ?_
  rintro rv12 mv13 ⟨hq14_, gq15_, kq16_⟩
  have kq17_ := Sm.call kq11_ kq16_ rfl
  refine T_lt rfl rfl (fun hq18_ => ?_) (fun hq18_ => ?_)
  · unfold f_X12_triesNow_27
    refine T_qc (t_X12_hasNeeds hn a1 a2 mv13 gq15_ (i_rng (lo := 0) (hi := 7) rfl (by omega) (by omega)) (i_rng (lo := 0) (hi := 11) rfl (by omega) (by omega))) ?_
    rintro rv19 mv20 ⟨hq21_, gq22_, kq23_⟩
    have hq24_ := kq23_.nil
    subst hq24_
    refine T_qc (t_X12_at hn a1 a2 mv13 gq15_ (i_rng (lo := 0) (hi := 7) rfl (by omega) (by omega)) (i_rng (lo := 0) (hi := 11) rfl (by omega) (by omega))) ?_
    rintro rv25 mv26 ⟨hq27_, hq28_, gq29_, kq30_⟩
    have hq31_ := kq30_.nil
    subst hq31_
    refine T_eq l_0 l_0 (fun hq32_ => ?_) (fun hq32_ => ?_)
    · unfold f_X12_triesNow_84
      refine T_qg (i_add l_0 rfl (by omega) (by omega)) (by omega) (by omega) ?_
      have hq35_ := i_full (mv13 78 (((0 : Int32) + rv25).toNatClampNeg))
      refine T_qc (t_X12_min hn (999 : Int32) ((mv13 78 (((0 : Int32) + rv25).toNatClampNeg)) + (1 : Int32)) mv13 gq15_ (i_rng (lo := (-2147483648)) (hi := 1000000000) l_999 (by omega) (by omega))) ?_
      rintro rv33 mv34 ⟨hq36_, gq37_, kq38_⟩
      have hq39_ := kq38_.nil
      subst hq39_
      refine T_qg (i_add l_0 rfl (by omega) (by omega)) (by omega) (by omega) ?_
      refine T_mu gq15_ kq17_ (ro78 (by decide) (by rw [tnc, (i_add l_0 rfl (by omega) (by omega))]; omega)) (nw_78 _) (i := 0) rfl ⟨by decide, by decide, Or.inr ⟨(show 0 ≤ _ by rw [tnc, (i_add l_0 rfl (by omega) (by omega))]; omega), (show _ < 288 by rw [tnc, (i_add l_0 rfl (by omega) (by omega))]; omega)⟩⟩ ?_
      intro mv40 hq41_ gq42_ kq43_
      have hq44_ : (mv40 78 (((0 : Int32) + rv25).toNatClampNeg)).toInt = rv33.toInt := by rw [hq41_, mu_at]
      refine T_qg (i_add l_96 rfl (by omega) (by omega)) (by omega) (by omega) ?_
      refine T_mu gq42_ kq43_ (ro78 (by decide) (by rw [tnc, (i_add l_96 rfl (by omega) (by omega))]; omega)) (nw_78 _) (i := 0) rfl ⟨by decide, by decide, Or.inr ⟨(show 0 ≤ _ by rw [tnc, (i_add l_96 rfl (by omega) (by omega))]; omega), (show _ < 288 by rw [tnc, (i_add l_96 rfl (by omega) (by omega))]; omega)⟩⟩ ?_
      intro mv45 hq46_ gq47_ kq48_
      have hq49_ : (mv45 78 (((96 : Int32) + rv25).toNatClampNeg)).toInt = (mv40 78 313).toInt := by rw [hq46_, mu_at]
      refine T_eq l_0 l_0 (fun hq50_ => ?_) (fun hq50_ => ?_)
      · exact T_ret ⟨(i_rng (lo := (-2)) (hi := 1) l_0 (by omega) (by omega)), gq47_, kq48_⟩
      · exfalso; omega
    · exfalso; omega
  · unfold f_X12_triesNow_27
    refine T_qc (t_X12_hasNeeds hn a1 a2 mv13 gq15_ (i_rng (lo := 0) (hi := 7) rfl (by omega) (by omega)) (i_rng (lo := 0) (hi := 11) rfl (by omega) (by omega))) ?_
    rintro rv51 mv52 ⟨hq53_, gq54_, kq55_⟩
    have hq56_ := kq55_.nil
    subst hq56_
    refine T_qc (t_X12_at hn a1 a2 mv13 gq15_ (i_rng (lo := 0) (hi := 7) rfl (by omega) (by omega)) (i_rng (lo := 0) (hi := 11) rfl (by omega) (by omega))) ?_
    rintro rv57 mv58 ⟨hq59_, hq60_, gq61_, kq62_⟩
    have hq63_ := kq62_.nil
    subst hq63_
    refine T_eq l_1 l_0 (fun hq64_ => ?_) (fun hq64_ => ?_)
    · exfalso; omega
    · refine T_eq rfl l_0 (fun hq65_ => ?_) (fun hq65_ => ?_)
      · unfold f_X12_triesNow_84
        refine T_qg (i_add l_0 rfl (by omega) (by omega)) (by omega) (by omega) ?_
        have hq68_ := i_full (mv13 78 (((0 : Int32) + rv57).toNatClampNeg))
        refine T_qc (t_X12_min hn (999 : Int32) ((mv13 78 (((0 : Int32) + rv57).toNatClampNeg)) + (1 : Int32)) mv13 gq15_ (i_rng (lo := (-2147483648)) (hi := 1000000000) l_999 (by omega) (by omega))) ?_
        rintro rv66 mv67 ⟨hq69_, gq70_, kq71_⟩
        have hq72_ := kq71_.nil
        subst hq72_
        refine T_qg (i_add l_0 rfl (by omega) (by omega)) (by omega) (by omega) ?_
        refine T_mu gq15_ kq17_ (ro78 (by decide) (by rw [tnc, (i_add l_0 rfl (by omega) (by omega))]; omega)) (nw_78 _) (i := 0) rfl ⟨by decide, by decide, Or.inr ⟨(show 0 ≤ _ by rw [tnc, (i_add l_0 rfl (by omega) (by omega))]; omega), (show _ < 288 by rw [tnc, (i_add l_0 rfl (by omega) (by omega))]; omega)⟩⟩ ?_
        intro mv73 hq74_ gq75_ kq76_
        have hq77_ : (mv73 78 (((0 : Int32) + rv57).toNatClampNeg)).toInt = rv66.toInt := by rw [hq74_, mu_at]
        refine T_qg (i_add l_96 rfl (by omega) (by omega)) (by omega) (by omega) ?_
        refine T_mu gq75_ kq76_ (ro78 (by decide) (by rw [tnc, (i_add l_96 rfl (by omega) (by omega))]; omega)) (nw_78 _) (i := 0) rfl ⟨by decide, by decide, Or.inr ⟨(show 0 ≤ _ by rw [tnc, (i_add l_96 rfl (by omega) (by omega))]; omega), (show _ < 288 by rw [tnc, (i_add l_96 rfl (by omega) (by omega))]; omega)⟩⟩ ?_
        intro mv78 hq79_ gq80_ kq81_
        have hq82_ : (mv78 78 (((96 : Int32) + rv57).toNatClampNeg)).toInt = (mv73 78 313).toInt := by rw [hq79_, mu_at]
        refine T_eq l_1 l_0 (fun hq83_ => ?_) (fun hq83_ => ?_)
        · exfalso; omega
        · refine T_eq rfl l_0 (fun hq84_ => ?_) (fun hq84_ => ?_)
          · exact T_ret ⟨(i_rng (lo := (-2)) (hi := 1) l_m2 (by omega) (by omega)), gq80_, kq81_⟩
          · exfalso; omega
      · refine T_qg (i_add l_192 rfl (by omega) (by omega)) (by omega) (by omega) ?_
        have hq87_ := i_full (mv13 78 (((192 : Int32) + rv57).toNatClampNeg))
        refine T_qc (t_X12_min hn (999 : Int32) ((mv13 78 (((192 : Int32) + rv57).toNatClampNeg)) + (1 : Int32)) mv13 gq15_ (i_rng (lo := (-2147483648)) (hi := 1000000000) l_999 (by omega) (by omega))) ?_
        rintro rv85 mv86 ⟨hq88_, gq89_, kq90_⟩
        have hq91_ := kq90_.nil
        subst hq91_
        refine T_qg (i_add l_192 rfl (by omega) (by omega)) (by omega) (by omega) ?_
        refine T_mu gq15_ kq17_ (ro78 (by decide) (by rw [tnc, (i_add l_192 rfl (by omega) (by omega))]; omega)) (nw_78 _) (i := 0) rfl ⟨by decide, by decide, Or.inr ⟨(show 0 ≤ _ by rw [tnc, (i_add l_192 rfl (by omega) (by omega))]; omega), (show _ < 288 by rw [tnc, (i_add l_192 rfl (by omega) (by omega))]; omega)⟩⟩ ?_
        intro mv92 hq93_ gq94_ kq95_
        have hq96_ : (mv92 78 (((192 : Int32) + rv57).toNatClampNeg)).toInt = rv85.toInt := by rw [hq93_, mu_at]
        unfold f_X12_triesNow_84
        refine T_qg (i_add l_0 rfl (by omega) (by omega)) (by omega) (by omega) ?_
        have hq99_ := i_full (mv92 78 (((0 : Int32) + rv57).toNatClampNeg))
        refine T_qc (t_X12_min hn (999 : Int32) ((mv92 78 (((0 : Int32) + rv57).toNatClampNeg)) + (1 : Int32)) mv92 gq94_ (i_rng (lo := (-2147483648)) (hi := 1000000000) l_999 (by omega) (by omega))) ?_
        rintro rv97 mv98 ⟨hq100_, gq101_, kq102_⟩
        have hq103_ := kq102_.nil
        subst hq103_
        refine T_qg (i_add l_0 rfl (by omega) (by omega)) (by omega) (by omega) ?_
        refine T_mu gq94_ kq95_ (ro78 (by decide) (by rw [tnc, (i_add l_0 rfl (by omega) (by omega))]; omega)) (nw_78 _) (i := 0) rfl ⟨by decide, by decide, Or.inr ⟨(show 0 ≤ _ by rw [tnc, (i_add l_0 rfl (by omega) (by omega))]; omega), (show _ < 288 by rw [tnc, (i_add l_0 rfl (by omega) (by omega))]; omega)⟩⟩ ?_
        intro mv104 hq105_ gq106_ kq107_
        have hq108_ : (mv104 78 (((0 : Int32) + rv57).toNatClampNeg)).toInt = rv97.toInt := by rw [hq105_, mu_at]
        refine T_qg (i_add l_96 rfl (by omega) (by omega)) (by omega) (by omega) ?_
        refine T_mu gq106_ kq107_ (ro78 (by decide) (by rw [tnc, (i_add l_96 rfl (by omega) (by omega))]; omega)) (nw_78 _) (i := 0) rfl ⟨by decide, by decide, Or.inr ⟨(show 0 ≤ _ by rw [tnc, (i_add l_96 rfl (by omega) (by omega))]; omega), (show _ < 288 by rw [tnc, (i_add l_96 rfl (by omega) (by omega))]; omega)⟩⟩ ?_
        intro mv109 hq110_ gq111_ kq112_
        have hq113_ : (mv109 78 (((96 : Int32) + rv57).toNatClampNeg)).toInt = (mv104 78 313).toInt := by rw [hq110_, mu_at]
        refine T_eq l_1 l_0 (fun hq114_ => ?_) (fun hq114_ => ?_)
        · exfalso; omega
        · refine T_eq rfl l_0 (fun hq115_ => ?_) (fun hq115_ => ?_)
          · exfalso; omega
          · exact T_ret ⟨(i_rng (lo := (-2)) (hi := 1) l_1 (by omega) (by omega)), gq111_, kq112_⟩
abbrev l_X12_tries : List Bx := [(78, 79, 0, 288), (96, 98, 0, 0)]
abbrev po_X12_tries (a1 a2 a3 : Int32) (M : qM) (v : Int32) (M' : qM) : Prop := ((-2) ≤ v.toInt ∧ v.toInt ≤ 1) ∧ G M' ∧ Sm l_X12_tries M M'
theorem t_X12_tries {n : Nat} (hn : 200000 ≤ n) (a1 a2 a3 : Int32) (M : qM) (hG : G M) : qT (f_X12_tries n a1 a2 a3 M) (po_X12_tries a1 a2 a3 M) := by
  have hS : Sm l_X12_tries M M := Sm.rf
  unfold f_X12_tries
  refine T_qc (t_X12_isPerson hn a1 M hG ) ?_
  rintro rv1 mv2 ⟨hq3_, hq4_, gq5_, kq6_⟩
  have hq7_ := kq6_.nil
  subst hq7_
  refine T_eq rfl l_0 (fun hq8_ => ?_) (fun hq8_ => ?_)
  · exact T_ret ⟨(i_rng (lo := (-2)) (hi := 1) l_m1 (by omega) (by omega)), hG, hS⟩
  · refine T_qc (t_X12_isKind hn a2 M hG ) ?_
    rintro rv9 mv10 ⟨hq11_, hq12_, gq13_, kq14_⟩
    have hq15_ := kq14_.nil
    subst hq15_
    refine T_eq rfl l_0 (fun hq16_ => ?_) (fun hq16_ => ?_)
    · exact T_ret ⟨(i_rng (lo := (-2)) (hi := 1) l_m1 (by omega) (by omega)), hG, hS⟩
    · refine T_eq rfl l_m1 (fun hq17_ => ?_) (fun hq17_ => ?_)
      · unfold f_X12_tries_36
        refine T_eq rfl l_m1 (fun hq18_ => ?_) (fun hq18_ => ?_)
        · unfold f_X12_tries_50
          refine T_qc (t_X12_triesNow hn a1 a2 (8 : Int32) M hG (i_rng (lo := 0) (hi := 7) rfl (by omega) (by omega)) (i_rng (lo := 0) (hi := 11) rfl (by omega) (by omega)) (i_rng (lo := 0) (hi := 8) l_8 (by omega) (by omega))) ?_
          rintro rv19 mv20 ⟨hq21_, gq22_, kq23_⟩
          have kq24_ := Sm.call hS kq23_ rfl
          exact T_ret ⟨(i_rng (lo := (-2)) (hi := 1) rfl (by omega) (by omega)), gq22_, kq24_⟩
        · exfalso; omega
      · refine T_qc (t_X12_isPerson hn a3 M hG ) ?_
        rintro rv25 mv26 ⟨hq27_, hq28_, gq29_, kq30_⟩
        have hq31_ := kq30_.nil
        subst hq31_
        refine T_eq rfl l_0 (fun hq32_ => ?_) (fun hq32_ => ?_)
        · exact T_ret ⟨(i_rng (lo := (-2)) (hi := 1) l_m1 (by omega) (by omega)), hG, hS⟩
        · refine T_eq rfl rfl (fun hq33_ => ?_) (fun hq33_ => ?_)
          · exact T_ret ⟨(i_rng (lo := (-2)) (hi := 1) l_m1 (by omega) (by omega)), hG, hS⟩
          · unfold f_X12_tries_36
            refine T_eq rfl l_m1 (fun hq34_ => ?_) (fun hq34_ => ?_)
            · exfalso; omega
            · unfold f_X12_tries_50
              refine T_qc (t_X12_triesNow hn a1 a2 a3 M hG (i_rng (lo := 0) (hi := 7) rfl (by omega) (by omega)) (i_rng (lo := 0) (hi := 11) rfl (by omega) (by omega)) (i_rng (lo := 0) (hi := 8) rfl (by omega) (by omega))) ?_
              rintro rv35 mv36 ⟨hq37_, gq38_, kq39_⟩
              have kq40_ := Sm.call hS kq39_ rfl
              exact T_ret ⟨(i_rng (lo := (-2)) (hi := 1) rfl (by omega) (by omega)), gq38_, kq40_⟩
abbrev l_X11_canDeal : List Bx := []
abbrev po_X11_canDeal (a1 a2 a3 : Int32) (M : qM) (v : Int32) (M' : qM) : Prop := (0 ≤ v.toInt ∧ v.toInt ≤ 1) ∧ (v.toInt = 0 ∨ (0 ≤ a1.toInt ∧ a1.toInt ≤ 7 ∧ 0 ≤ a2.toInt ∧ a2.toInt ≤ 11 ∧ 0 ≤ a3.toInt ∧ a3.toInt ≤ 7)) ∧ G M' ∧ Sm l_X11_canDeal M M'
theorem t_X11_canDeal {n : Nat} (hn : 200000 ≤ n) (a1 a2 a3 : Int32) (M : qM) (hG : G M) : qT (f_X11_canDeal n a1 a2 a3 M) (po_X11_canDeal a1 a2 a3 M) := by
  have hS : Sm l_X11_canDeal M M := Sm.rf
  unfold f_X11_canDeal
  refine T_qc (t_X10_knows_c7 hn a1 M hG ) ?_
  rintro rv1 mv2 ⟨hq3_, hq4_, gq5_, kq6_⟩
  have hq7_ := kq6_.nil
  subst hq7_
  refine T_eq rfl l_0 (fun hq8_ => ?_) (fun hq8_ => ?_)
  · exact T_ret ⟨(i_rng (lo := 0) (hi := 1) l_0 (by omega) (by omega)), (by have e9 : ((0 : Int32)).toInt = _ := l_0; omega), hG, hS⟩
  · refine T_qc (t_X2_knows hn a2 M hG ) ?_
    rintro rv9 mv10 ⟨hq11_, hq12_, gq13_, kq14_⟩
    have hq15_ := kq14_.nil
    subst hq15_
    refine T_eq rfl l_0 (fun hq16_ => ?_) (fun hq16_ => ?_)
    · exact T_ret ⟨(i_rng (lo := 0) (hi := 1) l_0 (by omega) (by omega)), (by have e9 : ((0 : Int32)).toInt = _ := l_0; omega), hG, hS⟩
    · refine T_qc (t_X10_knows_c7 hn a3 M hG ) ?_
      rintro rv17 mv18 ⟨hq19_, hq20_, gq21_, kq22_⟩
      have hq23_ := kq22_.nil
      subst hq23_
      refine T_eq rfl l_0 (fun hq24_ => ?_) (fun hq24_ => ?_)
      · exact T_ret ⟨(i_rng (lo := 0) (hi := 1) l_0 (by omega) (by omega)), (by have e9 : ((0 : Int32)).toInt = _ := l_0; omega), hG, hS⟩
      · refine T_eq rfl rfl (fun hq25_ => ?_) (fun hq25_ => ?_)
        · exact T_ret ⟨(i_rng (lo := 0) (hi := 1) l_0 (by omega) (by omega)), (by have e9 : ((0 : Int32)).toInt = _ := l_0; omega), hG, hS⟩
        · exact T_ret ⟨(i_rng (lo := 0) (hi := 1) l_1 (by omega) (by omega)), (by have e9 : ((1 : Int32)).toInt = _ := l_1; omega), hG, hS⟩
abbrev l_X0_price_c7 : List Bx := [(34, 35, 4, 5), (35, 37, 0, 0)]
abbrev po_X0_price_c7 (a2 a3 a4 : Int32) (M : qM) (v : Int32) (M' : qM) : Prop := (0 ≤ v.toInt ∧ v.toInt ≤ 999) ∧ G M' ∧ Sm l_X0_price_c7 M M'
theorem t_X0_price_c7 {n : Nat} (hn : 200000 ≤ n) {j : Nat} (hj : q_isLaw j) (a2 a3 a4 : Int32) (M : qM) (hG : G M) (pa2 : 0 ≤ a2.toInt ∧ a2.toInt ≤ 7) (pa3 : 0 ≤ a3.toInt ∧ a3.toInt ≤ 11) (pa4 : 0 ≤ a4.toInt ∧ a4.toInt ≤ 7) : qT (f_X0_price n 7 j a2 a3 a4 M) (po_X0_price_c7 a2 a3 a4 M) := by
  have hS : Sm l_X0_price_c7 M M := Sm.rf
  unfold f_X0_price
  try simp only [Nat.reduceAdd]
  refine T_qc (t_X0_tellAll_c7 hn a2 a3 a4 M hG (i_rng (lo := 0) (hi := 7) rfl (by omega) (by omega)) (i_rng (lo := 0) (hi := 11) rfl (by omega) (by omega)) (i_rng (lo := 0) (hi := 8) rfl (by omega) (by omega))) ?_
  rintro rv1 mv2 ⟨hq3_, gq4_, kq5_⟩
  have kq6_ := Sm.call hS kq5_ rfl
  refine T_qc (t_X1_amount hn hj (99 : Int32) (999 : Int32) (0 : Int32) mv2 gq4_ (i_rng (lo := 99) (hi := 118) l_99 (by omega) (by omega)) (i_rng (lo := 99) (hi := 999) l_999 (by omega) (by omega)) (i_rng (lo := 0) (hi := 1) l_0 (by omega) (by omega))) ?_
  rintro rv7 mv8 ⟨hq9_, gq10_, kq11_⟩
  have kq12_ := Sm.call kq6_ kq11_ rfl
  exact T_ret ⟨(i_rng (lo := 0) (hi := 999) rfl (by omega) (by omega)), gq10_, kq12_⟩
abbrev l_X0_buyGo_c7 : List Bx := [(8, 11, 0, 0), (34, 35, 4, 5), (35, 37, 0, 0)]
abbrev po_X0_buyGo_c7 (a2 a3 a4 : Int32) (M : qM) (v : Int32) (M' : qM) : Prop := ((-3) ≤ v.toInt ∧ v.toInt ≤ 999) ∧ G M' ∧ Sm l_X0_buyGo_c7 M M'
theorem t_X0_buyGo_c7 {n : Nat} (hn : 200000 ≤ n) {j : Nat} (hj : q_isLaw j) (a2 a3 a4 : Int32) (M : qM) (hG : G M) (pa2 : 0 ≤ a2.toInt ∧ a2.toInt ≤ 7) (pa3 : 0 ≤ a3.toInt ∧ a3.toInt ≤ 11) (pa4 : 0 ≤ a4.toInt ∧ a4.toInt ≤ 7) : qT (f_X0_buyGo n 7 j a2 a3 a4 M) (po_X0_buyGo_c7 a2 a3 a4 M) := by
  have hS : Sm l_X0_buyGo_c7 M M := Sm.rf
  unfold f_X0_buyGo
  try simp only [Nat.reduceAdd]
  refine T_qg (i_add (i_mul rfl l_12 (by omega) (by omega)) rfl (by omega) (by omega)) (by omega) (by omega) ?_
  refine T_eq rfl l_0 (fun hq1_ => ?_) (fun hq1_ => ?_)
  · exact T_ret ⟨(i_rng (lo := (-3)) (hi := 999) l_m3 (by omega) (by omega)), hG, hS⟩
  · refine T_qc (t_X0_price_c7 hn hj a2 a3 a4 M hG (i_rng (lo := 0) (hi := 7) rfl (by omega) (by omega)) (i_rng (lo := 0) (hi := 11) rfl (by omega) (by omega)) (i_rng (lo := 0) (hi := 7) rfl (by omega) (by omega))) ?_
    rintro rv2 mv3 ⟨hq4_, gq5_, kq6_⟩
    have kq7_ := Sm.call hS kq6_ rfl
    have hq8_ : (mv3 9 (((a4 * (12 : Int32)) + a3).toNatClampNeg)).toInt = (M 9 (((a4 * (12 : Int32)) + a3).toNatClampNeg)).toInt := by rw [kq6_ 9 _ (outc rfl)]
    refine T_qg rfl (by omega) (by omega) ?_
    refine T_le rfl rfl (fun hq9_ => ?_) (fun hq9_ => ?_)
    · refine T_qg rfl (by omega) (by omega) ?_
      refine T_qg rfl (by omega) (by omega) ?_
      have hq11_ := i_full (mv3 8 a2.toNatClampNeg)
      refine T_mu gq5_ kq7_ (rn_8 _ _) (nw_8 _) (i := 0) rfl ⟨by decide, by decide, Or.inl rfl⟩ ?_
      intro mv10 hq12_ gq13_ kq14_
      have hq15_ : (mv10 9 (((a4 * (12 : Int32)) + a3).toNatClampNeg)).toInt = (mv3 9 (((a4 * (12 : Int32)) + a3).toNatClampNeg)).toInt := by rw [hq12_, mu_ne (Or.inl (by decide))]
      have hq16_ : (mv10 8 a2.toNatClampNeg).toInt = ((mv3 8 a2.toNatClampNeg).toInt - rv2.toInt) := by rw [hq12_, mu_at]; exact (i_sub rfl rfl (by omega) (by omega))
      refine T_qg rfl (by omega) (by omega) ?_
      refine T_qg rfl (by omega) (by omega) ?_
      have hq18_ := i_full (mv10 8 a4.toNatClampNeg)
      have hq19_ := i_min (a := (99999 : Int32)) (b := (mv10 8 a4.toNatClampNeg) + rv2) l_99999 rfl
      refine T_mu gq13_ kq14_ (rn_8 _ _) (nw_8 _) (i := 0) rfl ⟨by decide, by decide, Or.inl rfl⟩ ?_
      intro mv17 hq20_ gq21_ kq22_
      have hq23_ : (mv17 9 (((a4 * (12 : Int32)) + a3).toNatClampNeg)).toInt = (mv10 9 (((a4 * (12 : Int32)) + a3).toNatClampNeg)).toInt := by rw [hq20_, mu_ne (Or.inl (by decide))]
      have hq24_ : (mv17 8 a4.toNatClampNeg).toInt = (qmin (99999 : Int32) ((mv10 8 a4.toNatClampNeg) + rv2)).toInt := by rw [hq20_, mu_at]
      refine T_ql (i_add (i_mul rfl l_12 (by omega) (by omega)) rfl (by omega) (by omega)) ?_
      intro xv25 hq26_
      refine T_qg rfl (by omega) (by omega) ?_
      refine T_qg rfl (by omega) (by omega) ?_
      have hq28_ := i_full (mv17 9 xv25.toNatClampNeg)
      refine T_mu gq21_ kq22_ (rn_9 _ _) (nw_9 _) (i := 0) rfl ⟨by decide, by decide, Or.inl rfl⟩ ?_
      intro mv27 hq29_ gq30_ kq31_
      have hq32_ : (mv27 8 a4.toNatClampNeg).toInt = (mv17 8 a4.toNatClampNeg).toInt := by rw [hq29_, mu_ne (Or.inl (by decide))]
      have hq33_ : (mv27 9 xv25.toNatClampNeg).toInt = ((mv17 9 xv25.toNatClampNeg) - (1 : Int32)).toInt := by rw [hq29_, mu_at]
      refine T_qc (t_X10_addTry_c7 hn a2 a3 mv27 gq30_ (i_rng (lo := 0) (hi := 7) rfl (by omega) (by omega)) (i_rng (lo := 0) (hi := 11) rfl (by omega) (by omega))) ?_
      rintro rv34 mv35 ⟨hq36_, gq37_, kq38_⟩
      have kq39_ := Sm.call kq31_ kq38_ rfl
      have hq40_ : (mv35 8 a4.toNatClampNeg).toInt = (mv27 8 a4.toNatClampNeg).toInt := by rw [kq38_ 8 _ (outc rfl)]
      exact T_ret ⟨(i_rng (lo := (-3)) (hi := 999) rfl (by omega) (by omega)), gq37_, kq39_⟩
    · exact T_ret ⟨(i_rng (lo := (-3)) (hi := 999) l_m2 (by omega) (by omega)), gq5_, kq7_⟩
abbrev l_X11_buys : List Bx := [(8, 11, 0, 0), (34, 35, 4, 5), (35, 37, 0, 0)]
abbrev po_X11_buys (a1 a2 a3 : Int32) (M : qM) (v : Int32) (M' : qM) : Prop := ((-3) ≤ v.toInt ∧ v.toInt ≤ 999) ∧ G M' ∧ Sm l_X11_buys M M'
theorem t_X11_buys {n : Nat} (hn : 200000 ≤ n) {j : Nat} (hj : q_isLaw j) (a1 a2 a3 : Int32) (M : qM) (hG : G M) : qT (f_X11_buys n j a1 a2 a3 M) (po_X11_buys a1 a2 a3 M) := by
  have hS : Sm l_X11_buys M M := Sm.rf
  unfold f_X11_buys
  refine T_qc (t_X11_canDeal hn a1 a2 a3 M hG ) ?_
  rintro rv1 mv2 ⟨hq3_, hq4_, gq5_, kq6_⟩
  have hq7_ := kq6_.nil
  subst hq7_
  refine T_eq rfl l_0 (fun hq8_ => ?_) (fun hq8_ => ?_)
  · exact T_ret ⟨(i_rng (lo := (-3)) (hi := 999) l_m1 (by omega) (by omega)), hG, hS⟩
  · refine T_qc (t_X0_buyGo_c7 hn hj a1 a2 a3 M hG (i_rng (lo := 0) (hi := 7) rfl (by omega) (by omega)) (i_rng (lo := 0) (hi := 11) rfl (by omega) (by omega)) (i_rng (lo := 0) (hi := 7) rfl (by omega) (by omega))) ?_
    rintro rv9 mv10 ⟨hq11_, gq12_, kq13_⟩
    have kq14_ := Sm.call hS kq13_ rfl
    exact T_ret ⟨(i_rng (lo := (-3)) (hi := 999) rfl (by omega) (by omega)), gq12_, kq14_⟩
abbrev l_X12_costOf : List Bx := [(96, 98, 0, 0)]
abbrev po_X12_costOf (a1 a2 a3 : Int32) (M : qM) (v : Int32) (M' : qM) : Prop := (0 ≤ v.toInt ∧ v.toInt ≤ 999) ∧ G M' ∧ Sm l_X12_costOf M M'
theorem t_X12_costOf {n : Nat} (hn : 200000 ≤ n) (a1 a2 a3 : Int32) (M : qM) (hG : G M) (pa1 : 0 ≤ a1.toInt ∧ a1.toInt ≤ 7) (pa2 : 0 ≤ a2.toInt ∧ a2.toInt ≤ 11) (pa3 : 0 ≤ a3.toInt ∧ a3.toInt ≤ 7) : qT (f_X12_costOf n a1 a2 a3 M) (po_X12_costOf a1 a2 a3 M) := by
  have hS : Sm l_X12_costOf M M := Sm.rf
  unfold f_X12_costOf
  refine T_qc (t_X12_feels hn a1 a2 a3 M hG (i_rng (lo := 0) (hi := 7) rfl (by omega) (by omega)) (i_rng (lo := 0) (hi := 11) rfl (by omega) (by omega)) (i_rng (lo := 0) (hi := 8) rfl (by omega) (by omega))) ?_
  rintro rv1 mv2 ⟨hq3_, gq4_, kq5_⟩
  have kq6_ := Sm.call hS kq5_ rfl
  refine T_qc (t_X12_byLaw hn (99 : Int32) (999 : Int32) (0 : Int32) mv2 gq4_ (i_rng (lo := 99) (hi := 118) l_99 (by omega) (by omega)) (i_rng (lo := 99) (hi := 999) l_999 (by omega) (by omega)) (i_rng (lo := 0) (hi := 1) l_0 (by omega) (by omega))) ?_
  rintro rv7 mv8 ⟨hq9_, gq10_, kq11_⟩
  have kq12_ := Sm.call kq6_ kq11_ rfl
  exact T_ret ⟨(i_rng (lo := 0) (hi := 999) rfl (by omega) (by omega)), gq10_, kq12_⟩

