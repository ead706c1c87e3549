abbrev l_X10_takePlan_c7 : List Bx := [(12, 16, 0, 0)]
abbrev po_X10_takePlan_c7 (a1 : Int32) (M : qM) (v : Int32) (M' : qM) : Prop := (0 ≤ v.toInt ∧ v.toInt ≤ 0) ∧ G M' ∧ Sm l_X10_takePlan_c7 M M'
theorem t_X10_takePlan_c7 {n : Nat} (hn : 200000 ≤ n) (a1 : Int32) (M : qM) (hG : G M) (pa1 : 0 ≤ a1.toInt ∧ a1.toInt ≤ 7) : qT (f_X10_takePlan n 7 a1 M) (po_X10_takePlan_c7 a1 M) := by
  have hS : Sm l_X10_takePlan_c7 M M := Sm.rf
  unfold f_X10_takePlan
  try simp only [Nat.reduceAdd]
  refine T_qcp l_0 (i_mul rfl l_40 (by omega) (by omega)) l_40 (by omega) (by omega) (by omega) (by omega) (by omega) ?_
  refine T_mr hG hS (fun s => rn_12 s _) nw_12 (i := 0) rfl (fun s => ⟨by decide, by decide, Or.inl rfl⟩) ?_
  intro mv1 hq2_ gq3_ kq4_
  refine T_qcp l_0 (i_mul rfl l_40 (by omega) (by omega)) l_40 (by omega) (by omega) (by omega) (by omega) (by omega) ?_
  refine T_mr gq3_ kq4_ (fun s => rn_13 s _) nw_13 (i := 0) rfl (fun s => ⟨by decide, by decide, Or.inl rfl⟩) ?_
  intro mv5 hq6_ gq7_ kq8_
  refine T_qg rfl (by omega) (by omega) ?_
  have hq10_ := r_53_3 gq7_
  refine T_mu gq7_ kq8_ (i_rng (lo := 0) (hi := 40) rfl (by omega) (by omega)) (nw_14 _) (i := 0) rfl ⟨by decide, by decide, Or.inl rfl⟩ ?_
  intro mv9 hq11_ gq12_ kq13_
  have hq14_ : (mv9 14 a1.toNatClampNeg).toInt = (mv5 53 3).toInt := by rw [hq11_, mu_at]
  refine T_qg rfl (by omega) (by omega) ?_
  refine T_mu gq12_ kq13_ (i_rng (lo := 0) (hi := 40) l_0 (by omega) (by omega)) (nw_15 _) (i := 0) rfl ⟨by decide, by decide, Or.inl rfl⟩ ?_
  intro mv15 hq16_ gq17_ kq18_
  have hq19_ : (mv15 14 a1.toNatClampNeg).toInt = (mv9 14 a1.toNatClampNeg).toInt := by rw [hq16_, mu_ne (Or.inl (by decide))]
  have hq20_ : (mv15 15 a1.toNatClampNeg).toInt = 0 := by rw [hq16_, mu_at]; exact l_0
  exact T_ret ⟨(i_rng (lo := 0) (hi := 0) l_0 (by omega) (by omega)), gq17_, kq18_⟩
abbrev l_X11_plan : List Bx := [(1, 2, 1, 5), (12, 16, 0, 0), (53, 54, 3, 4), (54, 56, 0, 0)]
abbrev po_X11_plan (a1 a2 : Int32) (M : qM) (v : Int32) (M' : qM) : Prop := (((0 ≤ a1.toInt ∧ a1.toInt ≤ 7 ∧ (((M 7 8) >>> (a1 &&& 31)) &&& (1 : Int32)).toInt = 1 ∧ 1 ≤ a2.toInt ∧ a2.toInt ≤ 80 ∧ a2.toInt ≤ (M 1 1).toInt) ∧ (M' 1 1).toInt = 0) ∨ (¬ (0 ≤ a1.toInt ∧ a1.toInt ≤ 7 ∧ (((M 7 8) >>> (a1 &&& 31)) &&& (1 : Int32)).toInt = 1 ∧ 1 ≤ a2.toInt ∧ a2.toInt ≤ 80 ∧ a2.toInt ≤ (M 1 1).toInt) ∧ (M' 1 1).toInt = (M 1 1).toInt)) ∧ G M' ∧ Sm l_X11_plan M M'
theorem t_X11_plan {n : Nat} (hn : 200000 ≤ n) (a1 a2 : Int32) (M : qM) (hG : G M) : qT (f_X11_plan n a1 a2 M) (po_X11_plan a1 a2 M) := by
  have hS : Sm l_X11_plan M M := Sm.rf
  unfold f_X11_plan
  have hq1_ := r_1_1 hG
  refine T_qc (t_X10_knows_c7 hn a1 M hG ) ?_
  rintro rv2 mv3 ⟨hq4_, hq5_, gq6_, kq7_⟩
  have hq8_ := kq7_.nil
  subst hq8_
  refine T_eq rfl l_0 (fun hq9_ => ?_) (fun hq9_ => ?_)
  · exact T_ret ⟨(by have e9 : ((-1 : Int32)).toInt = _ := l_m1; omega), hG, hS⟩
  · refine T_lt rfl l_1 (fun hq10_ => ?_) (fun hq10_ => ?_)
    · exact T_ret ⟨(by have e9 : ((-1 : Int32)).toInt = _ := l_m1; omega), hG, hS⟩
    · refine T_lt l_80 rfl (fun hq11_ => ?_) (fun hq11_ => ?_)
      · exact T_ret ⟨(by have e9 : ((-1 : Int32)).toInt = _ := l_m1; omega), hG, hS⟩
      · refine T_le rfl rfl (fun hq12_ => ?_) (fun hq12_ => ?_)
        · refine T_qc (t_X6_read hn a2 M hG (i_rng (lo := 1) (hi := 80) rfl (by omega) (by omega))) ?_
          rintro rv13 mv14 ⟨gq15_, kq16_⟩
          have kq17_ := Sm.call hS kq16_ rfl
          have hq18_ : (mv14 1 1).toInt = (M 1 1).toInt := by rw [kq16_ 1 1 (by decide)]
          refine T_qc (t_X9_clear hn  mv14 gq15_ ) ?_
          rintro rv19 mv20 ⟨hq21_, hq22_, gq23_, kq24_⟩
          have kq25_ := Sm.call kq17_ kq24_ rfl
          have hq26_ := r_1_1 gq23_
          refine T_le rfl l_0 (fun hq27_ => ?_) (fun hq27_ => ?_)
          · exact T_ret ⟨(by have e9 : (rv13).toInt = _ := rfl; omega), gq23_, kq25_⟩
          · refine T_qc (t_X10_takePlan_c7 hn a1 mv20 gq23_ (i_rng (lo := 0) (hi := 7) rfl (by omega) (by omega))) ?_
            rintro rv28 mv29 ⟨hq30_, gq31_, kq32_⟩
            have kq33_ := Sm.call kq25_ kq32_ rfl
            have hq34_ : (mv29 1 1).toInt = (mv20 1 1).toInt := by rw [kq32_ 1 1 (by decide)]
            exact T_ret ⟨(by have e9 : (rv13).toInt = _ := rfl; omega), gq31_, kq33_⟩
        · exact T_ret ⟨(by have e9 : ((-1 : Int32)).toInt = _ := l_m1; omega), hG, hS⟩
abbrev l_X12_isPerson : List Bx := []
abbrev po_X12_isPerson (a1 : Int32) (M : qM) (v : Int32) (M' : qM) : Prop := (0 ≤ v.toInt ∧ v.toInt ≤ 1) ∧ ((v.toInt = 1 ∧ (0 ≤ a1.toInt ∧ a1.toInt ≤ 7 ∧ (((M 78 312) >>> (a1 &&& 31)) &&& (1 : Int32)).toInt = 1)) ∨ (v.toInt = 0 ∧ ¬ (0 ≤ a1.toInt ∧ a1.toInt ≤ 7 ∧ (((M 78 312) >>> (a1 &&& 31)) &&& (1 : Int32)).toInt = 1))) ∧ G M' ∧ Sm l_X12_isPerson M M'
theorem t_X12_isPerson {n : Nat} (hn : 200000 ≤ n) (a1 : Int32) (M : qM) (hG : G M) : qT (f_X12_isPerson n a1 M) (po_X12_isPerson a1 M) := by
  have hS : Sm l_X12_isPerson M M := Sm.rf
  unfold f_X12_isPerson
  refine T_lt rfl l_0 (fun hq1_ => ?_) (fun hq1_ => ?_)
  · exact T_ret ⟨(i_rng (lo := 0) (hi := 1) l_0 (by omega) (by omega)), (by have e9 : ((0 : Int32)).toInt = _ := l_0; omega), hG, hS⟩
  · refine T_le l_8 rfl (fun hq2_ => ?_) (fun hq2_ => ?_)
    · exact T_ret ⟨(i_rng (lo := 0) (hi := 1) l_0 (by omega) (by omega)), (by have e9 : ((0 : Int32)).toInt = _ := l_0; omega), hG, hS⟩
    · refine T_qc (t_X12_has0 hn (M 78 312) a1 M hG (i_rng (lo := 0) (hi := 11) rfl (by omega) (by omega))) ?_
      rintro rv3 mv4 ⟨hq5_, hq6_, gq7_, kq8_⟩
      have hq9_ := kq8_.nil
      subst hq9_
      refine T_eq rfl l_0 (fun hq10_ => ?_) (fun hq10_ => ?_)
      · exact T_ret ⟨(i_rng (lo := 0) (hi := 1) l_0 (by omega) (by omega)), (by have e9 : ((0 : Int32)).toInt = _ := l_0; omega), hG, hS⟩
      · exact T_ret ⟨(i_rng (lo := 0) (hi := 1) l_1 (by omega) (by omega)), (by have e9 : ((1 : Int32)).toInt = _ := l_1; omega), hG, hS⟩
abbrev l_X12_endsRound : List Bx := [(77, 78, 9, 10), (77, 78, 11, 12), (77, 78, 35, 37), (98, 100, 0, 0)]
abbrev po_X12_endsRound (M : qM) (v : Int32) (M' : qM) : Prop := (0 ≤ v.toInt ∧ v.toInt ≤ 1) ∧ ((M 77 9).toInt + 1 ≤ (M' 77 9).toInt) ∧ (v.toInt = 0 ∨ KR  M') ∧ G M' ∧ Sm l_X12_endsRound M M'
theorem t_X12_endsRound_108 {n : Nat} (hn : 200000 ≤ n) {M0 : qM} : ∀ (m : Nat) (a1 a2 a3 a4 : Int32) (M : qM), G M → Sm l_X12_endsRound M0 M → 2 ≤ a1.toInt ∧ a1.toInt ≤ 9 → 0 ≤ a2.toInt ∧ a2.toInt ≤ 40 → 0 ≤ a3.toInt ∧ a3.toInt ≤ 40 → 0 ≤ a4.toInt ∧ a4.toInt ≤ 40 → ((M0 77 9).toInt + 1 ≤ (M 77 9).toInt ∧ a2.toInt + (a3 * a1).toInt ≤ 40 ∧ a3.toInt ≤ a4.toInt ∧ a4.toInt ≤ (a3 * a1).toInt) → KRb (a2.toInt + a3.toInt) M → 41 - a4.toInt < (m : Int) → qT (f_X12_endsRound_108 n m a1 a2 a3 a4 M) (po_X12_endsRound  M0) := by
  intro m
  induction m with
  | zero =>
    intro a1 a2 a3 a4 M hG hS i0 i1 i2 i3 hE wKRb i8
    have hq1_ := r_77_9 hG
    exfalso; omega
  | succ m ih =>
    intro a1 a2 a3 a4 M hG hS i0 i1 i2 i3 hE wKRb i8
    show qT (b_X12_endsRound_108 n (f_X12_endsRound_108 n m) a1 a2 a3 a4 M) _
    unfold b_X12_endsRound_108
    have hq1_ := r_77_9 hG
    have hq2_ := i_mulk 9 (a := a3) (b := a1) rfl rfl (by omega) (by omega) (by omega) (by omega)
    refine T_le rfl rfl (fun hq3_ => ?_) (fun hq3_ => ?_)
    · refine T_mu hG hS (i_rng (lo := 0) (hi := 40) (i_add rfl rfl (by omega) (by omega)) (by omega) (by omega)) nw_77_35 (i := 2) rfl ⟨by decide, by decide, Or.inr ⟨by decide, by decide⟩⟩ ?_
      intro mv4 hq5_ gq6_ kq7_
      have hq8_ := (fun h_ => KRb_c (M := M) (M' := mv4) (by rw [hq5_, mu_ne (Or.inr (by decide))]) (by rw [hq5_, mu_nc (by decide)]) h_) wKRb
      have hq9_ : (mv4 77 9).toInt = (M 77 9).toInt := by rw [hq5_, mu_ne (Or.inr (by decide))]
      have hq10_ : (mv4 77 35).toInt = (a2.toInt + (a3 * a1).toInt) := by rw [hq5_, mu_at]; exact (i_add rfl rfl (by omega) (by omega))
      exact T_ret ⟨(i_rng (lo := 0) (hi := 1) l_1 (by omega) (by omega)), (by have e9 : ((1 : Int32)).toInt = _ := l_1; omega), (Or.inr (KR_of (M := mv4) hq8_ (by rfl) (by rfl) (by omega))), gq6_, kq7_⟩
    · refine T_qg (i_sub (i_add rfl rfl (by omega) (by omega)) rfl (by omega) (by omega)) (by omega) (by omega) ?_
      refine T_qg (i_add rfl rfl (by omega) (by omega)) (by omega) (by omega) ?_
      refine T_mu hG hS (rn_98 _ _) (nw_98 _) (i := 3) rfl ⟨by decide, by decide, Or.inl rfl⟩ ?_
      intro mv11 hq12_ gq13_ kq14_
      have hq15_ := (fun h_ => KRb_c (M := M) (M' := mv11) (by rw [hq12_, mu_ne (Or.inl (by decide))]) (by rw [hq12_, mu_nc (by decide)]) h_) wKRb
      have hq16_ : (mv11 77 9).toInt = (M 77 9).toInt := by rw [hq12_, mu_ne (Or.inl (by decide))]
      have hq17_ : (mv11 98 ((a2 + a4).toNatClampNeg)).toInt = (M 98 (((a2 + a4) - a3).toNatClampNeg)).toInt := by rw [hq12_, mu_at]
      refine T_qg (i_sub (i_add rfl rfl (by omega) (by omega)) rfl (by omega) (by omega)) (by omega) (by omega) ?_
      refine T_qg (i_add rfl rfl (by omega) (by omega)) (by omega) (by omega) ?_
      refine T_mu gq13_ kq14_ (rn_99 _ _) (nw_99 _) (i := 3) rfl ⟨by decide, by decide, Or.inl rfl⟩ ?_
      intro mv18 hq19_ gq20_ kq21_
      have hq22_ := (fun h_ => KRb_c (M := mv11) (M' := mv18) (by rw [hq19_, mu_ne (Or.inl (by decide))]) (by rw [hq19_, mu_nc (by decide)]) h_) hq15_
      have hq23_ : (mv18 77 9).toInt = (mv11 77 9).toInt := by rw [hq19_, mu_ne (Or.inl (by decide))]
      have hq24_ : (mv18 98 ((a2 + a4).toNatClampNeg)).toInt = (mv11 98 ((a2 + a4).toNatClampNeg)).toInt := by rw [hq19_, mu_ne (Or.inl (by decide))]
      have hq25_ : (mv18 99 ((a2 + a4).toNatClampNeg)).toInt = (mv11 99 (((a2 + a4) - a3).toNatClampNeg)).toInt := by rw [hq19_, mu_at]
      refine T_ql (i_add rfl l_1 (by omega) (by omega)) ?_
      intro xv26 hq27_
      have hq28_ := r_77_9 gq20_
      exact ih a1 a2 a3 xv26 mv18 gq20_ kq21_ (i_rng (lo := 2) (hi := 9) rfl (by omega) (by omega)) (i_rng (lo := 0) (hi := 40) rfl (by omega) (by omega)) (i_rng (lo := 0) (hi := 40) rfl (by omega) (by omega)) (i_rng (lo := 0) (hi := 40) rfl (by omega) (by omega)) (by omega) hq22_ (by omega)
theorem t_X12_endsRound {n : Nat} (hn : 200000 ≤ n) (M : qM) (hG : G M) (pe : (M 77 9).toInt < (M 77 10).toInt ∧ 1 ≤ (M 77 36).toInt) (wKR : KR  M) : qT (f_X12_endsRound n  M) (po_X12_endsRound  M) := by
  have hS : Sm l_X12_endsRound M M := Sm.rf
  unfold f_X12_endsRound
  have hq29_ := r_77_9 hG
  have hq30_ := r_77_10 hG
  have hq31_ := r_77_36 hG
  have hq32_ := r_77_35 hG
  refine T_mu hG hS (i_rng (lo := 0) (hi := 240) (i_add rfl l_1 (by omega) (by omega)) (by omega) (by omega)) nw_77_9 (i := 0) rfl ⟨by decide, by decide, Or.inr ⟨by decide, by decide⟩⟩ ?_
  intro mv33 hq34_ gq35_ kq36_
  have hq37_ := (fun h_ => KR_c (M := M) (M' := mv33) (by rw [hq34_, mu_ne (Or.inr (by decide))]) (by rw [hq34_, mu_ne (Or.inr (by decide))]) (by rw [hq34_, mu_nc (by decide)]) h_) wKR
  have hq38_ : (mv33 77 10).toInt = (M 77 10).toInt := by rw [hq34_, mu_ne (Or.inr (by decide))]
  have hq39_ : (mv33 77 36).toInt = (M 77 36).toInt := by rw [hq34_, mu_ne (Or.inr (by decide))]
  have hq40_ : (mv33 77 35).toInt = (M 77 35).toInt := by rw [hq34_, mu_ne (Or.inr (by decide))]
  have hq41_ : (mv33 77 9).toInt = ((M 77 9).toInt + 1) := by rw [hq34_, mu_at]; exact (i_add rfl l_1 (by omega) (by omega))
  refine T_qc (t_X12_here hn  mv33 gq35_ ) ?_
  rintro rv42 mv43 ⟨hq44_, hq45_, gq46_, kq47_⟩
  have hq48_ := r_77_9 gq35_
  have hq49_ := r_77_10 gq35_
  have hq50_ := kq47_.nil
  subst hq50_
  have hq53_ := (show ((50 : Int32)).toInt = _ from l_50)
  have hq54_ := (show ((57 : Int32)).toInt = _ from l_57)
  refine T_qc (t_X12_in hn rv42 (50 : Int32) (57 : Int32) mv33 gq35_ (i_rng (lo := 0) (hi := 70) l_50 (by omega) (by omega)) (i_rng (lo := 0) (hi := 99999) l_57 (by omega) (by omega))) ?_
  rintro rv51 mv52 ⟨hq55_, hq56_, gq57_, kq58_⟩
  have hq59_ := kq58_.nil
  subst hq59_
  refine T_eq rfl l_0 (fun hq60_ => ?_) (fun hq60_ => ?_)
  · refine T_qc (t_X12_wrongAt hn (1 : Int32) (mv33 77 9) mv33 gq35_ (i_rng (lo := 1) (hi := 6) l_1 (by omega) (by omega))) ?_
    rintro rv61 mv62 ⟨hq63_, gq64_, kq65_⟩
    have kq66_ := Sm.call kq36_ kq65_ rfl
    have hq67_ := (fun h_ => KR_c (kq65_ 77 35 (by decide)) (kq65_ 77 36 (by decide)) (funext (fun s_ => kq65_ 101 s_ (outc rfl))) h_) hq37_
    have hq68_ : (mv62 77 10).toInt = (mv33 77 10).toInt := by rw [kq65_ 77 10 (by decide)]
    have hq69_ : (mv62 77 36).toInt = (mv33 77 36).toInt := by rw [kq65_ 77 36 (by decide)]
    have hq70_ : (mv62 77 35).toInt = (mv33 77 35).toInt := by rw [kq65_ 77 35 (by decide)]
    have hq71_ : (mv62 77 9).toInt = (mv33 77 9).toInt := by rw [kq65_ 77 9 (by decide)]
    refine T_qb rfl (by omega) (by omega) ?_
    exact T_ret ⟨(i_rng (lo := 0) (hi := 1) rfl (by omega) (by omega)), (by have e9 : (rv61).toInt = _ := rfl; omega), (Or.inl (by first | exact l_0 | omega)), gq64_, kq66_⟩
  · refine T_qc (t_X12_here hn  mv33 gq35_ ) ?_
    rintro rv72 mv73 ⟨hq74_, hq75_, gq76_, kq77_⟩
    have hq78_ := kq77_.nil
    subst hq78_
    refine T_ql (i_sub rfl l_48 (by omega) (by omega)) ?_
    intro xv79 hq80_
    refine T_mu gq35_ kq36_ (i_rng (lo := 0) (hi := 240) (i_add rfl l_1 (by omega) (by omega)) (by omega) (by omega)) nw_77_9 (i := 0) rfl ⟨by decide, by decide, Or.inr ⟨by decide, by decide⟩⟩ ?_
    intro mv81 hq82_ gq83_ kq84_
    have hq85_ := (fun h_ => KR_c (M := mv33) (M' := mv81) (by rw [hq82_, mu_ne (Or.inr (by decide))]) (by rw [hq82_, mu_ne (Or.inr (by decide))]) (by rw [hq82_, mu_nc (by decide)]) h_) hq37_
    have hq86_ : (mv81 77 10).toInt = (mv33 77 10).toInt := by rw [hq82_, mu_ne (Or.inr (by decide))]
    have hq87_ : (mv81 77 36).toInt = (mv33 77 36).toInt := by rw [hq82_, mu_ne (Or.inr (by decide))]
    have hq88_ : (mv81 77 35).toInt = (mv33 77 35).toInt := by rw [hq82_, mu_ne (Or.inr (by decide))]
    have hq89_ : (mv81 77 9).toInt = ((mv33 77 9).toInt + 1) := by rw [hq82_, mu_at]; exact (i_add rfl l_1 (by omega) (by omega))
    have hq91_ := r_77_36 gq83_
    refine T_mu gq83_ kq84_ (i_rng (lo := 0) (hi := 3) (i_sub rfl l_1 (by omega) (by omega)) (by omega) (by omega)) nw_77_36 (i := 2) rfl ⟨by decide, by decide, Or.inr ⟨by decide, by decide⟩⟩ ?_
    intro mv90 hq92_ gq93_ kq94_
    have hq95_ : (mv90 77 10).toInt = (mv81 77 10).toInt := by rw [hq92_, mu_ne (Or.inr (by decide))]
    have hq96_ : (mv90 77 35).toInt = (mv81 77 35).toInt := by rw [hq92_, mu_ne (Or.inr (by decide))]
    have hq97_ : (mv90 77 9).toInt = (mv81 77 9).toInt := by rw [hq92_, mu_ne (Or.inr (by decide))]
    have hq98_ : (mv90 77 36).toInt = ((mv81 77 36).toInt - 1) := by rw [hq92_, mu_at]; exact (i_sub rfl l_1 (by omega) (by omega))
    have hq99_ := r_77_36 gq93_
    refine T_qg rfl (by omega) (by omega) ?_
    have hq100_ := KR_rd (M := mv81) (m := mv90) hq85_ (by rw [hq92_, mu_nc (by decide)]) (i := ((mv90 77 36).toNatClampNeg)) (by rw [tnc]; omega) (by omega)
    have hq101_ := r_101 gq93_ ((mv90 77 36).toNatClampNeg)
    refine T_ql rfl ?_
    intro xv102 hq103_
    have hq104_ := r_77_35 gq93_
    refine T_ql (i_sub rfl rfl (by omega) (by omega)) ?_
    intro xv105 hq106_
    have hq107_ := i_mulk 9 (a := xv105) (b := xv79) rfl rfl (by omega) (by omega) (by omega) (by omega)
    refine T_le (i_add rfl rfl (by omega) (by omega)) l_40 (fun hq108_ => ?_) (fun hq108_ => ?_)
    · have hq109_ := r_77_9 gq93_
      exact (t_X12_endsRound_108 hn) n xv79 xv102 xv105 xv105 mv90 gq93_ kq94_ (i_rng (lo := 2) (hi := 9) rfl (by omega) (by omega)) (i_rng (lo := 0) (hi := 40) rfl (by omega) (by omega)) (i_rng (lo := 0) (hi := 40) rfl (by omega) (by omega)) (i_rng (lo := 0) (hi := 40) rfl (by omega) (by omega)) (by omega) (KR_dn (M := mv81) hq85_ (by omega) (by rw [hq92_, mu_nc (by decide)]) (by omega)) (by omega)
    · refine T_qg rfl (by omega) (by omega) ?_
      refine T_qc (t_X12_wrongAt hn (6 : Int32) (mv90 100 ((mv90 77 36).toNatClampNeg)) mv90 gq93_ (i_rng (lo := 1) (hi := 6) l_6 (by omega) (by omega))) ?_
      rintro rv110 mv111 ⟨hq112_, gq113_, kq114_⟩
      have kq115_ := Sm.call kq94_ kq114_ rfl
      have hq116_ : (mv111 77 10).toInt = (mv90 77 10).toInt := by rw [kq114_ 77 10 (by decide)]
      have hq117_ : (mv111 77 35).toInt = (mv90 77 35).toInt := by rw [kq114_ 77 35 (by decide)]
      have hq118_ : (mv111 77 9).toInt = (mv90 77 9).toInt := by rw [kq114_ 77 9 (by decide)]
      have hq119_ : (mv111 77 36).toInt = (mv90 77 36).toInt := by rw [kq114_ 77 36 (by decide)]
      refine T_qb rfl (by omega) (by omega) ?_
      exact T_ret ⟨(i_rng (lo := 0) (hi := 1) rfl (by omega) (by omega)), (by have e9 : (rv110).toInt = _ := rfl; omega), (Or.inl (by first | exact l_0 | omega)), gq113_, kq115_⟩
