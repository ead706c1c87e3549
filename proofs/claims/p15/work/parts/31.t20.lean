abbrev l_X0_doSteps_c25 : List Bx := [(27, 30, 0, 0), (33, 34, 0, 0), (34, 35, 4, 5), (35, 37, 0, 0), (44, 45, 2, 10)]
abbrev po_X0_doSteps_c25 (a2 : Int32) (M : qM) (v : Int32) (M' : qM) : Prop := (0 ≤ v.toInt ∧ v.toInt ≤ 0) ∧ G M' ∧ Sm l_X0_doSteps_c25 M M'
theorem t_X0_doSteps_c25_11 {n : Nat} (hn : 200000 ≤ n) {j : Nat} (hj : q_isLaw j) {oa2 : Int32} {M0 : qM} : ∀ (m : Nat) (a2 a3 a4 : Int32) (M : qM), G M → Sm l_X0_doSteps_c25 M0 M → 0 ≤ a2.toInt ∧ a2.toInt ≤ 7 → 0 ≤ a4.toInt ∧ a4.toInt ≤ 40 → 40 - a4.toInt < (m : Int) → qT (f_X0_doSteps_11 n 25 j m a2 a3 a4 M) (po_X0_doSteps_c25 oa2 M0) := by
  intro m
  induction m with
  | zero =>
    intro a2 a3 a4 M hG hS i0 i1 i4
    exfalso; omega
  | succ m ih =>
    intro a2 a3 a4 M hG hS i0 i1 i4
    show qT (b_X0_doSteps_11 n 25 j (f_X0_doSteps_11 n 25 j m) a2 a3 a4 M) _
    unfold b_X0_doSteps_11
    try simp only [Nat.reduceAdd]
    refine T_qg rfl (by omega) (by omega) ?_
    have hq10_ := r_32 hG a2.toNatClampNeg
    refine T_le rfl rfl (fun hq11_ => ?_) (fun hq11_ => ?_)
    · exact T_ret ⟨(i_rng (lo := 0) (hi := 0) l_0 (by omega) (by omega)), hG, hS⟩
    · refine T_qg (i_add (i_mul rfl l_40 (by omega) (by omega)) rfl (by omega) (by omega)) (by omega) (by omega) ?_
      refine T_ql rfl ?_
      intro xv12 hq13_
      refine T_qg (i_add (i_mul rfl l_40 (by omega) (by omega)) rfl (by omega) (by omega)) (by omega) (by omega) ?_
      refine T_ql rfl ?_
      intro xv14 hq15_
      refine T_qc (t_X2_knows hn xv12 M hG ) ?_
      rintro rv16 mv17 ⟨hq18_, hq19_, gq20_, kq21_⟩
      have hq22_ := kq21_.nil
      subst hq22_
      refine T_eq rfl l_0 (fun hq23_ => ?_) (fun hq23_ => ?_)
      · unfold f_X0_doSteps_162
        try simp only [Nat.reduceAdd]
        refine T_qg rfl (by omega) (by omega) ?_
        refine T_mu hG hS (i_rng (lo := 0) (hi := 40) (i_add rfl l_1 (by omega) (by omega)) (by omega) (by omega)) (nw_33 _) (i := 1) rfl ⟨by decide, by decide, Or.inl rfl⟩ ?_
        intro mv24 hq25_ gq26_ kq27_
        have hq28_ : (mv24 32 a2.toNatClampNeg).toInt = (M 32 a2.toNatClampNeg).toInt := by rw [hq25_, mu_ne (Or.inl (by decide))]
        have hq29_ : (mv24 33 a2.toNatClampNeg).toInt = (a4.toInt + 1) := by rw [hq25_, mu_at]; exact (i_add rfl l_1 (by omega) (by omega))
        refine T_ql (i_add rfl l_1 (by omega) (by omega)) ?_
        intro xv30 hq31_
        exact ih a2 a3 xv30 mv24 gq26_ kq27_ (i_rng (lo := 0) (hi := 7) rfl (by omega) (by omega)) (i_rng (lo := 0) (hi := 40) rfl (by omega) (by omega)) (by omega)
      · refine T_eq rfl l_8 (fun hq32_ => ?_) (fun hq32_ => ?_)
        · unfold f_X0_doSteps_84
          try simp only [Nat.reduceAdd]
          refine T_qg rfl (by omega) (by omega) ?_
          refine T_le rfl rfl (fun hq33_ => ?_) (fun hq33_ => ?_)
          · refine T_qg rfl (by omega) (by omega) ?_
            have hq34_ := i_full (a3)
            have hq35_ := i_full (M 4 xv12.toNatClampNeg)
            refine T_ql rfl ?_
            intro xv36 hq37_
            refine T_qg rfl (by omega) (by omega) ?_
            have hq39_ := i_full (M 44 6)
            refine T_mu hG hS (rn_44_6 _) (nw_44 _) (i := 4) rfl ⟨by decide, by decide, Or.inr ⟨by decide, by decide⟩⟩ ?_
            intro mv38 hq40_ gq41_ kq42_
            have hq43_ : (mv38 32 a2.toNatClampNeg).toInt = (M 32 a2.toNatClampNeg).toInt := by rw [hq40_, mu_ne (Or.inl (by decide))]
            have hq44_ : (mv38 4 xv12.toNatClampNeg).toInt = (M 4 xv12.toNatClampNeg).toInt := by rw [hq40_, mu_ne (Or.inl (by decide))]
            have hq45_ : (mv38 44 6).toInt = ((M 44 6) + (M 4 xv12.toNatClampNeg)).toInt := by rw [hq40_, mu_at]
            have hq47_ := i_full (mv38 44 4)
            refine T_mu gq41_ kq42_ (rn_44_4 _) (nw_44 _) (i := 4) rfl ⟨by decide, by decide, Or.inr ⟨by decide, by decide⟩⟩ ?_
            intro mv46 hq48_ gq49_ kq50_
            have hq51_ : (mv46 32 a2.toNatClampNeg).toInt = (mv38 32 a2.toNatClampNeg).toInt := by rw [hq48_, mu_ne (Or.inl (by decide))]
            have hq52_ : (mv46 4 xv12.toNatClampNeg).toInt = (mv38 4 xv12.toNatClampNeg).toInt := by rw [hq48_, mu_ne (Or.inl (by decide))]
            have hq53_ : (mv46 44 6).toInt = (mv38 44 6).toInt := by rw [hq48_, mu_ne (Or.inr (by decide))]
            have hq54_ : (mv46 44 4).toInt = ((mv38 44 4) + (1 : Int32)).toInt := by rw [hq48_, mu_at]
            refine T_qc (t_X0_attempt_c25 hn hj a2 xv12 xv14 mv46 gq49_ (i_rng (lo := 0) (hi := 7) rfl (by omega) (by omega)) (i_rng (lo := 0) (hi := 11) rfl (by omega) (by omega)) (i_rng (lo := 0) (hi := 8) rfl (by omega) (by omega))) ?_
            rintro rv55 mv56 ⟨hq57_, gq58_, kq59_⟩
            have kq60_ := Sm.call kq50_ kq59_ rfl
            have hq61_ : (mv56 32 a2.toNatClampNeg).toInt = (mv46 32 a2.toNatClampNeg).toInt := by rw [kq59_ 32 _ (outc rfl)]
            have hq62_ : (mv56 4 xv12.toNatClampNeg).toInt = (mv46 4 xv12.toNatClampNeg).toInt := by rw [kq59_ 4 _ (outc rfl)]
            have hq63_ : (mv56 44 6).toInt = (mv46 44 6).toInt := by rw [kq59_ 44 6 (by decide)]
            have hq64_ : (mv56 44 4).toInt = (mv46 44 4).toInt := by rw [kq59_ 44 4 (by decide)]
            refine T_qc (t_X0_noteOutcome hn (mv46 25 9) a2 xv12 rv55 mv56 gq58_ (i_rng (lo := 0) (hi := 7) rfl (by omega) (by omega)) (i_rng (lo := 0) (hi := 11) rfl (by omega) (by omega)) (i_rng (lo := (-2)) (hi := 1) rfl (by omega) (by omega))) ?_
            rintro rv65 mv66 ⟨hq67_, gq68_, kq69_⟩
            have kq70_ := Sm.call kq60_ kq69_ rfl
            have hq71_ : (mv66 32 a2.toNatClampNeg).toInt = (mv56 32 a2.toNatClampNeg).toInt := by rw [kq69_ 32 _ (outc rfl)]
            have hq72_ : (mv66 4 xv12.toNatClampNeg).toInt = (mv56 4 xv12.toNatClampNeg).toInt := by rw [kq69_ 4 _ (outc rfl)]
            have hq73_ : (mv66 44 6).toInt = (mv56 44 6).toInt := by rw [kq69_ 44 6 (by decide)]
            have hq74_ : (mv66 44 4).toInt = (mv56 44 4).toInt := by rw [kq69_ 44 4 (by decide)]
            unfold f_X0_doSteps_162
            try simp only [Nat.reduceAdd]
            refine T_qg rfl (by omega) (by omega) ?_
            refine T_mu gq68_ kq70_ (i_rng (lo := 0) (hi := 40) (i_add rfl l_1 (by omega) (by omega)) (by omega) (by omega)) (nw_33 _) (i := 1) rfl ⟨by decide, by decide, Or.inl rfl⟩ ?_
            intro mv75 hq76_ gq77_ kq78_
            have hq79_ : (mv75 32 a2.toNatClampNeg).toInt = (mv66 32 a2.toNatClampNeg).toInt := by rw [hq76_, mu_ne (Or.inl (by decide))]
            have hq80_ : (mv75 4 xv12.toNatClampNeg).toInt = (mv66 4 xv12.toNatClampNeg).toInt := by rw [hq76_, mu_ne (Or.inl (by decide))]
            have hq81_ : (mv75 44 6).toInt = (mv66 44 6).toInt := by rw [hq76_, mu_ne (Or.inl (by decide))]
            have hq82_ : (mv75 44 4).toInt = (mv66 44 4).toInt := by rw [hq76_, mu_ne (Or.inl (by decide))]
            have hq83_ : (mv75 33 a2.toNatClampNeg).toInt = (a4.toInt + 1) := by rw [hq76_, mu_at]; exact (i_add rfl l_1 (by omega) (by omega))
            refine T_ql (i_add rfl l_1 (by omega) (by omega)) ?_
            intro xv84 hq85_
            exact ih a2 xv36 xv84 mv75 gq77_ kq78_ (i_rng (lo := 0) (hi := 7) rfl (by omega) (by omega)) (i_rng (lo := 0) (hi := 40) rfl (by omega) (by omega)) (by omega)
          · exact T_ret ⟨(i_rng (lo := 0) (hi := 0) l_0 (by omega) (by omega)), hG, hS⟩
        · refine T_eq rfl rfl (fun hq86_ => ?_) (fun hq86_ => ?_)
          · unfold f_X0_doSteps_162
            try simp only [Nat.reduceAdd]
            refine T_qg rfl (by omega) (by omega) ?_
            refine T_mu hG hS (i_rng (lo := 0) (hi := 40) (i_add rfl l_1 (by omega) (by omega)) (by omega) (by omega)) (nw_33 _) (i := 1) rfl ⟨by decide, by decide, Or.inl rfl⟩ ?_
            intro mv87 hq88_ gq89_ kq90_
            have hq91_ : (mv87 32 a2.toNatClampNeg).toInt = (M 32 a2.toNatClampNeg).toInt := by rw [hq88_, mu_ne (Or.inl (by decide))]
            have hq92_ : (mv87 33 a2.toNatClampNeg).toInt = (a4.toInt + 1) := by rw [hq88_, mu_at]; exact (i_add rfl l_1 (by omega) (by omega))
            refine T_ql (i_add rfl l_1 (by omega) (by omega)) ?_
            intro xv93 hq94_
            exact ih a2 a3 xv93 mv87 gq89_ kq90_ (i_rng (lo := 0) (hi := 7) rfl (by omega) (by omega)) (i_rng (lo := 0) (hi := 40) rfl (by omega) (by omega)) (by omega)
          · refine T_qc (t_X10_knows_c25 hn xv14 M hG ) ?_
            rintro rv95 mv96 ⟨hq97_, hq98_, gq99_, kq100_⟩
            have hq101_ := kq100_.nil
            subst hq101_
            refine T_eq rfl l_0 (fun hq102_ => ?_) (fun hq102_ => ?_)
            · unfold f_X0_doSteps_162
              try simp only [Nat.reduceAdd]
              refine T_qg rfl (by omega) (by omega) ?_
              refine T_mu hG hS (i_rng (lo := 0) (hi := 40) (i_add rfl l_1 (by omega) (by omega)) (by omega) (by omega)) (nw_33 _) (i := 1) rfl ⟨by decide, by decide, Or.inl rfl⟩ ?_
              intro mv103 hq104_ gq105_ kq106_
              have hq107_ : (mv103 32 a2.toNatClampNeg).toInt = (M 32 a2.toNatClampNeg).toInt := by rw [hq104_, mu_ne (Or.inl (by decide))]
              have hq108_ : (mv103 33 a2.toNatClampNeg).toInt = (a4.toInt + 1) := by rw [hq104_, mu_at]; exact (i_add rfl l_1 (by omega) (by omega))
              refine T_ql (i_add rfl l_1 (by omega) (by omega)) ?_
              intro xv109 hq110_
              exact ih a2 a3 xv109 mv103 gq105_ kq106_ (i_rng (lo := 0) (hi := 7) rfl (by omega) (by omega)) (i_rng (lo := 0) (hi := 40) rfl (by omega) (by omega)) (by omega)
            · unfold f_X0_doSteps_84
              try simp only [Nat.reduceAdd]
              refine T_qg rfl (by omega) (by omega) ?_
              refine T_le rfl rfl (fun hq111_ => ?_) (fun hq111_ => ?_)
              · refine T_qg rfl (by omega) (by omega) ?_
                have hq112_ := i_full (a3)
                have hq113_ := i_full (M 4 xv12.toNatClampNeg)
                refine T_ql rfl ?_
                intro xv114 hq115_
                refine T_qg rfl (by omega) (by omega) ?_
                have hq117_ := i_full (M 44 6)
                refine T_mu hG hS (rn_44_6 _) (nw_44 _) (i := 4) rfl ⟨by decide, by decide, Or.inr ⟨by decide, by decide⟩⟩ ?_
                intro mv116 hq118_ gq119_ kq120_
                have hq121_ : (mv116 32 a2.toNatClampNeg).toInt = (M 32 a2.toNatClampNeg).toInt := by rw [hq118_, mu_ne (Or.inl (by decide))]
                have hq122_ : (mv116 4 xv12.toNatClampNeg).toInt = (M 4 xv12.toNatClampNeg).toInt := by rw [hq118_, mu_ne (Or.inl (by decide))]
                have hq123_ : (mv116 44 6).toInt = ((M 44 6) + (M 4 xv12.toNatClampNeg)).toInt := by rw [hq118_, mu_at]
                have hq125_ := i_full (mv116 44 4)
                refine T_mu gq119_ kq120_ (rn_44_4 _) (nw_44 _) (i := 4) rfl ⟨by decide, by decide, Or.inr ⟨by decide, by decide⟩⟩ ?_
                intro mv124 hq126_ gq127_ kq128_
                have hq129_ : (mv124 32 a2.toNatClampNeg).toInt = (mv116 32 a2.toNatClampNeg).toInt := by rw [hq126_, mu_ne (Or.inl (by decide))]
                have hq130_ : (mv124 4 xv12.toNatClampNeg).toInt = (mv116 4 xv12.toNatClampNeg).toInt := by rw [hq126_, mu_ne (Or.inl (by decide))]
                have hq131_ : (mv124 44 6).toInt = (mv116 44 6).toInt := by rw [hq126_, mu_ne (Or.inr (by decide))]
                have hq132_ : (mv124 44 4).toInt = ((mv116 44 4) + (1 : Int32)).toInt := by rw [hq126_, mu_at]
                refine T_qc (t_X0_attempt_c25 hn hj a2 xv12 xv14 mv124 gq127_ (i_rng (lo := 0) (hi := 7) rfl (by omega) (by omega)) (i_rng (lo := 0) (hi := 11) rfl (by omega) (by omega)) (i_rng (lo := 0) (hi := 8) rfl (by omega) (by omega))) ?_
                rintro rv133 mv134 ⟨hq135_, gq136_, kq137_⟩
                have kq138_ := Sm.call kq128_ kq137_ rfl
                have hq139_ : (mv134 32 a2.toNatClampNeg).toInt = (mv124 32 a2.toNatClampNeg).toInt := by rw [kq137_ 32 _ (outc rfl)]
                have hq140_ : (mv134 4 xv12.toNatClampNeg).toInt = (mv124 4 xv12.toNatClampNeg).toInt := by rw [kq137_ 4 _ (outc rfl)]
                have hq141_ : (mv134 44 6).toInt = (mv124 44 6).toInt := by rw [kq137_ 44 6 (by decide)]
                have hq142_ : (mv134 44 4).toInt = (mv124 44 4).toInt := by rw [kq137_ 44 4 (by decide)]
                refine T_qc (t_X0_noteOutcome hn (mv124 25 9) a2 xv12 rv133 mv134 gq136_ (i_rng (lo := 0) (hi := 7) rfl (by omega) (by omega)) (i_rng (lo := 0) (hi := 11) rfl (by omega) (by omega)) (i_rng (lo := (-2)) (hi := 1) rfl (by omega) (by omega))) ?_
                rintro rv143 mv144 ⟨hq145_, gq146_, kq147_⟩
                have kq148_ := Sm.call kq138_ kq147_ rfl
                have hq149_ : (mv144 32 a2.toNatClampNeg).toInt = (mv134 32 a2.toNatClampNeg).toInt := by rw [kq147_ 32 _ (outc rfl)]
                have hq150_ : (mv144 4 xv12.toNatClampNeg).toInt = (mv134 4 xv12.toNatClampNeg).toInt := by rw [kq147_ 4 _ (outc rfl)]
                have hq151_ : (mv144 44 6).toInt = (mv134 44 6).toInt := by rw [kq147_ 44 6 (by decide)]
                have hq152_ : (mv144 44 4).toInt = (mv134 44 4).toInt := by rw [kq147_ 44 4 (by decide)]
                unfold f_X0_doSteps_162
                try simp only [Nat.reduceAdd]
                refine T_qg rfl (by omega) (by omega) ?_
                refine T_mu gq146_ kq148_ (i_rng (lo := 0) (hi := 40) (i_add rfl l_1 (by omega) (by omega)) (by omega) (by omega)) (nw_33 _) (i := 1) rfl ⟨by decide, by decide, Or.inl rfl⟩ ?_
                intro mv153 hq154_ gq155_ kq156_
                have hq157_ : (mv153 32 a2.toNatClampNeg).toInt = (mv144 32 a2.toNatClampNeg).toInt := by rw [hq154_, mu_ne (Or.inl (by decide))]
                have hq158_ : (mv153 4 xv12.toNatClampNeg).toInt = (mv144 4 xv12.toNatClampNeg).toInt := by rw [hq154_, mu_ne (Or.inl (by decide))]
                have hq159_ : (mv153 44 6).toInt = (mv144 44 6).toInt := by rw [hq154_, mu_ne (Or.inl (by decide))]
                have hq160_ : (mv153 44 4).toInt = (mv144 44 4).toInt := by rw [hq154_, mu_ne (Or.inl (by decide))]
                have hq161_ : (mv153 33 a2.toNatClampNeg).toInt = (a4.toInt + 1) := by rw [hq154_, mu_at]; exact (i_add rfl l_1 (by omega) (by omega))
                refine T_ql (i_add rfl l_1 (by omega) (by omega)) ?_
                intro xv162 hq163_
                exact ih a2 xv114 xv162 mv153 gq155_ kq156_ (i_rng (lo := 0) (hi := 7) rfl (by omega) (by omega)) (i_rng (lo := 0) (hi := 40) rfl (by omega) (by omega)) (by omega)
              · exact T_ret ⟨(i_rng (lo := 0) (hi := 0) l_0 (by omega) (by omega)), hG, hS⟩
theorem t_X0_doSteps_c25 {n : Nat} (hn : 200000 ≤ n) {j : Nat} (hj : q_isLaw j) (a2 : Int32) (M : qM) (hG : G M) (pa2 : 0 ≤ a2.toInt ∧ a2.toInt ≤ 7) : qT (f_X0_doSteps n 25 j a2 M) (po_X0_doSteps_c25 a2 M) := by
  have hS : Sm l_X0_doSteps_c25 M M := Sm.rf
  unfold f_X0_doSteps
  try simp only [Nat.reduceAdd]
  refine T_qg rfl (by omega) (by omega) ?_
  have hq164_ := r_33 hG a2.toNatClampNeg
  refine T_ql rfl ?_
  intro xv165 hq166_
  exact (t_X0_doSteps_c25_11 hn hj) n a2 (12 : Int32) xv165 M hG hS (i_rng (lo := 0) (hi := 7) rfl (by omega) (by omega)) (i_rng (lo := 0) (hi := 40) rfl (by omega) (by omega)) (by have e1 : ((12 : Int32)).toInt = _ := l_12; omega)
abbrev l_X0_goDays_c25 : List Bx := [(25, 26, 9, 10), (27, 30, 0, 0), (33, 34, 0, 0), (34, 35, 4, 5), (35, 37, 0, 0), (44, 45, 2, 10)]
abbrev po_X0_goDays_c25 (a2 : Int32) (M : qM) (v : Int32) (M' : qM) : Prop := (0 ≤ v.toInt ∧ v.toInt ≤ 0) ∧ (((9999 ≤ (M 25 9).toInt ∧ (M' 25 9).toInt = (M 25 9).toInt) ∨ ((M 25 9).toInt < 9999 ∧ (M 25 9).toInt + a2.toInt ≤ 9999 ∧ (M' 25 9).toInt = (M 25 9).toInt + a2.toInt) ∨ ((M 25 9).toInt < 9999 ∧ 9999 < (M 25 9).toInt + a2.toInt ∧ (M' 25 9).toInt = 9999))) ∧ G M' ∧ Sm l_X0_goDays_c25 M M'
theorem t_X0_goDays_c25_53 {n : Nat} (hn : 200000 ≤ n) {j : Nat} (hj : q_isLaw j) {oa2 : Int32} {M0 : qM} {K35 : Int32 → Int32 → qM → qR} {BK35 : Nat} (hK35 : ∀ (a2 a3 : Int32) (M : qM), G M → Sm l_X0_goDays_c25 M0 M → 1 ≤ a2.toInt ∧ a2.toInt ≤ 60 → (-2147483633) ≤ a3.toInt ∧ a3.toInt ≤ 60 → (a2.toInt = oa2.toInt ∧ a3.toInt ≤ a2.toInt ∧ ((a3.toInt = 0 ∧ (M 25 9).toInt = (M0 25 9).toInt) ∨ ((M0 25 9).toInt < 9999 ∧ (M 25 9).toInt = (M0 25 9).toInt + a3.toInt ∧ (M 25 9).toInt ≤ 9999))) → 60 - a3.toInt < (BK35 : Int) → qT (K35 a2 a3 M) (po_X0_goDays_c25 oa2 M0)) : ∀ (m : Nat) (a2 a3 a4 : Int32) (M : qM), G M → Sm l_X0_goDays_c25 M0 M → 1 ≤ a2.toInt ∧ a2.toInt ≤ 60 → (-2147483634) ≤ a3.toInt ∧ a3.toInt ≤ 59 → 0 ≤ a4.toInt ∧ a4.toInt ≤ 8 → (a2.toInt = oa2.toInt ∧ a3.toInt ≤ a2.toInt ∧ ((a3.toInt = 0 ∧ (M 25 9).toInt = (M0 25 9).toInt) ∨ ((M0 25 9).toInt < 9999 ∧ (M 25 9).toInt = (M0 25 9).toInt + a3.toInt ∧ (M 25 9).toInt ≤ 9999)) ∧ (M 25 9).toInt < 9999 ∧ a3.toInt < a2.toInt) → 60 - a3.toInt < (BK35 : Int) + 1 → 8 - a4.toInt < (m : Int) → qT (f_X0_goDays_53 n 25 j K35 m a2 a3 a4 M) (po_X0_goDays_c25 oa2 M0) := by
  intro m
  induction m with
  | zero =>
    intro a2 a3 a4 M hG hS i0 i1 i2 hE i6 i7
    exfalso; omega
  | succ m ih =>
    intro a2 a3 a4 M hG hS i0 i1 i2 hE i6 i7
    show qT (b_X0_goDays_53 n 25 j K35 (f_X0_goDays_53 n 25 j K35 m) a2 a3 a4 M) _
    unfold b_X0_goDays_53
    try simp only [Nat.reduceAdd]
    refine T_le l_8 rfl (fun hq10_ => ?_) (fun hq10_ => ?_)
    · have hq12_ := i_full (M 25 9)
      refine T_mu hG hS (rn_25_9 _) (nw_25 _) (i := 0) rfl ⟨by decide, by decide, Or.inr ⟨by decide, by decide⟩⟩ ?_
      intro mv11 hq13_ gq14_ kq15_
      have hq16_ : (mv11 25 9).toInt = ((M 25 9).toInt + 1) := by rw [hq13_, mu_at]; exact (i_add rfl l_1 (by omega) (by omega))
      refine T_ql (i_add rfl l_1 (by omega) (by omega)) ?_
      intro xv17 hq18_
      exact hK35 a2 xv17 mv11 gq14_ kq15_ (i_rng (lo := 1) (hi := 60) rfl (by omega) (by omega)) (i_rng (lo := (-2147483633)) (hi := 60) rfl (by omega) (by omega)) (by omega) (by omega)
    · refine T_qc (t_X10_knows_c25 hn a4 M hG ) ?_
      rintro rv19 mv20 ⟨hq21_, hq22_, gq23_, kq24_⟩
      have hq25_ := kq24_.nil
      subst hq25_
      refine T_eq rfl l_0 (fun hq26_ => ?_) (fun hq26_ => ?_)
      · refine T_ql (i_add rfl l_1 (by omega) (by omega)) ?_
        intro xv27 hq28_
        exact ih a2 a3 xv27 M hG hS (i_rng (lo := 1) (hi := 60) rfl (by omega) (by omega)) (i_rng (lo := (-2147483634)) (hi := 59) rfl (by omega) (by omega)) (i_rng (lo := 0) (hi := 8) rfl (by omega) (by omega)) (by omega) (by omega) (by omega)
      · refine T_qc (t_X0_doSteps_c25 hn hj a4 M hG (i_rng (lo := 0) (hi := 7) rfl (by omega) (by omega))) ?_
        rintro rv29 mv30 ⟨hq31_, gq32_, kq33_⟩
        have kq34_ := Sm.call hS kq33_ rfl
        have hq35_ : (mv30 25 9).toInt = (M 25 9).toInt := by rw [kq33_ 25 9 (by decide)]
        refine T_ql (i_add rfl l_1 (by omega) (by omega)) ?_
        intro xv36 hq37_
        exact ih a2 a3 xv36 mv30 gq32_ kq34_ (i_rng (lo := 1) (hi := 60) rfl (by omega) (by omega)) (i_rng (lo := (-2147483634)) (hi := 59) rfl (by omega) (by omega)) (i_rng (lo := 0) (hi := 8) rfl (by omega) (by omega)) (by omega) (by omega) (by omega)
theorem t_X0_goDays_c25_35 {n : Nat} (hn : 200000 ≤ n) {j : Nat} (hj : q_isLaw j) {oa2 : Int32} {M0 : qM} : ∀ (m : Nat) (a2 a3 : Int32) (M : qM), G M → Sm l_X0_goDays_c25 M0 M → 1 ≤ a2.toInt ∧ a2.toInt ≤ 60 → (-2147483633) ≤ a3.toInt ∧ a3.toInt ≤ 60 → (a2.toInt = oa2.toInt ∧ a3.toInt ≤ a2.toInt ∧ ((a3.toInt = 0 ∧ (M 25 9).toInt = (M0 25 9).toInt) ∨ ((M0 25 9).toInt < 9999 ∧ (M 25 9).toInt = (M0 25 9).toInt + a3.toInt ∧ (M 25 9).toInt ≤ 9999))) → 60 - a3.toInt < (m : Int) → qT (f_X0_goDays_35 n 25 j m a2 a3 M) (po_X0_goDays_c25 oa2 M0) := by
  intro m
  induction m with
  | zero =>
    intro a2 a3 M hG hS i0 i1 hE i5
    exfalso; omega
  | succ m ih =>
    intro a2 a3 M hG hS i0 i1 hE i5
    show qT (b_X0_goDays_35 n 25 j (f_X0_goDays_35 n 25 j m) a2 a3 M) _
    unfold b_X0_goDays_35
    try simp only [Nat.reduceAdd]
    refine T_le rfl rfl (fun hq41_ => ?_) (fun hq41_ => ?_)
    · exact T_ret ⟨(i_rng (lo := 0) (hi := 0) l_0 (by omega) (by omega)), (by have e9 : (0 : Int32).toInt = _ := l_0; omega), hG, hS⟩
    · refine T_le l_9999 rfl (fun hq42_ => ?_) (fun hq42_ => ?_)
      · exact T_ret ⟨(i_rng (lo := 0) (hi := 0) l_0 (by omega) (by omega)), (by have e9 : (0 : Int32).toInt = _ := l_0; omega), hG, hS⟩
      · exact (t_X0_goDays_c25_53 hn hj ih) n a2 a3 (0 : Int32) M hG hS (i_rng (lo := 1) (hi := 60) rfl (by omega) (by omega)) (i_rng (lo := (-2147483634)) (hi := 59) rfl (by omega) (by omega)) (i_rng (lo := 0) (hi := 8) l_0 (by omega) (by omega)) (by have e2 : ((0 : Int32)).toInt = _ := l_0; omega) (by omega) (by have e2 : ((0 : Int32)).toInt = _ := l_0; omega)
theorem t_X0_goDays_c25 {n : Nat} (hn : 200000 ≤ n) {j : Nat} (hj : q_isLaw j) (a2 : Int32) (M : qM) (hG : G M) (pa2 : 1 ≤ a2.toInt ∧ a2.toInt ≤ 60) : qT (f_X0_goDays n 25 j a2 M) (po_X0_goDays_c25 a2 M) := by
  have hS : Sm l_X0_goDays_c25 M M := Sm.rf
  unfold f_X0_goDays
  try simp only [Nat.reduceAdd]
  refine T_mu hG hS (rn_44_4 _) (nw_44 _) (i := 5) rfl ⟨by decide, by decide, Or.inr ⟨by decide, by decide⟩⟩ ?_
  intro mv43 hq44_ gq45_ kq46_
  have hq47_ : (mv43 25 9).toInt = (M 25 9).toInt := by rw [hq44_, mu_ne (Or.inl (by decide))]
  have hq48_ : (mv43 44 4).toInt = 0 := by rw [hq44_, mu_at]; exact l_0
  refine T_mu gq45_ kq46_ (rn_44_5 _) (nw_44 _) (i := 5) rfl ⟨by decide, by decide, Or.inr ⟨by decide, by decide⟩⟩ ?_
  intro mv49 hq50_ gq51_ kq52_
  have hq53_ : (mv49 25 9).toInt = (mv43 25 9).toInt := by rw [hq50_, mu_ne (Or.inl (by decide))]
  have hq54_ : (mv49 44 4).toInt = (mv43 44 4).toInt := by rw [hq50_, mu_ne (Or.inr (by decide))]
  have hq55_ : (mv49 44 5).toInt = 0 := by rw [hq50_, mu_at]; exact l_0
  refine T_mu gq51_ kq52_ (rn_44_6 _) (nw_44 _) (i := 5) rfl ⟨by decide, by decide, Or.inr ⟨by decide, by decide⟩⟩ ?_
  intro mv56 hq57_ gq58_ kq59_
  have hq60_ : (mv56 25 9).toInt = (mv49 25 9).toInt := by rw [hq57_, mu_ne (Or.inl (by decide))]
  have hq61_ : (mv56 44 4).toInt = (mv49 44 4).toInt := by rw [hq57_, mu_ne (Or.inr (by decide))]
  have hq62_ : (mv56 44 5).toInt = (mv49 44 5).toInt := by rw [hq57_, mu_ne (Or.inr (by decide))]
  have hq63_ : (mv56 44 6).toInt = 0 := by rw [hq57_, mu_at]; exact l_0
  refine T_mu gq58_ kq59_ (rn_44_7 _) (nw_44 _) (i := 5) rfl ⟨by decide, by decide, Or.inr ⟨by decide, by decide⟩⟩ ?_
  intro mv64 hq65_ gq66_ kq67_
  have hq68_ : (mv64 25 9).toInt = (mv56 25 9).toInt := by rw [hq65_, mu_ne (Or.inl (by decide))]
  have hq69_ : (mv64 44 4).toInt = (mv56 44 4).toInt := by rw [hq65_, mu_ne (Or.inr (by decide))]
  have hq70_ : (mv64 44 5).toInt = (mv56 44 5).toInt := by rw [hq65_, mu_ne (Or.inr (by decide))]
  have hq71_ : (mv64 44 6).toInt = (mv56 44 6).toInt := by rw [hq65_, mu_ne (Or.inr (by decide))]
  have hq72_ : (mv64 44 7).toInt = (-2) := by rw [hq65_, mu_at]; exact l_m2
  refine T_mu gq66_ kq67_ (rn_44_8 _) (nw_44 _) (i := 5) rfl ⟨by decide, by decide, Or.inr ⟨by decide, by decide⟩⟩ ?_
  intro mv73 hq74_ gq75_ kq76_
  have hq77_ : (mv73 25 9).toInt = (mv64 25 9).toInt := by rw [hq74_, mu_ne (Or.inl (by decide))]
  have hq78_ : (mv73 44 4).toInt = (mv64 44 4).toInt := by rw [hq74_, mu_ne (Or.inr (by decide))]
  have hq79_ : (mv73 44 5).toInt = (mv64 44 5).toInt := by rw [hq74_, mu_ne (Or.inr (by decide))]
  have hq80_ : (mv73 44 6).toInt = (mv64 44 6).toInt := by rw [hq74_, mu_ne (Or.inr (by decide))]
  have hq81_ : (mv73 44 7).toInt = (mv64 44 7).toInt := by rw [hq74_, mu_ne (Or.inr (by decide))]
  have hq82_ : (mv73 44 8).toInt = (-2) := by rw [hq74_, mu_at]; exact l_m2
  refine T_mu gq75_ kq76_ (rn_44_9 _) (nw_44 _) (i := 5) rfl ⟨by decide, by decide, Or.inr ⟨by decide, by decide⟩⟩ ?_
  intro mv83 hq84_ gq85_ kq86_
  have hq87_ : (mv83 25 9).toInt = (mv73 25 9).toInt := by rw [hq84_, mu_ne (Or.inl (by decide))]
  have hq88_ : (mv83 44 4).toInt = (mv73 44 4).toInt := by rw [hq84_, mu_ne (Or.inr (by decide))]
  have hq89_ : (mv83 44 5).toInt = (mv73 44 5).toInt := by rw [hq84_, mu_ne (Or.inr (by decide))]
  have hq90_ : (mv83 44 6).toInt = (mv73 44 6).toInt := by rw [hq84_, mu_ne (Or.inr (by decide))]
  have hq91_ : (mv83 44 7).toInt = (mv73 44 7).toInt := by rw [hq84_, mu_ne (Or.inr (by decide))]
  have hq92_ : (mv83 44 8).toInt = (mv73 44 8).toInt := by rw [hq84_, mu_ne (Or.inr (by decide))]
  have hq93_ : (mv83 44 9).toInt = (-2) := by rw [hq84_, mu_at]; exact l_m2
  exact (t_X0_goDays_c25_35 hn hj) n a2 (0 : Int32) mv83 gq85_ kq86_ (i_rng (lo := 1) (hi := 60) rfl (by omega) (by omega)) (i_rng (lo := (-2147483633)) (hi := 60) l_0 (by omega) (by omega)) (by have e1 : ((0 : Int32)).toInt = _ := l_0; omega) (by have e1 : ((0 : Int32)).toInt = _ := l_0; omega)
abbrev l_X0_cameOfDays : List Bx := []
abbrev po_X0_cameOfDays (a1 : Int32) (M : qM) (v : Int32) (M' : qM) : Prop := G M' ∧ Sm l_X0_cameOfDays M M'
theorem t_X0_cameOfDays {n : Nat} (hn : 200000 ≤ n) (a1 : Int32) (M : qM) (hG : G M) (pa1 : 0 ≤ a1.toInt ∧ a1.toInt ≤ 5) : qT (f_X0_cameOfDays n a1 M) (po_X0_cameOfDays a1 M) := by
  have hS : Sm l_X0_cameOfDays M M := Sm.rf
  unfold f_X0_cameOfDays
  refine T_sw rfl l_0 (fun hq1_ => ?_) (fun hq1_ => ?_)
  · exact T_ret ⟨hG, hS⟩
  refine T_sw rfl l_1 (fun hq2_ => ?_) (fun hq2_ => ?_)
  · exact T_ret ⟨hG, hS⟩
  refine T_sw rfl l_2 (fun hq3_ => ?_) (fun hq3_ => ?_)
  · exact T_ret ⟨hG, hS⟩
  refine T_sw rfl l_3 (fun hq4_ => ?_) (fun hq4_ => ?_)
  · exact T_ret ⟨hG, hS⟩
  refine T_sw rfl l_4 (fun hq5_ => ?_) (fun hq5_ => ?_)
  · exact T_ret ⟨hG, hS⟩
  refine T_sw0 ?_
  exact T_ret ⟨hG, hS⟩
abbrev l_X10_stepsLeft_c25 : List Bx := []
abbrev po_X10_stepsLeft_c25 (a1 : Int32) (M : qM) (v : Int32) (M' : qM) : Prop := ((-40) ≤ v.toInt ∧ v.toInt ≤ 40) ∧ G M' ∧ Sm l_X10_stepsLeft_c25 M M'
theorem t_X10_stepsLeft_c25 {n : Nat} (hn : 200000 ≤ n) (a1 : Int32) (M : qM) (hG : G M) (pa1 : 0 ≤ a1.toInt ∧ a1.toInt ≤ 7) : qT (f_X10_stepsLeft n 25 a1 M) (po_X10_stepsLeft_c25 a1 M) := by
  have hS : Sm l_X10_stepsLeft_c25 M M := Sm.rf
  unfold f_X10_stepsLeft
  try simp only [Nat.reduceAdd]
  refine T_qg rfl (by omega) (by omega) ?_
  refine T_qg rfl (by omega) (by omega) ?_
  have hq1_ := r_32 hG a1.toNatClampNeg
  have hq2_ := r_33 hG a1.toNatClampNeg
  exact T_ret ⟨(i_rng (lo := (-40)) (hi := 40) (i_sub rfl rfl (by omega) (by omega)) (by omega) (by omega)), hG, hS⟩
