abbrev l_X6_repeatSteps : List Bx := [(53, 54, 3, 4), (54, 56, 0, 0)]
abbrev po_X6_repeatSteps (a1 a2 : Int32) (M : qM) (v : Int32) (M' : qM) : Prop := (0 ≤ v.toInt ∧ v.toInt ≤ 1) ∧ G M' ∧ Sm l_X6_repeatSteps M M'
theorem t_X6_repeatSteps_17 {n : Nat} (hn : 200000 ≤ n) {oa1 oa2 : Int32} {M0 : qM} {K8 : Int32 → Int32 → Int32 → Int32 → qM → qR} {BK8 : Nat} (hK8 : ∀ (a1 a2 a3 a4 : Int32) (M : qM), G M → Sm l_X6_repeatSteps M0 M → 0 ≤ a1.toInt ∧ a1.toInt ≤ 40 → 2 ≤ a2.toInt ∧ a2.toInt ≤ 9 → 0 ≤ a3.toInt ∧ a3.toInt ≤ 40 → 1 ≤ a4.toInt ∧ a4.toInt ≤ 10 → 10 - a4.toInt < (BK8 : Int) → qT (K8 a1 a2 a3 a4 M) (po_X6_repeatSteps oa1 oa2 M0)) : ∀ (m : Nat) (a1 a2 a3 a4 a5 : Int32) (M : qM), G M → Sm l_X6_repeatSteps M0 M → 0 ≤ a1.toInt ∧ a1.toInt ≤ 40 → 2 ≤ a2.toInt ∧ a2.toInt ≤ 9 → 0 ≤ a3.toInt ∧ a3.toInt ≤ 40 → 1 ≤ a4.toInt ∧ a4.toInt ≤ 9 → 0 ≤ a5.toInt ∧ a5.toInt ≤ 40 → 10 - a4.toInt < (BK8 : Int) + 1 → 40 - a5.toInt < (m : Int) → qT (f_X6_repeatSteps_17 n K8 m a1 a2 a3 a4 a5 M) (po_X6_repeatSteps oa1 oa2 M0) := by
  intro m
  induction m with
  | zero =>
    intro a1 a2 a3 a4 a5 M hG hS i0 i1 i2 i3 i4 i7 i8
    exfalso; omega
  | succ m ih =>
    intro a1 a2 a3 a4 a5 M hG hS i0 i1 i2 i3 i4 i7 i8
    show qT (b_X6_repeatSteps_17 n K8 (f_X6_repeatSteps_17 n K8 m) a1 a2 a3 a4 a5 M) _
    unfold b_X6_repeatSteps_17
    refine T_le rfl rfl (fun hq1_ => ?_) (fun hq1_ => ?_)
    · refine T_ql (i_add rfl l_1 (by omega) (by omega)) ?_
      intro xv2 hq3_
      exact hK8 a1 a2 a3 xv2 M hG hS (i_rng (lo := 0) (hi := 40) rfl (by omega) (by omega)) (i_rng (lo := 2) (hi := 9) rfl (by omega) (by omega)) (i_rng (lo := 0) (hi := 40) rfl (by omega) (by omega)) (i_rng (lo := 1) (hi := 10) rfl (by omega) (by omega)) (by omega)
    · refine T_qg rfl (by omega) (by omega) ?_
      refine T_qg rfl (by omega) (by omega) ?_
      refine T_qc (t_X6_addStep hn (M 54 a5.toNatClampNeg) (M 55 a5.toNatClampNeg) M hG ) ?_
      rintro rv4 mv5 ⟨hq6_, gq7_, kq8_⟩
      have kq9_ := Sm.call hS kq8_ rfl
      refine T_eq rfl l_0 (fun hq10_ => ?_) (fun hq10_ => ?_)
      · exact T_ret ⟨(i_rng (lo := 0) (hi := 1) l_0 (by omega) (by omega)), gq7_, kq9_⟩
      · refine T_ql (i_add rfl l_1 (by omega) (by omega)) ?_
        intro xv11 hq12_
        exact ih a1 a2 a3 a4 xv11 mv5 gq7_ kq9_ (i_rng (lo := 0) (hi := 40) rfl (by omega) (by omega)) (i_rng (lo := 2) (hi := 9) rfl (by omega) (by omega)) (i_rng (lo := 0) (hi := 40) rfl (by omega) (by omega)) (i_rng (lo := 1) (hi := 9) rfl (by omega) (by omega)) (i_rng (lo := 0) (hi := 40) rfl (by omega) (by omega)) (by omega) (by omega)
theorem t_X6_repeatSteps_8 {n : Nat} (hn : 200000 ≤ n) {oa1 oa2 : Int32} {M0 : qM} : ∀ (m : Nat) (a1 a2 a3 a4 : Int32) (M : qM), G M → Sm l_X6_repeatSteps M0 M → 0 ≤ a1.toInt ∧ a1.toInt ≤ 40 → 2 ≤ a2.toInt ∧ a2.toInt ≤ 9 → 0 ≤ a3.toInt ∧ a3.toInt ≤ 40 → 1 ≤ a4.toInt ∧ a4.toInt ≤ 10 → 10 - a4.toInt < (m : Int) → qT (f_X6_repeatSteps_8 n m a1 a2 a3 a4 M) (po_X6_repeatSteps oa1 oa2 M0) := by
  intro m
  induction m with
  | zero =>
    intro a1 a2 a3 a4 M hG hS i0 i1 i2 i3 i6
    exfalso; omega
  | succ m ih =>
    intro a1 a2 a3 a4 M hG hS i0 i1 i2 i3 i6
    show qT (b_X6_repeatSteps_8 n (f_X6_repeatSteps_8 n m) a1 a2 a3 a4 M) _
    unfold b_X6_repeatSteps_8
    refine T_le rfl rfl (fun hq13_ => ?_) (fun hq13_ => ?_)
    · exact T_ret ⟨(i_rng (lo := 0) (hi := 1) l_1 (by omega) (by omega)), hG, hS⟩
    · exact (t_X6_repeatSteps_17 hn ih) n a1 a2 a3 a4 a1 M hG hS (i_rng (lo := 0) (hi := 40) rfl (by omega) (by omega)) (i_rng (lo := 2) (hi := 9) rfl (by omega) (by omega)) (i_rng (lo := 0) (hi := 40) rfl (by omega) (by omega)) (i_rng (lo := 1) (hi := 9) rfl (by omega) (by omega)) (i_rng (lo := 0) (hi := 40) rfl (by omega) (by omega)) (by omega) (by omega)
theorem t_X6_repeatSteps {n : Nat} (hn : 200000 ≤ n) (a1 a2 : Int32) (M : qM) (hG : G M) (pa1 : 0 ≤ a1.toInt ∧ a1.toInt ≤ 40) (pa2 : 2 ≤ a2.toInt ∧ a2.toInt ≤ 9) : qT (f_X6_repeatSteps n a1 a2 M) (po_X6_repeatSteps a1 a2 M) := by
  have hS : Sm l_X6_repeatSteps M M := Sm.rf
  unfold f_X6_repeatSteps
  have hq14_ := r_53_3 hG
  refine T_ql rfl ?_
  intro xv15 hq16_
  exact (t_X6_repeatSteps_8 hn) n a1 a2 xv15 (1 : Int32) M hG hS (i_rng (lo := 0) (hi := 40) rfl (by omega) (by omega)) (i_rng (lo := 2) (hi := 9) rfl (by omega) (by omega)) (i_rng (lo := 0) (hi := 40) rfl (by omega) (by omega)) (i_rng (lo := 1) (hi := 10) l_1 (by omega) (by omega)) (by have e3 : ((1 : Int32)).toInt = _ := l_1; omega)
abbrev l_X6_readTry : List Bx := [(1, 2, 3, 5), (53, 54, 3, 4), (54, 56, 0, 0)]
abbrev po_X6_readTry (M : qM) (v : Int32) (M' : qM) : Prop := (0 ≤ v.toInt ∧ v.toInt ≤ 1) ∧ G M' ∧ Sm l_X6_readTry M M'
theorem t_X6_readTry {n : Nat} (hn : 200000 ≤ n) (M : qM) (hG : G M) : qT (f_X6_readTry n  M) (po_X6_readTry  M) := by
  have hS : Sm l_X6_readTry M M := Sm.rf
  unfold f_X6_readTry
  have hq1_ := r_1_3 hG
  refine T_ql rfl ?_
  intro xv2 hq3_
  refine T_qc (t_X9_digit hn  M hG ) ?_
  rintro rv4 mv5 ⟨hq6_, hq7_, gq8_, kq9_⟩
  have hq10_ := r_1_2 hG
  have hq11_ := r_2 hG ((M 1 3).toNatClampNeg)
  have hq12_ := kq9_.nil
  subst hq12_
  refine T_eq rfl l_m1 (fun hq13_ => ?_) (fun hq13_ => ?_)
  · refine T_qc (t_X9_fails hn (1 : Int32) xv2 M hG (i_rng (lo := 1) (hi := 6) l_1 (by omega) (by omega)) (i_rng (lo := 0) (hi := 240) rfl (by omega) (by omega))) ?_
    rintro rv14 mv15 ⟨hq16_, gq17_, kq18_⟩
    have kq19_ := Sm.call hS kq18_ rfl
    refine T_qb rfl (by omega) (by omega) ?_
    exact T_ret ⟨(i_rng (lo := 0) (hi := 1) rfl (by omega) (by omega)), gq17_, kq19_⟩
  · refine T_mu hG hS (i_rng (lo := 0) (hi := 240) (i_add rfl l_1 (by omega) (by omega)) (by omega) (by omega)) (nw_1 _) (i := 0) rfl ⟨by decide, by decide, Or.inr ⟨by decide, by decide⟩⟩ ?_
    intro mv20 hq21_ gq22_ kq23_
    have hq24_ : (mv20 1 3).toInt = ((M 1 3).toInt + 1) := by rw [hq21_, mu_at]; exact (i_add rfl l_1 (by omega) (by omega))
    refine T_qc (t_X9_digit hn  mv20 gq22_ ) ?_
    rintro rv25 mv26 ⟨hq27_, hq28_, gq29_, kq30_⟩
    have hq31_ := r_1_3 gq22_
    have hq32_ := r_1_2 gq22_
    have hq33_ := r_2 gq22_ ((mv20 1 3).toNatClampNeg)
    have hq34_ := kq30_.nil
    subst hq34_
    refine T_eq rfl l_m1 (fun hq35_ => ?_) (fun hq35_ => ?_)
    · unfold f_X6_readTry_81
      refine T_lt rfl l_12 (fun hq36_ => ?_) (fun hq36_ => ?_)
      · have hq39_ := (show ((38 : Int32)).toInt = _ from l_38)
        refine T_qc (t_X9_takes hn (38 : Int32) mv20 gq22_ (i_rng (lo := 0) (hi := 255) l_38 (by omega) (by omega))) ?_
        rintro rv37 mv38 ⟨hq40_, hq41_, gq42_, kq43_⟩
        have kq44_ := Sm.call kq23_ kq43_ rfl
        have hq45_ := r_1_3 gq42_
        refine T_eq rfl l_0 (fun hq46_ => ?_) (fun hq46_ => ?_)
        · unfold f_X6_readTry_169
          refine T_qc (t_X6_addStep hn rv4 (8 : Int32) mv38 gq42_ ) ?_
          rintro rv47 mv48 ⟨hq49_, gq50_, kq51_⟩
          have kq52_ := Sm.call kq44_ kq51_ rfl
          have hq53_ : (mv48 1 3).toInt = (mv38 1 3).toInt := by rw [kq51_ 1 3 (by decide)]
          refine T_eq rfl l_0 (fun hq54_ => ?_) (fun hq54_ => ?_)
          · refine T_qc (t_X9_fails hn (6 : Int32) xv2 mv48 gq50_ (i_rng (lo := 1) (hi := 6) l_6 (by omega) (by omega)) (i_rng (lo := 0) (hi := 240) rfl (by omega) (by omega))) ?_
            rintro rv55 mv56 ⟨hq57_, gq58_, kq59_⟩
            have kq60_ := Sm.call kq52_ kq59_ rfl
            have hq61_ : (mv56 1 3).toInt = (mv48 1 3).toInt := by rw [kq59_ 1 3 (by decide)]
            refine T_eq rfl l_0 (fun hq62_ => ?_) (fun hq62_ => ?_)
            · exact T_ret ⟨(i_rng (lo := 0) (hi := 1) l_0 (by omega) (by omega)), gq58_, kq60_⟩
            · exfalso; omega
          · exact T_ret ⟨(i_rng (lo := 0) (hi := 1) l_1 (by omega) (by omega)), gq50_, kq52_⟩
        · refine T_qc (t_X9_digit hn  mv38 gq42_ ) ?_
          rintro rv63 mv64 ⟨hq65_, hq66_, gq67_, kq68_⟩
          have hq69_ := r_1_2 gq42_
          have hq70_ := r_2 gq42_ ((mv38 1 3).toNatClampNeg)
          have hq71_ := kq68_.nil
          subst hq71_
          refine T_eq rfl l_m1 (fun hq72_ => ?_) (fun hq72_ => ?_)
          · unfold f_X6_readTry_131
            refine T_eq rfl l_m1 (fun hq73_ => ?_) (fun hq73_ => ?_)
            · unfold f_X6_readTry_145
              refine T_qc (t_X9_fails hn (1 : Int32) (mv38 1 3) mv38 gq42_ (i_rng (lo := 1) (hi := 6) l_1 (by omega) (by omega)) (i_rng (lo := 0) (hi := 240) rfl (by omega) (by omega))) ?_
              rintro rv74 mv75 ⟨hq76_, gq77_, kq78_⟩
              have kq79_ := Sm.call kq44_ kq78_ rfl
              have hq80_ : (mv75 1 3).toInt = (mv38 1 3).toInt := by rw [kq78_ 1 3 (by decide)]
              refine T_qb rfl (by omega) (by omega) ?_
              exact T_ret ⟨(i_rng (lo := 0) (hi := 1) rfl (by omega) (by omega)), gq77_, kq79_⟩
            · exfalso; omega
          · refine T_lt rfl l_8 (fun hq81_ => ?_) (fun hq81_ => ?_)
            · refine T_mu gq42_ kq44_ (i_rng (lo := 0) (hi := 240) (i_add rfl l_1 (by omega) (by omega)) (by omega) (by omega)) (nw_1 _) (i := 0) rfl ⟨by decide, by decide, Or.inr ⟨by decide, by decide⟩⟩ ?_
              intro mv82 hq83_ gq84_ kq85_
              have hq86_ : (mv82 1 3).toInt = ((mv38 1 3).toInt + 1) := by rw [hq83_, mu_at]; exact (i_add rfl l_1 (by omega) (by omega))
              unfold f_X6_readTry_169
              refine T_qc (t_X6_addStep hn rv4 rv63 mv82 gq84_ ) ?_
              rintro rv87 mv88 ⟨hq89_, gq90_, kq91_⟩
              have kq92_ := Sm.call kq85_ kq91_ rfl
              have hq93_ : (mv88 1 3).toInt = (mv82 1 3).toInt := by rw [kq91_ 1 3 (by decide)]
              refine T_eq rfl l_0 (fun hq94_ => ?_) (fun hq94_ => ?_)
              · refine T_qc (t_X9_fails hn (6 : Int32) xv2 mv88 gq90_ (i_rng (lo := 1) (hi := 6) l_6 (by omega) (by omega)) (i_rng (lo := 0) (hi := 240) rfl (by omega) (by omega))) ?_
                rintro rv95 mv96 ⟨hq97_, gq98_, kq99_⟩
                have kq100_ := Sm.call kq92_ kq99_ rfl
                have hq101_ : (mv96 1 3).toInt = (mv88 1 3).toInt := by rw [kq99_ 1 3 (by decide)]
                refine T_eq rfl l_0 (fun hq102_ => ?_) (fun hq102_ => ?_)
                · exact T_ret ⟨(i_rng (lo := 0) (hi := 1) l_0 (by omega) (by omega)), gq98_, kq100_⟩
                · exfalso; omega
              · exact T_ret ⟨(i_rng (lo := 0) (hi := 1) l_1 (by omega) (by omega)), gq90_, kq92_⟩
            · unfold f_X6_readTry_131
              refine T_eq rfl l_m1 (fun hq103_ => ?_) (fun hq103_ => ?_)
              · exfalso; omega
              · unfold f_X6_readTry_145
                refine T_qc (t_X9_fails hn (3 : Int32) (mv38 1 3) mv38 gq42_ (i_rng (lo := 1) (hi := 6) l_3 (by omega) (by omega)) (i_rng (lo := 0) (hi := 240) rfl (by omega) (by omega))) ?_
                rintro rv104 mv105 ⟨hq106_, gq107_, kq108_⟩
                have kq109_ := Sm.call kq44_ kq108_ rfl
                have hq110_ : (mv105 1 3).toInt = (mv38 1 3).toInt := by rw [kq108_ 1 3 (by decide)]
                refine T_qb rfl (by omega) (by omega) ?_
                exact T_ret ⟨(i_rng (lo := 0) (hi := 1) rfl (by omega) (by omega)), gq107_, kq109_⟩
      · exfalso; omega
    · refine T_qc (t_X9_digit hn  mv20 gq22_ ) ?_
      rintro rv111 mv112 ⟨hq113_, hq114_, gq115_, kq116_⟩
      have hq117_ := kq116_.nil
      subst hq117_
      refine T_ql (i_add (i_mul l_10 rfl (by omega) (by omega)) rfl (by omega) (by omega)) ?_
      intro xv118 hq119_
      refine T_mu gq22_ kq23_ (i_rng (lo := 0) (hi := 240) (i_add rfl l_1 (by omega) (by omega)) (by omega) (by omega)) (nw_1 _) (i := 0) rfl ⟨by decide, by decide, Or.inr ⟨by decide, by decide⟩⟩ ?_
      intro mv120 hq121_ gq122_ kq123_
      have hq124_ : (mv120 1 3).toInt = ((mv20 1 3).toInt + 1) := by rw [hq121_, mu_at]; exact (i_add rfl l_1 (by omega) (by omega))
      unfold f_X6_readTry_81
      refine T_lt rfl l_12 (fun hq125_ => ?_) (fun hq125_ => ?_)
      · have hq128_ := (show ((38 : Int32)).toInt = _ from l_38)
        refine T_qc (t_X9_takes hn (38 : Int32) mv120 gq122_ (i_rng (lo := 0) (hi := 255) l_38 (by omega) (by omega))) ?_
        rintro rv126 mv127 ⟨hq129_, hq130_, gq131_, kq132_⟩
        have hq133_ := r_1_3 gq122_
        have hq134_ := r_1_2 gq122_
        have kq135_ := Sm.call kq123_ kq132_ rfl
        have hq136_ := r_1_3 gq131_
        refine T_eq rfl l_0 (fun hq137_ => ?_) (fun hq137_ => ?_)
        · unfold f_X6_readTry_169
          refine T_qc (t_X6_addStep hn xv118 (8 : Int32) mv127 gq131_ ) ?_
          rintro rv138 mv139 ⟨hq140_, gq141_, kq142_⟩
          have kq143_ := Sm.call kq135_ kq142_ rfl
          have hq144_ : (mv139 1 3).toInt = (mv127 1 3).toInt := by rw [kq142_ 1 3 (by decide)]
          refine T_eq rfl l_0 (fun hq145_ => ?_) (fun hq145_ => ?_)
          · refine T_qc (t_X9_fails hn (6 : Int32) xv2 mv139 gq141_ (i_rng (lo := 1) (hi := 6) l_6 (by omega) (by omega)) (i_rng (lo := 0) (hi := 240) rfl (by omega) (by omega))) ?_
            rintro rv146 mv147 ⟨hq148_, gq149_, kq150_⟩
            have kq151_ := Sm.call kq143_ kq150_ rfl
            have hq152_ : (mv147 1 3).toInt = (mv139 1 3).toInt := by rw [kq150_ 1 3 (by decide)]
            refine T_eq rfl l_0 (fun hq153_ => ?_) (fun hq153_ => ?_)
            · exact T_ret ⟨(i_rng (lo := 0) (hi := 1) l_0 (by omega) (by omega)), gq149_, kq151_⟩
            · exfalso; omega
          · exact T_ret ⟨(i_rng (lo := 0) (hi := 1) l_1 (by omega) (by omega)), gq141_, kq143_⟩
        · refine T_qc (t_X9_digit hn  mv127 gq131_ ) ?_
          rintro rv154 mv155 ⟨hq156_, hq157_, gq158_, kq159_⟩
          have hq160_ := r_1_2 gq131_
          have hq161_ := r_2 gq131_ ((mv127 1 3).toNatClampNeg)
          have hq162_ := kq159_.nil
          subst hq162_
          refine T_eq rfl l_m1 (fun hq163_ => ?_) (fun hq163_ => ?_)
          · unfold f_X6_readTry_131
            refine T_eq rfl l_m1 (fun hq164_ => ?_) (fun hq164_ => ?_)
            · unfold f_X6_readTry_145
              refine T_qc (t_X9_fails hn (1 : Int32) (mv127 1 3) mv127 gq131_ (i_rng (lo := 1) (hi := 6) l_1 (by omega) (by omega)) (i_rng (lo := 0) (hi := 240) rfl (by omega) (by omega))) ?_
              rintro rv165 mv166 ⟨hq167_, gq168_, kq169_⟩
              have kq170_ := Sm.call kq135_ kq169_ rfl
              have hq171_ : (mv166 1 3).toInt = (mv127 1 3).toInt := by rw [kq169_ 1 3 (by decide)]
              refine T_qb rfl (by omega) (by omega) ?_
              exact T_ret ⟨(i_rng (lo := 0) (hi := 1) rfl (by omega) (by omega)), gq168_, kq170_⟩
            · exfalso; omega
          · refine T_lt rfl l_8 (fun hq172_ => ?_) (fun hq172_ => ?_)
            · refine T_mu gq131_ kq135_ (i_rng (lo := 0) (hi := 240) (i_add rfl l_1 (by omega) (by omega)) (by omega) (by omega)) (nw_1 _) (i := 0) rfl ⟨by decide, by decide, Or.inr ⟨by decide, by decide⟩⟩ ?_
              intro mv173 hq174_ gq175_ kq176_
              have hq177_ : (mv173 1 3).toInt = ((mv127 1 3).toInt + 1) := by rw [hq174_, mu_at]; exact (i_add rfl l_1 (by omega) (by omega))
              unfold f_X6_readTry_169
              refine T_qc (t_X6_addStep hn xv118 rv154 mv173 gq175_ ) ?_
              rintro rv178 mv179 ⟨hq180_, gq181_, kq182_⟩
              have kq183_ := Sm.call kq176_ kq182_ rfl
              have hq184_ : (mv179 1 3).toInt = (mv173 1 3).toInt := by rw [kq182_ 1 3 (by decide)]
              refine T_eq rfl l_0 (fun hq185_ => ?_) (fun hq185_ => ?_)
              · refine T_qc (t_X9_fails hn (6 : Int32) xv2 mv179 gq181_ (i_rng (lo := 1) (hi := 6) l_6 (by omega) (by omega)) (i_rng (lo := 0) (hi := 240) rfl (by omega) (by omega))) ?_
                rintro rv186 mv187 ⟨hq188_, gq189_, kq190_⟩
                have kq191_ := Sm.call kq183_ kq190_ rfl
                have hq192_ : (mv187 1 3).toInt = (mv179 1 3).toInt := by rw [kq190_ 1 3 (by decide)]
                refine T_eq rfl l_0 (fun hq193_ => ?_) (fun hq193_ => ?_)
                · exact T_ret ⟨(i_rng (lo := 0) (hi := 1) l_0 (by omega) (by omega)), gq189_, kq191_⟩
                · exfalso; omega
              · exact T_ret ⟨(i_rng (lo := 0) (hi := 1) l_1 (by omega) (by omega)), gq181_, kq183_⟩
            · unfold f_X6_readTry_131
              refine T_eq rfl l_m1 (fun hq194_ => ?_) (fun hq194_ => ?_)
              · exfalso; omega
              · unfold f_X6_readTry_145
                refine T_qc (t_X9_fails hn (3 : Int32) (mv127 1 3) mv127 gq131_ (i_rng (lo := 1) (hi := 6) l_3 (by omega) (by omega)) (i_rng (lo := 0) (hi := 240) rfl (by omega) (by omega))) ?_
                rintro rv195 mv196 ⟨hq197_, gq198_, kq199_⟩
                have kq200_ := Sm.call kq135_ kq199_ rfl
                have hq201_ : (mv196 1 3).toInt = (mv127 1 3).toInt := by rw [kq199_ 1 3 (by decide)]
                refine T_qb rfl (by omega) (by omega) ?_
                exact T_ret ⟨(i_rng (lo := 0) (hi := 1) rfl (by omega) (by omega)), gq198_, kq200_⟩
      · refine T_qc (t_X9_fails hn (3 : Int32) xv2 mv120 gq122_ (i_rng (lo := 1) (hi := 6) l_3 (by omega) (by omega)) (i_rng (lo := 0) (hi := 240) rfl (by omega) (by omega))) ?_
        rintro rv202 mv203 ⟨hq204_, gq205_, kq206_⟩
        have kq207_ := Sm.call kq123_ kq206_ rfl
        have hq208_ : (mv203 1 3).toInt = (mv120 1 3).toInt := by rw [kq206_ 1 3 (by decide)]
        refine T_qb rfl (by omega) (by omega) ?_
        exact T_ret ⟨(i_rng (lo := 0) (hi := 1) rfl (by omega) (by omega)), gq205_, kq207_⟩
abbrev l_X6_readStep : List Bx := [(1, 2, 3, 5), (53, 54, 3, 4), (54, 56, 0, 0)]
abbrev po_X6_readStep (a1 : Int32) (M : qM) (v : Int32) (M' : qM) : Prop := (0 ≤ v.toInt ∧ v.toInt ≤ 1) ∧ G M' ∧ Sm l_X6_readStep M M'
abbrev l_X6_readSteps : List Bx := [(1, 2, 3, 5), (53, 54, 3, 4), (54, 56, 0, 0)]
abbrev po_X6_readSteps (a1 : Int32) (M : qM) (v : Int32) (M' : qM) : Prop := (0 ≤ v.toInt ∧ v.toInt ≤ 1) ∧ G M' ∧ Sm l_X6_readSteps M M'
theorem to_X6_readStep {n : Nat} (hn : 200000 ≤ n) {B : Nat} {F_X6_readSteps : Int32 → qM → qR} (hF_X6_readSteps : ∀ (a1 : Int32) (M : qM), G M → 0 ≤ a1.toInt ∧ a1.toInt ≤ 3 → 2 * (3 - a1.toInt) + 1 < (B : Int) → qT (F_X6_readSteps a1 M) (po_X6_readSteps a1 M)) (a1 : Int32) (M : qM) (hG : G M) (pa1 : 0 ≤ a1.toInt ∧ a1.toInt ≤ 3) (hb : 2 * (3 - a1.toInt) < (B : Int) + 1) : qT (fo_X6_readStep n F_X6_readSteps a1 M) (po_X6_readStep a1 M) := by
  have hS : Sm l_X6_readStep M M := Sm.rf
  unfold fo_X6_readStep
  refine T_qc (t_X9_sign hn  M hG ) ?_
  rintro rv1 mv2 ⟨hq3_, hq4_, gq5_, kq6_⟩
  have hq7_ := r_1_3 hG
  have hq8_ := r_1_2 hG
  have hq9_ := r_2 hG ((M 1 3).toNatClampNeg)
  have hq10_ := kq6_.nil
  subst hq10_
  refine T_eq rfl l_40 (fun hq11_ => ?_) (fun hq11_ => ?_)
  · refine T_ql rfl ?_
    intro xv12 hq13_
    have hq14_ := r_53_3 hG
    refine T_ql rfl ?_
    intro xv15 hq16_
    refine T_lt rfl l_3 (fun hq17_ => ?_) (fun hq17_ => ?_)
    · refine T_mu hG hS (i_rng (lo := 0) (hi := 240) (i_add rfl l_1 (by omega) (by omega)) (by omega) (by omega)) (nw_1 _) (i := 0) rfl ⟨by decide, by decide, Or.inr ⟨by decide, by decide⟩⟩ ?_
      intro mv18 hq19_ gq20_ kq21_
      have hq22_ : (mv18 1 3).toInt = ((M 1 3).toInt + 1) := by rw [hq19_, mu_at]; exact (i_add rfl l_1 (by omega) (by omega))
      refine T_qc (hF_X6_readSteps (a1 + (1 : Int32)) mv18 gq20_ (i_rng (lo := 0) (hi := 3) (i_add rfl l_1 (by omega) (by omega)) (by omega) (by omega)) (by have e0 : (a1 + (1 : Int32)).toInt = _ := (i_add rfl l_1 (by omega) (by omega)); omega)) ?_
      rintro rv23 mv24 ⟨hq25_, gq26_, kq27_⟩
      have kq28_ := Sm.call kq21_ kq27_ rfl
      refine T_eq rfl l_0 (fun hq29_ => ?_) (fun hq29_ => ?_)
      · exact T_ret ⟨(i_rng (lo := 0) (hi := 1) l_0 (by omega) (by omega)), gq26_, kq28_⟩
      · have hq32_ := (show ((41 : Int32)).toInt = _ from l_41)
        refine T_qc (t_X9_mustTake hn (41 : Int32) mv24 gq26_ (i_rng (lo := 0) (hi := 255) l_41 (by omega) (by omega))) ?_
        rintro rv30 mv31 ⟨hq33_, hq34_, gq35_, kq36_⟩
        have hq37_ := r_1_3 gq26_
        have hq38_ := r_1_2 gq26_
        have kq39_ := Sm.call kq28_ kq36_ rfl
        have hq40_ := r_1_3 gq35_
        refine T_eq rfl l_0 (fun hq41_ => ?_) (fun hq41_ => ?_)
        · exact T_ret ⟨(i_rng (lo := 0) (hi := 1) l_0 (by omega) (by omega)), gq35_, kq39_⟩
        · refine T_qc (t_X9_digit hn  mv31 gq35_ ) ?_
          rintro rv42 mv43 ⟨hq44_, hq45_, gq46_, kq47_⟩
          have hq48_ := r_1_2 gq35_
          have hq49_ := r_2 gq35_ ((mv31 1 3).toNatClampNeg)
          have hq50_ := kq47_.nil
          subst hq50_
          refine T_le l_2 rfl (fun hq51_ => ?_) (fun hq51_ => ?_)
          · refine T_mu gq35_ kq39_ (i_rng (lo := 0) (hi := 240) (i_add rfl l_1 (by omega) (by omega)) (by omega) (by omega)) (nw_1 _) (i := 0) rfl ⟨by decide, by decide, Or.inr ⟨by decide, by decide⟩⟩ ?_
            intro mv52 hq53_ gq54_ kq55_
            have hq56_ : (mv52 1 3).toInt = ((mv31 1 3).toInt + 1) := by rw [hq53_, mu_at]; exact (i_add rfl l_1 (by omega) (by omega))
            refine T_qc (t_X6_repeatSteps hn xv15 rv42 mv52 gq54_ (i_rng (lo := 0) (hi := 40) rfl (by omega) (by omega)) (i_rng (lo := 2) (hi := 9) rfl (by omega) (by omega))) ?_
            rintro rv57 mv58 ⟨hq59_, gq60_, kq61_⟩
            have kq62_ := Sm.call kq55_ kq61_ rfl
            have hq63_ : (mv58 1 3).toInt = (mv52 1 3).toInt := by rw [kq61_ 1 3 (by decide)]
            refine T_eq rfl l_0 (fun hq64_ => ?_) (fun hq64_ => ?_)
            · refine T_qc (t_X9_fails hn (6 : Int32) xv12 mv58 gq60_ (i_rng (lo := 1) (hi := 6) l_6 (by omega) (by omega)) (i_rng (lo := 0) (hi := 240) rfl (by omega) (by omega))) ?_
              rintro rv65 mv66 ⟨hq67_, gq68_, kq69_⟩
              have kq70_ := Sm.call kq62_ kq69_ rfl
              have hq71_ : (mv66 1 3).toInt = (mv58 1 3).toInt := by rw [kq69_ 1 3 (by decide)]
              refine T_eq rfl l_0 (fun hq72_ => ?_) (fun hq72_ => ?_)
              · exact T_ret ⟨(i_rng (lo := 0) (hi := 1) l_0 (by omega) (by omega)), gq68_, kq70_⟩
              · exfalso; omega
            · exact T_ret ⟨(i_rng (lo := 0) (hi := 1) l_1 (by omega) (by omega)), gq60_, kq62_⟩
          · refine T_qc (t_X9_fails hn (1 : Int32) (mv31 1 3) mv31 gq35_ (i_rng (lo := 1) (hi := 6) l_1 (by omega) (by omega)) (i_rng (lo := 0) (hi := 240) rfl (by omega) (by omega))) ?_
            rintro rv73 mv74 ⟨hq75_, gq76_, kq77_⟩
            have kq78_ := Sm.call kq39_ kq77_ rfl
            have hq79_ : (mv74 1 3).toInt = (mv31 1 3).toInt := by rw [kq77_ 1 3 (by decide)]
            refine T_qb rfl (by omega) (by omega) ?_
            exact T_ret ⟨(i_rng (lo := 0) (hi := 1) rfl (by omega) (by omega)), gq76_, kq78_⟩
    · refine T_qc (t_X9_fails hn (5 : Int32) xv12 M hG (i_rng (lo := 1) (hi := 6) l_5 (by omega) (by omega)) (i_rng (lo := 0) (hi := 240) rfl (by omega) (by omega))) ?_
      rintro rv80 mv81 ⟨hq82_, gq83_, kq84_⟩
      have kq85_ := Sm.call hS kq84_ rfl
      refine T_qb rfl (by omega) (by omega) ?_
      exact T_ret ⟨(i_rng (lo := 0) (hi := 1) rfl (by omega) (by omega)), gq83_, kq85_⟩
  · refine T_qc (t_X6_readTry hn  M hG ) ?_
    rintro rv86 mv87 ⟨hq88_, gq89_, kq90_⟩
    have kq91_ := Sm.call hS kq90_ rfl
    refine T_qb rfl (by omega) (by omega) ?_
    exact T_ret ⟨(i_rng (lo := 0) (hi := 1) rfl (by omega) (by omega)), gq89_, kq91_⟩
theorem t_X6_readSteps_8 {n : Nat} (hn : 200000 ≤ n) {B : Nat} {F_X6_readStep : Int32 → qM → qR} (hF_X6_readStep : ∀ (a1 : Int32) (M : qM), G M → 0 ≤ a1.toInt ∧ a1.toInt ≤ 3 → 2 * (3 - a1.toInt) < (B : Int) → qT (F_X6_readStep a1 M) (po_X6_readStep a1 M)) {oa1 : Int32} {M0 : qM} : ∀ (m : Nat) (a1 a2 a3 : Int32) (M : qM), G M → Sm l_X6_readSteps M0 M → 0 ≤ a1.toInt ∧ a1.toInt ≤ 3 → 0 ≤ a2.toInt ∧ a2.toInt ≤ 1 → 0 ≤ a3.toInt ∧ a3.toInt ≤ 80 → 2 * (3 - a1.toInt) + 1 < (B : Int) + 1 → 80 - a3.toInt < (m : Int) → qT (f_X6_readSteps_8 n F_X6_readStep m a1 a2 a3 M) (po_X6_readSteps oa1 M0) := by
  intro m
  induction m with
  | zero =>
    intro a1 a2 a3 M hG hS i0 i1 i2 i5 i6
    exfalso; omega
  | succ m ih =>
    intro a1 a2 a3 M hG hS i0 i1 i2 i5 i6
    show qT (b_X6_readSteps_8 n F_X6_readStep (f_X6_readSteps_8 n F_X6_readStep m) a1 a2 a3 M) _
    unfold b_X6_readSteps_8
    refine T_le l_80 rfl (fun hq2_ => ?_) (fun hq2_ => ?_)
    · refine T_qb rfl (by omega) (by omega) ?_
      exact T_ret ⟨(i_rng (lo := 0) (hi := 1) rfl (by omega) (by omega)), hG, hS⟩
    · refine T_eq rfl l_0 (fun hq3_ => ?_) (fun hq3_ => ?_)
      · refine T_qb rfl (by omega) (by omega) ?_
        exact T_ret ⟨(i_rng (lo := 0) (hi := 1) rfl (by omega) (by omega)), hG, hS⟩
      · have hq6_ := (show ((44 : Int32)).toInt = _ from l_44)
        refine T_qc (t_X9_takes hn (44 : Int32) M hG (i_rng (lo := 0) (hi := 255) l_44 (by omega) (by omega))) ?_
        rintro rv4 mv5 ⟨hq7_, hq8_, gq9_, kq10_⟩
        have hq11_ := r_1_3 hG
        have hq12_ := r_1_2 hG
        have kq13_ := Sm.call hS kq10_ rfl
        have hq14_ := r_1_3 gq9_
        refine T_eq rfl l_0 (fun hq15_ => ?_) (fun hq15_ => ?_)
        · exact T_ret ⟨(i_rng (lo := 0) (hi := 1) l_1 (by omega) (by omega)), gq9_, kq13_⟩
        · refine T_qc (hF_X6_readStep a1 mv5 gq9_ (i_rng (lo := 0) (hi := 3) rfl (by omega) (by omega)) (by omega)) ?_
          rintro rv16 mv17 ⟨hq18_, gq19_, kq20_⟩
          have kq21_ := Sm.call kq13_ kq20_ rfl
          refine T_ql (i_add rfl l_1 (by omega) (by omega)) ?_
          intro xv22 hq23_
          exact ih a1 rv16 xv22 mv17 gq19_ kq21_ (i_rng (lo := 0) (hi := 3) rfl (by omega) (by omega)) (i_rng (lo := 0) (hi := 1) rfl (by omega) (by omega)) (i_rng (lo := 0) (hi := 80) rfl (by omega) (by omega)) (by omega) (by omega)
theorem to_X6_readSteps {n : Nat} (hn : 200000 ≤ n) {B : Nat} {F_X6_readStep : Int32 → qM → qR} (hF_X6_readStep : ∀ (a1 : Int32) (M : qM), G M → 0 ≤ a1.toInt ∧ a1.toInt ≤ 3 → 2 * (3 - a1.toInt) < (B : Int) → qT (F_X6_readStep a1 M) (po_X6_readStep a1 M)) (a1 : Int32) (M : qM) (hG : G M) (pa1 : 0 ≤ a1.toInt ∧ a1.toInt ≤ 3) (hb : 2 * (3 - a1.toInt) + 1 < (B : Int) + 1) : qT (fo_X6_readSteps n F_X6_readStep a1 M) (po_X6_readSteps a1 M) := by
  have hS : Sm l_X6_readSteps M M := Sm.rf
  unfold fo_X6_readSteps
  refine T_qc (hF_X6_readStep a1 M hG (i_rng (lo := 0) (hi := 3) rfl (by omega) (by omega)) (by omega)) ?_
  rintro rv24 mv25 ⟨hq26_, gq27_, kq28_⟩
  have kq29_ := Sm.call hS kq28_ rfl
  exact (t_X6_readSteps_8 hn hF_X6_readStep) n a1 rv24 (0 : Int32) mv25 gq27_ kq29_ (i_rng (lo := 0) (hi := 3) rfl (by omega) (by omega)) (i_rng (lo := 0) (hi := 1) rfl (by omega) (by omega)) (i_rng (lo := 0) (hi := 80) l_0 (by omega) (by omega)) (by omega) (by have e2 : ((0 : Int32)).toInt = _ := l_0; omega)
theorem trc_X6_readStep {n : Nat} (hn : 200000 ≤ n) : ∀ m : Nat, (∀ (a1 : Int32) (M : qM), G M → 0 ≤ a1.toInt ∧ a1.toInt ≤ 3 → 2 * (3 - a1.toInt) < (m : Int) → qT (rc_X6_readStep n m 0 a1 M) (po_X6_readStep a1 M)) ∧ (∀ (a1 : Int32) (M : qM), G M → 0 ≤ a1.toInt ∧ a1.toInt ≤ 3 → 2 * (3 - a1.toInt) + 1 < (m : Int) → qT (rc_X6_readStep n m 1 a1 M) (po_X6_readSteps a1 M)) := by
  intro m
  induction m with
  | zero =>
    exact ⟨(fun a1 M q0 q1 q2 => by exfalso; omega), (fun a1 M q0 q1 q2 => by exfalso; omega)⟩
  | succ m ih =>
    refine ⟨?_, ?_⟩
    · exact fun a1 M q0 q1 q2 => to_X6_readStep hn (B := m) (ih.2) a1 M q0 q1 (by omega)
    · exact fun a1 M q0 q1 q2 => to_X6_readSteps hn (B := m) (ih.1) a1 M q0 q1 (by omega)
theorem t_X6_readStep {n : Nat} (hn : 200000 ≤ n) (a1 : Int32) (M : qM) (hG : G M) (pa1 : 0 ≤ a1.toInt ∧ a1.toInt ≤ 3) : qT (f_X6_readStep n a1 M) (po_X6_readStep a1 M) := by
  unfold f_X6_readStep
  exact (trc_X6_readStep hn 14).1 a1 M hG pa1 (by omega)
theorem t_X6_readSteps {n : Nat} (hn : 200000 ≤ n) (a1 : Int32) (M : qM) (hG : G M) (pa1 : 0 ≤ a1.toInt ∧ a1.toInt ≤ 3) : qT (f_X6_readSteps n a1 M) (po_X6_readSteps a1 M) := by
  unfold f_X6_readSteps
  exact (trc_X6_readStep hn 14).2 a1 M hG pa1 (by omega)
abbrev l_X6_read : List Bx := [(1, 2, 2, 5), (53, 54, 3, 4), (54, 56, 0, 0)]
abbrev po_X6_read (a1 : Int32) (M : qM) (v : Int32) (M' : qM) : Prop := G M' ∧ Sm l_X6_read M M'
theorem t_X6_read {n : Nat} (hn : 200000 ≤ n) (a1 : Int32) (M : qM) (hG : G M) (pa1 : 1 ≤ a1.toInt ∧ a1.toInt ≤ 80) : qT (f_X6_read n a1 M) (po_X6_read a1 M) := by
  have hS : Sm l_X6_read M M := Sm.rf
  unfold f_X6_read
  refine T_qc (t_X9_openText hn a1 M hG (i_rng (lo := 1) (hi := 240) rfl (by omega) (by omega))) ?_
  rintro rv1 mv2 ⟨hq3_, hq4_, gq5_, kq6_⟩
  have kq7_ := Sm.call hS kq6_ rfl
  have hq8_ := r_1_3 gq5_
  refine T_mu gq5_ kq7_ (i_rng (lo := 0) (hi := 40) l_0 (by omega) (by omega)) (nw_53 _) (i := 1) rfl ⟨by decide, by decide, Or.inr ⟨by decide, by decide⟩⟩ ?_
  intro mv9 hq10_ gq11_ kq12_
  have hq13_ : (mv9 1 3).toInt = (mv2 1 3).toInt := by rw [hq10_, mu_ne (Or.inl (by decide))]
  have hq14_ : (mv9 53 3).toInt = 0 := by rw [hq10_, mu_at]; exact l_0
  refine T_qc (t_X6_readSteps hn (0 : Int32) mv9 gq11_ (i_rng (lo := 0) (hi := 3) l_0 (by omega) (by omega))) ?_
  rintro rv15 mv16 ⟨hq17_, gq18_, kq19_⟩
  have kq20_ := Sm.call kq12_ kq19_ rfl
  refine T_eq rfl l_0 (fun hq21_ => ?_) (fun hq21_ => ?_)
  · exact T_ret ⟨gq18_, kq20_⟩
  · refine T_qc (t_X9_mustEnd hn  mv16 gq18_ ) ?_
    rintro rv22 mv23 ⟨hq24_, gq25_, kq26_⟩
    have kq27_ := Sm.call kq20_ kq26_ rfl
    refine T_eq rfl l_0 (fun hq28_ => ?_) (fun hq28_ => ?_)
    · exact T_ret ⟨gq25_, kq27_⟩
    · have hq29_ := r_53_3 gq25_
      exact T_ret ⟨gq25_, kq27_⟩
