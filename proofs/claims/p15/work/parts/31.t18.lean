abbrev l_X12_dayOf : List Bx := [(77, 78, 37, 43), (78, 79, 0, 288), (78, 79, 304, 312), (96, 98, 0, 0)]
abbrev po_X12_dayOf (a1 : Int32) (M : qM) (v : Int32) (M' : qM) : Prop := (0 ≤ v.toInt ∧ v.toInt ≤ 0) ∧ G M' ∧ Sm l_X12_dayOf M M'
theorem t_X12_dayOf_3 {n : Nat} (hn : 200000 ≤ n) {oa1 : Int32} {M0 : qM} : ∀ (m : Nat) (a1 a2 : Int32) (M : qM), G M → Sm l_X12_dayOf M0 M → 0 ≤ a1.toInt ∧ a1.toInt ≤ 7 → 40 - (M 78 ((304 : Int32) + a1).toNatClampNeg).toInt < (m : Int) → qT (f_X12_dayOf_3 n m a1 a2 M) (po_X12_dayOf oa1 M0) := by
  intro m
  induction m with
  | zero =>
    intro a1 a2 M hG hS i0 i3
    have hq1_ := r78 (c := 78) (s := (((304 : Int32) + a1).toNatClampNeg)) hG (by decide) (by rw [tnc, (i_add l_304 rfl (by omega) (by omega))]; omega) (by rw [tnc, (i_add l_304 rfl (by omega) (by omega))]; omega)
    have hq2_ := r78 (c := 78) (s := (((296 : Int32) + a1).toNatClampNeg)) hG (by decide) (by rw [tnc, (i_add l_296 rfl (by omega) (by omega))]; omega) (by rw [tnc, (i_add l_296 rfl (by omega) (by omega))]; omega)
    exfalso; omega
  | succ m ih =>
    intro a1 a2 M hG hS i0 i3
    show qT (b_X12_dayOf_3 n (f_X12_dayOf_3 n m) a1 a2 M) _
    unfold b_X12_dayOf_3
    have hq1_ := r78 (c := 78) (s := (((304 : Int32) + a1).toNatClampNeg)) hG (by decide) (by rw [tnc, (i_add l_304 rfl (by omega) (by omega))]; omega) (by rw [tnc, (i_add l_304 rfl (by omega) (by omega))]; omega)
    have hq2_ := r78 (c := 78) (s := (((296 : Int32) + a1).toNatClampNeg)) hG (by decide) (by rw [tnc, (i_add l_296 rfl (by omega) (by omega))]; omega) (by rw [tnc, (i_add l_296 rfl (by omega) (by omega))]; omega)
    refine T_qg (i_add l_304 rfl (by omega) (by omega)) (by omega) (by omega) ?_
    refine T_qg (i_add l_296 rfl (by omega) (by omega)) (by omega) (by omega) ?_
    refine T_le rfl rfl (fun hq3_ => ?_) (fun hq3_ => ?_)
    · exact T_ret ⟨(i_rng (lo := 0) (hi := 0) l_0 (by omega) (by omega)), hG, hS⟩
    · refine T_qg (i_add l_304 rfl (by omega) (by omega)) (by omega) (by omega) ?_
      refine T_ql (i_add (i_mul l_40 rfl (by omega) (by omega)) rfl (by omega) (by omega)) ?_
      intro xv4 hq5_
      refine T_qg (i_add l_314 rfl (by omega) (by omega)) (by omega) (by omega) ?_
      refine T_ql rfl ?_
      intro xv6 hq7_
      refine T_qg (i_add l_634 rfl (by omega) (by omega)) (by omega) (by omega) ?_
      refine T_ql rfl ?_
      intro xv8 hq9_
      refine T_qc (t_X12_isKind hn xv6 M hG ) ?_
      rintro rv10 mv11 ⟨hq12_, hq13_, gq14_, kq15_⟩
      have hq16_ := kq15_.nil
      subst hq16_
      refine T_eq rfl l_0 (fun hq17_ => ?_) (fun hq17_ => ?_)
      · unfold f_X12_dayOf_101
        unfold f_X12_dayOf_102
        refine T_eq l_0 l_0 (fun hq18_ => ?_) (fun hq18_ => ?_)
        · unfold f_X12_dayOf_121
          refine T_qg (i_add l_304 rfl (by omega) (by omega)) (by omega) (by omega) ?_
          refine T_qg (i_add l_304 rfl (by omega) (by omega)) (by omega) (by omega) ?_
          refine T_mu hG hS (ri78 (by decide) (i_rng (lo := 0) (hi := 40) (i_add rfl l_1 (by omega) (by omega)) (by omega) (by omega))) (nw_78 _) (i := 2) rfl ⟨by decide, by decide, Or.inr ⟨(show 304 ≤ _ by rw [tnc, (i_add l_304 rfl (by omega) (by omega))]; omega), (show _ < 312 by rw [tnc, (i_add l_304 rfl (by omega) (by omega))]; omega)⟩⟩ ?_
          intro mv19 hq20_ gq21_ kq22_
          have hq23_ : (mv19 78 (((304 : Int32) + a1).toNatClampNeg)).toInt = ((M 78 (((304 : Int32) + a1).toNatClampNeg)).toInt + 1) := by rw [hq20_, mu_at]; exact (i_add rfl l_1 (by omega) (by omega))
          refine T_eq l_0 l_0 (fun hq24_ => ?_) (fun hq24_ => ?_)
          · have hq25_ := r78 (c := 78) (s := (((304 : Int32) + a1).toNatClampNeg)) gq21_ (by decide) (by rw [tnc, (i_add l_304 rfl (by omega) (by omega))]; omega) (by rw [tnc, (i_add l_304 rfl (by omega) (by omega))]; omega)
            have hq26_ := r78 (c := 78) (s := (((296 : Int32) + a1).toNatClampNeg)) gq21_ (by decide) (by rw [tnc, (i_add l_296 rfl (by omega) (by omega))]; omega) (by rw [tnc, (i_add l_296 rfl (by omega) (by omega))]; omega)
            exact ih a1 a2 mv19 gq21_ kq22_ (i_rng (lo := 0) (hi := 7) rfl (by omega) (by omega)) (by omega)
          · exfalso; omega
        · exfalso; omega
      · refine T_eq rfl rfl (fun hq27_ => ?_) (fun hq27_ => ?_)
        · unfold f_X12_dayOf_101
          unfold f_X12_dayOf_102
          refine T_eq l_0 l_0 (fun hq28_ => ?_) (fun hq28_ => ?_)
          · unfold f_X12_dayOf_121
            refine T_qg (i_add l_304 rfl (by omega) (by omega)) (by omega) (by omega) ?_
            refine T_qg (i_add l_304 rfl (by omega) (by omega)) (by omega) (by omega) ?_
            refine T_mu hG hS (ri78 (by decide) (i_rng (lo := 0) (hi := 40) (i_add rfl l_1 (by omega) (by omega)) (by omega) (by omega))) (nw_78 _) (i := 2) rfl ⟨by decide, by decide, Or.inr ⟨(show 304 ≤ _ by rw [tnc, (i_add l_304 rfl (by omega) (by omega))]; omega), (show _ < 312 by rw [tnc, (i_add l_304 rfl (by omega) (by omega))]; omega)⟩⟩ ?_
            intro mv29 hq30_ gq31_ kq32_
            have hq33_ : (mv29 78 (((304 : Int32) + a1).toNatClampNeg)).toInt = ((M 78 (((304 : Int32) + a1).toNatClampNeg)).toInt + 1) := by rw [hq30_, mu_at]; exact (i_add rfl l_1 (by omega) (by omega))
            refine T_eq l_0 l_0 (fun hq34_ => ?_) (fun hq34_ => ?_)
            · have hq35_ := r78 (c := 78) (s := (((304 : Int32) + a1).toNatClampNeg)) gq31_ (by decide) (by rw [tnc, (i_add l_304 rfl (by omega) (by omega))]; omega) (by rw [tnc, (i_add l_304 rfl (by omega) (by omega))]; omega)
              have hq36_ := r78 (c := 78) (s := (((296 : Int32) + a1).toNatClampNeg)) gq31_ (by decide) (by rw [tnc, (i_add l_296 rfl (by omega) (by omega))]; omega) (by rw [tnc, (i_add l_296 rfl (by omega) (by omega))]; omega)
              exact ih a1 a2 mv29 gq31_ kq32_ (i_rng (lo := 0) (hi := 7) rfl (by omega) (by omega)) (by omega)
            · exfalso; omega
          · exfalso; omega
        · refine T_eq rfl l_8 (fun hq37_ => ?_) (fun hq37_ => ?_)
          · unfold f_X12_dayOf_102
            refine T_eq l_1 l_0 (fun hq38_ => ?_) (fun hq38_ => ?_)
            · exfalso; omega
            · refine T_qg rfl (by omega) (by omega) ?_
              refine T_le rfl rfl (fun hq39_ => ?_) (fun hq39_ => ?_)
              · unfold f_X12_dayOf_121
                refine T_qg (i_add l_304 rfl (by omega) (by omega)) (by omega) (by omega) ?_
                refine T_qg (i_add l_304 rfl (by omega) (by omega)) (by omega) (by omega) ?_
                refine T_mu hG hS (ri78 (by decide) (i_rng (lo := 0) (hi := 40) (i_add rfl l_1 (by omega) (by omega)) (by omega) (by omega))) (nw_78 _) (i := 2) rfl ⟨by decide, by decide, Or.inr ⟨(show 304 ≤ _ by rw [tnc, (i_add l_304 rfl (by omega) (by omega))]; omega), (show _ < 312 by rw [tnc, (i_add l_304 rfl (by omega) (by omega))]; omega)⟩⟩ ?_
                intro mv40 hq41_ gq42_ kq43_
                have hq44_ : (mv40 81 xv6.toNatClampNeg).toInt = (M 81 xv6.toNatClampNeg).toInt := by rw [hq41_, mu_ne (Or.inl (by decide))]
                have hq45_ : (mv40 78 (((304 : Int32) + a1).toNatClampNeg)).toInt = ((M 78 (((304 : Int32) + a1).toNatClampNeg)).toInt + 1) := by rw [hq41_, mu_at]; exact (i_add rfl l_1 (by omega) (by omega))
                refine T_eq l_1 l_0 (fun hq46_ => ?_) (fun hq46_ => ?_)
                · exfalso; omega
                · refine T_qg rfl (by omega) (by omega) ?_
                  have hq47_ := i_full (a2)
                  have hq48_ := i_full (mv40 81 xv6.toNatClampNeg)
                  refine T_ql rfl ?_
                  intro xv49 hq50_
                  refine T_qc (t_X12_triesNow hn a1 xv6 xv8 mv40 gq42_ (i_rng (lo := 0) (hi := 7) rfl (by omega) (by omega)) (i_rng (lo := 0) (hi := 11) rfl (by omega) (by omega)) (i_rng (lo := 0) (hi := 8) rfl (by omega) (by omega))) ?_
                  rintro rv51 mv52 ⟨hq53_, gq54_, kq55_⟩
                  have kq56_ := Sm.call kq43_ kq55_ rfl
                  have hq57_ : (mv52 81 xv6.toNatClampNeg).toInt = (mv40 81 xv6.toNatClampNeg).toInt := by rw [kq55_ 81 _ (outc rfl)]
                  have hq58_ : (mv52 78 (((304 : Int32) + a1).toNatClampNeg)).toInt = (mv40 78 (((304 : Int32) + a1).toNatClampNeg)).toInt := by rw [kq55_ 78 _ (out78 (lo := 304) (hi := 312) rfl (by rw [tnc, (i_add l_304 rfl (by omega) (by omega))]; omega) (by rw [tnc, (i_add l_304 rfl (by omega) (by omega))]; omega))]
                  refine T_qc (t_X12_notesTry hn a1 xv6 rv51 mv52 gq54_ (i_rng (lo := 0) (hi := 7) rfl (by omega) (by omega)) (i_rng (lo := 0) (hi := 11) rfl (by omega) (by omega)) (i_rng (lo := (-2)) (hi := 1) rfl (by omega) (by omega))) ?_
                  rintro rv59 mv60 ⟨hq61_, gq62_, kq63_⟩
                  have kq64_ := Sm.call kq56_ kq63_ rfl
                  have hq65_ : (mv60 81 xv6.toNatClampNeg).toInt = (mv52 81 xv6.toNatClampNeg).toInt := by rw [kq63_ 81 _ (outc rfl)]
                  have hq66_ : (mv60 78 (((304 : Int32) + a1).toNatClampNeg)).toInt = (mv52 78 (((304 : Int32) + a1).toNatClampNeg)).toInt := by rw [kq63_ 78 _ (out78 (lo := 304) (hi := 312) rfl (by rw [tnc, (i_add l_304 rfl (by omega) (by omega))]; omega) (by rw [tnc, (i_add l_304 rfl (by omega) (by omega))]; omega))]
                  have hq67_ := r78 (c := 78) (s := (((304 : Int32) + a1).toNatClampNeg)) gq62_ (by decide) (by rw [tnc, (i_add l_304 rfl (by omega) (by omega))]; omega) (by rw [tnc, (i_add l_304 rfl (by omega) (by omega))]; omega)
                  have hq68_ := r78 (c := 78) (s := (((296 : Int32) + a1).toNatClampNeg)) gq62_ (by decide) (by rw [tnc, (i_add l_296 rfl (by omega) (by omega))]; omega) (by rw [tnc, (i_add l_296 rfl (by omega) (by omega))]; omega)
                  exact ih a1 xv49 mv60 gq62_ kq64_ (i_rng (lo := 0) (hi := 7) rfl (by omega) (by omega)) (by omega)
              · exact T_ret ⟨(i_rng (lo := 0) (hi := 0) l_0 (by omega) (by omega)), hG, hS⟩
          · refine T_qc (t_X12_isPerson hn xv8 M hG ) ?_
            rintro rv69 mv70 ⟨hq71_, hq72_, gq73_, kq74_⟩
            have hq75_ := kq74_.nil
            subst hq75_
            refine T_eq rfl l_0 (fun hq76_ => ?_) (fun hq76_ => ?_)
            · unfold f_X12_dayOf_101
              unfold f_X12_dayOf_102
              refine T_eq l_0 l_0 (fun hq77_ => ?_) (fun hq77_ => ?_)
              · unfold f_X12_dayOf_121
                refine T_qg (i_add l_304 rfl (by omega) (by omega)) (by omega) (by omega) ?_
                refine T_qg (i_add l_304 rfl (by omega) (by omega)) (by omega) (by omega) ?_
                refine T_mu hG hS (ri78 (by decide) (i_rng (lo := 0) (hi := 40) (i_add rfl l_1 (by omega) (by omega)) (by omega) (by omega))) (nw_78 _) (i := 2) rfl ⟨by decide, by decide, Or.inr ⟨(show 304 ≤ _ by rw [tnc, (i_add l_304 rfl (by omega) (by omega))]; omega), (show _ < 312 by rw [tnc, (i_add l_304 rfl (by omega) (by omega))]; omega)⟩⟩ ?_
                intro mv78 hq79_ gq80_ kq81_
                have hq82_ : (mv78 78 (((304 : Int32) + a1).toNatClampNeg)).toInt = ((M 78 (((304 : Int32) + a1).toNatClampNeg)).toInt + 1) := by rw [hq79_, mu_at]; exact (i_add rfl l_1 (by omega) (by omega))
                refine T_eq l_0 l_0 (fun hq83_ => ?_) (fun hq83_ => ?_)
                · have hq84_ := r78 (c := 78) (s := (((304 : Int32) + a1).toNatClampNeg)) gq80_ (by decide) (by rw [tnc, (i_add l_304 rfl (by omega) (by omega))]; omega) (by rw [tnc, (i_add l_304 rfl (by omega) (by omega))]; omega)
                  have hq85_ := r78 (c := 78) (s := (((296 : Int32) + a1).toNatClampNeg)) gq80_ (by decide) (by rw [tnc, (i_add l_296 rfl (by omega) (by omega))]; omega) (by rw [tnc, (i_add l_296 rfl (by omega) (by omega))]; omega)
                  exact ih a1 a2 mv78 gq80_ kq81_ (i_rng (lo := 0) (hi := 7) rfl (by omega) (by omega)) (by omega)
                · exfalso; omega
              · exfalso; omega
            · unfold f_X12_dayOf_102
              refine T_eq l_1 l_0 (fun hq86_ => ?_) (fun hq86_ => ?_)
              · exfalso; omega
              · refine T_qg rfl (by omega) (by omega) ?_
                refine T_le rfl rfl (fun hq87_ => ?_) (fun hq87_ => ?_)
                · unfold f_X12_dayOf_121
                  refine T_qg (i_add l_304 rfl (by omega) (by omega)) (by omega) (by omega) ?_
                  refine T_qg (i_add l_304 rfl (by omega) (by omega)) (by omega) (by omega) ?_
                  refine T_mu hG hS (ri78 (by decide) (i_rng (lo := 0) (hi := 40) (i_add rfl l_1 (by omega) (by omega)) (by omega) (by omega))) (nw_78 _) (i := 2) rfl ⟨by decide, by decide, Or.inr ⟨(show 304 ≤ _ by rw [tnc, (i_add l_304 rfl (by omega) (by omega))]; omega), (show _ < 312 by rw [tnc, (i_add l_304 rfl (by omega) (by omega))]; omega)⟩⟩ ?_
                  intro mv88 hq89_ gq90_ kq91_
                  have hq92_ : (mv88 81 xv6.toNatClampNeg).toInt = (M 81 xv6.toNatClampNeg).toInt := by rw [hq89_, mu_ne (Or.inl (by decide))]
                  have hq93_ : (mv88 78 (((304 : Int32) + a1).toNatClampNeg)).toInt = ((M 78 (((304 : Int32) + a1).toNatClampNeg)).toInt + 1) := by rw [hq89_, mu_at]; exact (i_add rfl l_1 (by omega) (by omega))
                  refine T_eq l_1 l_0 (fun hq94_ => ?_) (fun hq94_ => ?_)
                  · exfalso; omega
                  · refine T_qg rfl (by omega) (by omega) ?_
                    have hq95_ := i_full (a2)
                    have hq96_ := i_full (mv88 81 xv6.toNatClampNeg)
                    refine T_ql rfl ?_
                    intro xv97 hq98_
                    refine T_qc (t_X12_triesNow hn a1 xv6 xv8 mv88 gq90_ (i_rng (lo := 0) (hi := 7) rfl (by omega) (by omega)) (i_rng (lo := 0) (hi := 11) rfl (by omega) (by omega)) (i_rng (lo := 0) (hi := 8) rfl (by omega) (by omega))) ?_
                    rintro rv99 mv100 ⟨hq101_, gq102_, kq103_⟩
                    have kq104_ := Sm.call kq91_ kq103_ rfl
                    have hq105_ : (mv100 81 xv6.toNatClampNeg).toInt = (mv88 81 xv6.toNatClampNeg).toInt := by rw [kq103_ 81 _ (outc rfl)]
                    have hq106_ : (mv100 78 (((304 : Int32) + a1).toNatClampNeg)).toInt = (mv88 78 (((304 : Int32) + a1).toNatClampNeg)).toInt := by rw [kq103_ 78 _ (out78 (lo := 304) (hi := 312) rfl (by rw [tnc, (i_add l_304 rfl (by omega) (by omega))]; omega) (by rw [tnc, (i_add l_304 rfl (by omega) (by omega))]; omega))]
                    refine T_qc (t_X12_notesTry hn a1 xv6 rv99 mv100 gq102_ (i_rng (lo := 0) (hi := 7) rfl (by omega) (by omega)) (i_rng (lo := 0) (hi := 11) rfl (by omega) (by omega)) (i_rng (lo := (-2)) (hi := 1) rfl (by omega) (by omega))) ?_
                    rintro rv107 mv108 ⟨hq109_, gq110_, kq111_⟩
                    have kq112_ := Sm.call kq104_ kq111_ rfl
                    have hq113_ : (mv108 81 xv6.toNatClampNeg).toInt = (mv100 81 xv6.toNatClampNeg).toInt := by rw [kq111_ 81 _ (outc rfl)]
                    have hq114_ : (mv108 78 (((304 : Int32) + a1).toNatClampNeg)).toInt = (mv100 78 (((304 : Int32) + a1).toNatClampNeg)).toInt := by rw [kq111_ 78 _ (out78 (lo := 304) (hi := 312) rfl (by rw [tnc, (i_add l_304 rfl (by omega) (by omega))]; omega) (by rw [tnc, (i_add l_304 rfl (by omega) (by omega))]; omega))]
                    have hq115_ := r78 (c := 78) (s := (((304 : Int32) + a1).toNatClampNeg)) gq110_ (by decide) (by rw [tnc, (i_add l_304 rfl (by omega) (by omega))]; omega) (by rw [tnc, (i_add l_304 rfl (by omega) (by omega))]; omega)
                    have hq116_ := r78 (c := 78) (s := (((296 : Int32) + a1).toNatClampNeg)) gq110_ (by decide) (by rw [tnc, (i_add l_296 rfl (by omega) (by omega))]; omega) (by rw [tnc, (i_add l_296 rfl (by omega) (by omega))]; omega)
                    exact ih a1 xv97 mv108 gq110_ kq112_ (i_rng (lo := 0) (hi := 7) rfl (by omega) (by omega)) (by omega)
                · exact T_ret ⟨(i_rng (lo := 0) (hi := 0) l_0 (by omega) (by omega)), hG, hS⟩
theorem t_X12_dayOf {n : Nat} (hn : 200000 ≤ n) (a1 : Int32) (M : qM) (hG : G M) (pa1 : 0 ≤ a1.toInt ∧ a1.toInt ≤ 7) : qT (f_X12_dayOf n a1 M) (po_X12_dayOf a1 M) := by
  have hS : Sm l_X12_dayOf M M := Sm.rf
  unfold f_X12_dayOf
  have hq117_ := r78 (c := 78) (s := (((304 : Int32) + a1).toNatClampNeg)) hG (by decide) (by rw [tnc, (i_add l_304 rfl (by omega) (by omega))]; omega) (by rw [tnc, (i_add l_304 rfl (by omega) (by omega))]; omega)
  have hq118_ := r78 (c := 78) (s := (((296 : Int32) + a1).toNatClampNeg)) hG (by decide) (by rw [tnc, (i_add l_296 rfl (by omega) (by omega))]; omega) (by rw [tnc, (i_add l_296 rfl (by omega) (by omega))]; omega)
  exact (t_X12_dayOf_3 hn) n a1 (12 : Int32) M hG hS (i_rng (lo := 0) (hi := 7) rfl (by omega) (by omega)) (by have e1 : ((12 : Int32)).toInt = _ := l_12; omega)
abbrev l_X12_daysGo : List Bx := [(77, 78, 37, 43), (78, 79, 0, 288), (78, 79, 304, 312), (78, 79, 313, 314), (96, 98, 0, 0)]
abbrev po_X12_daysGo (a1 : Int32) (M : qM) (v : Int32) (M' : qM) : Prop := (0 ≤ v.toInt ∧ v.toInt ≤ 0) ∧ (((9999 ≤ (M 78 313).toInt ∧ (M' 78 313).toInt = (M 78 313).toInt) ∨ ((M 78 313).toInt < 9999 ∧ (M 78 313).toInt + a1.toInt ≤ 9999 ∧ (M' 78 313).toInt = (M 78 313).toInt + a1.toInt) ∨ ((M 78 313).toInt < 9999 ∧ 9999 < (M 78 313).toInt + a1.toInt ∧ (M' 78 313).toInt = 9999))) ∧ G M' ∧ Sm l_X12_daysGo M M'
theorem t_X12_daysGo_56 {n : Nat} (hn : 200000 ≤ n) {oa1 : Int32} {M0 : qM} {K35 : Int32 → Int32 → qM → qR} {BK35 : Nat} (hK35 : ∀ (a1 a2 : Int32) (M : qM), G M → Sm l_X12_daysGo M0 M → 1 ≤ a1.toInt ∧ a1.toInt ≤ 60 → (-2147483633) ≤ a2.toInt ∧ a2.toInt ≤ 60 → (a1.toInt = oa1.toInt ∧ a2.toInt ≤ a1.toInt ∧ ((a2.toInt = 0 ∧ (M 78 313).toInt = (M0 78 313).toInt) ∨ ((M0 78 313).toInt < 9999 ∧ (M 78 313).toInt = (M0 78 313).toInt + a2.toInt ∧ (M 78 313).toInt ≤ 9999))) → 60 - a2.toInt < (BK35 : Int) → qT (K35 a1 a2 M) (po_X12_daysGo oa1 M0)) : ∀ (m : Nat) (a1 a2 a3 : Int32) (M : qM), G M → Sm l_X12_daysGo M0 M → 1 ≤ a1.toInt ∧ a1.toInt ≤ 60 → (-2147483634) ≤ a2.toInt ∧ a2.toInt ≤ 59 → 0 ≤ a3.toInt ∧ a3.toInt ≤ 8 → (a1.toInt = oa1.toInt ∧ a2.toInt ≤ a1.toInt ∧ ((a2.toInt = 0 ∧ (M 78 313).toInt = (M0 78 313).toInt) ∨ ((M0 78 313).toInt < 9999 ∧ (M 78 313).toInt = (M0 78 313).toInt + a2.toInt ∧ (M 78 313).toInt ≤ 9999)) ∧ (M 78 313).toInt < 9999 ∧ a2.toInt < a1.toInt) → 60 - a2.toInt < (BK35 : Int) + 1 → 8 - a3.toInt < (m : Int) → qT (f_X12_daysGo_56 n K35 m a1 a2 a3 M) (po_X12_daysGo oa1 M0) := by
  intro m
  induction m with
  | zero =>
    intro a1 a2 a3 M hG hS i0 i1 i2 hE i6 i7
    exfalso; omega
  | succ m ih =>
    intro a1 a2 a3 M hG hS i0 i1 i2 hE i6 i7
    show qT (b_X12_daysGo_56 n K35 (f_X12_daysGo_56 n K35 m) a1 a2 a3 M) _
    unfold b_X12_daysGo_56
    refine T_le l_8 rfl (fun hq10_ => ?_) (fun hq10_ => ?_)
    · have hq12_ := i_full (M 78 313)
      refine T_mu hG hS (ro78 (by decide) (by decide)) (nw_78 _) (i := 3) rfl ⟨by decide, by decide, Or.inr ⟨by decide, by decide⟩⟩ ?_
      intro mv11 hq13_ gq14_ kq15_
      have hq16_ : (mv11 78 313).toInt = ((M 78 313).toInt + 1) := by rw [hq13_, mu_at]; exact (i_add rfl l_1 (by omega) (by omega))
      refine T_ql (i_add rfl l_1 (by omega) (by omega)) ?_
      intro xv17 hq18_
      exact hK35 a1 xv17 mv11 gq14_ kq15_ (i_rng (lo := 1) (hi := 60) rfl (by omega) (by omega)) (i_rng (lo := (-2147483633)) (hi := 60) rfl (by omega) (by omega)) (by omega) (by omega)
    · refine T_qc (t_X12_isPerson hn a3 M hG ) ?_
      rintro rv19 mv20 ⟨hq21_, hq22_, gq23_, kq24_⟩
      have hq25_ := kq24_.nil
      subst hq25_
      refine T_eq rfl l_0 (fun hq26_ => ?_) (fun hq26_ => ?_)
      · refine T_ql (i_add rfl l_1 (by omega) (by omega)) ?_
        intro xv27 hq28_
        exact ih a1 a2 xv27 M hG hS (i_rng (lo := 1) (hi := 60) rfl (by omega) (by omega)) (i_rng (lo := (-2147483634)) (hi := 59) rfl (by omega) (by omega)) (i_rng (lo := 0) (hi := 8) rfl (by omega) (by omega)) (by omega) (by omega) (by omega)
      · refine T_qc (t_X12_dayOf hn a3 M hG (i_rng (lo := 0) (hi := 7) rfl (by omega) (by omega))) ?_
        rintro rv29 mv30 ⟨hq31_, gq32_, kq33_⟩
        have kq34_ := Sm.call hS kq33_ rfl
        have hq35_ : (mv30 78 313).toInt = (M 78 313).toInt := by rw [kq33_ 78 313 (by decide)]
        refine T_ql (i_add rfl l_1 (by omega) (by omega)) ?_
        intro xv36 hq37_
        exact ih a1 a2 xv36 mv30 gq32_ kq34_ (i_rng (lo := 1) (hi := 60) rfl (by omega) (by omega)) (i_rng (lo := (-2147483634)) (hi := 59) rfl (by omega) (by omega)) (i_rng (lo := 0) (hi := 8) rfl (by omega) (by omega)) (by omega) (by omega) (by omega)
theorem t_X12_daysGo_35 {n : Nat} (hn : 200000 ≤ n) {oa1 : Int32} {M0 : qM} : ∀ (m : Nat) (a1 a2 : Int32) (M : qM), G M → Sm l_X12_daysGo M0 M → 1 ≤ a1.toInt ∧ a1.toInt ≤ 60 → (-2147483633) ≤ a2.toInt ∧ a2.toInt ≤ 60 → (a1.toInt = oa1.toInt ∧ a2.toInt ≤ a1.toInt ∧ ((a2.toInt = 0 ∧ (M 78 313).toInt = (M0 78 313).toInt) ∨ ((M0 78 313).toInt < 9999 ∧ (M 78 313).toInt = (M0 78 313).toInt + a2.toInt ∧ (M 78 313).toInt ≤ 9999))) → 60 - a2.toInt < (m : Int) → qT (f_X12_daysGo_35 n m a1 a2 M) (po_X12_daysGo oa1 M0) := by
  intro m
  induction m with
  | zero =>
    intro a1 a2 M hG hS i0 i1 hE i5
    exfalso; omega
  | succ m ih =>
    intro a1 a2 M hG hS i0 i1 hE i5
    show qT (b_X12_daysGo_35 n (f_X12_daysGo_35 n m) a1 a2 M) _
    unfold b_X12_daysGo_35
    refine T_le rfl rfl (fun hq41_ => ?_) (fun hq41_ => ?_)
    · exact T_ret ⟨(i_rng (lo := 0) (hi := 0) l_0 (by omega) (by omega)), (by have e9 : (0 : Int32).toInt = _ := l_0; omega), hG, hS⟩
    · refine T_le l_9999 rfl (fun hq42_ => ?_) (fun hq42_ => ?_)
      · exact T_ret ⟨(i_rng (lo := 0) (hi := 0) l_0 (by omega) (by omega)), (by have e9 : (0 : Int32).toInt = _ := l_0; omega), hG, hS⟩
      · exact (t_X12_daysGo_56 hn ih) n a1 a2 (0 : Int32) M hG hS (i_rng (lo := 1) (hi := 60) rfl (by omega) (by omega)) (i_rng (lo := (-2147483634)) (hi := 59) rfl (by omega) (by omega)) (i_rng (lo := 0) (hi := 8) l_0 (by omega) (by omega)) (by have e2 : ((0 : Int32)).toInt = _ := l_0; omega) (by omega) (by have e2 : ((0 : Int32)).toInt = _ := l_0; omega)
theorem t_X12_daysGo {n : Nat} (hn : 200000 ≤ n) (a1 : Int32) (M : qM) (hG : G M) (pa1 : 1 ≤ a1.toInt ∧ a1.toInt ≤ 60) : qT (f_X12_daysGo n a1 M) (po_X12_daysGo a1 M) := by
  have hS : Sm l_X12_daysGo M M := Sm.rf
  unfold f_X12_daysGo
  refine T_mu hG hS (rn_77_37 _) nw_77_37 (i := 0) rfl ⟨by decide, by decide, Or.inr ⟨by decide, by decide⟩⟩ ?_
  intro mv43 hq44_ gq45_ kq46_
  have hq47_ : (mv43 78 313).toInt = (M 78 313).toInt := by rw [hq44_, mu_ne (Or.inl (by decide))]
  have hq48_ : (mv43 77 37).toInt = 0 := by rw [hq44_, mu_at]; exact l_0
  refine T_mu gq45_ kq46_ (rn_77_38 _) nw_77_38 (i := 0) rfl ⟨by decide, by decide, Or.inr ⟨by decide, by decide⟩⟩ ?_
  intro mv49 hq50_ gq51_ kq52_
  have hq53_ : (mv49 78 313).toInt = (mv43 78 313).toInt := by rw [hq50_, mu_ne (Or.inl (by decide))]
  have hq54_ : (mv49 77 37).toInt = (mv43 77 37).toInt := by rw [hq50_, mu_ne (Or.inr (by decide))]
  have hq55_ : (mv49 77 38).toInt = 0 := by rw [hq50_, mu_at]; exact l_0
  refine T_mu gq51_ kq52_ (rn_77_39 _) nw_77_39 (i := 0) rfl ⟨by decide, by decide, Or.inr ⟨by decide, by decide⟩⟩ ?_
  intro mv56 hq57_ gq58_ kq59_
  have hq60_ : (mv56 78 313).toInt = (mv49 78 313).toInt := by rw [hq57_, mu_ne (Or.inl (by decide))]
  have hq61_ : (mv56 77 37).toInt = (mv49 77 37).toInt := by rw [hq57_, mu_ne (Or.inr (by decide))]
  have hq62_ : (mv56 77 38).toInt = (mv49 77 38).toInt := by rw [hq57_, mu_ne (Or.inr (by decide))]
  have hq63_ : (mv56 77 39).toInt = 0 := by rw [hq57_, mu_at]; exact l_0
  refine T_mu gq58_ kq59_ (rn_77_40 _) nw_77_40 (i := 0) rfl ⟨by decide, by decide, Or.inr ⟨by decide, by decide⟩⟩ ?_
  intro mv64 hq65_ gq66_ kq67_
  have hq68_ : (mv64 78 313).toInt = (mv56 78 313).toInt := by rw [hq65_, mu_ne (Or.inl (by decide))]
  have hq69_ : (mv64 77 37).toInt = (mv56 77 37).toInt := by rw [hq65_, mu_ne (Or.inr (by decide))]
  have hq70_ : (mv64 77 38).toInt = (mv56 77 38).toInt := by rw [hq65_, mu_ne (Or.inr (by decide))]
  have hq71_ : (mv64 77 39).toInt = (mv56 77 39).toInt := by rw [hq65_, mu_ne (Or.inr (by decide))]
  have hq72_ : (mv64 77 40).toInt = (-2) := by rw [hq65_, mu_at]; exact l_m2
  refine T_mu gq66_ kq67_ (rn_77_41 _) nw_77_41 (i := 0) rfl ⟨by decide, by decide, Or.inr ⟨by decide, by decide⟩⟩ ?_
  intro mv73 hq74_ gq75_ kq76_
  have hq77_ : (mv73 78 313).toInt = (mv64 78 313).toInt := by rw [hq74_, mu_ne (Or.inl (by decide))]
  have hq78_ : (mv73 77 37).toInt = (mv64 77 37).toInt := by rw [hq74_, mu_ne (Or.inr (by decide))]
  have hq79_ : (mv73 77 38).toInt = (mv64 77 38).toInt := by rw [hq74_, mu_ne (Or.inr (by decide))]
  have hq80_ : (mv73 77 39).toInt = (mv64 77 39).toInt := by rw [hq74_, mu_ne (Or.inr (by decide))]
  have hq81_ : (mv73 77 40).toInt = (mv64 77 40).toInt := by rw [hq74_, mu_ne (Or.inr (by decide))]
  have hq82_ : (mv73 77 41).toInt = (-2) := by rw [hq74_, mu_at]; exact l_m2
  refine T_mu gq75_ kq76_ (rn_77_42 _) nw_77_42 (i := 0) rfl ⟨by decide, by decide, Or.inr ⟨by decide, by decide⟩⟩ ?_
  intro mv83 hq84_ gq85_ kq86_
  have hq87_ : (mv83 78 313).toInt = (mv73 78 313).toInt := by rw [hq84_, mu_ne (Or.inl (by decide))]
  have hq88_ : (mv83 77 37).toInt = (mv73 77 37).toInt := by rw [hq84_, mu_ne (Or.inr (by decide))]
  have hq89_ : (mv83 77 38).toInt = (mv73 77 38).toInt := by rw [hq84_, mu_ne (Or.inr (by decide))]
  have hq90_ : (mv83 77 39).toInt = (mv73 77 39).toInt := by rw [hq84_, mu_ne (Or.inr (by decide))]
  have hq91_ : (mv83 77 40).toInt = (mv73 77 40).toInt := by rw [hq84_, mu_ne (Or.inr (by decide))]
  have hq92_ : (mv83 77 41).toInt = (mv73 77 41).toInt := by rw [hq84_, mu_ne (Or.inr (by decide))]
  have hq93_ : (mv83 77 42).toInt = (-2) := by rw [hq84_, mu_at]; exact l_m2
  exact (t_X12_daysGo_35 hn) n a1 (0 : Int32) mv83 gq85_ kq86_ (i_rng (lo := 1) (hi := 60) rfl (by omega) (by omega)) (i_rng (lo := (-2147483633)) (hi := 60) l_0 (by omega) (by omega)) (by have e1 : ((0 : Int32)).toInt = _ := l_0; omega) (by have e1 : ((0 : Int32)).toInt = _ := l_0; omega)
abbrev l_X12_days : List Bx := [(77, 78, 37, 43), (78, 79, 0, 288), (78, 79, 304, 312), (78, 79, 313, 314), (96, 98, 0, 0)]
abbrev po_X12_days (a1 : Int32) (M : qM) (v : Int32) (M' : qM) : Prop := ((¬ (1 ≤ a1.toInt ∧ a1.toInt ≤ 60) ∧ (M' 78 313).toInt = (M 78 313).toInt) ∨ (1 ≤ a1.toInt ∧ a1.toInt ≤ 60 ∧ ((9999 ≤ (M 78 313).toInt ∧ (M' 78 313).toInt = (M 78 313).toInt) ∨ ((M 78 313).toInt < 9999 ∧ (M 78 313).toInt + a1.toInt ≤ 9999 ∧ (M' 78 313).toInt = (M 78 313).toInt + a1.toInt) ∨ ((M 78 313).toInt < 9999 ∧ 9999 < (M 78 313).toInt + a1.toInt ∧ (M' 78 313).toInt = 9999)))) ∧ G M' ∧ Sm l_X12_days M M'
theorem t_X12_days {n : Nat} (hn : 200000 ≤ n) (a1 : Int32) (M : qM) (hG : G M) : qT (f_X12_days n a1 M) (po_X12_days a1 M) := by
  have hS : Sm l_X12_days M M := Sm.rf
  unfold f_X12_days
  have hq3_ := (show ((1 : Int32)).toInt = _ from l_1)
  have hq4_ := (show ((60 : Int32)).toInt = _ from l_60)
  refine T_qc (t_X12_in hn a1 (1 : Int32) (60 : Int32) M hG (i_rng (lo := 0) (hi := 70) l_1 (by omega) (by omega)) (i_rng (lo := 0) (hi := 99999) l_60 (by omega) (by omega))) ?_
  rintro rv1 mv2 ⟨hq5_, hq6_, gq7_, kq8_⟩
  have hq9_ := kq8_.nil
  subst hq9_
  refine T_eq rfl l_0 (fun hq10_ => ?_) (fun hq10_ => ?_)
  · exact T_ret ⟨(by have e9 : ((-1 : Int32)).toInt = _ := l_m1; omega), hG, hS⟩
  · refine T_qc (t_X12_daysGo hn a1 M hG (i_rng (lo := 1) (hi := 60) rfl (by omega) (by omega))) ?_
    rintro rv11 mv12 ⟨hq13_, hq14_, gq15_, kq16_⟩
    have kq17_ := Sm.call hS kq16_ rfl
    exact T_ret ⟨(by have e9 : (mv12 77 38).toInt = _ := rfl; omega), gq15_, kq17_⟩
