abbrev l_X12_plan : List Bx := [(77, 78, 8, 13), (77, 78, 35, 37), (78, 79, 296, 312), (78, 79, 314, 954), (98, 102, 0, 0)]
abbrev po_X12_plan (a1 a2 : Int32) (M : qM) (v : Int32) (M' : qM) : Prop := (((0 ≤ a1.toInt ∧ a1.toInt ≤ 7 ∧ (((M 78 312) >>> (a1 &&& 31)) &&& (1 : Int32)).toInt = 1 ∧ 1 ≤ a2.toInt ∧ a2.toInt ≤ 80 ∧ a2.toInt ≤ (M 77 8).toInt) ∧ (M' 77 8).toInt = 0) ∨ (¬ (0 ≤ a1.toInt ∧ a1.toInt ≤ 7 ∧ (((M 78 312) >>> (a1 &&& 31)) &&& (1 : Int32)).toInt = 1 ∧ 1 ≤ a2.toInt ∧ a2.toInt ≤ 80 ∧ a2.toInt ≤ (M 77 8).toInt) ∧ (M' 77 8).toInt = (M 77 8).toInt)) ∧ G M' ∧ Sm l_X12_plan M M'
theorem t_X12_plan_142 {n : Nat} (hn : 200000 ≤ n) {oa1 oa2 : Int32} {M0 : qM} : ∀ (m : Nat) (a1 a4 : Int32) (M : qM), G M → Sm l_X12_plan M0 M → 0 ≤ a1.toInt ∧ a1.toInt ≤ 7 → 0 ≤ a4.toInt ∧ a4.toInt ≤ 40 → ((0 ≤ oa1.toInt ∧ oa1.toInt ≤ 7 ∧ (((M0 78 312) >>> (oa1 &&& 31)) &&& (1 : Int32)).toInt = 1 ∧ 1 ≤ oa2.toInt ∧ oa2.toInt ≤ 80 ∧ oa2.toInt ≤ (M0 77 8).toInt) ∧ (M 77 8).toInt = 0) → 40 - a4.toInt < (m : Int) → qT (f_X12_plan_142 n m a1 a4 M) (po_X12_plan oa1 oa2 M0) := by
  intro m
  induction m with
  | zero =>
    intro a1 a4 M hG hS i0 i1 hE i5
    have hq2_ := r_77_8 hG
    exfalso; omega
  | succ m ih =>
    intro a1 a4 M hG hS i0 i1 hE i5
    show qT (b_X12_plan_142 n (f_X12_plan_142 n m) a1 a4 M) _
    unfold b_X12_plan_142
    have hq2_ := r_77_8 hG
    have hq3_ := r_77_35 hG
    refine T_le rfl rfl (fun hq4_ => ?_) (fun hq4_ => ?_)
    · exact T_ret ⟨(by have e9 : (M 77 35).toInt = _ := rfl; omega), hG, hS⟩
    · refine T_qg rfl (by omega) (by omega) ?_
      refine T_qg (i_add (i_add l_314 (i_mul l_40 rfl (by omega) (by omega)) (by omega) (by omega)) rfl (by omega) (by omega)) (by omega) (by omega) ?_
      refine T_mu hG hS (ro78 (by decide) (by rw [tnc, (i_add (i_add l_314 (i_mul l_40 rfl (by omega) (by omega)) (by omega) (by omega)) rfl (by omega) (by omega))]; omega)) (nw_78 _) (i := 3) rfl ⟨by decide, by decide, Or.inr ⟨(show 314 ≤ _ by rw [tnc, (i_add (i_add l_314 (i_mul l_40 rfl (by omega) (by omega)) (by omega) (by omega)) rfl (by omega) (by omega))]; omega), (show _ < 954 by rw [tnc, (i_add (i_add l_314 (i_mul l_40 rfl (by omega) (by omega)) (by omega) (by omega)) rfl (by omega) (by omega))]; omega)⟩⟩ ?_
      intro mv5 hq6_ gq7_ kq8_
      have hq9_ : (mv5 77 8).toInt = (M 77 8).toInt := by rw [hq6_, mu_ne (Or.inl (by decide))]
      have hq10_ : (mv5 77 35).toInt = (M 77 35).toInt := by rw [hq6_, mu_ne (Or.inl (by decide))]
      have hq11_ : (mv5 78 ((((314 : Int32) + ((40 : Int32) * a1)) + a4).toNatClampNeg)).toInt = (M 98 a4.toNatClampNeg).toInt := by rw [hq6_, mu_at]
      refine T_qg rfl (by omega) (by omega) ?_
      refine T_qg (i_add (i_add l_634 (i_mul l_40 rfl (by omega) (by omega)) (by omega) (by omega)) rfl (by omega) (by omega)) (by omega) (by omega) ?_
      refine T_mu gq7_ kq8_ (ro78 (by decide) (by rw [tnc, (i_add (i_add l_634 (i_mul l_40 rfl (by omega) (by omega)) (by omega) (by omega)) rfl (by omega) (by omega))]; omega)) (nw_78 _) (i := 3) rfl ⟨by decide, by decide, Or.inr ⟨(show 314 ≤ _ by rw [tnc, (i_add (i_add l_634 (i_mul l_40 rfl (by omega) (by omega)) (by omega) (by omega)) rfl (by omega) (by omega))]; omega), (show _ < 954 by rw [tnc, (i_add (i_add l_634 (i_mul l_40 rfl (by omega) (by omega)) (by omega) (by omega)) rfl (by omega) (by omega))]; omega)⟩⟩ ?_
      intro mv12 hq13_ gq14_ kq15_
      have hq16_ : (mv12 77 8).toInt = (mv5 77 8).toInt := by rw [hq13_, mu_ne (Or.inl (by decide))]
      have hq17_ : (mv12 77 35).toInt = (mv5 77 35).toInt := by rw [hq13_, mu_ne (Or.inl (by decide))]
      have hq18_ : (mv12 78 ((((634 : Int32) + ((40 : Int32) * a1)) + a4).toNatClampNeg)).toInt = (mv5 99 a4.toNatClampNeg).toInt := by rw [hq13_, mu_at]
      refine T_ql (i_add rfl l_1 (by omega) (by omega)) ?_
      intro xv19 hq20_
      have hq21_ := r_77_8 gq14_
      exact ih a1 xv19 mv12 gq14_ kq15_ (i_rng (lo := 0) (hi := 7) rfl (by omega) (by omega)) (i_rng (lo := 0) (hi := 40) rfl (by omega) (by omega)) (by omega) (by omega)
theorem t_X12_plan_53 {n : Nat} (hn : 200000 ≤ n) {oa1 oa2 : Int32} {M0 : qM} : ∀ (m : Nat) (a1 a3 : Int32) (M : qM), G M → Sm l_X12_plan M0 M → 0 ≤ a1.toInt ∧ a1.toInt ≤ 7 → 0 ≤ a3.toInt ∧ a3.toInt ≤ 1 → ((0 ≤ oa1.toInt ∧ oa1.toInt ≤ 7 ∧ (((M0 78 312) >>> (oa1 &&& 31)) &&& (1 : Int32)).toInt = 1 ∧ 1 ≤ oa2.toInt ∧ oa2.toInt ≤ 80 ∧ oa2.toInt ≤ (M0 77 8).toInt) ∧ (M 77 8).toInt = (M0 77 8).toInt) → (a3.toInt = 0 ∨ KR  M) → 2 * (240 - (M 77 9).toInt) + a3.toInt < (m : Int) → qT (f_X12_plan_53 n m a1 a3 M) (po_X12_plan oa1 oa2 M0) := by
  intro m
  induction m with
  | zero =>
    intro a1 a3 M hG hS i0 i1 hE wKR i6
    have hq22_ := r_77_9 hG
    have hq23_ := r_77_10 hG
    have hq24_ := r_77_8 hG
    exfalso; omega
  | succ m ih =>
    intro a1 a3 M hG hS i0 i1 hE wKR i6
    show qT (b_X12_plan_53 n (f_X12_plan_53 n m) a1 a3 M) _
    unfold b_X12_plan_53
    have hq22_ := r_77_9 hG
    have hq23_ := r_77_10 hG
    have hq24_ := r_77_8 hG
    refine T_eq rfl l_0 (fun hq25_ => ?_) (fun hq25_ => ?_)
    · unfold f_X12_plan_100
      refine T_mu hG hS (i_rng (lo := 0) (hi := 260) l_0 (by omega) (by omega)) nw_77_8 (i := 0) rfl ⟨by decide, by decide, Or.inr ⟨by decide, by decide⟩⟩ ?_
      intro mv26 hq27_ gq28_ kq29_
      have hq30_ := Or.imp_right (fun h_ => KR_c (M := M) (M' := mv26) (by rw [hq27_, mu_ne (Or.inr (by decide))]) (by rw [hq27_, mu_ne (Or.inr (by decide))]) (by rw [hq27_, mu_nc (by decide)]) h_) wKR
      have hq31_ : (mv26 77 9).toInt = (M 77 9).toInt := by rw [hq27_, mu_ne (Or.inr (by decide))]
      have hq32_ : (mv26 77 10).toInt = (M 77 10).toInt := by rw [hq27_, mu_ne (Or.inr (by decide))]
      have hq33_ : (mv26 77 8).toInt = 0 := by rw [hq27_, mu_at]; exact l_0
      refine T_eq rfl l_0 (fun hq34_ => ?_) (fun hq34_ => ?_)
      · exact T_ret ⟨(by have e9 : (mv26 77 11).toInt = _ := rfl; omega), gq28_, kq29_⟩
      · exfalso; omega
    · refine T_lt rfl rfl (fun hq35_ => ?_) (fun hq35_ => ?_)
      · unfold f_X12_plan_75
        have hq38_ := (show ((44 : Int32)).toInt = _ from l_44)
        refine T_qc (t_X12_takes hn (44 : Int32) M hG (i_rng (lo := 44) (hi := 59) l_44 (by omega) (by omega))) ?_
        rintro rv36 mv37 ⟨hq39_, hq40_, gq41_, kq42_⟩
        have kq43_ := Sm.call hS kq42_ rfl
        have hq44_ := Or.imp_right (fun h_ => KR_c (kq42_ 77 35 (by decide)) (kq42_ 77 36 (by decide)) (funext (fun s_ => kq42_ 101 s_ (outc rfl))) h_) wKR
        have hq45_ : (mv37 77 10).toInt = (M 77 10).toInt := by rw [kq42_ 77 10 (by decide)]
        have hq46_ : (mv37 77 8).toInt = (M 77 8).toInt := by rw [kq42_ 77 8 (by decide)]
        have hq47_ := r_77_9 gq41_
        refine T_eq rfl l_0 (fun hq48_ => ?_) (fun hq48_ => ?_)
        · have hq49_ := r_77_10 gq41_
          have hq50_ := r_77_8 gq41_
          exact ih a1 (0 : Int32) mv37 gq41_ kq43_ (i_rng (lo := 0) (hi := 7) rfl (by omega) (by omega)) (i_rng (lo := 0) (hi := 1) l_0 (by omega) (by omega)) (by have e1 : ((0 : Int32)).toInt = _ := l_0; omega) (Or.inl l_0) (by have e1 : ((0 : Int32)).toInt = _ := l_0; omega)
        · refine T_qc (t_X12_readsStep hn  mv37 gq41_ (hq44_.resolve_left (by omega))) ?_
          rintro rv51 mv52 ⟨hq53_, hq54_, hq55_, gq56_, kq57_⟩
          have kq58_ := Sm.call kq43_ kq57_ rfl
          have hq59_ : (mv52 77 10).toInt = (mv37 77 10).toInt := by rw [kq57_ 77 10 (by decide)]
          have hq60_ : (mv52 77 8).toInt = (mv37 77 8).toInt := by rw [kq57_ 77 8 (by decide)]
          have hq61_ := r_77_9 gq56_
          refine T_eq rfl l_0 (fun hq62_ => ?_) (fun hq62_ => ?_)
          · have hq63_ := r_77_10 gq56_
            have hq64_ := r_77_8 gq56_
            exact ih a1 (0 : Int32) mv52 gq56_ kq58_ (i_rng (lo := 0) (hi := 7) rfl (by omega) (by omega)) (i_rng (lo := 0) (hi := 1) l_0 (by omega) (by omega)) (by have e1 : ((0 : Int32)).toInt = _ := l_0; omega) (Or.inl l_0) (by have e1 : ((0 : Int32)).toInt = _ := l_0; omega)
          · have hq65_ := r_77_10 gq56_
            have hq66_ := r_77_8 gq56_
            exact ih a1 (1 : Int32) mv52 gq56_ kq58_ (i_rng (lo := 0) (hi := 7) rfl (by omega) (by omega)) (i_rng (lo := 0) (hi := 1) l_1 (by omega) (by omega)) (by have e1 : ((1 : Int32)).toInt = _ := l_1; omega) (Or.inr (hq55_.resolve_left (by omega))) (by have e1 : ((1 : Int32)).toInt = _ := l_1; omega)
      · have hq67_ := r_77_36 hG
        refine T_le rfl l_0 (fun hq68_ => ?_) (fun hq68_ => ?_)
        · unfold f_X12_plan_100
          refine T_mu hG hS (i_rng (lo := 0) (hi := 260) l_0 (by omega) (by omega)) nw_77_8 (i := 0) rfl ⟨by decide, by decide, Or.inr ⟨by decide, by decide⟩⟩ ?_
          intro mv69 hq70_ gq71_ kq72_
          have hq73_ := Or.imp_right (fun h_ => KR_c (M := M) (M' := mv69) (by rw [hq70_, mu_ne (Or.inr (by decide))]) (by rw [hq70_, mu_ne (Or.inr (by decide))]) (by rw [hq70_, mu_nc (by decide)]) h_) wKR
          have hq74_ : (mv69 77 9).toInt = (M 77 9).toInt := by rw [hq70_, mu_ne (Or.inr (by decide))]
          have hq75_ : (mv69 77 10).toInt = (M 77 10).toInt := by rw [hq70_, mu_ne (Or.inr (by decide))]
          have hq76_ : (mv69 77 36).toInt = (M 77 36).toInt := by rw [hq70_, mu_ne (Or.inr (by decide))]
          have hq77_ : (mv69 77 8).toInt = 0 := by rw [hq70_, mu_at]; exact l_0
          refine T_eq rfl l_0 (fun hq78_ => ?_) (fun hq78_ => ?_)
          · exfalso; omega
          · refine T_qg (i_add l_296 rfl (by omega) (by omega)) (by omega) (by omega) ?_
            have hq80_ := r_77_35 gq71_
            refine T_mu gq71_ kq72_ (ri78 (by decide) (i_rng (lo := 0) (hi := 40) rfl (by omega) (by omega))) (nw_78 _) (i := 2) rfl ⟨by decide, by decide, Or.inr ⟨(show 296 ≤ _ by rw [tnc, (i_add l_296 rfl (by omega) (by omega))]; omega), (show _ < 312 by rw [tnc, (i_add l_296 rfl (by omega) (by omega))]; omega)⟩⟩ ?_
            intro mv79 hq81_ gq82_ kq83_
            have hq84_ := Or.imp_right (fun h_ => KR_c (M := mv69) (M' := mv79) (by rw [hq81_, mu_ne (Or.inl (by decide))]) (by rw [hq81_, mu_ne (Or.inl (by decide))]) (by rw [hq81_, mu_nc (by decide)]) h_) hq73_
            have hq85_ : (mv79 77 9).toInt = (mv69 77 9).toInt := by rw [hq81_, mu_ne (Or.inl (by decide))]
            have hq86_ : (mv79 77 10).toInt = (mv69 77 10).toInt := by rw [hq81_, mu_ne (Or.inl (by decide))]
            have hq87_ : (mv79 77 36).toInt = (mv69 77 36).toInt := by rw [hq81_, mu_ne (Or.inl (by decide))]
            have hq88_ : (mv79 77 8).toInt = (mv69 77 8).toInt := by rw [hq81_, mu_ne (Or.inl (by decide))]
            have hq89_ : (mv79 78 (((296 : Int32) + a1).toNatClampNeg)).toInt = (mv69 77 35).toInt := by rw [hq81_, mu_at]
            refine T_qg (i_add l_304 rfl (by omega) (by omega)) (by omega) (by omega) ?_
            refine T_mu gq82_ kq83_ (ri78 (by decide) (i_rng (lo := 0) (hi := 40) l_0 (by omega) (by omega))) (nw_78 _) (i := 2) rfl ⟨by decide, by decide, Or.inr ⟨(show 296 ≤ _ by rw [tnc, (i_add l_304 rfl (by omega) (by omega))]; omega), (show _ < 312 by rw [tnc, (i_add l_304 rfl (by omega) (by omega))]; omega)⟩⟩ ?_
            intro mv90 hq91_ gq92_ kq93_
            have hq94_ := Or.imp_right (fun h_ => KR_c (M := mv79) (M' := mv90) (by rw [hq91_, mu_ne (Or.inl (by decide))]) (by rw [hq91_, mu_ne (Or.inl (by decide))]) (by rw [hq91_, mu_nc (by decide)]) h_) hq84_
            have hq95_ : (mv90 77 9).toInt = (mv79 77 9).toInt := by rw [hq91_, mu_ne (Or.inl (by decide))]
            have hq96_ : (mv90 77 10).toInt = (mv79 77 10).toInt := by rw [hq91_, mu_ne (Or.inl (by decide))]
            have hq97_ : (mv90 77 36).toInt = (mv79 77 36).toInt := by rw [hq91_, mu_ne (Or.inl (by decide))]
            have hq98_ : (mv90 77 8).toInt = (mv79 77 8).toInt := by rw [hq91_, mu_ne (Or.inl (by decide))]
            have hq99_ : (mv90 78 (((304 : Int32) + a1).toNatClampNeg)).toInt = 0 := by rw [hq91_, mu_at]; exact l_0
            have hq100_ := r_77_8 gq92_
            exact (t_X12_plan_142 hn) n a1 (0 : Int32) mv90 gq92_ kq93_ (i_rng (lo := 0) (hi := 7) rfl (by omega) (by omega)) (i_rng (lo := 0) (hi := 40) l_0 (by omega) (by omega)) (by have e1 : ((0 : Int32)).toInt = _ := l_0; omega) (by have e1 : ((0 : Int32)).toInt = _ := l_0; omega)
        · unfold f_X12_plan_75
          have hq103_ := (show ((44 : Int32)).toInt = _ from l_44)
          refine T_qc (t_X12_takes hn (44 : Int32) M hG (i_rng (lo := 44) (hi := 59) l_44 (by omega) (by omega))) ?_
          rintro rv101 mv102 ⟨hq104_, hq105_, gq106_, kq107_⟩
          have kq108_ := Sm.call hS kq107_ rfl
          have hq109_ := Or.imp_right (fun h_ => KR_c (kq107_ 77 35 (by decide)) (kq107_ 77 36 (by decide)) (funext (fun s_ => kq107_ 101 s_ (outc rfl))) h_) wKR
          have hq110_ : (mv102 77 10).toInt = (M 77 10).toInt := by rw [kq107_ 77 10 (by decide)]
          have hq111_ : (mv102 77 8).toInt = (M 77 8).toInt := by rw [kq107_ 77 8 (by decide)]
          have hq112_ : (mv102 77 36).toInt = (M 77 36).toInt := by rw [kq107_ 77 36 (by decide)]
          have hq113_ := r_77_9 gq106_
          refine T_eq rfl l_0 (fun hq114_ => ?_) (fun hq114_ => ?_)
          · have hq115_ := r_77_10 gq106_
            have hq116_ := r_77_8 gq106_
            exact ih a1 (0 : Int32) mv102 gq106_ kq108_ (i_rng (lo := 0) (hi := 7) rfl (by omega) (by omega)) (i_rng (lo := 0) (hi := 1) l_0 (by omega) (by omega)) (by have e1 : ((0 : Int32)).toInt = _ := l_0; omega) (Or.inl l_0) (by have e1 : ((0 : Int32)).toInt = _ := l_0; omega)
          · refine T_qc (t_X12_readsStep hn  mv102 gq106_ (hq109_.resolve_left (by omega))) ?_
            rintro rv117 mv118 ⟨hq119_, hq120_, hq121_, gq122_, kq123_⟩
            have kq124_ := Sm.call kq108_ kq123_ rfl
            have hq125_ : (mv118 77 10).toInt = (mv102 77 10).toInt := by rw [kq123_ 77 10 (by decide)]
            have hq126_ : (mv118 77 8).toInt = (mv102 77 8).toInt := by rw [kq123_ 77 8 (by decide)]
            have hq127_ := r_77_9 gq122_
            refine T_eq rfl l_0 (fun hq128_ => ?_) (fun hq128_ => ?_)
            · have hq129_ := r_77_10 gq122_
              have hq130_ := r_77_8 gq122_
              exact ih a1 (0 : Int32) mv118 gq122_ kq124_ (i_rng (lo := 0) (hi := 7) rfl (by omega) (by omega)) (i_rng (lo := 0) (hi := 1) l_0 (by omega) (by omega)) (by have e1 : ((0 : Int32)).toInt = _ := l_0; omega) (Or.inl l_0) (by have e1 : ((0 : Int32)).toInt = _ := l_0; omega)
            · have hq131_ := r_77_10 gq122_
              have hq132_ := r_77_8 gq122_
              exact ih a1 (1 : Int32) mv118 gq122_ kq124_ (i_rng (lo := 0) (hi := 7) rfl (by omega) (by omega)) (i_rng (lo := 0) (hi := 1) l_1 (by omega) (by omega)) (by have e1 : ((1 : Int32)).toInt = _ := l_1; omega) (Or.inr (hq121_.resolve_left (by omega))) (by have e1 : ((1 : Int32)).toInt = _ := l_1; omega)
theorem t_X12_plan {n : Nat} (hn : 200000 ≤ n) (a1 a2 : Int32) (M : qM) (hG : G M) : qT (f_X12_plan n a1 a2 M) (po_X12_plan a1 a2 M) := by
  have hS : Sm l_X12_plan M M := Sm.rf
  unfold f_X12_plan
  have hq133_ := r_77_8 hG
  refine T_qc (t_X12_isPerson hn a1 M hG ) ?_
  rintro rv134 mv135 ⟨hq136_, hq137_, gq138_, kq139_⟩
  have hq140_ := kq139_.nil
  subst hq140_
  refine T_eq rfl l_0 (fun hq141_ => ?_) (fun hq141_ => ?_)
  · exact T_ret ⟨(by have e9 : ((-1 : Int32)).toInt = _ := l_m1; omega), hG, hS⟩
  · have hq144_ := (show ((1 : Int32)).toInt = _ from l_1)
    have hq145_ := (show ((80 : Int32)).toInt = _ from l_80)
    refine T_qc (t_X12_in hn a2 (1 : Int32) (80 : Int32) M hG (i_rng (lo := 0) (hi := 70) l_1 (by omega) (by omega)) (i_rng (lo := 0) (hi := 99999) l_80 (by omega) (by omega))) ?_
    rintro rv142 mv143 ⟨hq146_, hq147_, gq148_, kq149_⟩
    have hq150_ := kq149_.nil
    subst hq150_
    refine T_eq rfl l_0 (fun hq151_ => ?_) (fun hq151_ => ?_)
    · exact T_ret ⟨(by have e9 : ((-1 : Int32)).toInt = _ := l_m1; omega), hG, hS⟩
    · refine T_le rfl rfl (fun hq152_ => ?_) (fun hq152_ => ?_)
      · refine T_mu hG hS (i_rng (lo := 0) (hi := 240) l_0 (by omega) (by omega)) nw_77_9 (i := 0) rfl ⟨by decide, by decide, Or.inr ⟨by decide, by decide⟩⟩ ?_
        intro mv153 hq154_ gq155_ kq156_
        have hq157_ : (mv153 77 8).toInt = (M 77 8).toInt := by rw [hq154_, mu_ne (Or.inr (by decide))]
        have hq158_ : (mv153 77 9).toInt = 0 := by rw [hq154_, mu_at]; exact l_0
        refine T_mu gq155_ kq156_ (i_rng (lo := 0) (hi := 240) rfl (by omega) (by omega)) nw_77_10 (i := 0) rfl ⟨by decide, by decide, Or.inr ⟨by decide, by decide⟩⟩ ?_
        intro mv159 hq160_ gq161_ kq162_
        have hq163_ : (mv159 77 8).toInt = (mv153 77 8).toInt := by rw [hq160_, mu_ne (Or.inr (by decide))]
        have hq164_ : (mv159 77 9).toInt = (mv153 77 9).toInt := by rw [hq160_, mu_ne (Or.inr (by decide))]
        have hq165_ : (mv159 77 10).toInt = a2.toInt := by rw [hq160_, mu_at]
        refine T_mu gq161_ kq162_ (i_rng (lo := 0) (hi := 40) l_0 (by omega) (by omega)) nw_77_35 (i := 1) rfl ⟨by decide, by decide, Or.inr ⟨by decide, by decide⟩⟩ ?_
        intro mv166 hq167_ gq168_ kq169_
        have hq170_ : (mv166 77 8).toInt = (mv159 77 8).toInt := by rw [hq167_, mu_ne (Or.inr (by decide))]
        have hq171_ : (mv166 77 9).toInt = (mv159 77 9).toInt := by rw [hq167_, mu_ne (Or.inr (by decide))]
        have hq172_ : (mv166 77 10).toInt = (mv159 77 10).toInt := by rw [hq167_, mu_ne (Or.inr (by decide))]
        have hq173_ : (mv166 77 35).toInt = 0 := by rw [hq167_, mu_at]; exact l_0
        refine T_mu gq168_ kq169_ (i_rng (lo := 0) (hi := 3) l_0 (by omega) (by omega)) nw_77_36 (i := 1) rfl ⟨by decide, by decide, Or.inr ⟨by decide, by decide⟩⟩ ?_
        intro mv174 hq175_ gq176_ kq177_
        have hq178_ : (mv174 77 8).toInt = (mv166 77 8).toInt := by rw [hq175_, mu_ne (Or.inr (by decide))]
        have hq179_ : (mv174 77 9).toInt = (mv166 77 9).toInt := by rw [hq175_, mu_ne (Or.inr (by decide))]
        have hq180_ : (mv174 77 10).toInt = (mv166 77 10).toInt := by rw [hq175_, mu_ne (Or.inr (by decide))]
        have hq181_ : (mv174 77 35).toInt = (mv166 77 35).toInt := by rw [hq175_, mu_ne (Or.inr (by decide))]
        have hq182_ : (mv174 77 36).toInt = 0 := by rw [hq175_, mu_at]; exact l_0
        refine T_qc (t_X12_readsStep hn  mv174 gq176_ (KR_0 (by omega))) ?_
        rintro rv183 mv184 ⟨hq185_, hq186_, hq187_, gq188_, kq189_⟩
        have hq190_ := r_77_9 gq176_
        have kq191_ := Sm.call kq177_ kq189_ rfl
        have hq192_ : (mv184 77 8).toInt = (mv174 77 8).toInt := by rw [kq189_ 77 8 (by decide)]
        have hq193_ : (mv184 77 10).toInt = (mv174 77 10).toInt := by rw [kq189_ 77 10 (by decide)]
        have hq194_ := r_77_9 gq188_
        have hq195_ := r_77_10 gq188_
        have hq196_ := r_77_8 gq188_
        exact (t_X12_plan_53 hn) n a1 rv183 mv184 gq188_ kq191_ (i_rng (lo := 0) (hi := 7) rfl (by omega) (by omega)) (i_rng (lo := 0) (hi := 1) rfl (by omega) (by omega)) (by omega) hq187_ (by omega)
      · exact T_ret ⟨(by have e9 : ((-1 : Int32)).toInt = _ := l_m1; omega), hG, hS⟩
abbrev l_J7_fill_53178_c35_12 : List Bx := [(35, 36, 0, 0)]
abbrev po_J7_fill_53178_c35_12 (a1 : Int32) (M : qM) (v : Int32) (M' : qM) : Prop := (0 ≤ v.toInt ∧ v.toInt ≤ 0) ∧ G M' ∧ Sm l_J7_fill_53178_c35_12 M M'
theorem t_J7_fill_53178_c35_12_5 {n : Nat} (hn : 200000 ≤ n) {oa1 : Int32} {M0 : qM} : ∀ (m : Nat) (a1 a2 a3 : Int32) (M : qM), G M → Sm l_J7_fill_53178_c35_12 M0 M → 0 ≤ a1.toInt ∧ a1.toInt ≤ 0 → 0 ≤ a2.toInt ∧ a2.toInt ≤ 12 → 12 ≤ a3.toInt ∧ a3.toInt ≤ 12 → 12 - a2.toInt < (m : Int) → qT (f_J7_fill_53178_5 n 35 12 m a1 a2 a3 M) (po_J7_fill_53178_c35_12 oa1 M0) := by
  intro m
  induction m with
  | zero =>
    intro a1 a2 a3 M hG hS i0 i1 i2 i5
    exfalso; omega
  | succ m ih =>
    intro a1 a2 a3 M hG hS i0 i1 i2 i5
    show qT (b_J7_fill_53178_5 n 35 12 (f_J7_fill_53178_5 n 35 12 m) a1 a2 a3 M) _
    unfold b_J7_fill_53178_5
    try simp only [Nat.reduceAdd]
    refine T_le rfl rfl (fun hq2_ => ?_) (fun hq2_ => ?_)
    · exact T_ret ⟨(i_rng (lo := 0) (hi := 0) l_0 (by omega) (by omega)), hG, hS⟩
    · refine T_qg rfl (by omega) (by omega) ?_
      refine T_mu hG hS (rn_35 _ _) (nw_35 _) (i := 0) rfl ⟨by decide, by decide, Or.inl rfl⟩ ?_
      intro mv3 hq4_ gq5_ kq6_
      have hq7_ : (mv3 35 a2.toNatClampNeg).toInt = a1.toInt := by rw [hq4_, mu_at]
      refine T_ql (i_add rfl l_1 (by omega) (by omega)) ?_
      intro xv8 hq9_
      exact ih a1 xv8 a3 mv3 gq5_ kq6_ (i_rng (lo := 0) (hi := 0) rfl (by omega) (by omega)) (i_rng (lo := 0) (hi := 12) rfl (by omega) (by omega)) (i_rng (lo := 12) (hi := 12) rfl (by omega) (by omega)) (by omega)
theorem t_J7_fill_53178_c35_12 {n : Nat} (hn : 200000 ≤ n) (a1 : Int32) (M : qM) (hG : G M) (pa1 : 0 ≤ a1.toInt ∧ a1.toInt ≤ 0) : qT (f_J7_fill_53178 n 35 12 a1 M) (po_J7_fill_53178_c35_12 a1 M) := by
  have hS : Sm l_J7_fill_53178_c35_12 M M := Sm.rf
  unfold f_J7_fill_53178
  try simp only [Nat.reduceAdd]
  refine T_ql (show (Int32.ofNat 12).toInt = 12 from by decide) ?_
  intro xv10 hq11_
  exact (t_J7_fill_53178_c35_12_5 hn) n a1 (0 : Int32) xv10 M hG hS (i_rng (lo := 0) (hi := 0) rfl (by omega) (by omega)) (i_rng (lo := 0) (hi := 12) l_0 (by omega) (by omega)) (i_rng (lo := 12) (hi := 12) rfl (by omega) (by omega)) (by have e1 : ((0 : Int32)).toInt = _ := l_0; omega)
abbrev l_X1_tellDeed : List Bx := [(35, 36, 0, 0)]
abbrev po_X1_tellDeed (a1 a2 a3 a4 : Int32) (M : qM) (v : Int32) (M' : qM) : Prop := (0 ≤ v.toInt ∧ v.toInt ≤ 0) ∧ G M' ∧ Sm l_X1_tellDeed M M'
theorem t_X1_tellDeed {n : Nat} (hn : 200000 ≤ n) (a1 a2 a3 a4 : Int32) (M : qM) (hG : G M) (pa1 : 0 ≤ a1.toInt ∧ a1.toInt ≤ 12) : qT (f_X1_tellDeed n a1 a2 a3 a4 M) (po_X1_tellDeed a1 a2 a3 a4 M) := by
  have hS : Sm l_X1_tellDeed M M := Sm.rf
  unfold f_X1_tellDeed
  refine T_qc (t_J7_fill_53178_c35_12 hn (0 : Int32) M hG (i_rng (lo := 0) (hi := 0) l_0 (by omega) (by omega))) ?_
  rintro rv1 mv2 ⟨hq3_, gq4_, kq5_⟩
  have kq6_ := Sm.call hS kq5_ rfl
  refine T_mu gq4_ kq6_ (rn_35 _ _) (nw_35 _) (i := 0) rfl ⟨by decide, by decide, Or.inl rfl⟩ ?_
  intro mv7 hq8_ gq9_ kq10_
  have hq11_ : (mv7 35 0).toInt = a1.toInt := by rw [hq8_, mu_at]
  refine T_mu gq9_ kq10_ (rn_35 _ _) (nw_35 _) (i := 0) rfl ⟨by decide, by decide, Or.inl rfl⟩ ?_
  intro mv12 hq13_ gq14_ kq15_
  have hq16_ : (mv12 35 0).toInt = (mv7 35 0).toInt := by rw [hq13_, mu_ne (Or.inr (by decide))]
  have hq17_ : (mv12 35 1).toInt = a2.toInt := by rw [hq13_, mu_at]
  refine T_mu gq14_ kq15_ (rn_35 _ _) (nw_35 _) (i := 0) rfl ⟨by decide, by decide, Or.inl rfl⟩ ?_
  intro mv18 hq19_ gq20_ kq21_
  have hq22_ : (mv18 35 0).toInt = (mv12 35 0).toInt := by rw [hq19_, mu_ne (Or.inr (by decide))]
  have hq23_ : (mv18 35 1).toInt = (mv12 35 1).toInt := by rw [hq19_, mu_ne (Or.inr (by decide))]
  have hq24_ : (mv18 35 2).toInt = a3.toInt := by rw [hq19_, mu_at]
  refine T_mu gq20_ kq21_ (rn_35 _ _) (nw_35 _) (i := 0) rfl ⟨by decide, by decide, Or.inl rfl⟩ ?_
  intro mv25 hq26_ gq27_ kq28_
  have hq29_ : (mv25 35 0).toInt = (mv18 35 0).toInt := by rw [hq26_, mu_ne (Or.inr (by decide))]
  have hq30_ : (mv25 35 1).toInt = (mv18 35 1).toInt := by rw [hq26_, mu_ne (Or.inr (by decide))]
  have hq31_ : (mv25 35 2).toInt = (mv18 35 2).toInt := by rw [hq26_, mu_ne (Or.inr (by decide))]
  have hq32_ : (mv25 35 6).toInt = a4.toInt := by rw [hq26_, mu_at]
  exact T_ret ⟨(i_rng (lo := 0) (hi := 0) l_0 (by omega) (by omega)), gq27_, kq28_⟩
abbrev l_J6_bitCount_0f7a4 : List Bx := []
abbrev po_J6_bitCount_0f7a4 (a0 : Int32) (M : qM) (v : Int32) (M' : qM) : Prop := (0 ≤ v.toInt ∧ v.toInt ≤ 63) ∧ G M' ∧ Sm l_J6_bitCount_0f7a4 M M'
theorem t_J6_bitCount_0f7a4 {n : Nat} (hn : 200000 ≤ n) (a0 : Int32) (M : qM) (hG : G M) : qT (f_J6_bitCount_0f7a4 n a0 M) (po_J6_bitCount_0f7a4 a0 M) := by
  have hS : Sm l_J6_bitCount_0f7a4 M M := Sm.rf
  unfold f_J6_bitCount_0f7a4
  have hq1_ := i_and (a := (a0.toUInt32 >>> (((1 : Int32).toUInt32) &&& (Int32.toUInt32 31))).toInt32) (b := (1431655765 : Int32)) l_1431655765 (by omega)
  have hq2_ := i_full (a0)
  refine T_ql rfl ?_
  intro xv3 hq4_
  have hq5_ := i_and (a := xv3) (b := (858993459 : Int32)) l_858993459 (by omega)
  have hq6_ := i_and (a := (xv3.toUInt32 >>> (((2 : Int32).toUInt32) &&& (Int32.toUInt32 31))).toInt32) (b := (858993459 : Int32)) l_858993459 (by omega)
  refine T_ql (i_add rfl rfl (by omega) (by omega)) ?_
  intro xv7 hq8_
  have hq9_ := i_full ((xv7.toUInt32 >>> (((4 : Int32).toUInt32) &&& (Int32.toUInt32 31))).toInt32)
  have hq10_ := i_and (a := xv7 + ((xv7.toUInt32 >>> (((4 : Int32).toUInt32) &&& (Int32.toUInt32 31))).toInt32)) (b := (252645135 : Int32)) l_252645135 (by omega)
  refine T_ql rfl ?_
  intro xv11 hq12_
  have hq13_ := i_full ((xv11.toUInt32 >>> (((8 : Int32).toUInt32) &&& (Int32.toUInt32 31))).toInt32)
  refine T_ql rfl ?_
  intro xv14 hq15_
  have hq16_ := i_full (xv14)
  have hq17_ := i_full ((xv14.toUInt32 >>> (((16 : Int32).toUInt32) &&& (Int32.toUInt32 31))).toInt32)
  refine T_ql rfl ?_
  intro xv18 hq19_
  have hq20_ := i_and (a := xv18) (b := (63 : Int32)) l_63 (by omega)
  exact T_ret ⟨(i_rng (lo := 0) (hi := 63) rfl (by omega) (by omega)), hG, hS⟩
abbrev l_X1_reckon : List Bx := [(34, 35, 4, 5)]
abbrev po_X1_reckon (a1 a2 a3 : Int32) (M : qM) (v : Int32) (M' : qM) : Prop := G M' ∧ Sm l_X1_reckon M M'
theorem t_X1_reckon {n : Nat} (hn : 200000 ≤ n) (a1 a2 a3 : Int32) (M : qM) (hG : G M) (pa1 : 32 ≤ a1.toInt ∧ a1.toInt ≤ 2147483647) : qT (f_X1_reckon n a1 a2 a3 M) (po_X1_reckon a1 a2 a3 M) := by
  have hS : Sm l_X1_reckon M M := Sm.rf
  unfold f_X1_reckon
  refine T_sw rfl l_42 (fun hq1_ => ?_) (fun hq1_ => ?_)
  · have hq2_ := i_full (a2)
    have hq3_ := i_full (a3)
    exact T_ret ⟨hG, hS⟩
  refine T_sw rfl l_43 (fun hq4_ => ?_) (fun hq4_ => ?_)
  · have hq5_ := i_full (a2)
    have hq6_ := i_full (a3)
    exact T_ret ⟨hG, hS⟩
  refine T_sw rfl l_45 (fun hq7_ => ?_) (fun hq7_ => ?_)
  · have hq8_ := i_full (a2)
    have hq9_ := i_full (a3)
    exact T_ret ⟨hG, hS⟩
  refine T_sw rfl l_60 (fun hq10_ => ?_) (fun hq10_ => ?_)
  · refine T_le rfl rfl (fun hq11_ => ?_) (fun hq11_ => ?_)
    · exact T_ret ⟨hG, hS⟩
    · exact T_ret ⟨hG, hS⟩
  refine T_sw rfl l_61 (fun hq12_ => ?_) (fun hq12_ => ?_)
  · refine T_eq rfl rfl (fun hq13_ => ?_) (fun hq13_ => ?_)
    · exact T_ret ⟨hG, hS⟩
    · exact T_ret ⟨hG, hS⟩
  refine T_sw rfl l_62 (fun hq14_ => ?_) (fun hq14_ => ?_)
  · refine T_le rfl rfl (fun hq15_ => ?_) (fun hq15_ => ?_)
    · exact T_ret ⟨hG, hS⟩
    · exact T_ret ⟨hG, hS⟩
  refine T_sw0 ?_
  refine T_eq rfl l_0 (fun hq16_ => ?_) (fun hq16_ => ?_)
  · refine T_mu hG hS (rn_34_4 _) (nw_34 _) (i := 0) rfl ⟨by decide, by decide, Or.inr ⟨by decide, by decide⟩⟩ ?_
    intro mv17 hq18_ gq19_ kq20_
    have hq21_ : (mv17 34 4).toInt = 1 := by rw [hq18_, mu_at]; exact l_1
    exact T_ret ⟨gq19_, kq20_⟩
  · refine T_eq rfl l_47 (fun hq22_ => ?_) (fun hq22_ => ?_)
    · refine T_qd rfl (by omega) ?_
      have hq23_ := i_full (a2)
      have hq24_ := i_full (a3)
      exact T_ret ⟨hG, hS⟩
    · refine T_qd rfl (by omega) ?_
      exact T_ret ⟨hG, hS⟩
