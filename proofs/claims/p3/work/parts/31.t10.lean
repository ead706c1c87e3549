abbrev l_X12_plan : List Bx := [(77, 78, 8, 13), (77, 78, 35, 37), (78, 79, 296, 312), (78, 79, 314, 954), (98, 102, 0, 0)]
abbrev po_X12_plan (a1 a2 : Int32) (M : qM) (v : Int32) (M' : qM) : Prop := G M' ∧ Sm l_X12_plan M M'
theorem t_X12_plan_142 {n : Nat} (hn : 200000 ≤ n) {oa1 oa2 : Int32} {M0 : qM} : ∀ (m : Nat) (a1 a4 : Int32) (M : qM), G M → Sm l_X12_plan M0 M → 0 ≤ a1.toInt ∧ a1.toInt ≤ 7 → 0 ≤ a4.toInt ∧ a4.toInt ≤ 40 → 40 - a4.toInt < (m : Int) → qT (f_X12_plan_142 n m a1 a4 M) (po_X12_plan oa1 oa2 M0) := by
  intro m
  induction m with
  | zero =>
    intro a1 a4 M hG hS i0 i1 i4
    exfalso; omega
  | succ m ih =>
    intro a1 a4 M hG hS i0 i1 i4
    show qT (b_X12_plan_142 n (f_X12_plan_142 n m) a1 a4 M) _
    unfold b_X12_plan_142
    have hq2_ := r_77_35 hG
    refine T_le rfl rfl (fun hq3_ => ?_) (fun hq3_ => ?_)
    · exact T_ret ⟨hG, hS⟩
    · refine T_qg rfl (by omega) (by omega) ?_
      refine T_qg (i_add (i_add l_314 (i_mul l_40 rfl (by omega) (by omega)) (by omega) (by omega)) rfl (by omega) (by omega)) (by omega) (by omega) ?_
      refine T_mu hG hS (ro78 (by decide) (by rw [tnc, (i_add (i_add l_314 (i_mul l_40 rfl (by omega) (by omega)) (by omega) (by omega)) rfl (by omega) (by omega))]; omega)) (nw_78 _) (i := 3) rfl ⟨by decide, by decide, Or.inr ⟨(show 314 ≤ _ by rw [tnc, (i_add (i_add l_314 (i_mul l_40 rfl (by omega) (by omega)) (by omega) (by omega)) rfl (by omega) (by omega))]; omega), (show _ < 954 by rw [tnc, (i_add (i_add l_314 (i_mul l_40 rfl (by omega) (by omega)) (by omega) (by omega)) rfl (by omega) (by omega))]; omega)⟩⟩ ?_
      intro mv4 hq5_ gq6_ kq7_
      have hq8_ : (mv4 77 35).toInt = (M 77 35).toInt := by rw [hq5_, mu_ne (Or.inl (by decide))]
      have hq9_ : (mv4 78 ((((314 : Int32) + ((40 : Int32) * a1)) + a4).toNatClampNeg)).toInt = (M 98 a4.toNatClampNeg).toInt := by rw [hq5_, mu_at]
      refine T_qg rfl (by omega) (by omega) ?_
      refine T_qg (i_add (i_add l_634 (i_mul l_40 rfl (by omega) (by omega)) (by omega) (by omega)) rfl (by omega) (by omega)) (by omega) (by omega) ?_
      refine T_mu gq6_ kq7_ (ro78 (by decide) (by rw [tnc, (i_add (i_add l_634 (i_mul l_40 rfl (by omega) (by omega)) (by omega) (by omega)) rfl (by omega) (by omega))]; omega)) (nw_78 _) (i := 3) rfl ⟨by decide, by decide, Or.inr ⟨(show 314 ≤ _ by rw [tnc, (i_add (i_add l_634 (i_mul l_40 rfl (by omega) (by omega)) (by omega) (by omega)) rfl (by omega) (by omega))]; omega), (show _ < 954 by rw [tnc, (i_add (i_add l_634 (i_mul l_40 rfl (by omega) (by omega)) (by omega) (by omega)) rfl (by omega) (by omega))]; omega)⟩⟩ ?_
      intro mv10 hq11_ gq12_ kq13_
      have hq14_ : (mv10 77 35).toInt = (mv4 77 35).toInt := by rw [hq11_, mu_ne (Or.inl (by decide))]
      have hq15_ : (mv10 78 ((((634 : Int32) + ((40 : Int32) * a1)) + a4).toNatClampNeg)).toInt = (mv4 99 a4.toNatClampNeg).toInt := by rw [hq11_, mu_at]
      refine T_ql (i_add rfl l_1 (by omega) (by omega)) ?_
      intro xv16 hq17_
      exact ih a1 xv16 mv10 gq12_ kq13_ (i_rng (lo := 0) (hi := 7) rfl (by omega) (by omega)) (i_rng (lo := 0) (hi := 40) rfl (by omega) (by omega)) (by omega)
theorem t_X12_plan_53 {n : Nat} (hn : 200000 ≤ n) {oa1 oa2 : Int32} {M0 : qM} : ∀ (m : Nat) (a1 a3 : Int32) (M : qM), G M → Sm l_X12_plan M0 M → 0 ≤ a1.toInt ∧ a1.toInt ≤ 7 → 0 ≤ a3.toInt ∧ a3.toInt ≤ 1 → (a3.toInt = 0 ∨ KR  M) → 2 * (240 - (M 77 9).toInt) + a3.toInt < (m : Int) → qT (f_X12_plan_53 n m a1 a3 M) (po_X12_plan oa1 oa2 M0) := by
  intro m
  induction m with
  | zero =>
    intro a1 a3 M hG hS i0 i1 wKR i5
    have hq18_ := r_77_9 hG
    have hq19_ := r_77_10 hG
    exfalso; omega
  | succ m ih =>
    intro a1 a3 M hG hS i0 i1 wKR i5
    show qT (b_X12_plan_53 n (f_X12_plan_53 n m) a1 a3 M) _
    unfold b_X12_plan_53
    have hq18_ := r_77_9 hG
    have hq19_ := r_77_10 hG
    refine T_eq rfl l_0 (fun hq20_ => ?_) (fun hq20_ => ?_)
    · unfold f_X12_plan_100
      refine T_mu hG hS (i_rng (lo := 0) (hi := 260) l_0 (by omega) (by omega)) nw_77_8 (i := 0) rfl ⟨by decide, by decide, Or.inr ⟨by decide, by decide⟩⟩ ?_
      intro mv21 hq22_ gq23_ kq24_
      have hq25_ := Or.imp_right (fun h_ => KR_c (M := M) (M' := mv21) (by rw [hq22_, mu_ne (Or.inr (by decide))]) (by rw [hq22_, mu_ne (Or.inr (by decide))]) (by rw [hq22_, mu_nc (by decide)]) h_) wKR
      have hq26_ : (mv21 77 9).toInt = (M 77 9).toInt := by rw [hq22_, mu_ne (Or.inr (by decide))]
      have hq27_ : (mv21 77 10).toInt = (M 77 10).toInt := by rw [hq22_, mu_ne (Or.inr (by decide))]
      have hq28_ : (mv21 77 8).toInt = 0 := by rw [hq22_, mu_at]; exact l_0
      refine T_eq rfl l_0 (fun hq29_ => ?_) (fun hq29_ => ?_)
      · exact T_ret ⟨gq23_, kq24_⟩
      · exfalso; omega
    · refine T_lt rfl rfl (fun hq30_ => ?_) (fun hq30_ => ?_)
      · unfold f_X12_plan_75
        have hq33_ := (show ((44 : Int32)).toInt = _ from l_44)
        refine T_qc (t_X12_takes hn (44 : Int32) M hG (i_rng (lo := 44) (hi := 59) l_44 (by omega) (by omega))) ?_
        rintro rv31 mv32 ⟨hq34_, hq35_, gq36_, kq37_⟩
        have kq38_ := Sm.call hS kq37_ rfl
        have hq39_ := Or.imp_right (fun h_ => KR_c (kq37_ 77 35 (by decide)) (kq37_ 77 36 (by decide)) (funext (fun s_ => kq37_ 101 s_ (outc rfl))) h_) wKR
        have hq40_ : (mv32 77 10).toInt = (M 77 10).toInt := by rw [kq37_ 77 10 (by decide)]
        have hq41_ := r_77_9 gq36_
        refine T_eq rfl l_0 (fun hq42_ => ?_) (fun hq42_ => ?_)
        · have hq43_ := r_77_10 gq36_
          exact ih a1 (0 : Int32) mv32 gq36_ kq38_ (i_rng (lo := 0) (hi := 7) rfl (by omega) (by omega)) (i_rng (lo := 0) (hi := 1) l_0 (by omega) (by omega)) (Or.inl l_0) (by have e1 : ((0 : Int32)).toInt = _ := l_0; omega)
        · refine T_qc (t_X12_readsStep hn  mv32 gq36_ (hq39_.resolve_left (by omega))) ?_
          rintro rv44 mv45 ⟨hq46_, hq47_, hq48_, gq49_, kq50_⟩
          have kq51_ := Sm.call kq38_ kq50_ rfl
          have hq52_ : (mv45 77 10).toInt = (mv32 77 10).toInt := by rw [kq50_ 77 10 (by decide)]
          have hq53_ := r_77_9 gq49_
          refine T_eq rfl l_0 (fun hq54_ => ?_) (fun hq54_ => ?_)
          · have hq55_ := r_77_10 gq49_
            exact ih a1 (0 : Int32) mv45 gq49_ kq51_ (i_rng (lo := 0) (hi := 7) rfl (by omega) (by omega)) (i_rng (lo := 0) (hi := 1) l_0 (by omega) (by omega)) (Or.inl l_0) (by have e1 : ((0 : Int32)).toInt = _ := l_0; omega)
          · have hq56_ := r_77_10 gq49_
            exact ih a1 (1 : Int32) mv45 gq49_ kq51_ (i_rng (lo := 0) (hi := 7) rfl (by omega) (by omega)) (i_rng (lo := 0) (hi := 1) l_1 (by omega) (by omega)) (Or.inr (hq48_.resolve_left (by omega))) (by have e1 : ((1 : Int32)).toInt = _ := l_1; omega)
      · have hq57_ := r_77_36 hG
        refine T_le rfl l_0 (fun hq58_ => ?_) (fun hq58_ => ?_)
        · unfold f_X12_plan_100
          refine T_mu hG hS (i_rng (lo := 0) (hi := 260) l_0 (by omega) (by omega)) nw_77_8 (i := 0) rfl ⟨by decide, by decide, Or.inr ⟨by decide, by decide⟩⟩ ?_
          intro mv59 hq60_ gq61_ kq62_
          have hq63_ := Or.imp_right (fun h_ => KR_c (M := M) (M' := mv59) (by rw [hq60_, mu_ne (Or.inr (by decide))]) (by rw [hq60_, mu_ne (Or.inr (by decide))]) (by rw [hq60_, mu_nc (by decide)]) h_) wKR
          have hq64_ : (mv59 77 9).toInt = (M 77 9).toInt := by rw [hq60_, mu_ne (Or.inr (by decide))]
          have hq65_ : (mv59 77 10).toInt = (M 77 10).toInt := by rw [hq60_, mu_ne (Or.inr (by decide))]
          have hq66_ : (mv59 77 36).toInt = (M 77 36).toInt := by rw [hq60_, mu_ne (Or.inr (by decide))]
          have hq67_ : (mv59 77 8).toInt = 0 := by rw [hq60_, mu_at]; exact l_0
          refine T_eq rfl l_0 (fun hq68_ => ?_) (fun hq68_ => ?_)
          · exfalso; omega
          · refine T_qg (i_add l_296 rfl (by omega) (by omega)) (by omega) (by omega) ?_
            have hq70_ := r_77_35 gq61_
            refine T_mu gq61_ kq62_ (ri78 (by decide) (i_rng (lo := 0) (hi := 40) rfl (by omega) (by omega))) (nw_78 _) (i := 2) rfl ⟨by decide, by decide, Or.inr ⟨(show 296 ≤ _ by rw [tnc, (i_add l_296 rfl (by omega) (by omega))]; omega), (show _ < 312 by rw [tnc, (i_add l_296 rfl (by omega) (by omega))]; omega)⟩⟩ ?_
            intro mv69 hq71_ gq72_ kq73_
            have hq74_ := Or.imp_right (fun h_ => KR_c (M := mv59) (M' := mv69) (by rw [hq71_, mu_ne (Or.inl (by decide))]) (by rw [hq71_, mu_ne (Or.inl (by decide))]) (by rw [hq71_, mu_nc (by decide)]) h_) hq63_
            have hq75_ : (mv69 77 9).toInt = (mv59 77 9).toInt := by rw [hq71_, mu_ne (Or.inl (by decide))]
            have hq76_ : (mv69 77 10).toInt = (mv59 77 10).toInt := by rw [hq71_, mu_ne (Or.inl (by decide))]
            have hq77_ : (mv69 77 36).toInt = (mv59 77 36).toInt := by rw [hq71_, mu_ne (Or.inl (by decide))]
            have hq78_ : (mv69 77 8).toInt = (mv59 77 8).toInt := by rw [hq71_, mu_ne (Or.inl (by decide))]
            have hq79_ : (mv69 78 (((296 : Int32) + a1).toNatClampNeg)).toInt = (mv59 77 35).toInt := by rw [hq71_, mu_at]
            refine T_qg (i_add l_304 rfl (by omega) (by omega)) (by omega) (by omega) ?_
            refine T_mu gq72_ kq73_ (ri78 (by decide) (i_rng (lo := 0) (hi := 40) l_0 (by omega) (by omega))) (nw_78 _) (i := 2) rfl ⟨by decide, by decide, Or.inr ⟨(show 296 ≤ _ by rw [tnc, (i_add l_304 rfl (by omega) (by omega))]; omega), (show _ < 312 by rw [tnc, (i_add l_304 rfl (by omega) (by omega))]; omega)⟩⟩ ?_
            intro mv80 hq81_ gq82_ kq83_
            have hq84_ := Or.imp_right (fun h_ => KR_c (M := mv69) (M' := mv80) (by rw [hq81_, mu_ne (Or.inl (by decide))]) (by rw [hq81_, mu_ne (Or.inl (by decide))]) (by rw [hq81_, mu_nc (by decide)]) h_) hq74_
            have hq85_ : (mv80 77 9).toInt = (mv69 77 9).toInt := by rw [hq81_, mu_ne (Or.inl (by decide))]
            have hq86_ : (mv80 77 10).toInt = (mv69 77 10).toInt := by rw [hq81_, mu_ne (Or.inl (by decide))]
            have hq87_ : (mv80 77 36).toInt = (mv69 77 36).toInt := by rw [hq81_, mu_ne (Or.inl (by decide))]
            have hq88_ : (mv80 77 8).toInt = (mv69 77 8).toInt := by rw [hq81_, mu_ne (Or.inl (by decide))]
            have hq89_ : (mv80 78 (((304 : Int32) + a1).toNatClampNeg)).toInt = 0 := by rw [hq81_, mu_at]; exact l_0
            exact (t_X12_plan_142 hn) n a1 (0 : Int32) mv80 gq82_ kq83_ (i_rng (lo := 0) (hi := 7) rfl (by omega) (by omega)) (i_rng (lo := 0) (hi := 40) l_0 (by omega) (by omega)) (by have e1 : ((0 : Int32)).toInt = _ := l_0; omega)
        · unfold f_X12_plan_75
          have hq92_ := (show ((44 : Int32)).toInt = _ from l_44)
          refine T_qc (t_X12_takes hn (44 : Int32) M hG (i_rng (lo := 44) (hi := 59) l_44 (by omega) (by omega))) ?_
          rintro rv90 mv91 ⟨hq93_, hq94_, gq95_, kq96_⟩
          have kq97_ := Sm.call hS kq96_ rfl
          have hq98_ := Or.imp_right (fun h_ => KR_c (kq96_ 77 35 (by decide)) (kq96_ 77 36 (by decide)) (funext (fun s_ => kq96_ 101 s_ (outc rfl))) h_) wKR
          have hq99_ : (mv91 77 10).toInt = (M 77 10).toInt := by rw [kq96_ 77 10 (by decide)]
          have hq100_ : (mv91 77 36).toInt = (M 77 36).toInt := by rw [kq96_ 77 36 (by decide)]
          have hq101_ := r_77_9 gq95_
          refine T_eq rfl l_0 (fun hq102_ => ?_) (fun hq102_ => ?_)
          · have hq103_ := r_77_10 gq95_
            exact ih a1 (0 : Int32) mv91 gq95_ kq97_ (i_rng (lo := 0) (hi := 7) rfl (by omega) (by omega)) (i_rng (lo := 0) (hi := 1) l_0 (by omega) (by omega)) (Or.inl l_0) (by have e1 : ((0 : Int32)).toInt = _ := l_0; omega)
          · refine T_qc (t_X12_readsStep hn  mv91 gq95_ (hq98_.resolve_left (by omega))) ?_
            rintro rv104 mv105 ⟨hq106_, hq107_, hq108_, gq109_, kq110_⟩
            have kq111_ := Sm.call kq97_ kq110_ rfl
            have hq112_ : (mv105 77 10).toInt = (mv91 77 10).toInt := by rw [kq110_ 77 10 (by decide)]
            have hq113_ := r_77_9 gq109_
            refine T_eq rfl l_0 (fun hq114_ => ?_) (fun hq114_ => ?_)
            · have hq115_ := r_77_10 gq109_
              exact ih a1 (0 : Int32) mv105 gq109_ kq111_ (i_rng (lo := 0) (hi := 7) rfl (by omega) (by omega)) (i_rng (lo := 0) (hi := 1) l_0 (by omega) (by omega)) (Or.inl l_0) (by have e1 : ((0 : Int32)).toInt = _ := l_0; omega)
            · have hq116_ := r_77_10 gq109_
              exact ih a1 (1 : Int32) mv105 gq109_ kq111_ (i_rng (lo := 0) (hi := 7) rfl (by omega) (by omega)) (i_rng (lo := 0) (hi := 1) l_1 (by omega) (by omega)) (Or.inr (hq108_.resolve_left (by omega))) (by have e1 : ((1 : Int32)).toInt = _ := l_1; omega)
theorem t_X12_plan {n : Nat} (hn : 200000 ≤ n) (a1 a2 : Int32) (M : qM) (hG : G M) : qT (f_X12_plan n a1 a2 M) (po_X12_plan a1 a2 M) := by
  have hS : Sm l_X12_plan M M := Sm.rf
  unfold f_X12_plan
  refine T_qc (t_X12_isPerson hn a1 M hG ) ?_
  rintro rv117 mv118 ⟨hq119_, hq120_, gq121_, kq122_⟩
  have hq123_ := kq122_.nil
  subst hq123_
  refine T_eq rfl l_0 (fun hq124_ => ?_) (fun hq124_ => ?_)
  · exact T_ret ⟨hG, hS⟩
  · have hq127_ := (show ((1 : Int32)).toInt = _ from l_1)
    have hq128_ := (show ((80 : Int32)).toInt = _ from l_80)
    refine T_qc (t_X12_in hn a2 (1 : Int32) (80 : Int32) M hG (i_rng (lo := 0) (hi := 70) l_1 (by omega) (by omega)) (i_rng (lo := 0) (hi := 99999) l_80 (by omega) (by omega))) ?_
    rintro rv125 mv126 ⟨hq129_, hq130_, gq131_, kq132_⟩
    have hq133_ := kq132_.nil
    subst hq133_
    refine T_eq rfl l_0 (fun hq134_ => ?_) (fun hq134_ => ?_)
    · exact T_ret ⟨hG, hS⟩
    · have hq135_ := r_77_8 hG
      refine T_le rfl rfl (fun hq136_ => ?_) (fun hq136_ => ?_)
      · refine T_mu hG hS (i_rng (lo := 0) (hi := 240) l_0 (by omega) (by omega)) nw_77_9 (i := 0) rfl ⟨by decide, by decide, Or.inr ⟨by decide, by decide⟩⟩ ?_
        intro mv137 hq138_ gq139_ kq140_
        have hq141_ : (mv137 77 8).toInt = (M 77 8).toInt := by rw [hq138_, mu_ne (Or.inr (by decide))]
        have hq142_ : (mv137 77 9).toInt = 0 := by rw [hq138_, mu_at]; exact l_0
        refine T_mu gq139_ kq140_ (i_rng (lo := 0) (hi := 240) rfl (by omega) (by omega)) nw_77_10 (i := 0) rfl ⟨by decide, by decide, Or.inr ⟨by decide, by decide⟩⟩ ?_
        intro mv143 hq144_ gq145_ kq146_
        have hq147_ : (mv143 77 8).toInt = (mv137 77 8).toInt := by rw [hq144_, mu_ne (Or.inr (by decide))]
        have hq148_ : (mv143 77 9).toInt = (mv137 77 9).toInt := by rw [hq144_, mu_ne (Or.inr (by decide))]
        have hq149_ : (mv143 77 10).toInt = a2.toInt := by rw [hq144_, mu_at]
        refine T_mu gq145_ kq146_ (i_rng (lo := 0) (hi := 40) l_0 (by omega) (by omega)) nw_77_35 (i := 1) rfl ⟨by decide, by decide, Or.inr ⟨by decide, by decide⟩⟩ ?_
        intro mv150 hq151_ gq152_ kq153_
        have hq154_ : (mv150 77 8).toInt = (mv143 77 8).toInt := by rw [hq151_, mu_ne (Or.inr (by decide))]
        have hq155_ : (mv150 77 9).toInt = (mv143 77 9).toInt := by rw [hq151_, mu_ne (Or.inr (by decide))]
        have hq156_ : (mv150 77 10).toInt = (mv143 77 10).toInt := by rw [hq151_, mu_ne (Or.inr (by decide))]
        have hq157_ : (mv150 77 35).toInt = 0 := by rw [hq151_, mu_at]; exact l_0
        refine T_mu gq152_ kq153_ (i_rng (lo := 0) (hi := 3) l_0 (by omega) (by omega)) nw_77_36 (i := 1) rfl ⟨by decide, by decide, Or.inr ⟨by decide, by decide⟩⟩ ?_
        intro mv158 hq159_ gq160_ kq161_
        have hq162_ : (mv158 77 8).toInt = (mv150 77 8).toInt := by rw [hq159_, mu_ne (Or.inr (by decide))]
        have hq163_ : (mv158 77 9).toInt = (mv150 77 9).toInt := by rw [hq159_, mu_ne (Or.inr (by decide))]
        have hq164_ : (mv158 77 10).toInt = (mv150 77 10).toInt := by rw [hq159_, mu_ne (Or.inr (by decide))]
        have hq165_ : (mv158 77 35).toInt = (mv150 77 35).toInt := by rw [hq159_, mu_ne (Or.inr (by decide))]
        have hq166_ : (mv158 77 36).toInt = 0 := by rw [hq159_, mu_at]; exact l_0
        refine T_qc (t_X12_readsStep hn  mv158 gq160_ (KR_0 (by omega))) ?_
        rintro rv167 mv168 ⟨hq169_, hq170_, hq171_, gq172_, kq173_⟩
        have hq174_ := r_77_9 gq160_
        have kq175_ := Sm.call kq161_ kq173_ rfl
        have hq176_ : (mv168 77 8).toInt = (mv158 77 8).toInt := by rw [kq173_ 77 8 (by decide)]
        have hq177_ : (mv168 77 10).toInt = (mv158 77 10).toInt := by rw [kq173_ 77 10 (by decide)]
        have hq178_ := r_77_9 gq172_
        have hq179_ := r_77_10 gq172_
        exact (t_X12_plan_53 hn) n a1 rv167 mv168 gq172_ kq175_ (i_rng (lo := 0) (hi := 7) rfl (by omega) (by omega)) (i_rng (lo := 0) (hi := 1) rfl (by omega) (by omega)) hq171_ (by omega)
      · exact T_ret ⟨hG, hS⟩
abbrev l_J7_fill_53178_c35_12 : List Bx := [(35, 36, 0, 0)]
abbrev po_J7_fill_53178_c35_12 (a1 : Int32) (M : qM) (v : Int32) (M' : qM) : Prop := (0 ≤ v.toInt ∧ v.toInt ≤ 0) ∧ G M' ∧ Sm l_J7_fill_53178_c35_12 M M'
theorem t_J7_fill_53178_c35_12_5 {n : Nat} (hn : 200000 ≤ n) {oa1 : Int32} {M0 : qM} : ∀ (m : Nat) (a1 a2 a3 : Int32) (M : qM), G M → Sm l_J7_fill_53178_c35_12 M0 M → 0 ≤ a1.toInt ∧ a1.toInt ≤ 0 → 0 ≤ a2.toInt ∧ a2.toInt ≤ 12 → 12 ≤ a3.toInt ∧ a3.toInt ≤ 12 → 12 - a2.toInt < (m : Int) → qT (f_J7_fill_53178_5 n 35 12 m a1 a2 a3 M) (po_J7_fill_53178_c35_12 oa1 M0) := by
  intro m
  induction m with
  | zero =>
    intro a1 a2 a3 M hG hS i0 i1 i2 i5
    exfalso; omega
  | succ m ih =>
    intro a1 a2 a3 M hG hS i0 i1 i2 i5
    show qT (b_J7_fill_53178_5 n 35 12 (f_J7_fill_53178_5 n 35 12 m) a1 a2 a3 M) _
    unfold b_J7_fill_53178_5
    try simp only [Nat.reduceAdd]
    refine T_le rfl rfl (fun hq2_ => ?_) (fun hq2_ => ?_)
    · exact T_ret ⟨(i_rng (lo := 0) (hi := 0) l_0 (by omega) (by omega)), hG, hS⟩
    · refine T_qg rfl (by omega) (by omega) ?_
      refine T_mu hG hS (rn_35 _ _) (nw_35 _) (i := 0) rfl ⟨by decide, by decide, Or.inl rfl⟩ ?_
      intro mv3 hq4_ gq5_ kq6_
      have hq7_ : (mv3 35 a2.toNatClampNeg).toInt = a1.toInt := by rw [hq4_, mu_at]
      refine T_ql (i_add rfl l_1 (by omega) (by omega)) ?_
      intro xv8 hq9_
      exact ih a1 xv8 a3 mv3 gq5_ kq6_ (i_rng (lo := 0) (hi := 0) rfl (by omega) (by omega)) (i_rng (lo := 0) (hi := 12) rfl (by omega) (by omega)) (i_rng (lo := 12) (hi := 12) rfl (by omega) (by omega)) (by omega)
theorem t_J7_fill_53178_c35_12 {n : Nat} (hn : 200000 ≤ n) (a1 : Int32) (M : qM) (hG : G M) (pa1 : 0 ≤ a1.toInt ∧ a1.toInt ≤ 0) : qT (f_J7_fill_53178 n 35 12 a1 M) (po_J7_fill_53178_c35_12 a1 M) := by
  have hS : Sm l_J7_fill_53178_c35_12 M M := Sm.rf
  unfold f_J7_fill_53178
  try simp only [Nat.reduceAdd]
  refine T_ql (show (Int32.ofNat 12).toInt = 12 from by decide) ?_
  intro xv10 hq11_
  exact (t_J7_fill_53178_c35_12_5 hn) n a1 (0 : Int32) xv10 M hG hS (i_rng (lo := 0) (hi := 0) rfl (by omega) (by omega)) (i_rng (lo := 0) (hi := 12) l_0 (by omega) (by omega)) (i_rng (lo := 12) (hi := 12) rfl (by omega) (by omega)) (by have e1 : ((0 : Int32)).toInt = _ := l_0; omega)
abbrev l_X1_tellDeed : List Bx := [(35, 36, 0, 0)]
abbrev po_X1_tellDeed (a1 a2 a3 a4 : Int32) (M : qM) (v : Int32) (M' : qM) : Prop := (0 ≤ v.toInt ∧ v.toInt ≤ 0) ∧ G M' ∧ Sm l_X1_tellDeed M M'
theorem t_X1_tellDeed {n : Nat} (hn : 200000 ≤ n) (a1 a2 a3 a4 : Int32) (M : qM) (hG : G M) (pa1 : 0 ≤ a1.toInt ∧ a1.toInt ≤ 12) : qT (f_X1_tellDeed n a1 a2 a3 a4 M) (po_X1_tellDeed a1 a2 a3 a4 M) := by
  have hS : Sm l_X1_tellDeed M M := Sm.rf
  unfold f_X1_tellDeed
  refine T_qc (t_J7_fill_53178_c35_12 hn (0 : Int32) M hG (i_rng (lo := 0) (hi := 0) l_0 (by omega) (by omega))) ?_
  rintro rv1 mv2 ⟨hq3_, gq4_, kq5_⟩
  have kq6_ := Sm.call hS kq5_ rfl
  refine T_mu gq4_ kq6_ (rn_35 _ _) (nw_35 _) (i := 0) rfl ⟨by decide, by decide, Or.inl rfl⟩ ?_
  intro mv7 hq8_ gq9_ kq10_
  have hq11_ : (mv7 35 0).toInt = a1.toInt := by rw [hq8_, mu_at]
  refine T_mu gq9_ kq10_ (rn_35 _ _) (nw_35 _) (i := 0) rfl ⟨by decide, by decide, Or.inl rfl⟩ ?_
  intro mv12 hq13_ gq14_ kq15_
  have hq16_ : (mv12 35 0).toInt = (mv7 35 0).toInt := by rw [hq13_, mu_ne (Or.inr (by decide))]
  have hq17_ : (mv12 35 1).toInt = a2.toInt := by rw [hq13_, mu_at]
  refine T_mu gq14_ kq15_ (rn_35 _ _) (nw_35 _) (i := 0) rfl ⟨by decide, by decide, Or.inl rfl⟩ ?_
  intro mv18 hq19_ gq20_ kq21_
  have hq22_ : (mv18 35 0).toInt = (mv12 35 0).toInt := by rw [hq19_, mu_ne (Or.inr (by decide))]
  have hq23_ : (mv18 35 1).toInt = (mv12 35 1).toInt := by rw [hq19_, mu_ne (Or.inr (by decide))]
  have hq24_ : (mv18 35 2).toInt = a3.toInt := by rw [hq19_, mu_at]
  refine T_mu gq20_ kq21_ (rn_35 _ _) (nw_35 _) (i := 0) rfl ⟨by decide, by decide, Or.inl rfl⟩ ?_
  intro mv25 hq26_ gq27_ kq28_
  have hq29_ : (mv25 35 0).toInt = (mv18 35 0).toInt := by rw [hq26_, mu_ne (Or.inr (by decide))]
  have hq30_ : (mv25 35 1).toInt = (mv18 35 1).toInt := by rw [hq26_, mu_ne (Or.inr (by decide))]
  have hq31_ : (mv25 35 2).toInt = (mv18 35 2).toInt := by rw [hq26_, mu_ne (Or.inr (by decide))]
  have hq32_ : (mv25 35 6).toInt = a4.toInt := by rw [hq26_, mu_at]
  exact T_ret ⟨(i_rng (lo := 0) (hi := 0) l_0 (by omega) (by omega)), gq27_, kq28_⟩
abbrev l_J6_bitCount_0f7a4 : List Bx := []
abbrev po_J6_bitCount_0f7a4 (a0 : Int32) (M : qM) (v : Int32) (M' : qM) : Prop := (0 ≤ v.toInt ∧ v.toInt ≤ 63) ∧ G M' ∧ Sm l_J6_bitCount_0f7a4 M M'
theorem t_J6_bitCount_0f7a4 {n : Nat} (hn : 200000 ≤ n) (a0 : Int32) (M : qM) (hG : G M) : qT (f_J6_bitCount_0f7a4 n a0 M) (po_J6_bitCount_0f7a4 a0 M) := by
  have hS : Sm l_J6_bitCount_0f7a4 M M := Sm.rf
  unfold f_J6_bitCount_0f7a4
  have hq1_ := i_and (a := (a0.toUInt32 >>> (((1 : Int32).toUInt32) &&& (Int32.toUInt32 31))).toInt32) (b := (1431655765 : Int32)) l_1431655765 (by omega)
  have hq2_ := i_full (a0)
  refine T_ql rfl ?_
  intro xv3 hq4_
  have hq5_ := i_and (a := xv3) (b := (858993459 : Int32)) l_858993459 (by omega)
  have hq6_ := i_and (a := (xv3.toUInt32 >>> (((2 : Int32).toUInt32) &&& (Int32.toUInt32 31))).toInt32) (b := (858993459 : Int32)) l_858993459 (by omega)
  refine T_ql (i_add rfl rfl (by omega) (by omega)) ?_
  intro xv7 hq8_
  have hq9_ := i_full ((xv7.toUInt32 >>> (((4 : Int32).toUInt32) &&& (Int32.toUInt32 31))).toInt32)
  have hq10_ := i_and (a := xv7 + ((xv7.toUInt32 >>> (((4 : Int32).toUInt32) &&& (Int32.toUInt32 31))).toInt32)) (b := (252645135 : Int32)) l_252645135 (by omega)
  refine T_ql rfl ?_
  intro xv11 hq12_
  have hq13_ := i_full ((xv11.toUInt32 >>> (((8 : Int32).toUInt32) &&& (Int32.toUInt32 31))).toInt32)
  refine T_ql rfl ?_
  intro xv14 hq15_
  have hq16_ := i_full (xv14)
  have hq17_ := i_full ((xv14.toUInt32 >>> (((16 : Int32).toUInt32) &&& (Int32.toUInt32 31))).toInt32)
  refine T_ql rfl ?_
  intro xv18 hq19_
  have hq20_ := i_and (a := xv18) (b := (63 : Int32)) l_63 (by omega)
  exact T_ret ⟨(i_rng (lo := 0) (hi := 63) rfl (by omega) (by omega)), hG, hS⟩
abbrev l_X1_reckon : List Bx := [(34, 35, 4, 5)]
abbrev po_X1_reckon (a1 a2 a3 : Int32) (M : qM) (v : Int32) (M' : qM) : Prop := G M' ∧ Sm l_X1_reckon M M'
theorem t_X1_reckon {n : Nat} (hn : 200000 ≤ n) (a1 a2 a3 : Int32) (M : qM) (hG : G M) (pa1 : 32 ≤ a1.toInt ∧ a1.toInt ≤ 2147483647) : qT (f_X1_reckon n a1 a2 a3 M) (po_X1_reckon a1 a2 a3 M) := by
  have hS : Sm l_X1_reckon M M := Sm.rf
  unfold f_X1_reckon
  refine T_sw rfl l_42 (fun hq1_ => ?_) (fun hq1_ => ?_)
  · have hq2_ := i_full (a2)
    have hq3_ := i_full (a3)
    exact T_ret ⟨hG, hS⟩
  refine T_sw rfl l_43 (fun hq4_ => ?_) (fun hq4_ => ?_)
  · have hq5_ := i_full (a2)
    have hq6_ := i_full (a3)
    exact T_ret ⟨hG, hS⟩
  refine T_sw rfl l_45 (fun hq7_ => ?_) (fun hq7_ => ?_)
  · have hq8_ := i_full (a2)
    have hq9_ := i_full (a3)
    exact T_ret ⟨hG, hS⟩
  refine T_sw rfl l_60 (fun hq10_ => ?_) (fun hq10_ => ?_)
  · refine T_le rfl rfl (fun hq11_ => ?_) (fun hq11_ => ?_)
    · exact T_ret ⟨hG, hS⟩
    · exact T_ret ⟨hG, hS⟩
  refine T_sw rfl l_61 (fun hq12_ => ?_) (fun hq12_ => ?_)
  · refine T_eq rfl rfl (fun hq13_ => ?_) (fun hq13_ => ?_)
    · exact T_ret ⟨hG, hS⟩
    · exact T_ret ⟨hG, hS⟩
  refine T_sw rfl l_62 (fun hq14_ => ?_) (fun hq14_ => ?_)
  · refine T_le rfl rfl (fun hq15_ => ?_) (fun hq15_ => ?_)
    · exact T_ret ⟨hG, hS⟩
    · exact T_ret ⟨hG, hS⟩
  refine T_sw0 ?_
  refine T_eq rfl l_0 (fun hq16_ => ?_) (fun hq16_ => ?_)
  · refine T_mu hG hS (rn_34_4 _) (nw_34 _) (i := 0) rfl ⟨by decide, by decide, Or.inr ⟨by decide, by decide⟩⟩ ?_
    intro mv17 hq18_ gq19_ kq20_
    have hq21_ : (mv17 34 4).toInt = 1 := by rw [hq18_, mu_at]; exact l_1
    exact T_ret ⟨gq19_, kq20_⟩
  · refine T_eq rfl l_47 (fun hq22_ => ?_) (fun hq22_ => ?_)
    · refine T_qd rfl (by omega) ?_
      have hq23_ := i_full (a2)
      have hq24_ := i_full (a3)
      exact T_ret ⟨hG, hS⟩
    · refine T_qd rfl (by omega) ?_
      exact T_ret ⟨hG, hS⟩
