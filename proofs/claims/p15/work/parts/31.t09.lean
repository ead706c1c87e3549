abbrev l_X12_readsStep : List Bx := [(77, 78, 9, 10), (77, 78, 11, 13), (77, 78, 35, 37), (98, 102, 0, 0)]
abbrev po_X12_readsStep (M : qM) (v : Int32) (M' : qM) : Prop := (0 ≤ v.toInt ∧ v.toInt ≤ 1) ∧ ((M 77 9).toInt ≤ (M' 77 9).toInt) ∧ (v.toInt = 0 ∨ KR  M') ∧ G M' ∧ Sm l_X12_readsStep M M'
theorem t_X12_readsStep_296 {n : Nat} (hn : 200000 ≤ n) {M0 : qM} : ∀ (m : Nat) (M : qM), G M → Sm l_X12_readsStep M0 M → (M0 77 9).toInt ≤ (M 77 9).toInt → KR  M → 241 - (M 77 9).toInt < (m : Int) → qT (f_X12_readsStep_296 n m  M) (po_X12_readsStep  M0) := by
  intro m
  induction m with
  | zero =>
    intro  M hG hS hE wKR i4
    have hq1_ := r_77_9 hG
    have hq2_ := r_77_10 hG
    have hq3_ := r_77_35 hG
    have hq4_ := r_77_36 hG
    exfalso; omega
  | succ m ih =>
    intro  M hG hS hE wKR i4
    show qT (b_X12_readsStep_296 n (f_X12_readsStep_296 n m)  M) _
    unfold b_X12_readsStep_296
    have hq1_ := r_77_9 hG
    have hq2_ := r_77_10 hG
    have hq3_ := r_77_35 hG
    have hq4_ := r_77_36 hG
    refine T_qc (t_X12_here hn  M hG ) ?_
    rintro rv5 mv6 ⟨hq7_, hq8_, gq9_, kq10_⟩
    have hq11_ := kq10_.nil
    subst hq11_
    refine T_eq rfl l_41 (fun hq12_ => ?_) (fun hq12_ => ?_)
    · refine T_le rfl l_0 (fun hq13_ => ?_) (fun hq13_ => ?_)
      · exact T_ret ⟨(i_rng (lo := 0) (hi := 1) l_1 (by omega) (by omega)), (by have e9 : ((1 : Int32)).toInt = _ := l_1; omega), (Or.inr wKR), hG, hS⟩
      · refine T_qc (t_X12_endsRound hn  M hG (by omega) wKR) ?_
        rintro rv14 mv15 ⟨hq16_, hq17_, hq18_, gq19_, kq20_⟩
        have kq21_ := Sm.call hS kq20_ rfl
        have hq22_ : (mv15 77 10).toInt = (M 77 10).toInt := by rw [kq20_ 77 10 (by decide)]
        have hq23_ := r_77_9 gq19_
        refine T_eq rfl l_0 (fun hq24_ => ?_) (fun hq24_ => ?_)
        · exact T_ret ⟨(i_rng (lo := 0) (hi := 1) l_0 (by omega) (by omega)), (by have e9 : ((0 : Int32)).toInt = _ := l_0; omega), (Or.inl (by first | exact l_0 | omega)), gq19_, kq21_⟩
        · have hq25_ := r_77_10 gq19_
          have hq26_ := r_77_35 gq19_
          have hq27_ := r_77_36 gq19_
          exact ih  mv15 gq19_ kq21_ (by omega) (hq18_.resolve_left (by omega)) (by omega)
    · exact T_ret ⟨(i_rng (lo := 0) (hi := 1) l_1 (by omega) (by omega)), (by have e9 : ((1 : Int32)).toInt = _ := l_1; omega), (Or.inr wKR), hG, hS⟩
theorem t_X12_readsStep_108 {n : Nat} (hn : 200000 ≤ n) {M0 : qM} : ∀ (m : Nat) (a1 : Int32) (M : qM), G M → Sm l_X12_readsStep M0 M → 0 ≤ a1.toInt ∧ a1.toInt ≤ 240 → (M0 77 9).toInt ≤ (M 77 9).toInt → KR  M → 241 - (M 77 9).toInt < (m : Int) → qT (f_X12_readsStep_108 n m a1 M) (po_X12_readsStep  M0) := by
  intro m
  induction m with
  | zero =>
    intro a1 M hG hS i0 hE wKR i5
    have hq28_ := r_77_9 hG
    have hq29_ := r_77_10 hG
    have hq30_ := r_77_35 hG
    have hq31_ := r_77_36 hG
    exfalso; omega
  | succ m ih =>
    intro a1 M hG hS i0 hE wKR i5
    show qT (b_X12_readsStep_108 n (f_X12_readsStep_108 n m) a1 M) _
    unfold b_X12_readsStep_108
    have hq28_ := r_77_9 hG
    have hq29_ := r_77_10 hG
    have hq30_ := r_77_35 hG
    have hq31_ := r_77_36 hG
    refine T_qc (t_X12_isDigit hn  M hG ) ?_
    rintro rv32 mv33 ⟨hq34_, hq35_, gq36_, kq37_⟩
    have hq38_ := kq37_.nil
    subst hq38_
    refine T_eq rfl l_0 (fun hq39_ => ?_) (fun hq39_ => ?_)
    · unfold f_X12_readsStep_157
      refine T_lt rfl l_12 (fun hq40_ => ?_) (fun hq40_ => ?_)
      · refine T_qc (t_X12_here hn  M hG ) ?_
        rintro rv41 mv42 ⟨hq43_, hq44_, gq45_, kq46_⟩
        have hq47_ := kq46_.nil
        subst hq47_
        refine T_eq rfl l_38 (fun hq48_ => ?_) (fun hq48_ => ?_)
        · refine T_mu hG hS (i_rng (lo := 0) (hi := 240) (i_add rfl l_1 (by omega) (by omega)) (by omega) (by omega)) nw_77_9 (i := 0) rfl ⟨by decide, by decide, Or.inr ⟨by decide, by decide⟩⟩ ?_
          intro mv49 hq50_ gq51_ kq52_
          have hq53_ := (fun h_ => KR_c (M := M) (M' := mv49) (by rw [hq50_, mu_ne (Or.inr (by decide))]) (by rw [hq50_, mu_ne (Or.inr (by decide))]) (by rw [hq50_, mu_nc (by decide)]) h_) wKR
          have hq54_ : (mv49 77 10).toInt = (M 77 10).toInt := by rw [hq50_, mu_ne (Or.inr (by decide))]
          have hq55_ : (mv49 77 35).toInt = (M 77 35).toInt := by rw [hq50_, mu_ne (Or.inr (by decide))]
          have hq56_ : (mv49 77 36).toInt = (M 77 36).toInt := by rw [hq50_, mu_ne (Or.inr (by decide))]
          have hq57_ : (mv49 77 12).toInt = (M 77 12).toInt := by rw [hq50_, mu_ne (Or.inr (by decide))]
          have hq58_ : (mv49 77 9).toInt = ((M 77 9).toInt + 1) := by rw [hq50_, mu_at]; exact (i_add rfl l_1 (by omega) (by omega))
          refine T_qc (t_X12_isDigit hn  mv49 gq51_ ) ?_
          rintro rv59 mv60 ⟨hq61_, hq62_, gq63_, kq64_⟩
          have hq65_ := r_77_9 gq51_
          have hq66_ := r_77_10 gq51_
          have hq67_ := kq64_.nil
          subst hq67_
          refine T_eq rfl l_0 (fun hq68_ => ?_) (fun hq68_ => ?_)
          · refine T_qc (t_X12_wrongAt hn (1 : Int32) (mv49 77 9) mv49 gq51_ (i_rng (lo := 1) (hi := 6) l_1 (by omega) (by omega))) ?_
            rintro rv69 mv70 ⟨hq71_, gq72_, kq73_⟩
            have kq74_ := Sm.call kq52_ kq73_ rfl
            have hq75_ := (fun h_ => KR_c (kq73_ 77 35 (by decide)) (kq73_ 77 36 (by decide)) (funext (fun s_ => kq73_ 101 s_ (outc rfl))) h_) hq53_
            have hq76_ : (mv70 77 10).toInt = (mv49 77 10).toInt := by rw [kq73_ 77 10 (by decide)]
            have hq77_ : (mv70 77 35).toInt = (mv49 77 35).toInt := by rw [kq73_ 77 35 (by decide)]
            have hq78_ : (mv70 77 36).toInt = (mv49 77 36).toInt := by rw [kq73_ 77 36 (by decide)]
            have hq79_ : (mv70 77 12).toInt = (mv49 77 12).toInt := by rw [kq73_ 77 12 (by decide)]
            have hq80_ : (mv70 77 9).toInt = (mv49 77 9).toInt := by rw [kq73_ 77 9 (by decide)]
            refine T_qb rfl (by omega) (by omega) ?_
            exact T_ret ⟨(i_rng (lo := 0) (hi := 1) rfl (by omega) (by omega)), (by have e9 : (rv69).toInt = _ := rfl; omega), (Or.inl (by first | exact l_0 | omega)), gq72_, kq74_⟩
          · refine T_qc (t_X12_here hn  mv49 gq51_ ) ?_
            rintro rv81 mv82 ⟨hq83_, hq84_, gq85_, kq86_⟩
            have hq87_ := kq86_.nil
            subst hq87_
            refine T_ql (i_sub rfl l_48 (by omega) (by omega)) ?_
            intro xv88 hq89_
            refine T_lt rfl l_8 (fun hq90_ => ?_) (fun hq90_ => ?_)
            · refine T_mu gq51_ kq52_ (i_rng (lo := 0) (hi := 240) (i_add rfl l_1 (by omega) (by omega)) (by omega) (by omega)) nw_77_9 (i := 0) rfl ⟨by decide, by decide, Or.inr ⟨by decide, by decide⟩⟩ ?_
              intro mv91 hq92_ gq93_ kq94_
              have hq95_ := (fun h_ => KR_c (M := mv49) (M' := mv91) (by rw [hq92_, mu_ne (Or.inr (by decide))]) (by rw [hq92_, mu_ne (Or.inr (by decide))]) (by rw [hq92_, mu_nc (by decide)]) h_) hq53_
              have hq96_ : (mv91 77 10).toInt = (mv49 77 10).toInt := by rw [hq92_, mu_ne (Or.inr (by decide))]
              have hq97_ : (mv91 77 35).toInt = (mv49 77 35).toInt := by rw [hq92_, mu_ne (Or.inr (by decide))]
              have hq98_ : (mv91 77 36).toInt = (mv49 77 36).toInt := by rw [hq92_, mu_ne (Or.inr (by decide))]
              have hq99_ : (mv91 77 12).toInt = (mv49 77 12).toInt := by rw [hq92_, mu_ne (Or.inr (by decide))]
              have hq100_ : (mv91 77 9).toInt = ((mv49 77 9).toInt + 1) := by rw [hq92_, mu_at]; exact (i_add rfl l_1 (by omega) (by omega))
              unfold f_X12_readsStep_246
              have hq101_ := r_77_35 gq93_
              refine T_eq rfl l_40 (fun hq102_ => ?_) (fun hq102_ => ?_)
              · refine T_qc (t_X12_wrongAt hn (6 : Int32) a1 mv91 gq93_ (i_rng (lo := 1) (hi := 6) l_6 (by omega) (by omega))) ?_
                rintro rv103 mv104 ⟨hq105_, gq106_, kq107_⟩
                have kq108_ := Sm.call kq94_ kq107_ rfl
                have hq109_ := (fun h_ => KR_c (kq107_ 77 35 (by decide)) (kq107_ 77 36 (by decide)) (funext (fun s_ => kq107_ 101 s_ (outc rfl))) h_) hq95_
                have hq110_ : (mv104 77 10).toInt = (mv91 77 10).toInt := by rw [kq107_ 77 10 (by decide)]
                have hq111_ : (mv104 77 35).toInt = (mv91 77 35).toInt := by rw [kq107_ 77 35 (by decide)]
                have hq112_ : (mv104 77 36).toInt = (mv91 77 36).toInt := by rw [kq107_ 77 36 (by decide)]
                have hq113_ : (mv104 77 12).toInt = (mv91 77 12).toInt := by rw [kq107_ 77 12 (by decide)]
                have hq114_ : (mv104 77 9).toInt = (mv91 77 9).toInt := by rw [kq107_ 77 9 (by decide)]
                refine T_qb rfl (by omega) (by omega) ?_
                exact T_ret ⟨(i_rng (lo := 0) (hi := 1) rfl (by omega) (by omega)), (by have e9 : (rv103).toInt = _ := rfl; omega), (Or.inl (by first | exact l_0 | omega)), gq106_, kq108_⟩
              · refine T_qg rfl (by omega) (by omega) ?_
                refine T_mu gq93_ kq94_ (rn_98 _ _) (nw_98 _) (i := 3) rfl ⟨by decide, by decide, Or.inl rfl⟩ ?_
                intro mv115 hq116_ gq117_ kq118_
                have hq119_ := (fun h_ => KR_c (M := mv91) (M' := mv115) (by rw [hq116_, mu_ne (Or.inl (by decide))]) (by rw [hq116_, mu_ne (Or.inl (by decide))]) (by rw [hq116_, mu_nc (by decide)]) h_) hq95_
                have hq120_ : (mv115 77 10).toInt = (mv91 77 10).toInt := by rw [hq116_, mu_ne (Or.inl (by decide))]
                have hq121_ : (mv115 77 35).toInt = (mv91 77 35).toInt := by rw [hq116_, mu_ne (Or.inl (by decide))]
                have hq122_ : (mv115 77 36).toInt = (mv91 77 36).toInt := by rw [hq116_, mu_ne (Or.inl (by decide))]
                have hq123_ : (mv115 77 12).toInt = (mv91 77 12).toInt := by rw [hq116_, mu_ne (Or.inl (by decide))]
                have hq124_ : (mv115 77 9).toInt = (mv91 77 9).toInt := by rw [hq116_, mu_ne (Or.inl (by decide))]
                have hq125_ : (mv115 98 ((mv91 77 35).toNatClampNeg)).toInt = (mv91 77 12).toInt := by rw [hq116_, mu_at]
                have hq126_ := r_77_35 gq117_
                refine T_qg rfl (by omega) (by omega) ?_
                refine T_mu gq117_ kq118_ (rn_99 _ _) (nw_99 _) (i := 3) rfl ⟨by decide, by decide, Or.inl rfl⟩ ?_
                intro mv127 hq128_ gq129_ kq130_
                have hq131_ := (fun h_ => KR_c (M := mv115) (M' := mv127) (by rw [hq128_, mu_ne (Or.inl (by decide))]) (by rw [hq128_, mu_ne (Or.inl (by decide))]) (by rw [hq128_, mu_nc (by decide)]) h_) hq119_
                have hq132_ : (mv127 77 10).toInt = (mv115 77 10).toInt := by rw [hq128_, mu_ne (Or.inl (by decide))]
                have hq133_ : (mv127 77 35).toInt = (mv115 77 35).toInt := by rw [hq128_, mu_ne (Or.inl (by decide))]
                have hq134_ : (mv127 77 36).toInt = (mv115 77 36).toInt := by rw [hq128_, mu_ne (Or.inl (by decide))]
                have hq135_ : (mv127 77 12).toInt = (mv115 77 12).toInt := by rw [hq128_, mu_ne (Or.inl (by decide))]
                have hq136_ : (mv127 77 9).toInt = (mv115 77 9).toInt := by rw [hq128_, mu_ne (Or.inl (by decide))]
                have hq137_ : (mv127 98 ((mv91 77 35).toNatClampNeg)).toInt = (mv115 98 ((mv91 77 35).toNatClampNeg)).toInt := by rw [hq128_, mu_ne (Or.inl (by decide))]
                have hq138_ : (mv127 99 ((mv115 77 35).toNatClampNeg)).toInt = xv88.toInt := by rw [hq128_, mu_at]
                have hq140_ := r_77_35 gq129_
                refine T_mu gq129_ kq130_ (i_rng (lo := 0) (hi := 40) (i_add rfl l_1 (by omega) (by omega)) (by omega) (by omega)) nw_77_35 (i := 2) rfl ⟨by decide, by decide, Or.inr ⟨by decide, by decide⟩⟩ ?_
                intro mv139 hq141_ gq142_ kq143_
                have hq144_ : (mv139 77 10).toInt = (mv127 77 10).toInt := by rw [hq141_, mu_ne (Or.inr (by decide))]
                have hq145_ : (mv139 77 36).toInt = (mv127 77 36).toInt := by rw [hq141_, mu_ne (Or.inr (by decide))]
                have hq146_ : (mv139 77 12).toInt = (mv127 77 12).toInt := by rw [hq141_, mu_ne (Or.inr (by decide))]
                have hq147_ : (mv139 77 9).toInt = (mv127 77 9).toInt := by rw [hq141_, mu_ne (Or.inr (by decide))]
                have hq148_ : (mv139 98 ((mv91 77 35).toNatClampNeg)).toInt = (mv127 98 ((mv91 77 35).toNatClampNeg)).toInt := by rw [hq141_, mu_ne (Or.inl (by decide))]
                have hq149_ : (mv139 99 ((mv115 77 35).toNatClampNeg)).toInt = (mv127 99 ((mv115 77 35).toNatClampNeg)).toInt := by rw [hq141_, mu_ne (Or.inl (by decide))]
                have hq150_ : (mv139 77 35).toInt = ((mv127 77 35).toInt + 1) := by rw [hq141_, mu_at]; exact (i_add rfl l_1 (by omega) (by omega))
                have hq151_ := r_77_9 gq142_
                have hq152_ := r_77_10 gq142_
                have hq153_ := r_77_35 gq142_
                have hq154_ := r_77_36 gq142_
                exact (t_X12_readsStep_296 hn) n  mv139 gq142_ kq143_ (by omega) (KR_up (M := mv127) hq131_ (by rw [hq141_, mu_ne (Or.inr (by decide))]) (by rw [hq141_, mu_nc (by decide)]) (by omega)) (by omega)
            · refine T_qc (t_X12_wrongAt hn (3 : Int32) (mv49 77 9) mv49 gq51_ (i_rng (lo := 1) (hi := 6) l_3 (by omega) (by omega))) ?_
              rintro rv155 mv156 ⟨hq157_, gq158_, kq159_⟩
              have kq160_ := Sm.call kq52_ kq159_ rfl
              have hq161_ := (fun h_ => KR_c (kq159_ 77 35 (by decide)) (kq159_ 77 36 (by decide)) (funext (fun s_ => kq159_ 101 s_ (outc rfl))) h_) hq53_
              have hq162_ : (mv156 77 10).toInt = (mv49 77 10).toInt := by rw [kq159_ 77 10 (by decide)]
              have hq163_ : (mv156 77 35).toInt = (mv49 77 35).toInt := by rw [kq159_ 77 35 (by decide)]
              have hq164_ : (mv156 77 36).toInt = (mv49 77 36).toInt := by rw [kq159_ 77 36 (by decide)]
              have hq165_ : (mv156 77 12).toInt = (mv49 77 12).toInt := by rw [kq159_ 77 12 (by decide)]
              have hq166_ : (mv156 77 9).toInt = (mv49 77 9).toInt := by rw [kq159_ 77 9 (by decide)]
              refine T_qb rfl (by omega) (by omega) ?_
              exact T_ret ⟨(i_rng (lo := 0) (hi := 1) rfl (by omega) (by omega)), (by have e9 : (rv155).toInt = _ := rfl; omega), (Or.inl (by first | exact l_0 | omega)), gq158_, kq160_⟩
        · unfold f_X12_readsStep_246
          refine T_eq rfl l_40 (fun hq167_ => ?_) (fun hq167_ => ?_)
          · refine T_qc (t_X12_wrongAt hn (6 : Int32) a1 M hG (i_rng (lo := 1) (hi := 6) l_6 (by omega) (by omega))) ?_
            rintro rv168 mv169 ⟨hq170_, gq171_, kq172_⟩
            have kq173_ := Sm.call hS kq172_ rfl
            have hq174_ := (fun h_ => KR_c (kq172_ 77 35 (by decide)) (kq172_ 77 36 (by decide)) (funext (fun s_ => kq172_ 101 s_ (outc rfl))) h_) wKR
            have hq175_ : (mv169 77 9).toInt = (M 77 9).toInt := by rw [kq172_ 77 9 (by decide)]
            have hq176_ : (mv169 77 10).toInt = (M 77 10).toInt := by rw [kq172_ 77 10 (by decide)]
            have hq177_ : (mv169 77 35).toInt = (M 77 35).toInt := by rw [kq172_ 77 35 (by decide)]
            have hq178_ : (mv169 77 36).toInt = (M 77 36).toInt := by rw [kq172_ 77 36 (by decide)]
            have hq179_ : (mv169 77 12).toInt = (M 77 12).toInt := by rw [kq172_ 77 12 (by decide)]
            refine T_qb rfl (by omega) (by omega) ?_
            exact T_ret ⟨(i_rng (lo := 0) (hi := 1) rfl (by omega) (by omega)), (by have e9 : (rv168).toInt = _ := rfl; omega), (Or.inl (by first | exact l_0 | omega)), gq171_, kq173_⟩
          · refine T_qg rfl (by omega) (by omega) ?_
            refine T_mu hG hS (rn_98 _ _) (nw_98 _) (i := 3) rfl ⟨by decide, by decide, Or.inl rfl⟩ ?_
            intro mv180 hq181_ gq182_ kq183_
            have hq184_ := (fun h_ => KR_c (M := M) (M' := mv180) (by rw [hq181_, mu_ne (Or.inl (by decide))]) (by rw [hq181_, mu_ne (Or.inl (by decide))]) (by rw [hq181_, mu_nc (by decide)]) h_) wKR
            have hq185_ : (mv180 77 9).toInt = (M 77 9).toInt := by rw [hq181_, mu_ne (Or.inl (by decide))]
            have hq186_ : (mv180 77 10).toInt = (M 77 10).toInt := by rw [hq181_, mu_ne (Or.inl (by decide))]
            have hq187_ : (mv180 77 35).toInt = (M 77 35).toInt := by rw [hq181_, mu_ne (Or.inl (by decide))]
            have hq188_ : (mv180 77 36).toInt = (M 77 36).toInt := by rw [hq181_, mu_ne (Or.inl (by decide))]
            have hq189_ : (mv180 77 12).toInt = (M 77 12).toInt := by rw [hq181_, mu_ne (Or.inl (by decide))]
            have hq190_ : (mv180 98 ((M 77 35).toNatClampNeg)).toInt = (M 77 12).toInt := by rw [hq181_, mu_at]
            have hq191_ := r_77_35 gq182_
            refine T_qg rfl (by omega) (by omega) ?_
            refine T_mu gq182_ kq183_ (rn_99 _ _) (nw_99 _) (i := 3) rfl ⟨by decide, by decide, Or.inl rfl⟩ ?_
            intro mv192 hq193_ gq194_ kq195_
            have hq196_ := (fun h_ => KR_c (M := mv180) (M' := mv192) (by rw [hq193_, mu_ne (Or.inl (by decide))]) (by rw [hq193_, mu_ne (Or.inl (by decide))]) (by rw [hq193_, mu_nc (by decide)]) h_) hq184_
            have hq197_ : (mv192 77 9).toInt = (mv180 77 9).toInt := by rw [hq193_, mu_ne (Or.inl (by decide))]
            have hq198_ : (mv192 77 10).toInt = (mv180 77 10).toInt := by rw [hq193_, mu_ne (Or.inl (by decide))]
            have hq199_ : (mv192 77 35).toInt = (mv180 77 35).toInt := by rw [hq193_, mu_ne (Or.inl (by decide))]
            have hq200_ : (mv192 77 36).toInt = (mv180 77 36).toInt := by rw [hq193_, mu_ne (Or.inl (by decide))]
            have hq201_ : (mv192 77 12).toInt = (mv180 77 12).toInt := by rw [hq193_, mu_ne (Or.inl (by decide))]
            have hq202_ : (mv192 98 ((M 77 35).toNatClampNeg)).toInt = (mv180 98 ((M 77 35).toNatClampNeg)).toInt := by rw [hq193_, mu_ne (Or.inl (by decide))]
            have hq203_ : (mv192 99 ((mv180 77 35).toNatClampNeg)).toInt = 8 := by rw [hq193_, mu_at]; exact l_8
            have hq205_ := r_77_35 gq194_
            refine T_mu gq194_ kq195_ (i_rng (lo := 0) (hi := 40) (i_add rfl l_1 (by omega) (by omega)) (by omega) (by omega)) nw_77_35 (i := 2) rfl ⟨by decide, by decide, Or.inr ⟨by decide, by decide⟩⟩ ?_
            intro mv204 hq206_ gq207_ kq208_
            have hq209_ : (mv204 77 9).toInt = (mv192 77 9).toInt := by rw [hq206_, mu_ne (Or.inr (by decide))]
            have hq210_ : (mv204 77 10).toInt = (mv192 77 10).toInt := by rw [hq206_, mu_ne (Or.inr (by decide))]
            have hq211_ : (mv204 77 36).toInt = (mv192 77 36).toInt := by rw [hq206_, mu_ne (Or.inr (by decide))]
            have hq212_ : (mv204 77 12).toInt = (mv192 77 12).toInt := by rw [hq206_, mu_ne (Or.inr (by decide))]
            have hq213_ : (mv204 98 ((M 77 35).toNatClampNeg)).toInt = (mv192 98 ((M 77 35).toNatClampNeg)).toInt := by rw [hq206_, mu_ne (Or.inl (by decide))]
            have hq214_ : (mv204 99 ((mv180 77 35).toNatClampNeg)).toInt = (mv192 99 ((mv180 77 35).toNatClampNeg)).toInt := by rw [hq206_, mu_ne (Or.inl (by decide))]
            have hq215_ : (mv204 77 35).toInt = ((mv192 77 35).toInt + 1) := by rw [hq206_, mu_at]; exact (i_add rfl l_1 (by omega) (by omega))
            have hq216_ := r_77_9 gq207_
            have hq217_ := r_77_10 gq207_
            have hq218_ := r_77_35 gq207_
            have hq219_ := r_77_36 gq207_
            exact (t_X12_readsStep_296 hn) n  mv204 gq207_ kq208_ (by omega) (KR_up (M := mv192) hq196_ (by rw [hq206_, mu_ne (Or.inr (by decide))]) (by rw [hq206_, mu_nc (by decide)]) (by omega)) (by omega)
      · refine T_qc (t_X12_wrongAt hn (3 : Int32) a1 M hG (i_rng (lo := 1) (hi := 6) l_3 (by omega) (by omega))) ?_
        rintro rv220 mv221 ⟨hq222_, gq223_, kq224_⟩
        have kq225_ := Sm.call hS kq224_ rfl
        have hq226_ := (fun h_ => KR_c (kq224_ 77 35 (by decide)) (kq224_ 77 36 (by decide)) (funext (fun s_ => kq224_ 101 s_ (outc rfl))) h_) wKR
        have hq227_ : (mv221 77 9).toInt = (M 77 9).toInt := by rw [kq224_ 77 9 (by decide)]
        have hq228_ : (mv221 77 10).toInt = (M 77 10).toInt := by rw [kq224_ 77 10 (by decide)]
        have hq229_ : (mv221 77 35).toInt = (M 77 35).toInt := by rw [kq224_ 77 35 (by decide)]
        have hq230_ : (mv221 77 36).toInt = (M 77 36).toInt := by rw [kq224_ 77 36 (by decide)]
        have hq231_ : (mv221 77 12).toInt = (M 77 12).toInt := by rw [kq224_ 77 12 (by decide)]
        refine T_qb rfl (by omega) (by omega) ?_
        exact T_ret ⟨(i_rng (lo := 0) (hi := 1) rfl (by omega) (by omega)), (by have e9 : (rv220).toInt = _ := rfl; omega), (Or.inl (by first | exact l_0 | omega)), gq223_, kq225_⟩
    · refine T_le (i_add rfl l_2 (by omega) (by omega)) rfl (fun hq232_ => ?_) (fun hq232_ => ?_)
      · unfold f_X12_readsStep_157
        refine T_lt rfl l_12 (fun hq233_ => ?_) (fun hq233_ => ?_)
        · refine T_qc (t_X12_here hn  M hG ) ?_
          rintro rv234 mv235 ⟨hq236_, hq237_, gq238_, kq239_⟩
          have hq240_ := kq239_.nil
          subst hq240_
          refine T_eq rfl l_38 (fun hq241_ => ?_) (fun hq241_ => ?_)
          · refine T_mu hG hS (i_rng (lo := 0) (hi := 240) (i_add rfl l_1 (by omega) (by omega)) (by omega) (by omega)) nw_77_9 (i := 0) rfl ⟨by decide, by decide, Or.inr ⟨by decide, by decide⟩⟩ ?_
            intro mv242 hq243_ gq244_ kq245_
            have hq246_ := (fun h_ => KR_c (M := M) (M' := mv242) (by rw [hq243_, mu_ne (Or.inr (by decide))]) (by rw [hq243_, mu_ne (Or.inr (by decide))]) (by rw [hq243_, mu_nc (by decide)]) h_) wKR
            have hq247_ : (mv242 77 10).toInt = (M 77 10).toInt := by rw [hq243_, mu_ne (Or.inr (by decide))]
            have hq248_ : (mv242 77 35).toInt = (M 77 35).toInt := by rw [hq243_, mu_ne (Or.inr (by decide))]
            have hq249_ : (mv242 77 36).toInt = (M 77 36).toInt := by rw [hq243_, mu_ne (Or.inr (by decide))]
            have hq250_ : (mv242 77 12).toInt = (M 77 12).toInt := by rw [hq243_, mu_ne (Or.inr (by decide))]
            have hq251_ : (mv242 77 9).toInt = ((M 77 9).toInt + 1) := by rw [hq243_, mu_at]; exact (i_add rfl l_1 (by omega) (by omega))
            refine T_qc (t_X12_isDigit hn  mv242 gq244_ ) ?_
            rintro rv252 mv253 ⟨hq254_, hq255_, gq256_, kq257_⟩
            have hq258_ := r_77_9 gq244_
            have hq259_ := r_77_10 gq244_
            have hq260_ := kq257_.nil
            subst hq260_
            refine T_eq rfl l_0 (fun hq261_ => ?_) (fun hq261_ => ?_)
            · refine T_qc (t_X12_wrongAt hn (1 : Int32) (mv242 77 9) mv242 gq244_ (i_rng (lo := 1) (hi := 6) l_1 (by omega) (by omega))) ?_
              rintro rv262 mv263 ⟨hq264_, gq265_, kq266_⟩
              have kq267_ := Sm.call kq245_ kq266_ rfl
              have hq268_ := (fun h_ => KR_c (kq266_ 77 35 (by decide)) (kq266_ 77 36 (by decide)) (funext (fun s_ => kq266_ 101 s_ (outc rfl))) h_) hq246_
              have hq269_ : (mv263 77 10).toInt = (mv242 77 10).toInt := by rw [kq266_ 77 10 (by decide)]
              have hq270_ : (mv263 77 35).toInt = (mv242 77 35).toInt := by rw [kq266_ 77 35 (by decide)]
              have hq271_ : (mv263 77 36).toInt = (mv242 77 36).toInt := by rw [kq266_ 77 36 (by decide)]
              have hq272_ : (mv263 77 12).toInt = (mv242 77 12).toInt := by rw [kq266_ 77 12 (by decide)]
              have hq273_ : (mv263 77 9).toInt = (mv242 77 9).toInt := by rw [kq266_ 77 9 (by decide)]
              refine T_qb rfl (by omega) (by omega) ?_
              exact T_ret ⟨(i_rng (lo := 0) (hi := 1) rfl (by omega) (by omega)), (by have e9 : (rv262).toInt = _ := rfl; omega), (Or.inl (by first | exact l_0 | omega)), gq265_, kq267_⟩
            · refine T_qc (t_X12_here hn  mv242 gq244_ ) ?_
              rintro rv274 mv275 ⟨hq276_, hq277_, gq278_, kq279_⟩
              have hq280_ := kq279_.nil
              subst hq280_
              refine T_ql (i_sub rfl l_48 (by omega) (by omega)) ?_
              intro xv281 hq282_
              refine T_lt rfl l_8 (fun hq283_ => ?_) (fun hq283_ => ?_)
              · refine T_mu gq244_ kq245_ (i_rng (lo := 0) (hi := 240) (i_add rfl l_1 (by omega) (by omega)) (by omega) (by omega)) nw_77_9 (i := 0) rfl ⟨by decide, by decide, Or.inr ⟨by decide, by decide⟩⟩ ?_
                intro mv284 hq285_ gq286_ kq287_
                have hq288_ := (fun h_ => KR_c (M := mv242) (M' := mv284) (by rw [hq285_, mu_ne (Or.inr (by decide))]) (by rw [hq285_, mu_ne (Or.inr (by decide))]) (by rw [hq285_, mu_nc (by decide)]) h_) hq246_
                have hq289_ : (mv284 77 10).toInt = (mv242 77 10).toInt := by rw [hq285_, mu_ne (Or.inr (by decide))]
                have hq290_ : (mv284 77 35).toInt = (mv242 77 35).toInt := by rw [hq285_, mu_ne (Or.inr (by decide))]
                have hq291_ : (mv284 77 36).toInt = (mv242 77 36).toInt := by rw [hq285_, mu_ne (Or.inr (by decide))]
                have hq292_ : (mv284 77 12).toInt = (mv242 77 12).toInt := by rw [hq285_, mu_ne (Or.inr (by decide))]
                have hq293_ : (mv284 77 9).toInt = ((mv242 77 9).toInt + 1) := by rw [hq285_, mu_at]; exact (i_add rfl l_1 (by omega) (by omega))
                unfold f_X12_readsStep_246
                have hq294_ := r_77_35 gq286_
                refine T_eq rfl l_40 (fun hq295_ => ?_) (fun hq295_ => ?_)
                · refine T_qc (t_X12_wrongAt hn (6 : Int32) a1 mv284 gq286_ (i_rng (lo := 1) (hi := 6) l_6 (by omega) (by omega))) ?_
                  rintro rv296 mv297 ⟨hq298_, gq299_, kq300_⟩
                  have kq301_ := Sm.call kq287_ kq300_ rfl
                  have hq302_ := (fun h_ => KR_c (kq300_ 77 35 (by decide)) (kq300_ 77 36 (by decide)) (funext (fun s_ => kq300_ 101 s_ (outc rfl))) h_) hq288_
                  have hq303_ : (mv297 77 10).toInt = (mv284 77 10).toInt := by rw [kq300_ 77 10 (by decide)]
                  have hq304_ : (mv297 77 35).toInt = (mv284 77 35).toInt := by rw [kq300_ 77 35 (by decide)]
                  have hq305_ : (mv297 77 36).toInt = (mv284 77 36).toInt := by rw [kq300_ 77 36 (by decide)]
                  have hq306_ : (mv297 77 12).toInt = (mv284 77 12).toInt := by rw [kq300_ 77 12 (by decide)]
                  have hq307_ : (mv297 77 9).toInt = (mv284 77 9).toInt := by rw [kq300_ 77 9 (by decide)]
                  refine T_qb rfl (by omega) (by omega) ?_
                  exact T_ret ⟨(i_rng (lo := 0) (hi := 1) rfl (by omega) (by omega)), (by have e9 : (rv296).toInt = _ := rfl; omega), (Or.inl (by first | exact l_0 | omega)), gq299_, kq301_⟩
                · refine T_qg rfl (by omega) (by omega) ?_
                  refine T_mu gq286_ kq287_ (rn_98 _ _) (nw_98 _) (i := 3) rfl ⟨by decide, by decide, Or.inl rfl⟩ ?_
                  intro mv308 hq309_ gq310_ kq311_
                  have hq312_ := (fun h_ => KR_c (M := mv284) (M' := mv308) (by rw [hq309_, mu_ne (Or.inl (by decide))]) (by rw [hq309_, mu_ne (Or.inl (by decide))]) (by rw [hq309_, mu_nc (by decide)]) h_) hq288_
                  have hq313_ : (mv308 77 10).toInt = (mv284 77 10).toInt := by rw [hq309_, mu_ne (Or.inl (by decide))]
                  have hq314_ : (mv308 77 35).toInt = (mv284 77 35).toInt := by rw [hq309_, mu_ne (Or.inl (by decide))]
                  have hq315_ : (mv308 77 36).toInt = (mv284 77 36).toInt := by rw [hq309_, mu_ne (Or.inl (by decide))]
                  have hq316_ : (mv308 77 12).toInt = (mv284 77 12).toInt := by rw [hq309_, mu_ne (Or.inl (by decide))]
                  have hq317_ : (mv308 77 9).toInt = (mv284 77 9).toInt := by rw [hq309_, mu_ne (Or.inl (by decide))]
                  have hq318_ : (mv308 98 ((mv284 77 35).toNatClampNeg)).toInt = (mv284 77 12).toInt := by rw [hq309_, mu_at]
                  have hq319_ := r_77_35 gq310_
                  refine T_qg rfl (by omega) (by omega) ?_
                  refine T_mu gq310_ kq311_ (rn_99 _ _) (nw_99 _) (i := 3) rfl ⟨by decide, by decide, Or.inl rfl⟩ ?_
                  intro mv320 hq321_ gq322_ kq323_
                  have hq324_ := (fun h_ => KR_c (M := mv308) (M' := mv320) (by rw [hq321_, mu_ne (Or.inl (by decide))]) (by rw [hq321_, mu_ne (Or.inl (by decide))]) (by rw [hq321_, mu_nc (by decide)]) h_) hq312_
                  have hq325_ : (mv320 77 10).toInt = (mv308 77 10).toInt := by rw [hq321_, mu_ne (Or.inl (by decide))]
                  have hq326_ : (mv320 77 35).toInt = (mv308 77 35).toInt := by rw [hq321_, mu_ne (Or.inl (by decide))]
                  have hq327_ : (mv320 77 36).toInt = (mv308 77 36).toInt := by rw [hq321_, mu_ne (Or.inl (by decide))]
                  have hq328_ : (mv320 77 12).toInt = (mv308 77 12).toInt := by rw [hq321_, mu_ne (Or.inl (by decide))]
                  have hq329_ : (mv320 77 9).toInt = (mv308 77 9).toInt := by rw [hq321_, mu_ne (Or.inl (by decide))]
                  have hq330_ : (mv320 98 ((mv284 77 35).toNatClampNeg)).toInt = (mv308 98 ((mv284 77 35).toNatClampNeg)).toInt := by rw [hq321_, mu_ne (Or.inl (by decide))]
                  have hq331_ : (mv320 99 ((mv308 77 35).toNatClampNeg)).toInt = xv281.toInt := by rw [hq321_, mu_at]
                  have hq333_ := r_77_35 gq322_
                  refine T_mu gq322_ kq323_ (i_rng (lo := 0) (hi := 40) (i_add rfl l_1 (by omega) (by omega)) (by omega) (by omega)) nw_77_35 (i := 2) rfl ⟨by decide, by decide, Or.inr ⟨by decide, by decide⟩⟩ ?_
                  intro mv332 hq334_ gq335_ kq336_
                  have hq337_ : (mv332 77 10).toInt = (mv320 77 10).toInt := by rw [hq334_, mu_ne (Or.inr (by decide))]
                  have hq338_ : (mv332 77 36).toInt = (mv320 77 36).toInt := by rw [hq334_, mu_ne (Or.inr (by decide))]
                  have hq339_ : (mv332 77 12).toInt = (mv320 77 12).toInt := by rw [hq334_, mu_ne (Or.inr (by decide))]
                  have hq340_ : (mv332 77 9).toInt = (mv320 77 9).toInt := by rw [hq334_, mu_ne (Or.inr (by decide))]
                  have hq341_ : (mv332 98 ((mv284 77 35).toNatClampNeg)).toInt = (mv320 98 ((mv284 77 35).toNatClampNeg)).toInt := by rw [hq334_, mu_ne (Or.inl (by decide))]
                  have hq342_ : (mv332 99 ((mv308 77 35).toNatClampNeg)).toInt = (mv320 99 ((mv308 77 35).toNatClampNeg)).toInt := by rw [hq334_, mu_ne (Or.inl (by decide))]
                  have hq343_ : (mv332 77 35).toInt = ((mv320 77 35).toInt + 1) := by rw [hq334_, mu_at]; exact (i_add rfl l_1 (by omega) (by omega))
                  have hq344_ := r_77_9 gq335_
                  have hq345_ := r_77_10 gq335_
                  have hq346_ := r_77_35 gq335_
                  have hq347_ := r_77_36 gq335_
                  exact (t_X12_readsStep_296 hn) n  mv332 gq335_ kq336_ (by omega) (KR_up (M := mv320) hq324_ (by rw [hq334_, mu_ne (Or.inr (by decide))]) (by rw [hq334_, mu_nc (by decide)]) (by omega)) (by omega)
              · refine T_qc (t_X12_wrongAt hn (3 : Int32) (mv242 77 9) mv242 gq244_ (i_rng (lo := 1) (hi := 6) l_3 (by omega) (by omega))) ?_
                rintro rv348 mv349 ⟨hq350_, gq351_, kq352_⟩
                have kq353_ := Sm.call kq245_ kq352_ rfl
                have hq354_ := (fun h_ => KR_c (kq352_ 77 35 (by decide)) (kq352_ 77 36 (by decide)) (funext (fun s_ => kq352_ 101 s_ (outc rfl))) h_) hq246_
                have hq355_ : (mv349 77 10).toInt = (mv242 77 10).toInt := by rw [kq352_ 77 10 (by decide)]
                have hq356_ : (mv349 77 35).toInt = (mv242 77 35).toInt := by rw [kq352_ 77 35 (by decide)]
                have hq357_ : (mv349 77 36).toInt = (mv242 77 36).toInt := by rw [kq352_ 77 36 (by decide)]
                have hq358_ : (mv349 77 12).toInt = (mv242 77 12).toInt := by rw [kq352_ 77 12 (by decide)]
                have hq359_ : (mv349 77 9).toInt = (mv242 77 9).toInt := by rw [kq352_ 77 9 (by decide)]
                refine T_qb rfl (by omega) (by omega) ?_
                exact T_ret ⟨(i_rng (lo := 0) (hi := 1) rfl (by omega) (by omega)), (by have e9 : (rv348).toInt = _ := rfl; omega), (Or.inl (by first | exact l_0 | omega)), gq351_, kq353_⟩
          · unfold f_X12_readsStep_246
            refine T_eq rfl l_40 (fun hq360_ => ?_) (fun hq360_ => ?_)
            · refine T_qc (t_X12_wrongAt hn (6 : Int32) a1 M hG (i_rng (lo := 1) (hi := 6) l_6 (by omega) (by omega))) ?_
              rintro rv361 mv362 ⟨hq363_, gq364_, kq365_⟩
              have kq366_ := Sm.call hS kq365_ rfl
              have hq367_ := (fun h_ => KR_c (kq365_ 77 35 (by decide)) (kq365_ 77 36 (by decide)) (funext (fun s_ => kq365_ 101 s_ (outc rfl))) h_) wKR
              have hq368_ : (mv362 77 9).toInt = (M 77 9).toInt := by rw [kq365_ 77 9 (by decide)]
              have hq369_ : (mv362 77 10).toInt = (M 77 10).toInt := by rw [kq365_ 77 10 (by decide)]
              have hq370_ : (mv362 77 35).toInt = (M 77 35).toInt := by rw [kq365_ 77 35 (by decide)]
              have hq371_ : (mv362 77 36).toInt = (M 77 36).toInt := by rw [kq365_ 77 36 (by decide)]
              have hq372_ : (mv362 77 12).toInt = (M 77 12).toInt := by rw [kq365_ 77 12 (by decide)]
              refine T_qb rfl (by omega) (by omega) ?_
              exact T_ret ⟨(i_rng (lo := 0) (hi := 1) rfl (by omega) (by omega)), (by have e9 : (rv361).toInt = _ := rfl; omega), (Or.inl (by first | exact l_0 | omega)), gq364_, kq366_⟩
            · refine T_qg rfl (by omega) (by omega) ?_
              refine T_mu hG hS (rn_98 _ _) (nw_98 _) (i := 3) rfl ⟨by decide, by decide, Or.inl rfl⟩ ?_
              intro mv373 hq374_ gq375_ kq376_
              have hq377_ := (fun h_ => KR_c (M := M) (M' := mv373) (by rw [hq374_, mu_ne (Or.inl (by decide))]) (by rw [hq374_, mu_ne (Or.inl (by decide))]) (by rw [hq374_, mu_nc (by decide)]) h_) wKR
              have hq378_ : (mv373 77 9).toInt = (M 77 9).toInt := by rw [hq374_, mu_ne (Or.inl (by decide))]
              have hq379_ : (mv373 77 10).toInt = (M 77 10).toInt := by rw [hq374_, mu_ne (Or.inl (by decide))]
              have hq380_ : (mv373 77 35).toInt = (M 77 35).toInt := by rw [hq374_, mu_ne (Or.inl (by decide))]
              have hq381_ : (mv373 77 36).toInt = (M 77 36).toInt := by rw [hq374_, mu_ne (Or.inl (by decide))]
              have hq382_ : (mv373 77 12).toInt = (M 77 12).toInt := by rw [hq374_, mu_ne (Or.inl (by decide))]
              have hq383_ : (mv373 98 ((M 77 35).toNatClampNeg)).toInt = (M 77 12).toInt := by rw [hq374_, mu_at]
              have hq384_ := r_77_35 gq375_
              refine T_qg rfl (by omega) (by omega) ?_
              refine T_mu gq375_ kq376_ (rn_99 _ _) (nw_99 _) (i := 3) rfl ⟨by decide, by decide, Or.inl rfl⟩ ?_
              intro mv385 hq386_ gq387_ kq388_
              have hq389_ := (fun h_ => KR_c (M := mv373) (M' := mv385) (by rw [hq386_, mu_ne (Or.inl (by decide))]) (by rw [hq386_, mu_ne (Or.inl (by decide))]) (by rw [hq386_, mu_nc (by decide)]) h_) hq377_
              have hq390_ : (mv385 77 9).toInt = (mv373 77 9).toInt := by rw [hq386_, mu_ne (Or.inl (by decide))]
              have hq391_ : (mv385 77 10).toInt = (mv373 77 10).toInt := by rw [hq386_, mu_ne (Or.inl (by decide))]
              have hq392_ : (mv385 77 35).toInt = (mv373 77 35).toInt := by rw [hq386_, mu_ne (Or.inl (by decide))]
              have hq393_ : (mv385 77 36).toInt = (mv373 77 36).toInt := by rw [hq386_, mu_ne (Or.inl (by decide))]
              have hq394_ : (mv385 77 12).toInt = (mv373 77 12).toInt := by rw [hq386_, mu_ne (Or.inl (by decide))]
              have hq395_ : (mv385 98 ((M 77 35).toNatClampNeg)).toInt = (mv373 98 ((M 77 35).toNatClampNeg)).toInt := by rw [hq386_, mu_ne (Or.inl (by decide))]
              have hq396_ : (mv385 99 ((mv373 77 35).toNatClampNeg)).toInt = 8 := by rw [hq386_, mu_at]; exact l_8
              have hq398_ := r_77_35 gq387_
              refine T_mu gq387_ kq388_ (i_rng (lo := 0) (hi := 40) (i_add rfl l_1 (by omega) (by omega)) (by omega) (by omega)) nw_77_35 (i := 2) rfl ⟨by decide, by decide, Or.inr ⟨by decide, by decide⟩⟩ ?_
              intro mv397 hq399_ gq400_ kq401_
              have hq402_ : (mv397 77 9).toInt = (mv385 77 9).toInt := by rw [hq399_, mu_ne (Or.inr (by decide))]
              have hq403_ : (mv397 77 10).toInt = (mv385 77 10).toInt := by rw [hq399_, mu_ne (Or.inr (by decide))]
              have hq404_ : (mv397 77 36).toInt = (mv385 77 36).toInt := by rw [hq399_, mu_ne (Or.inr (by decide))]
              have hq405_ : (mv397 77 12).toInt = (mv385 77 12).toInt := by rw [hq399_, mu_ne (Or.inr (by decide))]
              have hq406_ : (mv397 98 ((M 77 35).toNatClampNeg)).toInt = (mv385 98 ((M 77 35).toNatClampNeg)).toInt := by rw [hq399_, mu_ne (Or.inl (by decide))]
              have hq407_ : (mv397 99 ((mv373 77 35).toNatClampNeg)).toInt = (mv385 99 ((mv373 77 35).toNatClampNeg)).toInt := by rw [hq399_, mu_ne (Or.inl (by decide))]
              have hq408_ : (mv397 77 35).toInt = ((mv385 77 35).toInt + 1) := by rw [hq399_, mu_at]; exact (i_add rfl l_1 (by omega) (by omega))
              have hq409_ := r_77_9 gq400_
              have hq410_ := r_77_10 gq400_
              have hq411_ := r_77_35 gq400_
              have hq412_ := r_77_36 gq400_
              exact (t_X12_readsStep_296 hn) n  mv397 gq400_ kq401_ (by omega) (KR_up (M := mv385) hq389_ (by rw [hq399_, mu_ne (Or.inr (by decide))]) (by rw [hq399_, mu_nc (by decide)]) (by omega)) (by omega)
        · refine T_qc (t_X12_wrongAt hn (3 : Int32) a1 M hG (i_rng (lo := 1) (hi := 6) l_3 (by omega) (by omega))) ?_
          rintro rv413 mv414 ⟨hq415_, gq416_, kq417_⟩
          have kq418_ := Sm.call hS kq417_ rfl
          have hq419_ := (fun h_ => KR_c (kq417_ 77 35 (by decide)) (kq417_ 77 36 (by decide)) (funext (fun s_ => kq417_ 101 s_ (outc rfl))) h_) wKR
          have hq420_ : (mv414 77 9).toInt = (M 77 9).toInt := by rw [kq417_ 77 9 (by decide)]
          have hq421_ : (mv414 77 10).toInt = (M 77 10).toInt := by rw [kq417_ 77 10 (by decide)]
          have hq422_ : (mv414 77 35).toInt = (M 77 35).toInt := by rw [kq417_ 77 35 (by decide)]
          have hq423_ : (mv414 77 36).toInt = (M 77 36).toInt := by rw [kq417_ 77 36 (by decide)]
          have hq424_ : (mv414 77 12).toInt = (M 77 12).toInt := by rw [kq417_ 77 12 (by decide)]
          refine T_qb rfl (by omega) (by omega) ?_
          exact T_ret ⟨(i_rng (lo := 0) (hi := 1) rfl (by omega) (by omega)), (by have e9 : (rv413).toInt = _ := rfl; omega), (Or.inl (by first | exact l_0 | omega)), gq416_, kq418_⟩
      · refine T_qc (t_X12_here hn  M hG ) ?_
        rintro rv425 mv426 ⟨hq427_, hq428_, gq429_, kq430_⟩
        have hq431_ := kq430_.nil
        subst hq431_
        have hq433_ := i_full (M 77 12)
        have hq434_ := i_full ((10 : Int32) * (M 77 12))
        have hq435_ := i_full (((10 : Int32) * (M 77 12)) + rv425)
        refine T_mu hG hS (rn_77_12 _) nw_77_12 (i := 1) rfl ⟨by decide, by decide, Or.inr ⟨by decide, by decide⟩⟩ ?_
        intro mv432 hq436_ gq437_ kq438_
        have hq439_ := (fun h_ => KR_c (M := M) (M' := mv432) (by rw [hq436_, mu_ne (Or.inr (by decide))]) (by rw [hq436_, mu_ne (Or.inr (by decide))]) (by rw [hq436_, mu_nc (by decide)]) h_) wKR
        have hq440_ : (mv432 77 9).toInt = (M 77 9).toInt := by rw [hq436_, mu_ne (Or.inr (by decide))]
        have hq441_ : (mv432 77 10).toInt = (M 77 10).toInt := by rw [hq436_, mu_ne (Or.inr (by decide))]
        have hq442_ : (mv432 77 35).toInt = (M 77 35).toInt := by rw [hq436_, mu_ne (Or.inr (by decide))]
        have hq443_ : (mv432 77 36).toInt = (M 77 36).toInt := by rw [hq436_, mu_ne (Or.inr (by decide))]
        have hq444_ : (mv432 77 12).toInt = ((((10 : Int32) * (M 77 12)) + rv425) - (48 : Int32)).toInt := by rw [hq436_, mu_at]
        have hq446_ := r_77_9 gq437_
        refine T_mu gq437_ kq438_ (i_rng (lo := 0) (hi := 240) (i_add rfl l_1 (by omega) (by omega)) (by omega) (by omega)) nw_77_9 (i := 0) rfl ⟨by decide, by decide, Or.inr ⟨by decide, by decide⟩⟩ ?_
        intro mv445 hq447_ gq448_ kq449_
        have hq450_ := (fun h_ => KR_c (M := mv432) (M' := mv445) (by rw [hq447_, mu_ne (Or.inr (by decide))]) (by rw [hq447_, mu_ne (Or.inr (by decide))]) (by rw [hq447_, mu_nc (by decide)]) h_) hq439_
        have hq451_ : (mv445 77 10).toInt = (mv432 77 10).toInt := by rw [hq447_, mu_ne (Or.inr (by decide))]
        have hq452_ : (mv445 77 35).toInt = (mv432 77 35).toInt := by rw [hq447_, mu_ne (Or.inr (by decide))]
        have hq453_ : (mv445 77 36).toInt = (mv432 77 36).toInt := by rw [hq447_, mu_ne (Or.inr (by decide))]
        have hq454_ : (mv445 77 12).toInt = (mv432 77 12).toInt := by rw [hq447_, mu_ne (Or.inr (by decide))]
        have hq455_ : (mv445 77 9).toInt = ((mv432 77 9).toInt + 1) := by rw [hq447_, mu_at]; exact (i_add rfl l_1 (by omega) (by omega))
        have hq456_ := r_77_9 gq448_
        have hq457_ := r_77_10 gq448_
        have hq458_ := r_77_35 gq448_
        have hq459_ := r_77_36 gq448_
        exact ih a1 mv445 gq448_ kq449_ (i_rng (lo := 0) (hi := 240) rfl (by omega) (by omega)) (by omega) hq450_ (by omega)
theorem t_X12_readsStep_5 {n : Nat} (hn : 200000 ≤ n) {M0 : qM} : ∀ (m : Nat) (a1 : Int32) (M : qM), G M → Sm l_X12_readsStep M0 M → 0 ≤ a1.toInt ∧ a1.toInt ≤ 240 → (M0 77 9).toInt ≤ (M 77 9).toInt → KR  M → 241 - (M 77 9).toInt < (m : Int) → qT (f_X12_readsStep_5 n m a1 M) (po_X12_readsStep  M0) := by
  intro m
  induction m with
  | zero =>
    intro a1 M hG hS i0 hE wKR i5
    have hq460_ := r_77_9 hG
    have hq461_ := r_77_10 hG
    have hq462_ := r_77_35 hG
    have hq463_ := r_77_36 hG
    exfalso; omega
  | succ m ih =>
    intro a1 M hG hS i0 hE wKR i5
    show qT (b_X12_readsStep_5 n (f_X12_readsStep_5 n m) a1 M) _
    unfold b_X12_readsStep_5
    have hq460_ := r_77_9 hG
    have hq461_ := r_77_10 hG
    have hq462_ := r_77_35 hG
    have hq463_ := r_77_36 hG
    refine T_qc (t_X12_here hn  M hG ) ?_
    rintro rv464 mv465 ⟨hq466_, hq467_, gq468_, kq469_⟩
    have hq470_ := kq469_.nil
    subst hq470_
    refine T_eq rfl l_40 (fun hq471_ => ?_) (fun hq471_ => ?_)
    · refine T_eq rfl l_3 (fun hq472_ => ?_) (fun hq472_ => ?_)
      · refine T_qc (t_X12_wrongAt hn (5 : Int32) (M 77 9) M hG (i_rng (lo := 1) (hi := 6) l_5 (by omega) (by omega))) ?_
        rintro rv473 mv474 ⟨hq475_, gq476_, kq477_⟩
        have kq478_ := Sm.call hS kq477_ rfl
        have hq479_ := (fun h_ => KR_c (kq477_ 77 35 (by decide)) (kq477_ 77 36 (by decide)) (funext (fun s_ => kq477_ 101 s_ (outc rfl))) h_) wKR
        have hq480_ : (mv474 77 9).toInt = (M 77 9).toInt := by rw [kq477_ 77 9 (by decide)]
        have hq481_ : (mv474 77 10).toInt = (M 77 10).toInt := by rw [kq477_ 77 10 (by decide)]
        have hq482_ : (mv474 77 35).toInt = (M 77 35).toInt := by rw [kq477_ 77 35 (by decide)]
        have hq483_ : (mv474 77 36).toInt = (M 77 36).toInt := by rw [kq477_ 77 36 (by decide)]
        refine T_qb rfl (by omega) (by omega) ?_
        exact T_ret ⟨(i_rng (lo := 0) (hi := 1) rfl (by omega) (by omega)), (by have e9 : (rv473).toInt = _ := rfl; omega), (Or.inl (by first | exact l_0 | omega)), gq476_, kq478_⟩
      · refine T_qg rfl (by omega) (by omega) ?_
        refine T_mu hG hS (rn_100 _ _) (nw_100 _) (i := 3) rfl ⟨by decide, by decide, Or.inl rfl⟩ ?_
        intro mv484 hq485_ gq486_ kq487_
        have hq488_ := (fun h_ => KR_c (M := M) (M' := mv484) (by rw [hq485_, mu_ne (Or.inl (by decide))]) (by rw [hq485_, mu_ne (Or.inl (by decide))]) (by rw [hq485_, mu_nc (by decide)]) h_) wKR
        have hq489_ : (mv484 77 9).toInt = (M 77 9).toInt := by rw [hq485_, mu_ne (Or.inl (by decide))]
        have hq490_ : (mv484 77 10).toInt = (M 77 10).toInt := by rw [hq485_, mu_ne (Or.inl (by decide))]
        have hq491_ : (mv484 77 35).toInt = (M 77 35).toInt := by rw [hq485_, mu_ne (Or.inl (by decide))]
        have hq492_ : (mv484 77 36).toInt = (M 77 36).toInt := by rw [hq485_, mu_ne (Or.inl (by decide))]
        have hq493_ : (mv484 100 ((M 77 36).toNatClampNeg)).toInt = (M 77 9).toInt := by rw [hq485_, mu_at]
        have hq494_ := r_77_36 gq486_
        refine T_qg rfl (by omega) (by omega) ?_
        have hq496_ := r_77_35 gq486_
        refine T_mu gq486_ kq487_ (i_rng (lo := 0) (hi := 40) rfl (by omega) (by omega)) (nw_101 _) (i := 3) rfl ⟨by decide, by decide, Or.inl rfl⟩ ?_
        intro mv495 hq497_ gq498_ kq499_
        have hq500_ : (mv495 77 9).toInt = (mv484 77 9).toInt := by rw [hq497_, mu_ne (Or.inl (by decide))]
        have hq501_ : (mv495 77 10).toInt = (mv484 77 10).toInt := by rw [hq497_, mu_ne (Or.inl (by decide))]
        have hq502_ : (mv495 77 35).toInt = (mv484 77 35).toInt := by rw [hq497_, mu_ne (Or.inl (by decide))]
        have hq503_ : (mv495 77 36).toInt = (mv484 77 36).toInt := by rw [hq497_, mu_ne (Or.inl (by decide))]
        have hq504_ : (mv495 100 ((M 77 36).toNatClampNeg)).toInt = (mv484 100 ((M 77 36).toNatClampNeg)).toInt := by rw [hq497_, mu_ne (Or.inl (by decide))]
        have hq505_ : (mv495 101 ((mv484 77 36).toNatClampNeg)).toInt = (mv484 77 35).toInt := by rw [hq497_, mu_at]
        have hq507_ := r_77_36 gq498_
        refine T_mu gq498_ kq499_ (i_rng (lo := 0) (hi := 3) (i_add rfl l_1 (by omega) (by omega)) (by omega) (by omega)) nw_77_36 (i := 2) rfl ⟨by decide, by decide, Or.inr ⟨by decide, by decide⟩⟩ ?_
        intro mv506 hq508_ gq509_ kq510_
        have hq511_ : (mv506 77 9).toInt = (mv495 77 9).toInt := by rw [hq508_, mu_ne (Or.inr (by decide))]
        have hq512_ : (mv506 77 10).toInt = (mv495 77 10).toInt := by rw [hq508_, mu_ne (Or.inr (by decide))]
        have hq513_ : (mv506 77 35).toInt = (mv495 77 35).toInt := by rw [hq508_, mu_ne (Or.inr (by decide))]
        have hq514_ : (mv506 100 ((M 77 36).toNatClampNeg)).toInt = (mv495 100 ((M 77 36).toNatClampNeg)).toInt := by rw [hq508_, mu_ne (Or.inl (by decide))]
        have hq515_ : (mv506 101 ((mv484 77 36).toNatClampNeg)).toInt = (mv495 101 ((mv484 77 36).toNatClampNeg)).toInt := by rw [hq508_, mu_ne (Or.inl (by decide))]
        have hq516_ : (mv506 77 36).toInt = ((mv495 77 36).toInt + 1) := by rw [hq508_, mu_at]; exact (i_add rfl l_1 (by omega) (by omega))
        have hq518_ := r_77_9 gq509_
        refine T_mu gq509_ kq510_ (i_rng (lo := 0) (hi := 240) (i_add rfl l_1 (by omega) (by omega)) (by omega) (by omega)) nw_77_9 (i := 0) rfl ⟨by decide, by decide, Or.inr ⟨by decide, by decide⟩⟩ ?_
        intro mv517 hq519_ gq520_ kq521_
        have hq522_ : (mv517 77 10).toInt = (mv506 77 10).toInt := by rw [hq519_, mu_ne (Or.inr (by decide))]
        have hq523_ : (mv517 77 35).toInt = (mv506 77 35).toInt := by rw [hq519_, mu_ne (Or.inr (by decide))]
        have hq524_ : (mv517 100 ((M 77 36).toNatClampNeg)).toInt = (mv506 100 ((M 77 36).toNatClampNeg)).toInt := by rw [hq519_, mu_ne (Or.inl (by decide))]
        have hq525_ : (mv517 101 ((mv484 77 36).toNatClampNeg)).toInt = (mv506 101 ((mv484 77 36).toNatClampNeg)).toInt := by rw [hq519_, mu_ne (Or.inl (by decide))]
        have hq526_ : (mv517 77 36).toInt = (mv506 77 36).toInt := by rw [hq519_, mu_ne (Or.inr (by decide))]
        have hq527_ : (mv517 77 9).toInt = ((mv506 77 9).toInt + 1) := by rw [hq519_, mu_at]; exact (i_add rfl l_1 (by omega) (by omega))
        have hq528_ := r_77_9 gq520_
        refine T_ql rfl ?_
        intro xv529 hq530_
        have hq531_ := r_77_10 gq520_
        have hq532_ := r_77_35 gq520_
        have hq533_ := r_77_36 gq520_
        exact ih xv529 mv517 gq520_ kq521_ (i_rng (lo := 0) (hi := 240) rfl (by omega) (by omega)) (by omega) (KR_push (M := mv484) (j := ((mv484 77 36).toNatClampNeg)) hq488_ (by omega) (by omega) (by rw [tnc]; omega) (fun s_ hs_ => by rw [hq519_, mu_ne (Or.inl (by decide))]; rw [hq508_, mu_ne (Or.inl (by decide))]; rw [hq497_, mu_ne (Or.inr hs_)]) (by rw [hq519_, mu_ne (Or.inl (by decide))]; rw [hq508_, mu_ne (Or.inl (by decide))]; rw [hq497_, mu_at]; all_goals omega)) (by omega)
    · refine T_qc (t_X12_isDigit hn  M hG ) ?_
      rintro rv534 mv535 ⟨hq536_, hq537_, gq538_, kq539_⟩
      have hq540_ := kq539_.nil
      subst hq540_
      refine T_eq rfl l_0 (fun hq541_ => ?_) (fun hq541_ => ?_)
      · refine T_qc (t_X12_wrongAt hn (1 : Int32) (M 77 9) M hG (i_rng (lo := 1) (hi := 6) l_1 (by omega) (by omega))) ?_
        rintro rv542 mv543 ⟨hq544_, gq545_, kq546_⟩
        have kq547_ := Sm.call hS kq546_ rfl
        have hq548_ := (fun h_ => KR_c (kq546_ 77 35 (by decide)) (kq546_ 77 36 (by decide)) (funext (fun s_ => kq546_ 101 s_ (outc rfl))) h_) wKR
        have hq549_ : (mv543 77 9).toInt = (M 77 9).toInt := by rw [kq546_ 77 9 (by decide)]
        have hq550_ : (mv543 77 10).toInt = (M 77 10).toInt := by rw [kq546_ 77 10 (by decide)]
        have hq551_ : (mv543 77 35).toInt = (M 77 35).toInt := by rw [kq546_ 77 35 (by decide)]
        have hq552_ : (mv543 77 36).toInt = (M 77 36).toInt := by rw [kq546_ 77 36 (by decide)]
        refine T_qb rfl (by omega) (by omega) ?_
        exact T_ret ⟨(i_rng (lo := 0) (hi := 1) rfl (by omega) (by omega)), (by have e9 : (rv542).toInt = _ := rfl; omega), (Or.inl (by first | exact l_0 | omega)), gq545_, kq547_⟩
      · refine T_mu hG hS (rn_77_12 _) nw_77_12 (i := 1) rfl ⟨by decide, by decide, Or.inr ⟨by decide, by decide⟩⟩ ?_
        intro mv553 hq554_ gq555_ kq556_
        have hq557_ := (fun h_ => KR_c (M := M) (M' := mv553) (by rw [hq554_, mu_ne (Or.inr (by decide))]) (by rw [hq554_, mu_ne (Or.inr (by decide))]) (by rw [hq554_, mu_nc (by decide)]) h_) wKR
        have hq558_ : (mv553 77 9).toInt = (M 77 9).toInt := by rw [hq554_, mu_ne (Or.inr (by decide))]
        have hq559_ : (mv553 77 10).toInt = (M 77 10).toInt := by rw [hq554_, mu_ne (Or.inr (by decide))]
        have hq560_ : (mv553 77 35).toInt = (M 77 35).toInt := by rw [hq554_, mu_ne (Or.inr (by decide))]
        have hq561_ : (mv553 77 36).toInt = (M 77 36).toInt := by rw [hq554_, mu_ne (Or.inr (by decide))]
        have hq562_ : (mv553 77 12).toInt = 0 := by rw [hq554_, mu_at]; exact l_0
        have hq563_ := r_77_9 gq555_
        have hq564_ := r_77_10 gq555_
        have hq565_ := r_77_35 gq555_
        have hq566_ := r_77_36 gq555_
        exact (t_X12_readsStep_108 hn) n a1 mv553 gq555_ kq556_ (i_rng (lo := 0) (hi := 240) rfl (by omega) (by omega)) (by omega) hq557_ (by omega)
theorem t_X12_readsStep {n : Nat} (hn : 200000 ≤ n) (M : qM) (hG : G M) (wKR : KR  M) : qT (f_X12_readsStep n  M) (po_X12_readsStep  M) := by
  have hS : Sm l_X12_readsStep M M := Sm.rf
  unfold f_X12_readsStep
  have hq567_ := r_77_9 hG
  refine T_ql rfl ?_
  intro xv568 hq569_
  have hq570_ := r_77_10 hG
  have hq571_ := r_77_35 hG
  have hq572_ := r_77_36 hG
  exact (t_X12_readsStep_5 hn) n xv568 M hG hS (i_rng (lo := 0) (hi := 240) rfl (by omega) (by omega)) (by omega) wKR (by omega)
