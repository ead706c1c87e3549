abbrev l_X12_game : List Bx := [(120, 121, 0, 0)]
abbrev po_X12_game (a1 a2 a3 a4 a5 a6 : Int32) (M : qM) (v : Int32) (M' : qM) : Prop := ((-2) ≤ v.toInt ∧ v.toInt ≤ 23) ∧ G M' ∧ Sm l_X12_game M M'
theorem t_X12_game_58 {n : Nat} (hn : 200000 ≤ n) {oa1 oa2 oa3 oa4 oa5 oa6 : Int32} {M0 : qM} : ∀ (m : Nat) (a4 a5 a6 a7 a8 : Int32) (M : qM), G M → Sm l_X12_game M0 M → 0 ≤ a4.toInt ∧ a4.toInt ≤ 1 → 0 ≤ a5.toInt ∧ a5.toInt ≤ 1 → 0 ≤ a6.toInt ∧ a6.toInt ≤ 1 → 0 ≤ a7.toInt ∧ a7.toInt ≤ 511 → 0 ≤ a8.toInt ∧ a8.toInt ≤ 512 → 512 - a8.toInt < (m : Int) → qT (f_X12_game_58 n m a4 a5 a6 a7 a8 M) (po_X12_game oa1 oa2 oa3 oa4 oa5 oa6 M0) := by
  intro m
  induction m with
  | zero =>
    intro a4 a5 a6 a7 a8 M hG hS i0 i1 i2 i3 i4 i7
    exfalso; omega
  | succ m ih =>
    intro a4 a5 a6 a7 a8 M hG hS i0 i1 i2 i3 i4 i7
    show qT (b_X12_game_58 n (f_X12_game_58 n m) a4 a5 a6 a7 a8 M) _
    unfold b_X12_game_58
    refine T_lt rfl rfl (fun hq17_ => ?_) (fun hq17_ => ?_)
    · refine T_qc (t_X12_winningMove hn a7 a4 a5 M hG (i_rng (lo := 0) (hi := 511) rfl (by omega) (by omega)) (i_rng (lo := 0) (hi := 1) rfl (by omega) (by omega)) (i_rng (lo := 0) (hi := 1) rfl (by omega) (by omega))) ?_
      rintro rv18 mv19 ⟨hq20_, gq21_, kq22_⟩
      have hq23_ := kq22_.nil
      subst hq23_
      refine T_eq rfl l_0 (fun hq24_ => ?_) (fun hq24_ => ?_)
      · refine T_eq rfl l_m1 (fun hq25_ => ?_) (fun hq25_ => ?_)
        · exact T_ret ⟨(i_rng (lo := (-2)) (hi := 23) l_0 (by omega) (by omega)), hG, hS⟩
        · exact T_ret ⟨(i_rng (lo := (-2)) (hi := 23) l_1 (by omega) (by omega)), hG, hS⟩
      · refine T_eq rfl l_m1 (fun hq26_ => ?_) (fun hq26_ => ?_)
        · exact T_ret ⟨(i_rng (lo := (-2)) (hi := 23) l_m2 (by omega) (by omega)), hG, hS⟩
        · exact T_ret ⟨(i_rng (lo := (-2)) (hi := 23) rfl (by omega) (by omega)), hG, hS⟩
    · refine T_qc (t_X12_gameState hn a8 (1 : Int32) (1 : Int32) M hG (i_rng (lo := 0) (hi := 511) rfl (by omega) (by omega)) (i_rng (lo := 0) (hi := 1) l_1 (by omega) (by omega)) (i_rng (lo := 0) (hi := 1) l_1 (by omega) (by omega))) ?_
      rintro rv27 mv28 ⟨hq29_, gq30_, kq31_⟩
      have hq32_ := kq31_.nil
      subst hq32_
      refine T_qc (t_X12_winningMove hn a8 (1 : Int32) (1 : Int32) M hG (i_rng (lo := 0) (hi := 511) rfl (by omega) (by omega)) (i_rng (lo := 0) (hi := 1) l_1 (by omega) (by omega)) (i_rng (lo := 0) (hi := 1) l_1 (by omega) (by omega))) ?_
      rintro rv33 mv34 ⟨hq35_, gq36_, kq37_⟩
      have hq38_ := kq37_.nil
      subst hq38_
      refine T_eq rfl l_m1 (fun hq39_ => ?_) (fun hq39_ => ?_)
      · unfold f_X12_game_93
        refine T_qg rfl (by omega) (by omega) ?_
        have hq41_ := i_bool (0 : Int32)
        refine T_mu hG hS (i_rng (lo := 0) (hi := 1) rfl (by omega) (by omega)) (nw_120 _) (i := 0) rfl ⟨by decide, by decide, Or.inl rfl⟩ ?_
        intro mv40 hq42_ gq43_ kq44_
        have hq45_ : (mv40 120 rv27.toNatClampNeg).toInt = (vp_nar .boolean (0 : Int32)).toInt := by rw [hq42_, mu_at]
        refine T_qc (t_X12_gameState hn a8 (0 : Int32) (1 : Int32) mv40 gq43_ (i_rng (lo := 0) (hi := 511) rfl (by omega) (by omega)) (i_rng (lo := 0) (hi := 1) l_0 (by omega) (by omega)) (i_rng (lo := 0) (hi := 1) l_1 (by omega) (by omega))) ?_
        rintro rv46 mv47 ⟨hq48_, gq49_, kq50_⟩
        have hq51_ := kq50_.nil
        subst hq51_
        refine T_qc (t_X12_winningMove hn a8 (0 : Int32) (1 : Int32) mv40 gq43_ (i_rng (lo := 0) (hi := 511) rfl (by omega) (by omega)) (i_rng (lo := 0) (hi := 1) l_0 (by omega) (by omega)) (i_rng (lo := 0) (hi := 1) l_1 (by omega) (by omega))) ?_
        rintro rv52 mv53 ⟨hq54_, gq55_, kq56_⟩
        have hq57_ := kq56_.nil
        subst hq57_
        refine T_eq rfl l_m1 (fun hq58_ => ?_) (fun hq58_ => ?_)
        · unfold f_X12_game_122
          refine T_qg rfl (by omega) (by omega) ?_
          have hq60_ := i_bool (0 : Int32)
          refine T_mu gq43_ kq44_ (i_rng (lo := 0) (hi := 1) rfl (by omega) (by omega)) (nw_120 _) (i := 0) rfl ⟨by decide, by decide, Or.inl rfl⟩ ?_
          intro mv59 hq61_ gq62_ kq63_
          have hq64_ : (mv59 120 rv46.toNatClampNeg).toInt = (vp_nar .boolean (0 : Int32)).toInt := by rw [hq61_, mu_at]
          refine T_qc (t_X12_gameState hn a8 (1 : Int32) (0 : Int32) mv59 gq62_ (i_rng (lo := 0) (hi := 511) rfl (by omega) (by omega)) (i_rng (lo := 0) (hi := 1) l_1 (by omega) (by omega)) (i_rng (lo := 0) (hi := 1) l_0 (by omega) (by omega))) ?_
          rintro rv65 mv66 ⟨hq67_, gq68_, kq69_⟩
          have hq70_ := kq69_.nil
          subst hq70_
          refine T_qc (t_X12_winningMove hn a8 (1 : Int32) (0 : Int32) mv59 gq62_ (i_rng (lo := 0) (hi := 511) rfl (by omega) (by omega)) (i_rng (lo := 0) (hi := 1) l_1 (by omega) (by omega)) (i_rng (lo := 0) (hi := 1) l_0 (by omega) (by omega))) ?_
          rintro rv71 mv72 ⟨hq73_, gq74_, kq75_⟩
          have hq76_ := kq75_.nil
          subst hq76_
          refine T_eq rfl l_m1 (fun hq77_ => ?_) (fun hq77_ => ?_)
          · unfold f_X12_game_151
            refine T_qg rfl (by omega) (by omega) ?_
            have hq79_ := i_bool (0 : Int32)
            refine T_mu gq62_ kq63_ (i_rng (lo := 0) (hi := 1) rfl (by omega) (by omega)) (nw_120 _) (i := 0) rfl ⟨by decide, by decide, Or.inl rfl⟩ ?_
            intro mv78 hq80_ gq81_ kq82_
            have hq83_ : (mv78 120 rv65.toNatClampNeg).toInt = (vp_nar .boolean (0 : Int32)).toInt := by rw [hq80_, mu_at]
            refine T_qc (t_X12_gameState hn a8 (0 : Int32) (0 : Int32) mv78 gq81_ (i_rng (lo := 0) (hi := 511) rfl (by omega) (by omega)) (i_rng (lo := 0) (hi := 1) l_0 (by omega) (by omega)) (i_rng (lo := 0) (hi := 1) l_0 (by omega) (by omega))) ?_
            rintro rv84 mv85 ⟨hq86_, gq87_, kq88_⟩
            have hq89_ := kq88_.nil
            subst hq89_
            refine T_qc (t_X12_winningMove hn a8 (0 : Int32) (0 : Int32) mv78 gq81_ (i_rng (lo := 0) (hi := 511) rfl (by omega) (by omega)) (i_rng (lo := 0) (hi := 1) l_0 (by omega) (by omega)) (i_rng (lo := 0) (hi := 1) l_0 (by omega) (by omega))) ?_
            rintro rv90 mv91 ⟨hq92_, gq93_, kq94_⟩
            have hq95_ := kq94_.nil
            subst hq95_
            refine T_eq rfl l_m1 (fun hq96_ => ?_) (fun hq96_ => ?_)
            · refine T_qg rfl (by omega) (by omega) ?_
              have hq98_ := i_bool (0 : Int32)
              refine T_mu gq81_ kq82_ (i_rng (lo := 0) (hi := 1) rfl (by omega) (by omega)) (nw_120 _) (i := 0) rfl ⟨by decide, by decide, Or.inl rfl⟩ ?_
              intro mv97 hq99_ gq100_ kq101_
              have hq102_ : (mv97 120 rv84.toNatClampNeg).toInt = (vp_nar .boolean (0 : Int32)).toInt := by rw [hq99_, mu_at]
              refine T_ql (i_add rfl l_1 (by omega) (by omega)) ?_
              intro xv103 hq104_
              exact ih a4 a5 a6 a7 xv103 mv97 gq100_ kq101_ (i_rng (lo := 0) (hi := 1) rfl (by omega) (by omega)) (i_rng (lo := 0) (hi := 1) rfl (by omega) (by omega)) (i_rng (lo := 0) (hi := 1) rfl (by omega) (by omega)) (i_rng (lo := 0) (hi := 511) rfl (by omega) (by omega)) (i_rng (lo := 0) (hi := 512) rfl (by omega) (by omega)) (by omega)
            · refine T_qg rfl (by omega) (by omega) ?_
              have hq106_ := i_bool (1 : Int32)
              refine T_mu gq81_ kq82_ (i_rng (lo := 0) (hi := 1) rfl (by omega) (by omega)) (nw_120 _) (i := 0) rfl ⟨by decide, by decide, Or.inl rfl⟩ ?_
              intro mv105 hq107_ gq108_ kq109_
              have hq110_ : (mv105 120 rv84.toNatClampNeg).toInt = (vp_nar .boolean (1 : Int32)).toInt := by rw [hq107_, mu_at]
              refine T_ql (i_add rfl l_1 (by omega) (by omega)) ?_
              intro xv111 hq112_
              exact ih a4 a5 a6 a7 xv111 mv105 gq108_ kq109_ (i_rng (lo := 0) (hi := 1) rfl (by omega) (by omega)) (i_rng (lo := 0) (hi := 1) rfl (by omega) (by omega)) (i_rng (lo := 0) (hi := 1) rfl (by omega) (by omega)) (i_rng (lo := 0) (hi := 511) rfl (by omega) (by omega)) (i_rng (lo := 0) (hi := 512) rfl (by omega) (by omega)) (by omega)
          · unfold f_X12_game_151
            refine T_qg rfl (by omega) (by omega) ?_
            have hq114_ := i_bool (1 : Int32)
            refine T_mu gq62_ kq63_ (i_rng (lo := 0) (hi := 1) rfl (by omega) (by omega)) (nw_120 _) (i := 0) rfl ⟨by decide, by decide, Or.inl rfl⟩ ?_
            intro mv113 hq115_ gq116_ kq117_
            have hq118_ : (mv113 120 rv65.toNatClampNeg).toInt = (vp_nar .boolean (1 : Int32)).toInt := by rw [hq115_, mu_at]
            refine T_qc (t_X12_gameState hn a8 (0 : Int32) (0 : Int32) mv113 gq116_ (i_rng (lo := 0) (hi := 511) rfl (by omega) (by omega)) (i_rng (lo := 0) (hi := 1) l_0 (by omega) (by omega)) (i_rng (lo := 0) (hi := 1) l_0 (by omega) (by omega))) ?_
            rintro rv119 mv120 ⟨hq121_, gq122_, kq123_⟩
            have hq124_ := kq123_.nil
            subst hq124_
            refine T_qc (t_X12_winningMove hn a8 (0 : Int32) (0 : Int32) mv113 gq116_ (i_rng (lo := 0) (hi := 511) rfl (by omega) (by omega)) (i_rng (lo := 0) (hi := 1) l_0 (by omega) (by omega)) (i_rng (lo := 0) (hi := 1) l_0 (by omega) (by omega))) ?_
            rintro rv125 mv126 ⟨hq127_, gq128_, kq129_⟩
            have hq130_ := kq129_.nil
            subst hq130_
            refine T_eq rfl l_m1 (fun hq131_ => ?_) (fun hq131_ => ?_)
            · refine T_qg rfl (by omega) (by omega) ?_
              have hq133_ := i_bool (0 : Int32)
              refine T_mu gq116_ kq117_ (i_rng (lo := 0) (hi := 1) rfl (by omega) (by omega)) (nw_120 _) (i := 0) rfl ⟨by decide, by decide, Or.inl rfl⟩ ?_
              intro mv132 hq134_ gq135_ kq136_
              have hq137_ : (mv132 120 rv119.toNatClampNeg).toInt = (vp_nar .boolean (0 : Int32)).toInt := by rw [hq134_, mu_at]
              refine T_ql (i_add rfl l_1 (by omega) (by omega)) ?_
              intro xv138 hq139_
              exact ih a4 a5 a6 a7 xv138 mv132 gq135_ kq136_ (i_rng (lo := 0) (hi := 1) rfl (by omega) (by omega)) (i_rng (lo := 0) (hi := 1) rfl (by omega) (by omega)) (i_rng (lo := 0) (hi := 1) rfl (by omega) (by omega)) (i_rng (lo := 0) (hi := 511) rfl (by omega) (by omega)) (i_rng (lo := 0) (hi := 512) rfl (by omega) (by omega)) (by omega)
            · refine T_qg rfl (by omega) (by omega) ?_
              have hq141_ := i_bool (1 : Int32)
              refine T_mu gq116_ kq117_ (i_rng (lo := 0) (hi := 1) rfl (by omega) (by omega)) (nw_120 _) (i := 0) rfl ⟨by decide, by decide, Or.inl rfl⟩ ?_
              intro mv140 hq142_ gq143_ kq144_
              have hq145_ : (mv140 120 rv119.toNatClampNeg).toInt = (vp_nar .boolean (1 : Int32)).toInt := by rw [hq142_, mu_at]
              refine T_ql (i_add rfl l_1 (by omega) (by omega)) ?_
              intro xv146 hq147_
              exact ih a4 a5 a6 a7 xv146 mv140 gq143_ kq144_ (i_rng (lo := 0) (hi := 1) rfl (by omega) (by omega)) (i_rng (lo := 0) (hi := 1) rfl (by omega) (by omega)) (i_rng (lo := 0) (hi := 1) rfl (by omega) (by omega)) (i_rng (lo := 0) (hi := 511) rfl (by omega) (by omega)) (i_rng (lo := 0) (hi := 512) rfl (by omega) (by omega)) (by omega)
        · unfold f_X12_game_122
          refine T_qg rfl (by omega) (by omega) ?_
          have hq149_ := i_bool (1 : Int32)
          refine T_mu gq43_ kq44_ (i_rng (lo := 0) (hi := 1) rfl (by omega) (by omega)) (nw_120 _) (i := 0) rfl ⟨by decide, by decide, Or.inl rfl⟩ ?_
          intro mv148 hq150_ gq151_ kq152_
          have hq153_ : (mv148 120 rv46.toNatClampNeg).toInt = (vp_nar .boolean (1 : Int32)).toInt := by rw [hq150_, mu_at]
          refine T_qc (t_X12_gameState hn a8 (1 : Int32) (0 : Int32) mv148 gq151_ (i_rng (lo := 0) (hi := 511) rfl (by omega) (by omega)) (i_rng (lo := 0) (hi := 1) l_1 (by omega) (by omega)) (i_rng (lo := 0) (hi := 1) l_0 (by omega) (by omega))) ?_
          rintro rv154 mv155 ⟨hq156_, gq157_, kq158_⟩
          have hq159_ := kq158_.nil
          subst hq159_
          refine T_qc (t_X12_winningMove hn a8 (1 : Int32) (0 : Int32) mv148 gq151_ (i_rng (lo := 0) (hi := 511) rfl (by omega) (by omega)) (i_rng (lo := 0) (hi := 1) l_1 (by omega) (by omega)) (i_rng (lo := 0) (hi := 1) l_0 (by omega) (by omega))) ?_
          rintro rv160 mv161 ⟨hq162_, gq163_, kq164_⟩
          have hq165_ := kq164_.nil
          subst hq165_
          refine T_eq rfl l_m1 (fun hq166_ => ?_) (fun hq166_ => ?_)
          · unfold f_X12_game_151
            refine T_qg rfl (by omega) (by omega) ?_
            have hq168_ := i_bool (0 : Int32)
            refine T_mu gq151_ kq152_ (i_rng (lo := 0) (hi := 1) rfl (by omega) (by omega)) (nw_120 _) (i := 0) rfl ⟨by decide, by decide, Or.inl rfl⟩ ?_
            intro mv167 hq169_ gq170_ kq171_
            have hq172_ : (mv167 120 rv154.toNatClampNeg).toInt = (vp_nar .boolean (0 : Int32)).toInt := by rw [hq169_, mu_at]
            refine T_qc (t_X12_gameState hn a8 (0 : Int32) (0 : Int32) mv167 gq170_ (i_rng (lo := 0) (hi := 511) rfl (by omega) (by omega)) (i_rng (lo := 0) (hi := 1) l_0 (by omega) (by omega)) (i_rng (lo := 0) (hi := 1) l_0 (by omega) (by omega))) ?_
            rintro rv173 mv174 ⟨hq175_, gq176_, kq177_⟩
            have hq178_ := kq177_.nil
            subst hq178_
            refine T_qc (t_X12_winningMove hn a8 (0 : Int32) (0 : Int32) mv167 gq170_ (i_rng (lo := 0) (hi := 511) rfl (by omega) (by omega)) (i_rng (lo := 0) (hi := 1) l_0 (by omega) (by omega)) (i_rng (lo := 0) (hi := 1) l_0 (by omega) (by omega))) ?_
            rintro rv179 mv180 ⟨hq181_, gq182_, kq183_⟩
            have hq184_ := kq183_.nil
            subst hq184_
            refine T_eq rfl l_m1 (fun hq185_ => ?_) (fun hq185_ => ?_)
            · refine T_qg rfl (by omega) (by omega) ?_
              have hq187_ := i_bool (0 : Int32)
              refine T_mu gq170_ kq171_ (i_rng (lo := 0) (hi := 1) rfl (by omega) (by omega)) (nw_120 _) (i := 0) rfl ⟨by decide, by decide, Or.inl rfl⟩ ?_
              intro mv186 hq188_ gq189_ kq190_
              have hq191_ : (mv186 120 rv173.toNatClampNeg).toInt = (vp_nar .boolean (0 : Int32)).toInt := by rw [hq188_, mu_at]
              refine T_ql (i_add rfl l_1 (by omega) (by omega)) ?_
              intro xv192 hq193_
              exact ih a4 a5 a6 a7 xv192 mv186 gq189_ kq190_ (i_rng (lo := 0) (hi := 1) rfl (by omega) (by omega)) (i_rng (lo := 0) (hi := 1) rfl (by omega) (by omega)) (i_rng (lo := 0) (hi := 1) rfl (by omega) (by omega)) (i_rng (lo := 0) (hi := 511) rfl (by omega) (by omega)) (i_rng (lo := 0) (hi := 512) rfl (by omega) (by omega)) (by omega)
            · refine T_qg rfl (by omega) (by omega) ?_
              have hq195_ := i_bool (1 : Int32)
              refine T_mu gq170_ kq171_ (i_rng (lo := 0) (hi := 1) rfl (by omega) (by omega)) (nw_120 _) (i := 0) rfl ⟨by decide, by decide, Or.inl rfl⟩ ?_
              intro mv194 hq196_ gq197_ kq198_
              have hq199_ : (mv194 120 rv173.toNatClampNeg).toInt = (vp_nar .boolean (1 : Int32)).toInt := by rw [hq196_, mu_at]
              refine T_ql (i_add rfl l_1 (by omega) (by omega)) ?_
              intro xv200 hq201_
              exact ih a4 a5 a6 a7 xv200 mv194 gq197_ kq198_ (i_rng (lo := 0) (hi := 1) rfl (by omega) (by omega)) (i_rng (lo := 0) (hi := 1) rfl (by omega) (by omega)) (i_rng (lo := 0) (hi := 1) rfl (by omega) (by omega)) (i_rng (lo := 0) (hi := 511) rfl (by omega) (by omega)) (i_rng (lo := 0) (hi := 512) rfl (by omega) (by omega)) (by omega)
          · unfold f_X12_game_151
            refine T_qg rfl (by omega) (by omega) ?_
            have hq203_ := i_bool (1 : Int32)
            refine T_mu gq151_ kq152_ (i_rng (lo := 0) (hi := 1) rfl (by omega) (by omega)) (nw_120 _) (i := 0) rfl ⟨by decide, by decide, Or.inl rfl⟩ ?_
            intro mv202 hq204_ gq205_ kq206_
            have hq207_ : (mv202 120 rv154.toNatClampNeg).toInt = (vp_nar .boolean (1 : Int32)).toInt := by rw [hq204_, mu_at]
            refine T_qc (t_X12_gameState hn a8 (0 : Int32) (0 : Int32) mv202 gq205_ (i_rng (lo := 0) (hi := 511) rfl (by omega) (by omega)) (i_rng (lo := 0) (hi := 1) l_0 (by omega) (by omega)) (i_rng (lo := 0) (hi := 1) l_0 (by omega) (by omega))) ?_
            rintro rv208 mv209 ⟨hq210_, gq211_, kq212_⟩
            have hq213_ := kq212_.nil
            subst hq213_
            refine T_qc (t_X12_winningMove hn a8 (0 : Int32) (0 : Int32) mv202 gq205_ (i_rng (lo := 0) (hi := 511) rfl (by omega) (by omega)) (i_rng (lo := 0) (hi := 1) l_0 (by omega) (by omega)) (i_rng (lo := 0) (hi := 1) l_0 (by omega) (by omega))) ?_
            rintro rv214 mv215 ⟨hq216_, gq217_, kq218_⟩
            have hq219_ := kq218_.nil
            subst hq219_
            refine T_eq rfl l_m1 (fun hq220_ => ?_) (fun hq220_ => ?_)
            · refine T_qg rfl (by omega) (by omega) ?_
              have hq222_ := i_bool (0 : Int32)
              refine T_mu gq205_ kq206_ (i_rng (lo := 0) (hi := 1) rfl (by omega) (by omega)) (nw_120 _) (i := 0) rfl ⟨by decide, by decide, Or.inl rfl⟩ ?_
              intro mv221 hq223_ gq224_ kq225_
              have hq226_ : (mv221 120 rv208.toNatClampNeg).toInt = (vp_nar .boolean (0 : Int32)).toInt := by rw [hq223_, mu_at]
              refine T_ql (i_add rfl l_1 (by omega) (by omega)) ?_
              intro xv227 hq228_
              exact ih a4 a5 a6 a7 xv227 mv221 gq224_ kq225_ (i_rng (lo := 0) (hi := 1) rfl (by omega) (by omega)) (i_rng (lo := 0) (hi := 1) rfl (by omega) (by omega)) (i_rng (lo := 0) (hi := 1) rfl (by omega) (by omega)) (i_rng (lo := 0) (hi := 511) rfl (by omega) (by omega)) (i_rng (lo := 0) (hi := 512) rfl (by omega) (by omega)) (by omega)
            · refine T_qg rfl (by omega) (by omega) ?_
              have hq230_ := i_bool (1 : Int32)
              refine T_mu gq205_ kq206_ (i_rng (lo := 0) (hi := 1) rfl (by omega) (by omega)) (nw_120 _) (i := 0) rfl ⟨by decide, by decide, Or.inl rfl⟩ ?_
              intro mv229 hq231_ gq232_ kq233_
              have hq234_ : (mv229 120 rv208.toNatClampNeg).toInt = (vp_nar .boolean (1 : Int32)).toInt := by rw [hq231_, mu_at]
              refine T_ql (i_add rfl l_1 (by omega) (by omega)) ?_
              intro xv235 hq236_
              exact ih a4 a5 a6 a7 xv235 mv229 gq232_ kq233_ (i_rng (lo := 0) (hi := 1) rfl (by omega) (by omega)) (i_rng (lo := 0) (hi := 1) rfl (by omega) (by omega)) (i_rng (lo := 0) (hi := 1) rfl (by omega) (by omega)) (i_rng (lo := 0) (hi := 511) rfl (by omega) (by omega)) (i_rng (lo := 0) (hi := 512) rfl (by omega) (by omega)) (by omega)
      · unfold f_X12_game_93
        refine T_qg rfl (by omega) (by omega) ?_
        have hq238_ := i_bool (1 : Int32)
        refine T_mu hG hS (i_rng (lo := 0) (hi := 1) rfl (by omega) (by omega)) (nw_120 _) (i := 0) rfl ⟨by decide, by decide, Or.inl rfl⟩ ?_
        intro mv237 hq239_ gq240_ kq241_
        have hq242_ : (mv237 120 rv27.toNatClampNeg).toInt = (vp_nar .boolean (1 : Int32)).toInt := by rw [hq239_, mu_at]
        refine T_qc (t_X12_gameState hn a8 (0 : Int32) (1 : Int32) mv237 gq240_ (i_rng (lo := 0) (hi := 511) rfl (by omega) (by omega)) (i_rng (lo := 0) (hi := 1) l_0 (by omega) (by omega)) (i_rng (lo := 0) (hi := 1) l_1 (by omega) (by omega))) ?_
        rintro rv243 mv244 ⟨hq245_, gq246_, kq247_⟩
        have hq248_ := kq247_.nil
        subst hq248_
        refine T_qc (t_X12_winningMove hn a8 (0 : Int32) (1 : Int32) mv237 gq240_ (i_rng (lo := 0) (hi := 511) rfl (by omega) (by omega)) (i_rng (lo := 0) (hi := 1) l_0 (by omega) (by omega)) (i_rng (lo := 0) (hi := 1) l_1 (by omega) (by omega))) ?_
        rintro rv249 mv250 ⟨hq251_, gq252_, kq253_⟩
        have hq254_ := kq253_.nil
        subst hq254_
        refine T_eq rfl l_m1 (fun hq255_ => ?_) (fun hq255_ => ?_)
        · unfold f_X12_game_122
          refine T_qg rfl (by omega) (by omega) ?_
          have hq257_ := i_bool (0 : Int32)
          refine T_mu gq240_ kq241_ (i_rng (lo := 0) (hi := 1) rfl (by omega) (by omega)) (nw_120 _) (i := 0) rfl ⟨by decide, by decide, Or.inl rfl⟩ ?_
          intro mv256 hq258_ gq259_ kq260_
          have hq261_ : (mv256 120 rv243.toNatClampNeg).toInt = (vp_nar .boolean (0 : Int32)).toInt := by rw [hq258_, mu_at]
          refine T_qc (t_X12_gameState hn a8 (1 : Int32) (0 : Int32) mv256 gq259_ (i_rng (lo := 0) (hi := 511) rfl (by omega) (by omega)) (i_rng (lo := 0) (hi := 1) l_1 (by omega) (by omega)) (i_rng (lo := 0) (hi := 1) l_0 (by omega) (by omega))) ?_
          rintro rv262 mv263 ⟨hq264_, gq265_, kq266_⟩
          have hq267_ := kq266_.nil
          subst hq267_
          refine T_qc (t_X12_winningMove hn a8 (1 : Int32) (0 : Int32) mv256 gq259_ (i_rng (lo := 0) (hi := 511) rfl (by omega) (by omega)) (i_rng (lo := 0) (hi := 1) l_1 (by omega) (by omega)) (i_rng (lo := 0) (hi := 1) l_0 (by omega) (by omega))) ?_
          rintro rv268 mv269 ⟨hq270_, gq271_, kq272_⟩
          have hq273_ := kq272_.nil
          subst hq273_
          refine T_eq rfl l_m1 (fun hq274_ => ?_) (fun hq274_ => ?_)
          · unfold f_X12_game_151
            refine T_qg rfl (by omega) (by omega) ?_
            have hq276_ := i_bool (0 : Int32)
            refine T_mu gq259_ kq260_ (i_rng (lo := 0) (hi := 1) rfl (by omega) (by omega)) (nw_120 _) (i := 0) rfl ⟨by decide, by decide, Or.inl rfl⟩ ?_
            intro mv275 hq277_ gq278_ kq279_
            have hq280_ : (mv275 120 rv262.toNatClampNeg).toInt = (vp_nar .boolean (0 : Int32)).toInt := by rw [hq277_, mu_at]
            refine T_qc (t_X12_gameState hn a8 (0 : Int32) (0 : Int32) mv275 gq278_ (i_rng (lo := 0) (hi := 511) rfl (by omega) (by omega)) (i_rng (lo := 0) (hi := 1) l_0 (by omega) (by omega)) (i_rng (lo := 0) (hi := 1) l_0 (by omega) (by omega))) ?_
            rintro rv281 mv282 ⟨hq283_, gq284_, kq285_⟩
            have hq286_ := kq285_.nil
            subst hq286_
            refine T_qc (t_X12_winningMove hn a8 (0 : Int32) (0 : Int32) mv275 gq278_ (i_rng (lo := 0) (hi := 511) rfl (by omega) (by omega)) (i_rng (lo := 0) (hi := 1) l_0 (by omega) (by omega)) (i_rng (lo := 0) (hi := 1) l_0 (by omega) (by omega))) ?_
            rintro rv287 mv288 ⟨hq289_, gq290_, kq291_⟩
            have hq292_ := kq291_.nil
            subst hq292_
            refine T_eq rfl l_m1 (fun hq293_ => ?_) (fun hq293_ => ?_)
            · refine T_qg rfl (by omega) (by omega) ?_
              have hq295_ := i_bool (0 : Int32)
              refine T_mu gq278_ kq279_ (i_rng (lo := 0) (hi := 1) rfl (by omega) (by omega)) (nw_120 _) (i := 0) rfl ⟨by decide, by decide, Or.inl rfl⟩ ?_
              intro mv294 hq296_ gq297_ kq298_
              have hq299_ : (mv294 120 rv281.toNatClampNeg).toInt = (vp_nar .boolean (0 : Int32)).toInt := by rw [hq296_, mu_at]
              refine T_ql (i_add rfl l_1 (by omega) (by omega)) ?_
              intro xv300 hq301_
              exact ih a4 a5 a6 a7 xv300 mv294 gq297_ kq298_ (i_rng (lo := 0) (hi := 1) rfl (by omega) (by omega)) (i_rng (lo := 0) (hi := 1) rfl (by omega) (by omega)) (i_rng (lo := 0) (hi := 1) rfl (by omega) (by omega)) (i_rng (lo := 0) (hi := 511) rfl (by omega) (by omega)) (i_rng (lo := 0) (hi := 512) rfl (by omega) (by omega)) (by omega)
            · refine T_qg rfl (by omega) (by omega) ?_
              have hq303_ := i_bool (1 : Int32)
              refine T_mu gq278_ kq279_ (i_rng (lo := 0) (hi := 1) rfl (by omega) (by omega)) (nw_120 _) (i := 0) rfl ⟨by decide, by decide, Or.inl rfl⟩ ?_
              intro mv302 hq304_ gq305_ kq306_
              have hq307_ : (mv302 120 rv281.toNatClampNeg).toInt = (vp_nar .boolean (1 : Int32)).toInt := by rw [hq304_, mu_at]
              refine T_ql (i_add rfl l_1 (by omega) (by omega)) ?_
              intro xv308 hq309_
              exact ih a4 a5 a6 a7 xv308 mv302 gq305_ kq306_ (i_rng (lo := 0) (hi := 1) rfl (by omega) (by omega)) (i_rng (lo := 0) (hi := 1) rfl (by omega) (by omega)) (i_rng (lo := 0) (hi := 1) rfl (by omega) (by omega)) (i_rng (lo := 0) (hi := 511) rfl (by omega) (by omega)) (i_rng (lo := 0) (hi := 512) rfl (by omega) (by omega)) (by omega)
          · unfold f_X12_game_151
            refine T_qg rfl (by omega) (by omega) ?_
            have hq311_ := i_bool (1 : Int32)
            refine T_mu gq259_ kq260_ (i_rng (lo := 0) (hi := 1) rfl (by omega) (by omega)) (nw_120 _) (i := 0) rfl ⟨by decide, by decide, Or.inl rfl⟩ ?_
            intro mv310 hq312_ gq313_ kq314_
            have hq315_ : (mv310 120 rv262.toNatClampNeg).toInt = (vp_nar .boolean (1 : Int32)).toInt := by rw [hq312_, mu_at]
            refine T_qc (t_X12_gameState hn a8 (0 : Int32) (0 : Int32) mv310 gq313_ (i_rng (lo := 0) (hi := 511) rfl (by omega) (by omega)) (i_rng (lo := 0) (hi := 1) l_0 (by omega) (by omega)) (i_rng (lo := 0) (hi := 1) l_0 (by omega) (by omega))) ?_
            rintro rv316 mv317 ⟨hq318_, gq319_, kq320_⟩
            have hq321_ := kq320_.nil
            subst hq321_
            refine T_qc (t_X12_winningMove hn a8 (0 : Int32) (0 : Int32) mv310 gq313_ (i_rng (lo := 0) (hi := 511) rfl (by omega) (by omega)) (i_rng (lo := 0) (hi := 1) l_0 (by omega) (by omega)) (i_rng (lo := 0) (hi := 1) l_0 (by omega) (by omega))) ?_
            rintro rv322 mv323 ⟨hq324_, gq325_, kq326_⟩
            have hq327_ := kq326_.nil
            subst hq327_
            refine T_eq rfl l_m1 (fun hq328_ => ?_) (fun hq328_ => ?_)
            · refine T_qg rfl (by omega) (by omega) ?_
              have hq330_ := i_bool (0 : Int32)
              refine T_mu gq313_ kq314_ (i_rng (lo := 0) (hi := 1) rfl (by omega) (by omega)) (nw_120 _) (i := 0) rfl ⟨by decide, by decide, Or.inl rfl⟩ ?_
              intro mv329 hq331_ gq332_ kq333_
              have hq334_ : (mv329 120 rv316.toNatClampNeg).toInt = (vp_nar .boolean (0 : Int32)).toInt := by rw [hq331_, mu_at]
              refine T_ql (i_add rfl l_1 (by omega) (by omega)) ?_
              intro xv335 hq336_
              exact ih a4 a5 a6 a7 xv335 mv329 gq332_ kq333_ (i_rng (lo := 0) (hi := 1) rfl (by omega) (by omega)) (i_rng (lo := 0) (hi := 1) rfl (by omega) (by omega)) (i_rng (lo := 0) (hi := 1) rfl (by omega) (by omega)) (i_rng (lo := 0) (hi := 511) rfl (by omega) (by omega)) (i_rng (lo := 0) (hi := 512) rfl (by omega) (by omega)) (by omega)
            · refine T_qg rfl (by omega) (by omega) ?_
              have hq338_ := i_bool (1 : Int32)
              refine T_mu gq313_ kq314_ (i_rng (lo := 0) (hi := 1) rfl (by omega) (by omega)) (nw_120 _) (i := 0) rfl ⟨by decide, by decide, Or.inl rfl⟩ ?_
              intro mv337 hq339_ gq340_ kq341_
              have hq342_ : (mv337 120 rv316.toNatClampNeg).toInt = (vp_nar .boolean (1 : Int32)).toInt := by rw [hq339_, mu_at]
              refine T_ql (i_add rfl l_1 (by omega) (by omega)) ?_
              intro xv343 hq344_
              exact ih a4 a5 a6 a7 xv343 mv337 gq340_ kq341_ (i_rng (lo := 0) (hi := 1) rfl (by omega) (by omega)) (i_rng (lo := 0) (hi := 1) rfl (by omega) (by omega)) (i_rng (lo := 0) (hi := 1) rfl (by omega) (by omega)) (i_rng (lo := 0) (hi := 511) rfl (by omega) (by omega)) (i_rng (lo := 0) (hi := 512) rfl (by omega) (by omega)) (by omega)
        · unfold f_X12_game_122
          refine T_qg rfl (by omega) (by omega) ?_
          have hq346_ := i_bool (1 : Int32)
          refine T_mu gq240_ kq241_ (i_rng (lo := 0) (hi := 1) rfl (by omega) (by omega)) (nw_120 _) (i := 0) rfl ⟨by decide, by decide, Or.inl rfl⟩ ?_
          intro mv345 hq347_ gq348_ kq349_
          have hq350_ : (mv345 120 rv243.toNatClampNeg).toInt = (vp_nar .boolean (1 : Int32)).toInt := by rw [hq347_, mu_at]
          refine T_qc (t_X12_gameState hn a8 (1 : Int32) (0 : Int32) mv345 gq348_ (i_rng (lo := 0) (hi := 511) rfl (by omega) (by omega)) (i_rng (lo := 0) (hi := 1) l_1 (by omega) (by omega)) (i_rng (lo := 0) (hi := 1) l_0 (by omega) (by omega))) ?_
          rintro rv351 mv352 ⟨hq353_, gq354_, kq355_⟩
          have hq356_ := kq355_.nil
          subst hq356_
          refine T_qc (t_X12_winningMove hn a8 (1 : Int32) (0 : Int32) mv345 gq348_ (i_rng (lo := 0) (hi := 511) rfl (by omega) (by omega)) (i_rng (lo := 0) (hi := 1) l_1 (by omega) (by omega)) (i_rng (lo := 0) (hi := 1) l_0 (by omega) (by omega))) ?_
          rintro rv357 mv358 ⟨hq359_, gq360_, kq361_⟩
          have hq362_ := kq361_.nil
          subst hq362_
          refine T_eq rfl l_m1 (fun hq363_ => ?_) (fun hq363_ => ?_)
          · unfold f_X12_game_151
            refine T_qg rfl (by omega) (by omega) ?_
            have hq365_ := i_bool (0 : Int32)
            refine T_mu gq348_ kq349_ (i_rng (lo := 0) (hi := 1) rfl (by omega) (by omega)) (nw_120 _) (i := 0) rfl ⟨by decide, by decide, Or.inl rfl⟩ ?_
            intro mv364 hq366_ gq367_ kq368_
            have hq369_ : (mv364 120 rv351.toNatClampNeg).toInt = (vp_nar .boolean (0 : Int32)).toInt := by rw [hq366_, mu_at]
            refine T_qc (t_X12_gameState hn a8 (0 : Int32) (0 : Int32) mv364 gq367_ (i_rng (lo := 0) (hi := 511) rfl (by omega) (by omega)) (i_rng (lo := 0) (hi := 1) l_0 (by omega) (by omega)) (i_rng (lo := 0) (hi := 1) l_0 (by omega) (by omega))) ?_
            rintro rv370 mv371 ⟨hq372_, gq373_, kq374_⟩
            have hq375_ := kq374_.nil
            subst hq375_
            refine T_qc (t_X12_winningMove hn a8 (0 : Int32) (0 : Int32) mv364 gq367_ (i_rng (lo := 0) (hi := 511) rfl (by omega) (by omega)) (i_rng (lo := 0) (hi := 1) l_0 (by omega) (by omega)) (i_rng (lo := 0) (hi := 1) l_0 (by omega) (by omega))) ?_
            rintro rv376 mv377 ⟨hq378_, gq379_, kq380_⟩
            have hq381_ := kq380_.nil
            subst hq381_
            refine T_eq rfl l_m1 (fun hq382_ => ?_) (fun hq382_ => ?_)
            · refine T_qg rfl (by omega) (by omega) ?_
              have hq384_ := i_bool (0 : Int32)
              refine T_mu gq367_ kq368_ (i_rng (lo := 0) (hi := 1) rfl (by omega) (by omega)) (nw_120 _) (i := 0) rfl ⟨by decide, by decide, Or.inl rfl⟩ ?_
              intro mv383 hq385_ gq386_ kq387_
              have hq388_ : (mv383 120 rv370.toNatClampNeg).toInt = (vp_nar .boolean (0 : Int32)).toInt := by rw [hq385_, mu_at]
              refine T_ql (i_add rfl l_1 (by omega) (by omega)) ?_
              intro xv389 hq390_
              exact ih a4 a5 a6 a7 xv389 mv383 gq386_ kq387_ (i_rng (lo := 0) (hi := 1) rfl (by omega) (by omega)) (i_rng (lo := 0) (hi := 1) rfl (by omega) (by omega)) (i_rng (lo := 0) (hi := 1) rfl (by omega) (by omega)) (i_rng (lo := 0) (hi := 511) rfl (by omega) (by omega)) (i_rng (lo := 0) (hi := 512) rfl (by omega) (by omega)) (by omega)
            · refine T_qg rfl (by omega) (by omega) ?_
              have hq392_ := i_bool (1 : Int32)
              refine T_mu gq367_ kq368_ (i_rng (lo := 0) (hi := 1) rfl (by omega) (by omega)) (nw_120 _) (i := 0) rfl ⟨by decide, by decide, Or.inl rfl⟩ ?_
              intro mv391 hq393_ gq394_ kq395_
              have hq396_ : (mv391 120 rv370.toNatClampNeg).toInt = (vp_nar .boolean (1 : Int32)).toInt := by rw [hq393_, mu_at]
              refine T_ql (i_add rfl l_1 (by omega) (by omega)) ?_
              intro xv397 hq398_
              exact ih a4 a5 a6 a7 xv397 mv391 gq394_ kq395_ (i_rng (lo := 0) (hi := 1) rfl (by omega) (by omega)) (i_rng (lo := 0) (hi := 1) rfl (by omega) (by omega)) (i_rng (lo := 0) (hi := 1) rfl (by omega) (by omega)) (i_rng (lo := 0) (hi := 511) rfl (by omega) (by omega)) (i_rng (lo := 0) (hi := 512) rfl (by omega) (by omega)) (by omega)
          · unfold f_X12_game_151
            refine T_qg rfl (by omega) (by omega) ?_
            have hq400_ := i_bool (1 : Int32)
            refine T_mu gq348_ kq349_ (i_rng (lo := 0) (hi := 1) rfl (by omega) (by omega)) (nw_120 _) (i := 0) rfl ⟨by decide, by decide, Or.inl rfl⟩ ?_
            intro mv399 hq401_ gq402_ kq403_
            have hq404_ : (mv399 120 rv351.toNatClampNeg).toInt = (vp_nar .boolean (1 : Int32)).toInt := by rw [hq401_, mu_at]
            refine T_qc (t_X12_gameState hn a8 (0 : Int32) (0 : Int32) mv399 gq402_ (i_rng (lo := 0) (hi := 511) rfl (by omega) (by omega)) (i_rng (lo := 0) (hi := 1) l_0 (by omega) (by omega)) (i_rng (lo := 0) (hi := 1) l_0 (by omega) (by omega))) ?_
            rintro rv405 mv406 ⟨hq407_, gq408_, kq409_⟩
            have hq410_ := kq409_.nil
            subst hq410_
            refine T_qc (t_X12_winningMove hn a8 (0 : Int32) (0 : Int32) mv399 gq402_ (i_rng (lo := 0) (hi := 511) rfl (by omega) (by omega)) (i_rng (lo := 0) (hi := 1) l_0 (by omega) (by omega)) (i_rng (lo := 0) (hi := 1) l_0 (by omega) (by omega))) ?_
            rintro rv411 mv412 ⟨hq413_, gq414_, kq415_⟩
            have hq416_ := kq415_.nil
            subst hq416_
            refine T_eq rfl l_m1 (fun hq417_ => ?_) (fun hq417_ => ?_)
            · refine T_qg rfl (by omega) (by omega) ?_
              have hq419_ := i_bool (0 : Int32)
              refine T_mu gq402_ kq403_ (i_rng (lo := 0) (hi := 1) rfl (by omega) (by omega)) (nw_120 _) (i := 0) rfl ⟨by decide, by decide, Or.inl rfl⟩ ?_
              intro mv418 hq420_ gq421_ kq422_
              have hq423_ : (mv418 120 rv405.toNatClampNeg).toInt = (vp_nar .boolean (0 : Int32)).toInt := by rw [hq420_, mu_at]
              refine T_ql (i_add rfl l_1 (by omega) (by omega)) ?_
              intro xv424 hq425_
              exact ih a4 a5 a6 a7 xv424 mv418 gq421_ kq422_ (i_rng (lo := 0) (hi := 1) rfl (by omega) (by omega)) (i_rng (lo := 0) (hi := 1) rfl (by omega) (by omega)) (i_rng (lo := 0) (hi := 1) rfl (by omega) (by omega)) (i_rng (lo := 0) (hi := 511) rfl (by omega) (by omega)) (i_rng (lo := 0) (hi := 512) rfl (by omega) (by omega)) (by omega)
            · refine T_qg rfl (by omega) (by omega) ?_
              have hq427_ := i_bool (1 : Int32)
              refine T_mu gq402_ kq403_ (i_rng (lo := 0) (hi := 1) rfl (by omega) (by omega)) (nw_120 _) (i := 0) rfl ⟨by decide, by decide, Or.inl rfl⟩ ?_
              intro mv426 hq428_ gq429_ kq430_
              have hq431_ : (mv426 120 rv405.toNatClampNeg).toInt = (vp_nar .boolean (1 : Int32)).toInt := by rw [hq428_, mu_at]
              refine T_ql (i_add rfl l_1 (by omega) (by omega)) ?_
              intro xv432 hq433_
              exact ih a4 a5 a6 a7 xv432 mv426 gq429_ kq430_ (i_rng (lo := 0) (hi := 1) rfl (by omega) (by omega)) (i_rng (lo := 0) (hi := 1) rfl (by omega) (by omega)) (i_rng (lo := 0) (hi := 1) rfl (by omega) (by omega)) (i_rng (lo := 0) (hi := 511) rfl (by omega) (by omega)) (i_rng (lo := 0) (hi := 512) rfl (by omega) (by omega)) (by omega)
theorem t_X12_game {n : Nat} (hn : 200000 ≤ n) (a1 a2 a3 a4 a5 a6 : Int32) (M : qM) (hG : G M) (pa4 : 0 ≤ a4.toInt ∧ a4.toInt ≤ 1) (pa5 : 0 ≤ a5.toInt ∧ a5.toInt ≤ 1) : qT (f_X12_game n a1 a2 a3 a4 a5 a6 M) (po_X12_game a1 a2 a3 a4 a5 a6 M) := by
  have hS : Sm l_X12_game M M := Sm.rf
  unfold f_X12_game
  have hq436_ := (show ((0 : Int32)).toInt = _ from l_0)
  have hq437_ := (show ((7 : Int32)).toInt = _ from l_7)
  refine T_qc (t_X12_in hn a1 (0 : Int32) (7 : Int32) M hG (i_rng (lo := 0) (hi := 70) l_0 (by omega) (by omega)) (i_rng (lo := 0) (hi := 99999) l_7 (by omega) (by omega))) ?_
  rintro rv434 mv435 ⟨hq438_, hq439_, gq440_, kq441_⟩
  have hq442_ := kq441_.nil
  subst hq442_
  refine T_eq rfl l_0 (fun hq443_ => ?_) (fun hq443_ => ?_)
  · exact T_ret ⟨(i_rng (lo := (-2)) (hi := 23) l_m1 (by omega) (by omega)), hG, hS⟩
  · refine T_qc (t_X12_in hn a2 (0 : Int32) (7 : Int32) M hG (i_rng (lo := 0) (hi := 70) l_0 (by omega) (by omega)) (i_rng (lo := 0) (hi := 99999) l_7 (by omega) (by omega))) ?_
    rintro rv444 mv445 ⟨hq446_, hq447_, gq448_, kq449_⟩
    have hq450_ := kq449_.nil
    subst hq450_
    refine T_eq rfl l_0 (fun hq451_ => ?_) (fun hq451_ => ?_)
    · exact T_ret ⟨(i_rng (lo := (-2)) (hi := 23) l_m1 (by omega) (by omega)), hG, hS⟩
    · refine T_qc (t_X12_in hn a3 (0 : Int32) (7 : Int32) M hG (i_rng (lo := 0) (hi := 70) l_0 (by omega) (by omega)) (i_rng (lo := 0) (hi := 99999) l_7 (by omega) (by omega))) ?_
      rintro rv452 mv453 ⟨hq454_, hq455_, gq456_, kq457_⟩
      have hq458_ := kq457_.nil
      subst hq458_
      refine T_eq rfl l_0 (fun hq459_ => ?_) (fun hq459_ => ?_)
      · exact T_ret ⟨(i_rng (lo := (-2)) (hi := 23) l_m1 (by omega) (by omega)), hG, hS⟩
      · have hq462_ := (show ((1 : Int32)).toInt = _ from l_1)
        refine T_qc (t_X12_in hn a6 (0 : Int32) (1 : Int32) M hG (i_rng (lo := 0) (hi := 70) l_0 (by omega) (by omega)) (i_rng (lo := 0) (hi := 99999) l_1 (by omega) (by omega))) ?_
        rintro rv460 mv461 ⟨hq463_, hq464_, gq465_, kq466_⟩
        have hq467_ := kq466_.nil
        subst hq467_
        refine T_eq rfl l_0 (fun hq468_ => ?_) (fun hq468_ => ?_)
        · exact T_ret ⟨(i_rng (lo := (-2)) (hi := 23) l_m1 (by omega) (by omega)), hG, hS⟩
        · refine T_ql (i_add (i_add (i_mul l_64 rfl (by omega) (by omega)) (i_mul l_8 rfl (by omega) (by omega)) (by omega) (by omega)) rfl (by omega) (by omega)) ?_
          intro xv469 hq470_
          exact (t_X12_game_58 hn) n a4 a5 a6 xv469 (0 : Int32) M hG hS (i_rng (lo := 0) (hi := 1) rfl (by omega) (by omega)) (i_rng (lo := 0) (hi := 1) rfl (by omega) (by omega)) (i_rng (lo := 0) (hi := 1) rfl (by omega) (by omega)) (i_rng (lo := 0) (hi := 511) rfl (by omega) (by omega)) (i_rng (lo := 0) (hi := 512) l_0 (by omega) (by omega)) (by have e4 : ((0 : Int32)).toInt = _ := l_0; omega)
