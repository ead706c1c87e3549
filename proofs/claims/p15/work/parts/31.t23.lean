abbrev l_X7_prepare_c7 : List Bx := [(34, 35, 4, 5), (35, 37, 0, 0), (56, 57, 10, 12), (57, 61, 0, 0), (62, 64, 0, 0)]
abbrev po_X7_prepare_c7 (a2 a3 a4 : Int32) (M : qM) (v : Int32) (M' : qM) : Prop := (0 ≤ v.toInt ∧ v.toInt ≤ 0) ∧ G M' ∧ Sm l_X7_prepare_c7 M M'
theorem t_X7_prepare_c7_85 {n : Nat} (hn : 200000 ≤ n) {j : Nat} (hj : q_isLaw j) {oa2 oa3 oa4 : Int32} {M0 : qM} : ∀ (m : Nat) (a2 a5 : Int32) (M : qM), G M → Sm l_X7_prepare_c7 M0 M → 0 ≤ a2.toInt ∧ a2.toInt ≤ 7 → 0 ≤ a5.toInt ∧ a5.toInt ≤ 4 → 4 - a5.toInt < (m : Int) → qT (f_X7_prepare_85 n 7 j m a2 a5 M) (po_X7_prepare_c7 oa2 oa3 oa4 M0) := by
  intro m
  induction m with
  | zero =>
    intro a2 a5 M hG hS i0 i1 i4
    exfalso; omega
  | succ m ih =>
    intro a2 a5 M hG hS i0 i1 i4
    show qT (b_X7_prepare_85 n 7 j (f_X7_prepare_85 n 7 j m) a2 a5 M) _
    unfold b_X7_prepare_85
    try simp only [Nat.reduceAdd]
    have hq2_ := r_56_10 hG
    refine T_le rfl rfl (fun hq3_ => ?_) (fun hq3_ => ?_)
    · refine T_qc (t_J7_fill_53178_c63_8192 hn (-1 : Int32) M hG (i_rng (lo := (-1)) (hi := (-1)) l_m1 (by omega) (by omega))) ?_
      rintro rv4 mv5 ⟨hq6_, gq7_, kq8_⟩
      have kq9_ := Sm.call hS kq8_ rfl
      have hq10_ : (mv5 56 10).toInt = (M 56 10).toInt := by rw [kq8_ 56 10 (by decide)]
      exact T_ret ⟨(i_rng (lo := 0) (hi := 0) l_0 (by omega) (by omega)), gq7_, kq9_⟩
    · refine T_qg rfl (by omega) (by omega) ?_
      have hq13_ := r_57 hG a5.toNatClampNeg
      refine T_qc (t_X1_alikes hn hj (M 57 a5.toNatClampNeg) (M 7 9) M hG (i_rng (lo := 0) (hi := 11) rfl (by omega) (by omega))) ?_
      rintro rv11 mv12 ⟨gq14_, kq15_⟩
      have kq16_ := Sm.call hS kq15_ rfl
      have hq17_ : (mv12 56 10).toInt = (M 56 10).toInt := by rw [kq15_ 56 10 (by decide)]
      refine T_qc (t_X10_triesAmong_c7 hn a2 rv11 mv12 gq14_ (i_rng (lo := 0) (hi := 7) rfl (by omega) (by omega))) ?_
      rintro rv18 mv19 ⟨gq20_, kq21_⟩
      have hq22_ := kq21_.nil
      subst hq22_
      refine T_qg rfl (by omega) (by omega) ?_
      refine T_mu gq14_ kq16_ (rn_58 _ _) (nw_58 _) (i := 3) rfl ⟨by decide, by decide, Or.inl rfl⟩ ?_
      intro mv23 hq24_ gq25_ kq26_
      have hq27_ : (mv23 56 10).toInt = (mv12 56 10).toInt := by rw [hq24_, mu_ne (Or.inl (by decide))]
      have hq28_ : (mv23 58 a5.toNatClampNeg).toInt = rv18.toInt := by rw [hq24_, mu_at]
      refine T_qc (t_X7_toPlaces hn rv11 mv23 gq25_ ) ?_
      rintro rv29 mv30 ⟨gq31_, kq32_⟩
      have hq33_ := kq32_.nil
      subst hq33_
      refine T_qg rfl (by omega) (by omega) ?_
      refine T_mu gq25_ kq26_ (rn_59 _ _) (nw_59 _) (i := 3) rfl ⟨by decide, by decide, Or.inl rfl⟩ ?_
      intro mv34 hq35_ gq36_ kq37_
      have hq38_ : (mv34 56 10).toInt = (mv23 56 10).toInt := by rw [hq35_, mu_ne (Or.inl (by decide))]
      have hq39_ : (mv34 58 a5.toNatClampNeg).toInt = (mv23 58 a5.toNatClampNeg).toInt := by rw [hq35_, mu_ne (Or.inl (by decide))]
      have hq40_ : (mv34 59 a5.toNatClampNeg).toInt = rv29.toInt := by rw [hq35_, mu_at]
      refine T_qg rfl (by omega) (by omega) ?_
      have hq41_ := r_57 gq36_ a5.toNatClampNeg
      refine T_qg rfl (by omega) (by omega) ?_
      refine T_qc (t_X7_lackedPlaces_c7 hn a2 (mv34 6 ((mv34 57 a5.toNatClampNeg).toNatClampNeg)) mv34 gq36_ (i_rng (lo := 0) (hi := 7) rfl (by omega) (by omega))) ?_
      rintro rv42 mv43 ⟨gq44_, kq45_⟩
      have hq46_ := kq45_.nil
      subst hq46_
      refine T_qg rfl (by omega) (by omega) ?_
      refine T_mu gq36_ kq37_ (rn_60 _ _) (nw_60 _) (i := 3) rfl ⟨by decide, by decide, Or.inl rfl⟩ ?_
      intro mv47 hq48_ gq49_ kq50_
      have hq51_ : (mv47 56 10).toInt = (mv34 56 10).toInt := by rw [hq48_, mu_ne (Or.inl (by decide))]
      have hq52_ : (mv47 58 a5.toNatClampNeg).toInt = (mv34 58 a5.toNatClampNeg).toInt := by rw [hq48_, mu_ne (Or.inl (by decide))]
      have hq53_ : (mv47 59 a5.toNatClampNeg).toInt = (mv34 59 a5.toNatClampNeg).toInt := by rw [hq48_, mu_ne (Or.inl (by decide))]
      have hq54_ : (mv47 57 a5.toNatClampNeg).toInt = (mv34 57 a5.toNatClampNeg).toInt := by rw [hq48_, mu_ne (Or.inl (by decide))]
      have hq55_ : (mv47 60 a5.toNatClampNeg).toInt = rv42.toInt := by rw [hq48_, mu_at]
      refine T_qc (t_X7_askVoids_c7 hn hj a2 a5 mv47 gq49_ (i_rng (lo := 0) (hi := 7) rfl (by omega) (by omega)) (i_rng (lo := 0) (hi := 3) rfl (by omega) (by omega))) ?_
      rintro rv56 mv57 ⟨hq58_, gq59_, kq60_⟩
      have kq61_ := Sm.call kq50_ kq60_ rfl
      have hq62_ : (mv57 56 10).toInt = (mv47 56 10).toInt := by rw [kq60_ 56 10 (by decide)]
      have hq63_ : (mv57 58 a5.toNatClampNeg).toInt = (mv47 58 a5.toNatClampNeg).toInt := by rw [kq60_ 58 _ (outc rfl)]
      have hq64_ : (mv57 59 a5.toNatClampNeg).toInt = (mv47 59 a5.toNatClampNeg).toInt := by rw [kq60_ 59 _ (outc rfl)]
      have hq65_ : (mv57 57 a5.toNatClampNeg).toInt = (mv47 57 a5.toNatClampNeg).toInt := by rw [kq60_ 57 _ (outc rfl)]
      have hq66_ : (mv57 60 a5.toNatClampNeg).toInt = (mv47 60 a5.toNatClampNeg).toInt := by rw [kq60_ 60 _ (outc rfl)]
      refine T_ql (i_add rfl l_1 (by omega) (by omega)) ?_
      intro xv67 hq68_
      exact ih a2 xv67 mv57 gq59_ kq61_ (i_rng (lo := 0) (hi := 7) rfl (by omega) (by omega)) (i_rng (lo := 0) (hi := 4) rfl (by omega) (by omega)) (by omega)
theorem t_X7_prepare_c7_8 {n : Nat} (hn : 200000 ≤ n) {j : Nat} (hj : q_isLaw j) {oa2 oa3 oa4 : Int32} {M0 : qM} : ∀ (m : Nat) (a2 a3 a4 a5 : Int32) (M : qM), G M → Sm l_X7_prepare_c7 M0 M → 0 ≤ a2.toInt ∧ a2.toInt ≤ 7 → 0 ≤ a4.toInt ∧ a4.toInt ≤ 11 → 0 ≤ a5.toInt ∧ a5.toInt ≤ 12 → 12 - a5.toInt < (m : Int) → qT (f_X7_prepare_8 n 7 j m a2 a3 a4 a5 M) (po_X7_prepare_c7 oa2 oa3 oa4 M0) := by
  intro m
  induction m with
  | zero =>
    intro a2 a3 a4 a5 M hG hS i0 i1 i2 i5
    exfalso; omega
  | succ m ih =>
    intro a2 a3 a4 a5 M hG hS i0 i1 i2 i5
    show qT (b_X7_prepare_8 n 7 j (f_X7_prepare_8 n 7 j m) a2 a3 a4 a5 M) _
    unfold b_X7_prepare_8
    try simp only [Nat.reduceAdd]
    refine T_le l_12 rfl (fun hq72_ => ?_) (fun hq72_ => ?_)
    · exact (t_X7_prepare_c7_85 hn hj) n a2 (0 : Int32) M hG hS (i_rng (lo := 0) (hi := 7) rfl (by omega) (by omega)) (i_rng (lo := 0) (hi := 4) l_0 (by omega) (by omega)) (by have e1 : ((0 : Int32)).toInt = _ := l_0; omega)
    · have hq73_ := r_56_10 hG
      refine T_le l_4 rfl (fun hq74_ => ?_) (fun hq74_ => ?_)
      · exact (t_X7_prepare_c7_85 hn hj) n a2 (0 : Int32) M hG hS (i_rng (lo := 0) (hi := 7) rfl (by omega) (by omega)) (i_rng (lo := 0) (hi := 4) l_0 (by omega) (by omega)) (by have e1 : ((0 : Int32)).toInt = _ := l_0; omega)
      · have hq75_ := i_and (a := a3 >>> (a5 &&& 31)) (b := (1 : Int32)) l_1 (by omega)
        refine T_eq rfl l_1 (fun hq76_ => ?_) (fun hq76_ => ?_)
        · refine T_eq rfl rfl (fun hq77_ => ?_) (fun hq77_ => ?_)
          · unfold f_X7_prepare_52
            try simp only [Nat.reduceAdd]
            refine T_mu hG hS (rn_56_11 _) (nw_56 _) (i := 2) rfl ⟨by decide, by decide, Or.inr ⟨by decide, by decide⟩⟩ ?_
            intro mv78 hq79_ gq80_ kq81_
            have hq82_ : (mv78 56 10).toInt = (M 56 10).toInt := by rw [hq79_, mu_ne (Or.inr (by decide))]
            have hq83_ : (mv78 56 11).toInt = (M 56 10).toInt := by rw [hq79_, mu_at]
            have hq84_ := r_56_10 gq80_
            refine T_qg rfl (by omega) (by omega) ?_
            refine T_mu gq80_ kq81_ (i_rng (lo := 0) (hi := 11) rfl (by omega) (by omega)) (nw_57 _) (i := 3) rfl ⟨by decide, by decide, Or.inl rfl⟩ ?_
            intro mv85 hq86_ gq87_ kq88_
            have hq89_ : (mv85 56 10).toInt = (mv78 56 10).toInt := by rw [hq86_, mu_ne (Or.inl (by decide))]
            have hq90_ : (mv85 56 11).toInt = (mv78 56 11).toInt := by rw [hq86_, mu_ne (Or.inl (by decide))]
            have hq91_ : (mv85 57 ((mv78 56 10).toNatClampNeg)).toInt = a5.toInt := by rw [hq86_, mu_at]
            have hq93_ := r_56_10 gq87_
            refine T_mu gq87_ kq88_ (i_rng (lo := 0) (hi := 4) (i_add rfl l_1 (by omega) (by omega)) (by omega) (by omega)) (nw_56 _) (i := 2) rfl ⟨by decide, by decide, Or.inr ⟨by decide, by decide⟩⟩ ?_
            intro mv92 hq94_ gq95_ kq96_
            have hq97_ : (mv92 56 11).toInt = (mv85 56 11).toInt := by rw [hq94_, mu_ne (Or.inr (by decide))]
            have hq98_ : (mv92 57 ((mv78 56 10).toNatClampNeg)).toInt = (mv85 57 ((mv78 56 10).toNatClampNeg)).toInt := by rw [hq94_, mu_ne (Or.inl (by decide))]
            have hq99_ : (mv92 56 10).toInt = ((mv85 56 10).toInt + 1) := by rw [hq94_, mu_at]; exact (i_add rfl l_1 (by omega) (by omega))
            refine T_ql (i_add rfl l_1 (by omega) (by omega)) ?_
            intro xv100 hq101_
            exact ih a2 a3 a4 xv100 mv92 gq95_ kq96_ (i_rng (lo := 0) (hi := 7) rfl (by omega) (by omega)) (i_rng (lo := 0) (hi := 11) rfl (by omega) (by omega)) (i_rng (lo := 0) (hi := 12) rfl (by omega) (by omega)) (by omega)
          · unfold f_X7_prepare_52
            try simp only [Nat.reduceAdd]
            refine T_mu hG hS (rn_56_11 _) (nw_56 _) (i := 2) rfl ⟨by decide, by decide, Or.inr ⟨by decide, by decide⟩⟩ ?_
            intro mv102 hq103_ gq104_ kq105_
            have hq106_ : (mv102 56 10).toInt = (M 56 10).toInt := by rw [hq103_, mu_ne (Or.inr (by decide))]
            have hq107_ : (mv102 56 11).toInt = (M 56 11).toInt := by rw [hq103_, mu_at]
            have hq108_ := r_56_10 gq104_
            refine T_qg rfl (by omega) (by omega) ?_
            refine T_mu gq104_ kq105_ (i_rng (lo := 0) (hi := 11) rfl (by omega) (by omega)) (nw_57 _) (i := 3) rfl ⟨by decide, by decide, Or.inl rfl⟩ ?_
            intro mv109 hq110_ gq111_ kq112_
            have hq113_ : (mv109 56 10).toInt = (mv102 56 10).toInt := by rw [hq110_, mu_ne (Or.inl (by decide))]
            have hq114_ : (mv109 56 11).toInt = (mv102 56 11).toInt := by rw [hq110_, mu_ne (Or.inl (by decide))]
            have hq115_ : (mv109 57 ((mv102 56 10).toNatClampNeg)).toInt = a5.toInt := by rw [hq110_, mu_at]
            have hq117_ := r_56_10 gq111_
            refine T_mu gq111_ kq112_ (i_rng (lo := 0) (hi := 4) (i_add rfl l_1 (by omega) (by omega)) (by omega) (by omega)) (nw_56 _) (i := 2) rfl ⟨by decide, by decide, Or.inr ⟨by decide, by decide⟩⟩ ?_
            intro mv116 hq118_ gq119_ kq120_
            have hq121_ : (mv116 56 11).toInt = (mv109 56 11).toInt := by rw [hq118_, mu_ne (Or.inr (by decide))]
            have hq122_ : (mv116 57 ((mv102 56 10).toNatClampNeg)).toInt = (mv109 57 ((mv102 56 10).toNatClampNeg)).toInt := by rw [hq118_, mu_ne (Or.inl (by decide))]
            have hq123_ : (mv116 56 10).toInt = ((mv109 56 10).toInt + 1) := by rw [hq118_, mu_at]; exact (i_add rfl l_1 (by omega) (by omega))
            refine T_ql (i_add rfl l_1 (by omega) (by omega)) ?_
            intro xv124 hq125_
            exact ih a2 a3 a4 xv124 mv116 gq119_ kq120_ (i_rng (lo := 0) (hi := 7) rfl (by omega) (by omega)) (i_rng (lo := 0) (hi := 11) rfl (by omega) (by omega)) (i_rng (lo := 0) (hi := 12) rfl (by omega) (by omega)) (by omega)
        · refine T_ql (i_add rfl l_1 (by omega) (by omega)) ?_
          intro xv126 hq127_
          exact ih a2 a3 a4 xv126 M hG hS (i_rng (lo := 0) (hi := 7) rfl (by omega) (by omega)) (i_rng (lo := 0) (hi := 11) rfl (by omega) (by omega)) (i_rng (lo := 0) (hi := 12) rfl (by omega) (by omega)) (by omega)
theorem t_X7_prepare_c7 {n : Nat} (hn : 200000 ≤ n) {j : Nat} (hj : q_isLaw j) (a2 a3 a4 : Int32) (M : qM) (hG : G M) (pa2 : 0 ≤ a2.toInt ∧ a2.toInt ≤ 7) (pa4 : 0 ≤ a4.toInt ∧ a4.toInt ≤ 11) : qT (f_X7_prepare n 7 j a2 a3 a4 M) (po_X7_prepare_c7 a2 a3 a4 M) := by
  have hS : Sm l_X7_prepare_c7 M M := Sm.rf
  unfold f_X7_prepare
  try simp only [Nat.reduceAdd]
  refine T_mu hG hS (i_rng (lo := 0) (hi := 4) l_0 (by omega) (by omega)) (nw_56 _) (i := 2) rfl ⟨by decide, by decide, Or.inr ⟨by decide, by decide⟩⟩ ?_
  intro mv128 hq129_ gq130_ kq131_
  have hq132_ : (mv128 56 10).toInt = 0 := by rw [hq129_, mu_at]; exact l_0
  exact (t_X7_prepare_c7_8 hn hj) n a2 a3 a4 (0 : Int32) mv128 gq130_ kq131_ (i_rng (lo := 0) (hi := 7) rfl (by omega) (by omega)) (i_rng (lo := 0) (hi := 11) rfl (by omega) (by omega)) (i_rng (lo := 0) (hi := 12) l_0 (by omega) (by omega)) (by have e3 : ((0 : Int32)).toInt = _ := l_0; omega)
abbrev l_X7_extraAt : List Bx := []
abbrev po_X7_extraAt (a0 a1 : Int32) (M : qM) (v : Int32) (M' : qM) : Prop := (0 ≤ v.toInt ∧ v.toInt ≤ 3) ∧ G M' ∧ Sm l_X7_extraAt M M'
theorem t_X7_extraAt {n : Nat} (hn : 200000 ≤ n) (a0 a1 : Int32) (M : qM) (hG : G M) (pa1 : 0 ≤ a1.toInt ∧ a1.toInt ≤ 3) : qT (f_X7_extraAt n a0 a1 M) (po_X7_extraAt a0 a1 M) := by
  have hS : Sm l_X7_extraAt M M := Sm.rf
  unfold f_X7_extraAt
  have hq1_ := i_and (a := a0 >>> (((2 : Int32) * a1) &&& 31)) (b := (3 : Int32)) l_3 (by omega)
  exact T_ret ⟨(i_rng (lo := 0) (hi := 3) rfl (by omega) (by omega)), hG, hS⟩
abbrev l_X7_wouldCount : List Bx := []
abbrev po_X7_wouldCount (a1 a2 : Int32) (M : qM) (v : Int32) (M' : qM) : Prop := (0 ≤ v.toInt ∧ v.toInt ≤ 1) ∧ G M' ∧ Sm l_X7_wouldCount M M'
theorem t_X7_wouldCount_38 {n : Nat} (hn : 200000 ≤ n) {oa1 oa2 : Int32} {M0 : qM} : ∀ (m : Nat) (a1 a2 a3 a4 : Int32) (M : qM), G M → Sm l_X7_wouldCount M0 M → 0 ≤ a2.toInt ∧ a2.toInt ≤ 3 → 0 ≤ a4.toInt ∧ a4.toInt ≤ 4 → 4 - a4.toInt < (m : Int) → qT (f_X7_wouldCount_38 n m a1 a2 a3 a4 M) (po_X7_wouldCount oa1 oa2 M0) := by
  intro m
  induction m with
  | zero =>
    intro a1 a2 a3 a4 M hG hS i0 i1 i4
    exfalso; omega
  | succ m ih =>
    intro a1 a2 a3 a4 M hG hS i0 i1 i4
    show qT (b_X7_wouldCount_38 n (f_X7_wouldCount_38 n m) a1 a2 a3 a4 M) _
    unfold b_X7_wouldCount_38
    have hq5_ := r_56_10 hG
    refine T_le rfl rfl (fun hq6_ => ?_) (fun hq6_ => ?_)
    · refine T_qc (t_X7_extraAt hn a1 a2 M hG (i_rng (lo := 0) (hi := 3) rfl (by omega) (by omega))) ?_
      rintro rv7 mv8 ⟨hq9_, gq10_, kq11_⟩
      have hq12_ := kq11_.nil
      subst hq12_
      refine T_qg (i_add (i_mul rfl l_4 (by omega) (by omega)) rfl (by omega) (by omega)) (by omega) (by omega) ?_
      refine T_lt rfl rfl (fun hq13_ => ?_) (fun hq13_ => ?_)
      · exact T_ret ⟨(i_rng (lo := 0) (hi := 1) l_0 (by omega) (by omega)), hG, hS⟩
      · exact T_ret ⟨(i_rng (lo := 0) (hi := 1) l_1 (by omega) (by omega)), hG, hS⟩
    · refine T_qg rfl (by omega) (by omega) ?_
      have hq14_ := i_and (a := (M 59 a2.toNatClampNeg) >>> (a4 &&& 31)) (b := (1 : Int32)) l_1 (by omega)
      refine T_eq rfl l_1 (fun hq15_ => ?_) (fun hq15_ => ?_)
      · refine T_qc (t_X7_extraAt hn a1 a4 M hG (i_rng (lo := 0) (hi := 3) rfl (by omega) (by omega))) ?_
        rintro rv16 mv17 ⟨hq18_, gq19_, kq20_⟩
        have hq21_ := kq20_.nil
        subst hq21_
        unfold f_X7_wouldCount_73
        have hq22_ := i_full (a3)
        refine T_ql rfl ?_
        intro xv23 hq24_
        refine T_ql (i_add rfl l_1 (by omega) (by omega)) ?_
        intro xv25 hq26_
        exact ih a1 a2 xv23 xv25 M hG hS (i_rng (lo := 0) (hi := 3) rfl (by omega) (by omega)) (i_rng (lo := 0) (hi := 4) rfl (by omega) (by omega)) (by omega)
      · unfold f_X7_wouldCount_73
        have hq27_ := i_full (a3)
        refine T_ql (i_add rfl l_0 (by omega) (by omega)) ?_
        intro xv28 hq29_
        refine T_ql (i_add rfl l_1 (by omega) (by omega)) ?_
        intro xv30 hq31_
        exact ih a1 a2 xv28 xv30 M hG hS (i_rng (lo := 0) (hi := 3) rfl (by omega) (by omega)) (i_rng (lo := 0) (hi := 4) rfl (by omega) (by omega)) (by omega)
theorem t_X7_wouldCount {n : Nat} (hn : 200000 ≤ n) (a1 a2 : Int32) (M : qM) (hG : G M) (pa2 : 0 ≤ a2.toInt ∧ a2.toInt ≤ 3) : qT (f_X7_wouldCount n a1 a2 M) (po_X7_wouldCount a1 a2 M) := by
  have hS : Sm l_X7_wouldCount M M := Sm.rf
  unfold f_X7_wouldCount
  refine T_qg rfl (by omega) (by omega) ?_
  refine T_eq rfl l_m1 (fun hq32_ => ?_) (fun hq32_ => ?_)
  · exact T_ret ⟨(i_rng (lo := 0) (hi := 1) l_0 (by omega) (by omega)), hG, hS⟩
  · refine T_qg rfl (by omega) (by omega) ?_
    refine T_eq rfl l_0 (fun hq33_ => ?_) (fun hq33_ => ?_)
    · refine T_qg rfl (by omega) (by omega) ?_
      refine T_ql rfl ?_
      intro xv34 hq35_
      exact (t_X7_wouldCount_38 hn) n a1 a2 xv34 (0 : Int32) M hG hS (i_rng (lo := 0) (hi := 3) rfl (by omega) (by omega)) (i_rng (lo := 0) (hi := 4) l_0 (by omega) (by omega)) (by have e3 : ((0 : Int32)).toInt = _ := l_0; omega)
    · exact T_ret ⟨(i_rng (lo := 0) (hi := 1) l_0 (by omega) (by omega)), hG, hS⟩
