abbrev l_X12_laysOwn : List Bx := [(77, 78, 43, 45), (96, 98, 0, 0), (105, 108, 0, 0)]
abbrev po_X12_laysOwn (a1 a2 : Int32) (M : qM) (v : Int32) (M' : qM) : Prop := (0 ≤ v.toInt ∧ v.toInt ≤ 0) ∧ KO a2 M' ∧ G M' ∧ Sm l_X12_laysOwn M M'
theorem t_X12_laysOwn_92 {n : Nat} (hn : 200000 ≤ n) {oa1 oa2 : Int32} {M0 : qM} {K57 : Int32 → Int32 → qM → qR} {BK57 : Nat} (hK57 : ∀ (a1 a3 : Int32) (M : qM), G M → Sm l_X12_laysOwn M0 M → 0 ≤ a1.toInt ∧ a1.toInt ≤ 7 → 0 ≤ a3.toInt ∧ a3.toInt ≤ 4 → KO oa2 M → 4 - a3.toInt < (BK57 : Int) → qT (K57 a1 a3 M) (po_X12_laysOwn oa1 oa2 M0)) : ∀ (m : Nat) (a1 a3 a4 : Int32) (M : qM), G M → Sm l_X12_laysOwn M0 M → 0 ≤ a1.toInt ∧ a1.toInt ≤ 7 → 0 ≤ a3.toInt ∧ a3.toInt ≤ 3 → 0 ≤ a4.toInt ∧ a4.toInt ≤ 4 → KO oa2 M → 4 - a3.toInt < (BK57 : Int) + 1 → 4 - a4.toInt < (m : Int) → qT (f_X12_laysOwn_92 n K57 m a1 a3 a4 M) (po_X12_laysOwn oa1 oa2 M0) := by
  intro m
  induction m with
  | zero =>
    intro a1 a3 a4 M hG hS i0 i1 i2 wKO i6 i7
    exfalso; omega
  | succ m ih =>
    intro a1 a3 a4 M hG hS i0 i1 i2 wKO i6 i7
    show qT (b_X12_laysOwn_92 n K57 (f_X12_laysOwn_92 n K57 m) a1 a3 a4 M) _
    unfold b_X12_laysOwn_92
    have hq10_ := r_77_43 hG
    refine T_le rfl rfl (fun hq11_ => ?_) (fun hq11_ => ?_)
    · refine T_ql (i_add rfl l_1 (by omega) (by omega)) ?_
      intro xv12 hq13_
      exact hK57 a1 xv12 M hG hS (i_rng (lo := 0) (hi := 7) rfl (by omega) (by omega)) (i_rng (lo := 0) (hi := 4) rfl (by omega) (by omega)) wKO (by omega)
    · refine T_qg rfl (by omega) (by omega) ?_
      refine T_qg rfl (by omega) (by omega) ?_
      have hq16_ := r_105 hG a3.toNatClampNeg
      have hq17_ := r_105 hG a4.toNatClampNeg
      refine T_qc (t_X12_isLike hn (M 105 a3.toNatClampNeg) (M 105 a4.toNatClampNeg) M hG (i_rng (lo := 0) (hi := 12) rfl (by omega) (by omega)) (i_rng (lo := 0) (hi := 11) rfl (by omega) (by omega))) ?_
      rintro rv14 mv15 ⟨hq18_, gq19_, kq20_⟩
      have kq21_ := Sm.call hS kq20_ rfl
      have hq22_ := (fun h_ => KO_c (kq20_ 77 43 (by decide)) (funext (fun s_ => kq20_ 105 s_ (outc rfl))) h_) wKO
      have hq23_ : (mv15 77 43).toInt = (M 77 43).toInt := by rw [kq20_ 77 43 (by decide)]
      refine T_eq rfl l_0 (fun hq24_ => ?_) (fun hq24_ => ?_)
      · refine T_ql (i_add rfl l_1 (by omega) (by omega)) ?_
        intro xv25 hq26_
        exact ih a1 a3 xv25 mv15 gq19_ kq21_ (i_rng (lo := 0) (hi := 7) rfl (by omega) (by omega)) (i_rng (lo := 0) (hi := 3) rfl (by omega) (by omega)) (i_rng (lo := 0) (hi := 4) rfl (by omega) (by omega)) hq22_ (by omega) (by omega)
      · refine T_qg rfl (by omega) (by omega) ?_
        refine T_qg rfl (by omega) (by omega) ?_
        have hq28_ := i_shl1 (c := 3) (k := a4) (by decide) rfl (by omega) (by omega)
        refine T_mu gq19_ kq21_ (rn_107 _ _) (nw_107 _) (i := 2) rfl ⟨by decide, by decide, Or.inl rfl⟩ ?_
        intro mv27 hq29_ gq30_ kq31_
        have hq32_ := (fun h_ => KO_c (M := mv15) (M' := mv27) (by rw [hq29_, mu_ne (Or.inl (by decide))]) (by rw [hq29_, mu_nc (by decide)]) h_) hq22_
        have hq33_ : (mv27 77 43).toInt = (mv15 77 43).toInt := by rw [hq29_, mu_ne (Or.inl (by decide))]
        have hq34_ : (mv27 107 a3.toNatClampNeg).toInt = ((mv15 107 a3.toNatClampNeg) ||| ((1 : Int32) <<< (a4 &&& 31))).toInt := by rw [hq29_, mu_at]
        refine T_ql (i_add rfl l_1 (by omega) (by omega)) ?_
        intro xv35 hq36_
        exact ih a1 a3 xv35 mv27 gq30_ kq31_ (i_rng (lo := 0) (hi := 7) rfl (by omega) (by omega)) (i_rng (lo := 0) (hi := 3) rfl (by omega) (by omega)) (i_rng (lo := 0) (hi := 4) rfl (by omega) (by omega)) hq32_ (by omega) (by omega)
theorem t_X12_laysOwn_57 {n : Nat} (hn : 200000 ≤ n) {oa1 oa2 : Int32} {M0 : qM} : ∀ (m : Nat) (a1 a3 : Int32) (M : qM), G M → Sm l_X12_laysOwn M0 M → 0 ≤ a1.toInt ∧ a1.toInt ≤ 7 → 0 ≤ a3.toInt ∧ a3.toInt ≤ 4 → KO oa2 M → 4 - a3.toInt < (m : Int) → qT (f_X12_laysOwn_57 n m a1 a3 M) (po_X12_laysOwn oa1 oa2 M0) := by
  intro m
  induction m with
  | zero =>
    intro a1 a3 M hG hS i0 i1 wKO i5
    exfalso; omega
  | succ m ih =>
    intro a1 a3 M hG hS i0 i1 wKO i5
    show qT (b_X12_laysOwn_57 n (f_X12_laysOwn_57 n m) a1 a3 M) _
    unfold b_X12_laysOwn_57
    have hq40_ := r_77_43 hG
    refine T_le rfl rfl (fun hq41_ => ?_) (fun hq41_ => ?_)
    · exact T_ret ⟨(i_rng (lo := 0) (hi := 0) l_0 (by omega) (by omega)), wKO, hG, hS⟩
    · refine T_qg rfl (by omega) (by omega) ?_
      have hq44_ := r_105 hG a3.toNatClampNeg
      refine T_qc (t_X12_oldOnes hn a1 (M 105 a3.toNatClampNeg) M hG (i_rng (lo := 0) (hi := 7) rfl (by omega) (by omega)) (i_rng (lo := 0) (hi := 11) rfl (by omega) (by omega))) ?_
      rintro rv42 mv43 ⟨gq45_, kq46_⟩
      have kq47_ := Sm.call hS kq46_ rfl
      have hq48_ := (fun h_ => KO_c (kq46_ 77 43 (by decide)) (funext (fun s_ => kq46_ 105 s_ (outc rfl))) h_) wKO
      have hq49_ : (mv43 77 43).toInt = (M 77 43).toInt := by rw [kq46_ 77 43 (by decide)]
      refine T_qg rfl (by omega) (by omega) ?_
      refine T_mu gq45_ kq47_ (rn_106 _ _) (nw_106 _) (i := 2) rfl ⟨by decide, by decide, Or.inl rfl⟩ ?_
      intro mv50 hq51_ gq52_ kq53_
      have hq54_ := (fun h_ => KO_c (M := mv43) (M' := mv50) (by rw [hq51_, mu_ne (Or.inl (by decide))]) (by rw [hq51_, mu_nc (by decide)]) h_) hq48_
      have hq55_ : (mv50 77 43).toInt = (mv43 77 43).toInt := by rw [hq51_, mu_ne (Or.inl (by decide))]
      have hq56_ : (mv50 106 a3.toNatClampNeg).toInt = rv42.toInt := by rw [hq51_, mu_at]
      refine T_qg rfl (by omega) (by omega) ?_
      refine T_mu gq52_ kq53_ (rn_107 _ _) (nw_107 _) (i := 2) rfl ⟨by decide, by decide, Or.inl rfl⟩ ?_
      intro mv57 hq58_ gq59_ kq60_
      have hq61_ := (fun h_ => KO_c (M := mv50) (M' := mv57) (by rw [hq58_, mu_ne (Or.inl (by decide))]) (by rw [hq58_, mu_nc (by decide)]) h_) hq54_
      have hq62_ : (mv57 77 43).toInt = (mv50 77 43).toInt := by rw [hq58_, mu_ne (Or.inl (by decide))]
      have hq63_ : (mv57 106 a3.toNatClampNeg).toInt = (mv50 106 a3.toNatClampNeg).toInt := by rw [hq58_, mu_ne (Or.inl (by decide))]
      have hq64_ : (mv57 107 a3.toNatClampNeg).toInt = 0 := by rw [hq58_, mu_at]; exact l_0
      exact (t_X12_laysOwn_92 hn ih) n a1 a3 (0 : Int32) mv57 gq59_ kq60_ (i_rng (lo := 0) (hi := 7) rfl (by omega) (by omega)) (i_rng (lo := 0) (hi := 3) rfl (by omega) (by omega)) (i_rng (lo := 0) (hi := 4) l_0 (by omega) (by omega)) hq61_ (by omega) (by have e2 : ((0 : Int32)).toInt = _ := l_0; omega)
theorem t_X12_laysOwn_12 {n : Nat} (hn : 200000 ≤ n) {oa1 oa2 : Int32} {M0 : qM} : ∀ (m : Nat) (a1 a2 a3 : Int32) (M : qM), G M → Sm l_X12_laysOwn M0 M → 0 ≤ a1.toInt ∧ a1.toInt ≤ 7 → 0 ≤ a3.toInt ∧ a3.toInt ≤ 12 → (a2 = oa2 ∧ (M 77 43).toInt = bS a2 a3.toInt.toNat ∧ bS a2 12 ≤ 4 ∧ KOk a2 a3.toInt M) → 12 - a3.toInt < (m : Int) → qT (f_X12_laysOwn_12 n m a1 a2 a3 M) (po_X12_laysOwn oa1 oa2 M0) := by
  intro m
  induction m with
  | zero =>
    intro a1 a2 a3 M hG hS i0 i1 hE i5
    have hq67_ := r_77_43 hG
    have hb1 : a3.toInt < 12 → bS a2 (a3.toInt.toNat + 1) ≤ bS a2 12 := fun h_ => bS_m _ (by omega)
    have hb2 := bS_s (x := a2) (a := a3) (by omega)
    obtain ⟨hE0, hE1, hE2, hE3⟩ := hE
    exfalso; omega
  | succ m ih =>
    intro a1 a2 a3 M hG hS i0 i1 hE i5
    show qT (b_X12_laysOwn_12 n (f_X12_laysOwn_12 n m) a1 a2 a3 M) _
    unfold b_X12_laysOwn_12
    have hq67_ := r_77_43 hG
    have hb1 : a3.toInt < 12 → bS a2 (a3.toInt.toNat + 1) ≤ bS a2 12 := fun h_ => bS_m _ (by omega)
    have hb2 := bS_s (x := a2) (a := a3) (by omega)
    obtain ⟨hE0, hE1, hE2, hE3⟩ := hE
    refine T_le l_12 rfl (fun hq68_ => ?_) (fun hq68_ => ?_)
    · exact (t_X12_laysOwn_57 hn) n a1 (0 : Int32) M hG hS (i_rng (lo := 0) (hi := 7) rfl (by omega) (by omega)) (i_rng (lo := 0) (hi := 4) l_0 (by omega) (by omega)) (by rw [← hE0]; rw [show a3.toInt = 12 by omega] at hE3; exact hE3) (by have e1 : ((0 : Int32)).toInt = _ := l_0; omega)
    · refine T_qc (t_X12_has0 hn a2 a3 M hG (i_rng (lo := 0) (hi := 11) rfl (by omega) (by omega))) ?_
      rintro rv69 mv70 ⟨hq71_, hq72_, gq73_, kq74_⟩
      have hq75_ := kq74_.nil
      subst hq75_
      refine T_eq rfl l_0 (fun hq76_ => ?_) (fun hq76_ => ?_)
      · refine T_ql (i_add rfl l_1 (by omega) (by omega)) ?_
        intro xv77 hq78_
        exact ih a1 a2 xv77 M hG hS (i_rng (lo := 0) (hi := 7) rfl (by omega) (by omega)) (i_rng (lo := 0) (hi := 12) rfl (by omega) (by omega)) (by first | exact ⟨rfl, by rw [show ((0 : Int32).toInt.toNat) = 0 from rfl]; show _ = (0 : Int); omega, by omega, KO_0⟩ | (rw [show (xv77).toInt.toNat = a3.toInt.toNat + 1 by omega]; exact ⟨hE0, by omega, by omega, KO_no hE3 (by omega) (by omega)⟩) | (rw [show (xv77).toInt.toNat = a3.toInt.toNat + 1 by omega]; exact ⟨hE0, by omega, by omega, KO_yes hE3 (by omega) (by omega) (by omega) (by rfl) (fun s_ hs_ => by rfl)⟩)) (by omega)
      · refine T_qg rfl (by omega) (by omega) ?_
        refine T_mu hG hS (i_rng (lo := 0) (hi := 11) rfl (by omega) (by omega)) (nw_105 _) (i := 2) rfl ⟨by decide, by decide, Or.inl rfl⟩ ?_
        intro mv79 hq80_ gq81_ kq82_
        have hq83_ : (mv79 77 43).toInt = (M 77 43).toInt := by rw [hq80_, mu_ne (Or.inl (by decide))]
        have hq84_ : (mv79 105 ((M 77 43).toNatClampNeg)).toInt = a3.toInt := by rw [hq80_, mu_at]
        have hq86_ := r_77_43 gq81_
        refine T_mu gq81_ kq82_ (i_rng (lo := 0) (hi := 4) (i_add rfl l_1 (by omega) (by omega)) (by omega) (by omega)) nw_77_43 (i := 0) rfl ⟨by decide, by decide, Or.inr ⟨by decide, by decide⟩⟩ ?_
        intro mv85 hq87_ gq88_ kq89_
        have hq90_ : (mv85 105 ((M 77 43).toNatClampNeg)).toInt = (mv79 105 ((M 77 43).toNatClampNeg)).toInt := by rw [hq87_, mu_ne (Or.inl (by decide))]
        have hq91_ : (mv85 77 43).toInt = ((mv79 77 43).toInt + 1) := by rw [hq87_, mu_at]; exact (i_add rfl l_1 (by omega) (by omega))
        refine T_ql (i_add rfl l_1 (by omega) (by omega)) ?_
        intro xv92 hq93_
        have hq94_ := r_77_43 gq88_
        exact ih a1 a2 xv92 mv85 gq88_ kq89_ (i_rng (lo := 0) (hi := 7) rfl (by omega) (by omega)) (i_rng (lo := 0) (hi := 12) rfl (by omega) (by omega)) (by first | exact ⟨rfl, by rw [show ((0 : Int32).toInt.toNat) = 0 from rfl]; show _ = (0 : Int); omega, by omega, KO_0⟩ | (rw [show (xv92).toInt.toNat = a3.toInt.toNat + 1 by omega]; exact ⟨hE0, by omega, by omega, KO_no hE3 (by omega) (by omega)⟩) | (rw [show (xv92).toInt.toNat = a3.toInt.toNat + 1 by omega]; exact ⟨hE0, by omega, by omega, KO_yes hE3 (by omega) (by omega) (by omega) (by rw [hq87_, mu_ne (Or.inl (by decide))]; rw [hq80_, mu_at]) (fun s_ hs_ => by rw [hq87_, mu_ne (Or.inl (by decide))]; rw [hq80_, mu_ne (Or.inr hs_)])⟩)) (by omega)
theorem t_X12_laysOwn {n : Nat} (hn : 200000 ≤ n) (a1 a2 : Int32) (M : qM) (hG : G M) (pa1 : 0 ≤ a1.toInt ∧ a1.toInt ≤ 7) (pe : bS a2 12 ≤ 4) : qT (f_X12_laysOwn n a1 a2 M) (po_X12_laysOwn a1 a2 M) := by
  have hS : Sm l_X12_laysOwn M M := Sm.rf
  unfold f_X12_laysOwn
  refine T_mu hG hS (i_rng (lo := 0) (hi := 7) rfl (by omega) (by omega)) nw_77_44 (i := 0) rfl ⟨by decide, by decide, Or.inr ⟨by decide, by decide⟩⟩ ?_
  intro mv95 hq96_ gq97_ kq98_
  have hq99_ : (mv95 77 44).toInt = a1.toInt := by rw [hq96_, mu_at]
  refine T_mu gq97_ kq98_ (i_rng (lo := 0) (hi := 4) l_0 (by omega) (by omega)) nw_77_43 (i := 0) rfl ⟨by decide, by decide, Or.inr ⟨by decide, by decide⟩⟩ ?_
  intro mv100 hq101_ gq102_ kq103_
  have hq104_ : (mv100 77 44).toInt = (mv95 77 44).toInt := by rw [hq101_, mu_ne (Or.inr (by decide))]
  have hq105_ : (mv100 77 43).toInt = 0 := by rw [hq101_, mu_at]; exact l_0
  have hq106_ := r_77_43 gq102_
  exact (t_X12_laysOwn_12 hn) n a1 a2 (0 : Int32) mv100 gq102_ kq103_ (i_rng (lo := 0) (hi := 7) rfl (by omega) (by omega)) (i_rng (lo := 0) (hi := 12) l_0 (by omega) (by omega)) (by have e2 : ((0 : Int32)).toInt = _ := l_0; first | exact ⟨rfl, by rw [show ((0 : Int32).toInt.toNat) = 0 from rfl]; show _ = (0 : Int); omega, by omega, KO_0⟩ | (rw [show ((0 : Int32)).toInt.toNat = a3.toInt.toNat + 1 by omega]; exact ⟨hE0, by omega, by omega, KO_no hE3 (by omega) (by omega)⟩) | (rw [show ((0 : Int32)).toInt.toNat = a3.toInt.toNat + 1 by omega]; exact ⟨hE0, by omega, by omega, KO_yes hE3 (by omega) (by omega) (by omega) (by rw [hq101_, mu_ne (Or.inl (by decide))]; rw [hq96_, mu_ne (Or.inl (by decide))]) (fun s_ hs_ => by rw [hq101_, mu_ne (Or.inl (by decide))]; rw [hq96_, mu_ne (Or.inl (by decide))])⟩)) (by have e2 : ((0 : Int32)).toInt = _ := l_0; omega)
abbrev l_X12_statesAll : List Bx := []
abbrev po_X12_statesAll (M : qM) (v : Int32) (M' : qM) : Prop := (1 ≤ v.toInt ∧ v.toInt ≤ 160000) ∧ G M' ∧ Sm l_X12_statesAll M M'
theorem t_X12_statesAll_4 {n : Nat} (hn : 200000 ≤ n) {M0 : qM} : ∀ (m : Nat) (a1 a2 : Int32) (M : qM), G M → Sm l_X12_statesAll M0 M → 1 ≤ a1.toInt ∧ a1.toInt ≤ 160000 → 0 ≤ a2.toInt ∧ a2.toInt ≤ 4 → ((a2.toInt = 0 ∧ a1.toInt = 1) ∨ (a2.toInt = 1 ∧ a1.toInt = 20) ∨ (a2.toInt = 2 ∧ a1.toInt = 400) ∨ (a2.toInt = 3 ∧ a1.toInt = 8000) ∨ (a2.toInt = 4 ∧ a1.toInt = 160000)) → 4 - a2.toInt < (m : Int) → qT (f_X12_statesAll_4 n m a1 a2 M) (po_X12_statesAll  M0) := by
  intro m
  induction m with
  | zero =>
    intro a1 a2 M hG hS i0 i1 hE i5
    have hq3_ := r_77_43 hG
    exfalso; omega
  | succ m ih =>
    intro a1 a2 M hG hS i0 i1 hE i5
    show qT (b_X12_statesAll_4 n (f_X12_statesAll_4 n m) a1 a2 M) _
    unfold b_X12_statesAll_4
    have hq3_ := r_77_43 hG
    refine T_le rfl rfl (fun hq4_ => ?_) (fun hq4_ => ?_)
    · exact T_ret ⟨(i_rng (lo := 1) (hi := 160000) rfl (by omega) (by omega)), hG, hS⟩
    · refine T_ql (i_mul rfl l_20 (by omega) (by omega)) ?_
      intro xv5 hq6_
      refine T_ql (i_add rfl l_1 (by omega) (by omega)) ?_
      intro xv7 hq8_
      exact ih xv5 xv7 M hG hS (i_rng (lo := 1) (hi := 160000) rfl (by omega) (by omega)) (i_rng (lo := 0) (hi := 4) rfl (by omega) (by omega)) (by omega) (by omega)
theorem t_X12_statesAll {n : Nat} (hn : 200000 ≤ n) (M : qM) (hG : G M) : qT (f_X12_statesAll n  M) (po_X12_statesAll  M) := by
  have hS : Sm l_X12_statesAll M M := Sm.rf
  unfold f_X12_statesAll
  have hq9_ := r_77_43 hG
  exact (t_X12_statesAll_4 hn) n (1 : Int32) (0 : Int32) M hG hS (i_rng (lo := 1) (hi := 160000) l_1 (by omega) (by omega)) (i_rng (lo := 0) (hi := 4) l_0 (by omega) (by omega)) (by have e0 : ((1 : Int32)).toInt = _ := l_1; have e1 : ((0 : Int32)).toInt = _ := l_0; omega) (by have e0 : ((1 : Int32)).toInt = _ := l_1; have e1 : ((0 : Int32)).toInt = _ := l_0; omega)
abbrev l_X12_placeOf : List Bx := []
abbrev po_X12_placeOf (a1 : Int32) (M : qM) (v : Int32) (M' : qM) : Prop := (0 ≤ v.toInt ∧ v.toInt ≤ 3) ∧ G M' ∧ Sm l_X12_placeOf M M'
theorem t_X12_placeOf_2 {n : Nat} (hn : 200000 ≤ n) {oa1 : Int32} {M0 : qM} : ∀ (m : Nat) (a1 a2 : Int32) (M : qM), G M → Sm l_X12_placeOf M0 M → 0 ≤ a1.toInt ∧ a1.toInt ≤ 11 → 0 ≤ a2.toInt ∧ a2.toInt ≤ 3 → (∃ i : Nat, a2.toInt ≤ (i : Int) ∧ (i : Int) < (M 77 43).toInt ∧ M 105 i = a1) → 3 - a2.toInt < (m : Int) → qT (f_X12_placeOf_2 n m a1 a2 M) (po_X12_placeOf oa1 M0) := by
  intro m
  induction m with
  | zero =>
    intro a1 a2 M hG hS i0 i1 hE i5
    have hq2_ := r_77_43 hG
    obtain ⟨iE, hE1, hE2, hE3⟩ := hE
    exfalso; omega
  | succ m ih =>
    intro a1 a2 M hG hS i0 i1 hE i5
    show qT (b_X12_placeOf_2 n (f_X12_placeOf_2 n m) a1 a2 M) _
    unfold b_X12_placeOf_2
    have hq2_ := r_77_43 hG
    obtain ⟨iE, hE1, hE2, hE3⟩ := hE
    refine T_qg rfl (by omega) (by omega) ?_
    have hq3_ := r_105 hG a2.toNatClampNeg
    refine T_eq rfl rfl (fun hq4_ => ?_) (fun hq4_ => ?_)
    · exact T_ret ⟨(i_rng (lo := 0) (hi := 3) rfl (by omega) (by omega)), hG, hS⟩
    · refine T_ql (i_add rfl l_1 (by omega) (by omega)) ?_
      intro xv5 hq6_
      have hne : iE ≠ a2.toNatClampNeg := fun e_ => by have h9 := congrArg Int32.toInt hE3; rw [e_] at h9; omega
      rw [tnc] at hne
      exact ih a1 xv5 M hG hS (i_rng (lo := 0) (hi := 11) rfl (by omega) (by omega)) (i_rng (lo := 0) (hi := 3) rfl (by omega) (by omega)) (by first | exact ⟨iE, by omega, by omega, hE3⟩ | (obtain ⟨i_, h1_, h2_⟩ := pe; exact ⟨i_, by have := l_0; omega, h1_, h2_⟩)) (by omega)
theorem t_X12_placeOf {n : Nat} (hn : 200000 ≤ n) (a1 : Int32) (M : qM) (hG : G M) (pa1 : 0 ≤ a1.toInt ∧ a1.toInt ≤ 11) (pe : ∃ i : Nat, (i : Int) < (M 77 43).toInt ∧ M 105 i = a1) : qT (f_X12_placeOf n a1 M) (po_X12_placeOf a1 M) := by
  have hS : Sm l_X12_placeOf M M := Sm.rf
  unfold f_X12_placeOf
  have hq7_ := r_77_43 hG
  exact (t_X12_placeOf_2 hn) n a1 (0 : Int32) M hG hS (i_rng (lo := 0) (hi := 11) rfl (by omega) (by omega)) (i_rng (lo := 0) (hi := 3) l_0 (by omega) (by omega)) (by have e1 : ((0 : Int32)).toInt = _ := l_0; first | exact ⟨iE, by omega, by omega, hE3⟩ | (obtain ⟨i_, h1_, h2_⟩ := pe; exact ⟨i_, by have := l_0; omega, h1_, h2_⟩)) (by have e1 : ((0 : Int32)).toInt = _ := l_0; omega)
abbrev l_X12_takesState : List Bx := [(108, 109, 0, 0)]
abbrev po_X12_takesState (a1 : Int32) (M : qM) (v : Int32) (M' : qM) : Prop := (0 ≤ v.toInt ∧ v.toInt ≤ 0) ∧ G M' ∧ Sm l_X12_takesState M M'
theorem t_X12_takesState_4 {n : Nat} (hn : 200000 ≤ n) {oa1 : Int32} {M0 : qM} : ∀ (m : Nat) (a2 a3 : Int32) (M : qM), G M → Sm l_X12_takesState M0 M → 0 ≤ a2.toInt ∧ a2.toInt ≤ 159999 → 0 ≤ a3.toInt ∧ a3.toInt ≤ 4 → 4 - a3.toInt < (m : Int) → qT (f_X12_takesState_4 n m a2 a3 M) (po_X12_takesState oa1 M0) := by
  intro m
  induction m with
  | zero =>
    intro a2 a3 M hG hS i0 i1 i4
    exfalso; omega
  | succ m ih =>
    intro a2 a3 M hG hS i0 i1 i4
    show qT (b_X12_takesState_4 n (f_X12_takesState_4 n m) a2 a3 M) _
    unfold b_X12_takesState_4
    have hq3_ := r_77_43 hG
    refine T_le rfl rfl (fun hq4_ => ?_) (fun hq4_ => ?_)
    · exact T_ret ⟨(i_rng (lo := 0) (hi := 0) l_0 (by omega) (by omega)), hG, hS⟩
    · refine T_qg rfl (by omega) (by omega) ?_
      refine T_mu hG hS (i_rng (lo := 0) (hi := 19) (i_sub rfl (i_mul (i_div rfl l_20 (by omega) (by omega)) l_20 (by omega) (by omega)) (by omega) (by omega)) (by omega) (by omega)) (nw_108 _) (i := 0) rfl ⟨by decide, by decide, Or.inl rfl⟩ ?_
      intro mv5 hq6_ gq7_ kq8_
      have hq9_ : (mv5 77 43).toInt = (M 77 43).toInt := by rw [hq6_, mu_ne (Or.inl (by decide))]
      have hq10_ : (mv5 108 a3.toNatClampNeg).toInt = (a2.toInt - ((a2.toInt / 20) * 20)) := by rw [hq6_, mu_at]; exact (i_sub rfl (i_mul (i_div rfl l_20 (by omega) (by omega)) l_20 (by omega) (by omega)) (by omega) (by omega))
      refine T_ql (i_div rfl l_20 (by omega) (by omega)) ?_
      intro xv11 hq12_
      refine T_ql (i_add rfl l_1 (by omega) (by omega)) ?_
      intro xv13 hq14_
      exact ih xv11 xv13 mv5 gq7_ kq8_ (i_rng (lo := 0) (hi := 159999) rfl (by omega) (by omega)) (i_rng (lo := 0) (hi := 4) rfl (by omega) (by omega)) (by omega)
theorem t_X12_takesState {n : Nat} (hn : 200000 ≤ n) (a1 : Int32) (M : qM) (hG : G M) (pa1 : 0 ≤ a1.toInt ∧ a1.toInt ≤ 159999) : qT (f_X12_takesState n a1 M) (po_X12_takesState a1 M) := by
  have hS : Sm l_X12_takesState M M := Sm.rf
  unfold f_X12_takesState
  exact (t_X12_takesState_4 hn) n a1 (0 : Int32) M hG hS (i_rng (lo := 0) (hi := 159999) rfl (by omega) (by omega)) (i_rng (lo := 0) (hi := 4) l_0 (by omega) (by omega)) (by have e1 : ((0 : Int32)).toInt = _ := l_0; omega)
abbrev l_X12_goesNow : List Bx := []
abbrev po_X12_goesNow (M : qM) (v : Int32) (M' : qM) : Prop := G M' ∧ Sm l_X12_goesNow M M'
theorem t_X12_goesNow_4 {n : Nat} (hn : 200000 ≤ n) {M0 : qM} : ∀ (m : Nat) (a1 a2 : Int32) (M : qM), G M → Sm l_X12_goesNow M0 M → 0 ≤ a2.toInt ∧ a2.toInt ≤ 4 → 4 - a2.toInt < (m : Int) → qT (f_X12_goesNow_4 n m a1 a2 M) (po_X12_goesNow  M0) := by
  intro m
  induction m with
  | zero =>
    intro a1 a2 M hG hS i0 i3
    exfalso; omega
  | succ m ih =>
    intro a1 a2 M hG hS i0 i3
    show qT (b_X12_goesNow_4 n (f_X12_goesNow_4 n m) a1 a2 M) _
    unfold b_X12_goesNow_4
    have hq3_ := r_77_43 hG
    refine T_le rfl rfl (fun hq4_ => ?_) (fun hq4_ => ?_)
    · exact T_ret ⟨hG, hS⟩
    · refine T_qg rfl (by omega) (by omega) ?_
      have hq5_ := r_108 hG a2.toNatClampNeg
      refine T_qg rfl (by omega) (by omega) ?_
      have hq6_ := r_103 hG ((M 108 a2.toNatClampNeg).toNatClampNeg)
      have hq7_ := i_full (a1)
      refine T_ql rfl ?_
      intro xv8 hq9_
      refine T_ql (i_add rfl l_1 (by omega) (by omega)) ?_
      intro xv10 hq11_
      exact ih xv8 xv10 M hG hS (i_rng (lo := 0) (hi := 4) rfl (by omega) (by omega)) (by omega)
theorem t_X12_goesNow {n : Nat} (hn : 200000 ≤ n) (M : qM) (hG : G M) : qT (f_X12_goesNow n  M) (po_X12_goesNow  M) := by
  have hS : Sm l_X12_goesNow M M := Sm.rf
  unfold f_X12_goesNow
  exact (t_X12_goesNow_4 hn) n (0 : Int32) (0 : Int32) M hG hS (i_rng (lo := 0) (hi := 4) l_0 (by omega) (by omega)) (by have e0 : ((0 : Int32)).toInt = _ := l_0; have e1 : ((0 : Int32)).toInt = _ := l_0; omega)
abbrev l_X12_areCounted : List Bx := []
abbrev po_X12_areCounted (a1 : Int32) (M : qM) (v : Int32) (M' : qM) : Prop := (0 ≤ v.toInt ∧ v.toInt ≤ 1) ∧ G M' ∧ Sm l_X12_areCounted M M'
theorem t_X12_areCounted_45 {n : Nat} (hn : 200000 ≤ n) {oa1 : Int32} {M0 : qM} {K2 : Int32 → Int32 → qM → qR} {BK2 : Nat} (hK2 : ∀ (a1 a2 : Int32) (M : qM), G M → Sm l_X12_areCounted M0 M → 0 ≤ a1.toInt ∧ a1.toInt ≤ 11 → 0 ≤ a2.toInt ∧ a2.toInt ≤ 12 → 12 - a2.toInt < (BK2 : Int) → qT (K2 a1 a2 M) (po_X12_areCounted oa1 M0)) : ∀ (m : Nat) (a1 a2 a3 a4 : Int32) (M : qM), G M → Sm l_X12_areCounted M0 M → 0 ≤ a1.toInt ∧ a1.toInt ≤ 11 → 0 ≤ a2.toInt ∧ a2.toInt ≤ 11 → 0 ≤ a4.toInt ∧ a4.toInt ≤ 4 → 12 - a2.toInt < (BK2 : Int) + 1 → 4 - a4.toInt < (m : Int) → qT (f_X12_areCounted_45 n K2 m a1 a2 a3 a4 M) (po_X12_areCounted oa1 M0) := by
  intro m
  induction m with
  | zero =>
    intro a1 a2 a3 a4 M hG hS i0 i1 i2 i5 i6
    exfalso; omega
  | succ m ih =>
    intro a1 a2 a3 a4 M hG hS i0 i1 i2 i5 i6
    show qT (b_X12_areCounted_45 n K2 (f_X12_areCounted_45 n K2 m) a1 a2 a3 a4 M) _
    unfold b_X12_areCounted_45
    have hq20_ := r_77_43 hG
    refine T_le rfl rfl (fun hq21_ => ?_) (fun hq21_ => ?_)
    · refine T_eq rfl l_0 (fun hq22_ => ?_) (fun hq22_ => ?_)
      · exact T_ret ⟨(i_rng (lo := 0) (hi := 1) l_0 (by omega) (by omega)), hG, hS⟩
      · refine T_ql (i_add rfl l_1 (by omega) (by omega)) ?_
        intro xv23 hq24_
        exact hK2 a1 xv23 M hG hS (i_rng (lo := 0) (hi := 11) rfl (by omega) (by omega)) (i_rng (lo := 0) (hi := 12) rfl (by omega) (by omega)) (by omega)
    · refine T_qg rfl (by omega) (by omega) ?_
      have hq25_ := r_105 hG a4.toNatClampNeg
      refine T_eq rfl rfl (fun hq26_ => ?_) (fun hq26_ => ?_)
      · refine T_qg rfl (by omega) (by omega) ?_
        have hq27_ := r_108 hG a4.toNatClampNeg
        refine T_qg rfl (by omega) (by omega) ?_
        unfold f_X12_areCounted_82
        have hq28_ := r_104 hG ((M 108 a4.toNatClampNeg).toNatClampNeg)
        have hq29_ := i_full (a3)
        refine T_ql rfl ?_
        intro xv30 hq31_
        refine T_ql (i_add rfl l_1 (by omega) (by omega)) ?_
        intro xv32 hq33_
        exact ih a1 a2 xv30 xv32 M hG hS (i_rng (lo := 0) (hi := 11) rfl (by omega) (by omega)) (i_rng (lo := 0) (hi := 11) rfl (by omega) (by omega)) (i_rng (lo := 0) (hi := 4) rfl (by omega) (by omega)) (by omega) (by omega)
      · unfold f_X12_areCounted_82
        have hq34_ := i_full (a3)
        refine T_ql (i_add rfl l_0 (by omega) (by omega)) ?_
        intro xv35 hq36_
        refine T_ql (i_add rfl l_1 (by omega) (by omega)) ?_
        intro xv37 hq38_
        exact ih a1 a2 xv35 xv37 M hG hS (i_rng (lo := 0) (hi := 11) rfl (by omega) (by omega)) (i_rng (lo := 0) (hi := 11) rfl (by omega) (by omega)) (i_rng (lo := 0) (hi := 4) rfl (by omega) (by omega)) (by omega) (by omega)
theorem t_X12_areCounted_2 {n : Nat} (hn : 200000 ≤ n) {oa1 : Int32} {M0 : qM} : ∀ (m : Nat) (a1 a2 : Int32) (M : qM), G M → Sm l_X12_areCounted M0 M → 0 ≤ a1.toInt ∧ a1.toInt ≤ 11 → 0 ≤ a2.toInt ∧ a2.toInt ≤ 12 → 12 - a2.toInt < (m : Int) → qT (f_X12_areCounted_2 n m a1 a2 M) (po_X12_areCounted oa1 M0) := by
  intro m
  induction m with
  | zero =>
    intro a1 a2 M hG hS i0 i1 i4
    exfalso; omega
  | succ m ih =>
    intro a1 a2 M hG hS i0 i1 i4
    show qT (b_X12_areCounted_2 n (f_X12_areCounted_2 n m) a1 a2 M) _
    unfold b_X12_areCounted_2
    refine T_le l_12 rfl (fun hq46_ => ?_) (fun hq46_ => ?_)
    · exact T_ret ⟨(i_rng (lo := 0) (hi := 1) l_1 (by omega) (by omega)), hG, hS⟩
    · refine T_qg rfl (by omega) (by omega) ?_
      refine T_qc (t_X12_has0 hn (M 83 a1.toNatClampNeg) a2 M hG (i_rng (lo := 0) (hi := 11) rfl (by omega) (by omega))) ?_
      rintro rv47 mv48 ⟨hq49_, hq50_, gq51_, kq52_⟩
      have hq53_ := kq52_.nil
      subst hq53_
      refine T_eq rfl l_0 (fun hq54_ => ?_) (fun hq54_ => ?_)
      · refine T_ql (i_add rfl l_1 (by omega) (by omega)) ?_
        intro xv55 hq56_
        exact ih a1 xv55 M hG hS (i_rng (lo := 0) (hi := 11) rfl (by omega) (by omega)) (i_rng (lo := 0) (hi := 12) rfl (by omega) (by omega)) (by omega)
      · have hq59_ := r_77_44 hG
        refine T_qc (t_X12_at hn (M 77 44) a2 M hG (i_rng (lo := 0) (hi := 7) rfl (by omega) (by omega)) (i_rng (lo := 0) (hi := 11) rfl (by omega) (by omega))) ?_
        rintro rv57 mv58 ⟨hq60_, hq61_, gq62_, kq63_⟩
        have hq64_ := kq63_.nil
        subst hq64_
        refine T_qg (i_add l_192 rfl (by omega) (by omega)) (by omega) (by omega) ?_
        refine T_ql rfl ?_
        intro xv65 hq66_
        exact (t_X12_areCounted_45 hn ih) n a1 a2 xv65 (0 : Int32) M hG hS (i_rng (lo := 0) (hi := 11) rfl (by omega) (by omega)) (i_rng (lo := 0) (hi := 11) rfl (by omega) (by omega)) (i_rng (lo := 0) (hi := 4) l_0 (by omega) (by omega)) (by omega) (by have e3 : ((0 : Int32)).toInt = _ := l_0; omega)
theorem t_X12_areCounted {n : Nat} (hn : 200000 ≤ n) (a1 : Int32) (M : qM) (hG : G M) (pa1 : 0 ≤ a1.toInt ∧ a1.toInt ≤ 11) : qT (f_X12_areCounted n a1 M) (po_X12_areCounted a1 M) := by
  have hS : Sm l_X12_areCounted M M := Sm.rf
  unfold f_X12_areCounted
  exact (t_X12_areCounted_2 hn) n a1 (0 : Int32) M hG hS (i_rng (lo := 0) (hi := 11) rfl (by omega) (by omega)) (i_rng (lo := 0) (hi := 12) l_0 (by omega) (by omega)) (by have e1 : ((0 : Int32)).toInt = _ := l_0; omega)
