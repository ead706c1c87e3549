abbrev l_X4_readFactor : List Bx := [(1, 2, 3, 5), (37, 53, 0, 0)]
abbrev po_X4_readFactor (r : Nat) (a1 : Int32) (M : qM) (v : Int32) (M' : qM) : Prop := (0 ≤ v.toInt ∧ v.toInt ≤ 1) ∧ (v.toInt = 0 ∨ ((M 1 3).toInt - (M r 6).toInt ≤ (M' 1 3).toInt - (M' r 6).toInt ∧ (M' 1 3).toInt ≤ (M' 1 2).toInt ∧ (M' r 6).toInt ≤ (M' 1 3).toInt)) ∧ Lf r M M' ∧ G M' ∧ Sm l_X4_readFactor M M'
abbrev l_X4_readProduct : List Bx := [(1, 2, 3, 5), (37, 53, 0, 0)]
abbrev po_X4_readProduct (r : Nat) (a1 : Int32) (M : qM) (v : Int32) (M' : qM) : Prop := (0 ≤ v.toInt ∧ v.toInt ≤ 1) ∧ (v.toInt = 0 ∨ ((M 1 3).toInt - (M r 6).toInt ≤ (M' 1 3).toInt - (M' r 6).toInt ∧ (M' 1 3).toInt ≤ (M' 1 2).toInt ∧ (M' r 6).toInt ≤ (M' 1 3).toInt)) ∧ Lf r M M' ∧ G M' ∧ Sm l_X4_readProduct M M'
abbrev l_X4_readSum : List Bx := [(1, 2, 3, 5), (37, 53, 0, 0)]
abbrev po_X4_readSum (r : Nat) (a1 : Int32) (M : qM) (v : Int32) (M' : qM) : Prop := (0 ≤ v.toInt ∧ v.toInt ≤ 1) ∧ (v.toInt = 0 ∨ ((M 1 3).toInt - (M r 6).toInt ≤ (M' 1 3).toInt - (M' r 6).toInt ∧ (M' 1 3).toInt ≤ (M' 1 2).toInt ∧ (M' r 6).toInt ≤ (M' 1 3).toInt)) ∧ Lf r M M' ∧ G M' ∧ Sm l_X4_readSum M M'
theorem t_X4_readFactor_68 {n : Nat} (hn : 200000 ≤ n) {r : Nat} (hr : q_isLaw r) {B : Nat} {F_X4_readSum : Int32 → qM → qR} (hF_X4_readSum : ∀ (a1 : Int32) (M : qM), G M → 0 ≤ a1.toInt ∧ a1.toInt ≤ 6 → (M 1 3).toInt ≤ (M 1 2).toInt ∧ (M r 6).toInt ≤ (M 1 3).toInt → 3 * (6 - a1.toInt) + 2 < (B : Int) → qT (F_X4_readSum a1 M) (po_X4_readSum r a1 M)) {oa1 : Int32} {M0 : qM} : ∀ (m : Nat) (a2 a3 : Int32) (M : qM), G M → Sm l_X4_readFactor M0 M → 0 ≤ a3.toInt ∧ a3.toInt ≤ 12 → ((M0 1 3).toInt = (M 1 3).toInt ∧ (M0 r 6).toInt = (M r 6).toInt ∧ (M 1 3).toInt ≤ (M 1 2).toInt ∧ (M r 6).toInt ≤ (M 1 3).toInt ∧ (a2.toInt = -1 ∨ (M 1 3).toInt < (M 1 2).toInt)) → Lf r M0 M → 3 * (6 - oa1.toInt) + 0 < (B : Int) + 1 → 12 - a3.toInt < (m : Int) → qT (f_X4_readFactor_68 n r F_X4_readSum m a2 a3 M) (po_X4_readFactor r oa1 M0) := by
  intro m
  induction m with
  | zero =>
    intro a2 a3 M hG hS i0 hE hR i5 i6
    have hq2_ := r_1_3 hG
    have hq3_ := r_1_2 hG
    have hq4_ := rw_0_6 hr hG
    exfalso; omega
  | succ m ih =>
    intro a2 a3 M hG hS i0 hE hR i5 i6
    show qT (b_X4_readFactor_68 n r F_X4_readSum (f_X4_readFactor_68 n r F_X4_readSum m) a2 a3 M) _
    unfold b_X4_readFactor_68
    have hq2_ := r_1_3 hG
    have hq3_ := r_1_2 hG
    have hq4_ := rw_0_6 hr hG
    refine T_le l_12 rfl (fun hq5_ => ?_) (fun hq5_ => ?_)
    · refine T_qc (t_X9_fails hn (1 : Int32) (M 1 3) M hG (i_rng (lo := 1) (hi := 6) l_1 (by omega) (by omega)) (i_rng (lo := 0) (hi := 240) rfl (by omega) (by omega))) ?_
      rintro rv6 mv7 ⟨hq8_, gq9_, kq10_⟩
      have kq11_ := Sm.call hS kq10_ rfl
      have hq12_ := Lf.out hr (M0 := M0) hR kq10_ rfl
      have hq13_ : (mv7 r 6).toInt = (M r 6).toInt := by rw [kq10_ r 6 (outl (lawin hr).1 rfl)]
      have hq14_ : (mv7 1 3).toInt = (M 1 3).toInt := by rw [kq10_ 1 3 (by decide)]
      have hq15_ : (mv7 1 2).toInt = (M 1 2).toInt := by rw [kq10_ 1 2 (by decide)]
      refine T_qb rfl (by omega) (by omega) ?_
      exact T_ret ⟨(i_rng (lo := 0) (hi := 1) rfl (by omega) (by omega)), (by have e9 : (rv6).toInt = _ := rfl; omega), hq12_, gq9_, kq11_⟩
    · refine T_qg rfl (by omega) (by omega) ?_
      have hq16_ := q_let_r a3.toNatClampNeg (by rw [tnc]; omega)
      refine T_eq rfl rfl (fun hq17_ => ?_) (fun hq17_ => ?_)
      · refine T_mu hG hS (i_rng (lo := 0) (hi := 240) (i_add rfl l_1 (by omega) (by omega)) (by omega) (by omega)) (nw_1 _) (i := 0) rfl ⟨by decide, by decide, Or.inr ⟨by decide, by decide⟩⟩ ?_
        intro mv18 hq19_ gq20_ kq21_
        have hq22_ := Lf.mu hr (M0 := M0) hR hq19_ (by decide)
        have hq23_ : (mv18 1 2).toInt = (M 1 2).toInt := by rw [hq19_, mu_ne (Or.inr (by decide))]
        have hq24_ : (mv18 r 6).toInt = (M r 6).toInt := by rw [hq19_, mu_ne (Or.inl (lawne hr (by decide)).1)]
        have hq25_ : (mv18 1 3).toInt = ((M 1 3).toInt + 1) := by rw [hq19_, mu_at]; exact (i_add rfl l_1 (by omega) (by omega))
        have hq28_ := (show ((1 : Int32)).toInt = _ from l_1)
        refine T_qc (t_X3_add hn hr (1 : Int32) a3 mv18 gq20_ (i_rng (lo := 0) (hi := 1000000) rfl (by omega) (by omega)) (by have e0 : ((1 : Int32)).toInt = _ := l_1; omega)) ?_
        rintro rv26 mv27 ⟨hq29_, hq30_, hq31_, gq32_, kq33_⟩
        have hq34_ := rw_0_6 hr gq20_
        have kq35_ := Sm.call kq21_ kq33_ rfl
        have hq36_ := Lf.tr (M := M0) hq22_ hq31_
        have hq37_ : (mv27 1 2).toInt = (mv18 1 2).toInt := by rw [kq33_ 1 2 (by decide)]
        have hq38_ : (mv27 1 3).toInt = (mv18 1 3).toInt := by rw [kq33_ 1 3 (by decide)]
        have hq39_ := rw_0_6 hr gq32_
        exact T_ret ⟨(i_rng (lo := 0) (hi := 1) l_1 (by omega) (by omega)), (by have e9 : ((1 : Int32)).toInt = _ := l_1; omega), hq36_, gq32_, kq35_⟩
      · refine T_ql (i_add rfl l_1 (by omega) (by omega)) ?_
        intro xv40 hq41_
        exact ih a2 xv40 M hG hS (i_rng (lo := 0) (hi := 12) rfl (by omega) (by omega)) (by omega) hR (by omega) (by omega)
theorem to_X4_readFactor {n : Nat} (hn : 200000 ≤ n) {r : Nat} (hr : q_isLaw r) {B : Nat} {F_X4_readSum : Int32 → qM → qR} (hF_X4_readSum : ∀ (a1 : Int32) (M : qM), G M → 0 ≤ a1.toInt ∧ a1.toInt ≤ 6 → (M 1 3).toInt ≤ (M 1 2).toInt ∧ (M r 6).toInt ≤ (M 1 3).toInt → 3 * (6 - a1.toInt) + 2 < (B : Int) → qT (F_X4_readSum a1 M) (po_X4_readSum r a1 M)) (a1 : Int32) (M : qM) (hG : G M) (pa1 : 0 ≤ a1.toInt ∧ a1.toInt ≤ 6) (pe : (M 1 3).toInt ≤ (M 1 2).toInt ∧ (M r 6).toInt ≤ (M 1 3).toInt) (hb : 3 * (6 - a1.toInt) + 0 < (B : Int) + 1) : qT (fo_X4_readFactor n r F_X4_readSum a1 M) (po_X4_readFactor r a1 M) := by
  have hS : Sm l_X4_readFactor M M := Sm.rf
  unfold fo_X4_readFactor
  have hq42_ := r_1_3 hG
  have hq43_ := r_1_2 hG
  have hq44_ := rw_0_6 hr hG
  refine T_qc (t_X9_sign hn  M hG ) ?_
  rintro rv45 mv46 ⟨hq47_, hq48_, gq49_, kq50_⟩
  have hq51_ := r_2 hG ((M 1 3).toNatClampNeg)
  have hq52_ := kq50_.nil
  subst hq52_
  refine T_eq rfl l_91 (fun hq53_ => ?_) (fun hq53_ => ?_)
  · refine T_qc (t_X4_opens hn a1 M hG (i_rng (lo := 0) (hi := 6) rfl (by omega) (by omega)) (by omega)) ?_
    rintro rv54 mv55 ⟨hq56_, hq57_, gq58_, kq59_⟩
    have kq60_ := Sm.call hS kq59_ rfl
    have hq61_ := Lf.out hr (M0 := M) Lf.rf kq59_ rfl
    have hq62_ : (mv55 r 6).toInt = (M r 6).toInt := by rw [kq59_ r 6 (outl (lawin hr).1 rfl)]
    have hq63_ : (mv55 1 2).toInt = (M 1 2).toInt := by rw [kq59_ 1 2 (by decide)]
    have hq64_ := r_1_3 gq58_
    refine T_eq rfl l_0 (fun hq65_ => ?_) (fun hq65_ => ?_)
    · exact T_ret ⟨(i_rng (lo := 0) (hi := 1) l_0 (by omega) (by omega)), (by have e9 : ((0 : Int32)).toInt = _ := l_0; omega), hq61_, gq58_, kq60_⟩
    · have hq68_ := (show (a1 + (1 : Int32)).toInt = _ from (i_add rfl l_1 (by omega) (by omega)))
      refine T_qc (hF_X4_readSum (a1 + (1 : Int32)) mv55 gq58_ (i_rng (lo := 0) (hi := 6) (i_add rfl l_1 (by omega) (by omega)) (by omega) (by omega)) (by have e0 : (a1 + (1 : Int32)).toInt = _ := (i_add rfl l_1 (by omega) (by omega)); omega) (by have e0 : (a1 + (1 : Int32)).toInt = _ := (i_add rfl l_1 (by omega) (by omega)); omega)) ?_
      rintro rv66 mv67 ⟨hq69_, hq70_, hq71_, gq72_, kq73_⟩
      have hq74_ := r_1_2 gq58_
      have hq75_ := rw_0_6 hr gq58_
      have kq76_ := Sm.call kq60_ kq73_ rfl
      have hq77_ := Lf.tr (M := M) hq61_ hq71_
      have hq78_ : (mv67 1 2).toInt = (mv55 1 2).toInt := by rw [kq73_ 1 2 (by decide)]
      have hq79_ := r_1_3 gq72_
      have hq80_ := rw_0_6 hr gq72_
      have hq81_ := r_1_2 gq72_
      refine T_eq rfl l_0 (fun hq82_ => ?_) (fun hq82_ => ?_)
      · exact T_ret ⟨(i_rng (lo := 0) (hi := 1) l_0 (by omega) (by omega)), (by have e9 : ((0 : Int32)).toInt = _ := l_0; omega), hq77_, gq72_, kq76_⟩
      · have hq85_ := (show ((93 : Int32)).toInt = _ from l_93)
        refine T_qc (t_X9_mustTake hn (93 : Int32) mv67 gq72_ (i_rng (lo := 0) (hi := 255) l_93 (by omega) (by omega))) ?_
        rintro rv83 mv84 ⟨hq86_, hq87_, gq88_, kq89_⟩
        have kq90_ := Sm.call kq76_ kq89_ rfl
        have hq91_ := Lf.out hr (M0 := M) hq77_ kq89_ rfl
        have hq92_ : (mv84 r 6).toInt = (mv67 r 6).toInt := by rw [kq89_ r 6 (outl (lawin hr).1 rfl)]
        have hq93_ : (mv84 1 2).toInt = (mv67 1 2).toInt := by rw [kq89_ 1 2 (by decide)]
        have hq94_ := r_1_3 gq88_
        refine T_eq rfl l_0 (fun hq95_ => ?_) (fun hq95_ => ?_)
        · exact T_ret ⟨(i_rng (lo := 0) (hi := 1) l_0 (by omega) (by omega)), (by have e9 : ((0 : Int32)).toInt = _ := l_0; omega), hq91_, gq88_, kq90_⟩
        · exact T_ret ⟨(i_rng (lo := 0) (hi := 1) l_1 (by omega) (by omega)), (by have e9 : ((1 : Int32)).toInt = _ := l_1; omega), hq91_, gq88_, kq90_⟩
  · refine T_qc (t_X9_digit hn  M hG ) ?_
    rintro rv96 mv97 ⟨hq98_, hq99_, gq100_, kq101_⟩
    have hq102_ := kq101_.nil
    subst hq102_
    refine T_eq rfl l_m1 (fun hq103_ => ?_) (fun hq103_ => ?_)
    · exact (t_X4_readFactor_68 hn hr hF_X4_readSum) n rv45 (0 : Int32) M hG hS (i_rng (lo := 0) (hi := 12) l_0 (by omega) (by omega)) (by have e1 : ((0 : Int32)).toInt = _ := l_0; omega) Lf.rf (by omega) (by have e1 : ((0 : Int32)).toInt = _ := l_0; omega)
    · refine T_qc (t_X4_readNumber hn hr  M hG (by omega)) ?_
      rintro rv104 mv105 ⟨hq106_, hq107_, hq108_, gq109_, kq110_⟩
      have kq111_ := Sm.call hS kq110_ rfl
      have hq112_ := Lf.tr (M := M) Lf.rf hq108_
      have hq113_ : (mv105 1 2).toInt = (M 1 2).toInt := by rw [kq110_ 1 2 (by decide)]
      have hq114_ := r_1_3 gq109_
      have hq115_ := rw_0_6 hr gq109_
      have hq116_ := r_1_2 gq109_
      refine T_qb rfl (by omega) (by omega) ?_
      exact T_ret ⟨(i_rng (lo := 0) (hi := 1) rfl (by omega) (by omega)), (by have e9 : (rv104).toInt = _ := rfl; omega), hq112_, gq109_, kq111_⟩
theorem t_X4_readProduct_8 {n : Nat} (hn : 200000 ≤ n) {r : Nat} (hr : q_isLaw r) {B : Nat} {F_X4_readFactor : Int32 → qM → qR} (hF_X4_readFactor : ∀ (a1 : Int32) (M : qM), G M → 0 ≤ a1.toInt ∧ a1.toInt ≤ 6 → (M 1 3).toInt ≤ (M 1 2).toInt ∧ (M r 6).toInt ≤ (M 1 3).toInt → 3 * (6 - a1.toInt) + 0 < (B : Int) → qT (F_X4_readFactor a1 M) (po_X4_readFactor r a1 M)) {oa1 : Int32} {M0 : qM} : ∀ (m : Nat) (a1 a2 a3 : Int32) (M : qM), G M → Sm l_X4_readProduct M0 M → 0 ≤ a1.toInt ∧ a1.toInt ≤ 6 → 0 ≤ a2.toInt ∧ a2.toInt ≤ 1 → 0 ≤ a3.toInt ∧ a3.toInt ≤ 240 → (a2.toInt = 0 ∨ ((M0 1 3).toInt - (M0 r 6).toInt ≤ (M 1 3).toInt - (M r 6).toInt ∧ (M 1 3).toInt ≤ (M 1 2).toInt ∧ (M r 6).toInt ≤ (M 1 3).toInt)) → Lf r M0 M → 3 * (6 - a1.toInt) + 1 < (B : Int) + 1 → 240 - a3.toInt < (m : Int) → qT (f_X4_readProduct_8 n r F_X4_readFactor m a1 a2 a3 M) (po_X4_readProduct r oa1 M0) := by
  intro m
  induction m with
  | zero =>
    intro a1 a2 a3 M hG hS i0 i1 i2 hE hR i7 i8
    have hq1_ := r_1_3 hG
    have hq2_ := r_1_2 hG
    have hq3_ := rw_0_6 hr hG
    exfalso; omega
  | succ m ih =>
    intro a1 a2 a3 M hG hS i0 i1 i2 hE hR i7 i8
    show qT (b_X4_readProduct_8 n r F_X4_readFactor (f_X4_readProduct_8 n r F_X4_readFactor m) a1 a2 a3 M) _
    unfold b_X4_readProduct_8
    have hq1_ := r_1_3 hG
    have hq2_ := r_1_2 hG
    have hq3_ := rw_0_6 hr hG
    refine T_le l_240 rfl (fun hq4_ => ?_) (fun hq4_ => ?_)
    · refine T_qb rfl (by omega) (by omega) ?_
      exact T_ret ⟨(i_rng (lo := 0) (hi := 1) rfl (by omega) (by omega)), (by have e9 : (a2).toInt = _ := rfl; omega), hR, hG, hS⟩
    · refine T_eq rfl l_0 (fun hq5_ => ?_) (fun hq5_ => ?_)
      · refine T_qb rfl (by omega) (by omega) ?_
        exact T_ret ⟨(i_rng (lo := 0) (hi := 1) rfl (by omega) (by omega)), (by have e9 : (a2).toInt = _ := rfl; omega), hR, hG, hS⟩
      · refine T_qc (t_X9_sign hn  M hG ) ?_
        rintro rv6 mv7 ⟨hq8_, hq9_, gq10_, kq11_⟩
        have hq12_ := r_2 hG ((M 1 3).toNatClampNeg)
        have hq13_ := kq11_.nil
        subst hq13_
        refine T_eq rfl l_42 (fun hq14_ => ?_) (fun hq14_ => ?_)
        · unfold f_X4_readProduct_51
          refine T_mu hG hS (i_rng (lo := 0) (hi := 240) (i_add rfl l_1 (by omega) (by omega)) (by omega) (by omega)) (nw_1 _) (i := 0) rfl ⟨by decide, by decide, Or.inr ⟨by decide, by decide⟩⟩ ?_
          intro mv15 hq16_ gq17_ kq18_
          have hq19_ := Lf.mu hr (M0 := M0) hR hq16_ (by decide)
          have hq20_ : (mv15 1 2).toInt = (M 1 2).toInt := by rw [hq16_, mu_ne (Or.inr (by decide))]
          have hq21_ : (mv15 r 6).toInt = (M r 6).toInt := by rw [hq16_, mu_ne (Or.inl (lawne hr (by decide)).1)]
          have hq22_ : (mv15 1 3).toInt = ((M 1 3).toInt + 1) := by rw [hq16_, mu_at]; exact (i_add rfl l_1 (by omega) (by omega))
          refine T_qc (hF_X4_readFactor a1 mv15 gq17_ (i_rng (lo := 0) (hi := 6) rfl (by omega) (by omega)) (by omega) (by omega)) ?_
          rintro rv23 mv24 ⟨hq25_, hq26_, hq27_, gq28_, kq29_⟩
          have hq30_ := r_1_3 gq17_
          have hq31_ := r_1_2 gq17_
          have hq32_ := rw_0_6 hr gq17_
          have kq33_ := Sm.call kq18_ kq29_ rfl
          have hq34_ := Lf.tr (M := M0) hq19_ hq27_
          have hq35_ : (mv24 1 2).toInt = (mv15 1 2).toInt := by rw [kq29_ 1 2 (by decide)]
          have hq36_ := r_1_3 gq28_
          have hq37_ := rw_0_6 hr gq28_
          have hq38_ := r_1_2 gq28_
          have hq41_ := (show ((0 : Int32)).toInt = _ from l_0)
          refine T_qc (t_X3_add hn hr rv6 (0 : Int32) mv24 gq28_ (i_rng (lo := 0) (hi := 1000000) l_0 (by omega) (by omega)) (by have e1 : ((0 : Int32)).toInt = _ := l_0; omega)) ?_
          rintro rv39 mv40 ⟨hq42_, hq43_, hq44_, gq45_, kq46_⟩
          have kq47_ := Sm.call kq33_ kq46_ rfl
          have hq48_ := Lf.tr (M := M0) hq34_ hq44_
          have hq49_ : (mv40 1 2).toInt = (mv24 1 2).toInt := by rw [kq46_ 1 2 (by decide)]
          have hq50_ : (mv40 1 3).toInt = (mv24 1 3).toInt := by rw [kq46_ 1 3 (by decide)]
          have hq51_ := rw_0_6 hr gq45_
          refine T_ql (i_add rfl l_1 (by omega) (by omega)) ?_
          intro xv52 hq53_
          have hq54_ := r_1_3 gq45_
          have hq55_ := r_1_2 gq45_
          exact ih a1 rv23 xv52 mv40 gq45_ kq47_ (i_rng (lo := 0) (hi := 6) rfl (by omega) (by omega)) (i_rng (lo := 0) (hi := 1) rfl (by omega) (by omega)) (i_rng (lo := 0) (hi := 240) rfl (by omega) (by omega)) (by omega) hq48_ (by omega) (by omega)
        · refine T_eq rfl l_47 (fun hq56_ => ?_) (fun hq56_ => ?_)
          · unfold f_X4_readProduct_51
            refine T_mu hG hS (i_rng (lo := 0) (hi := 240) (i_add rfl l_1 (by omega) (by omega)) (by omega) (by omega)) (nw_1 _) (i := 0) rfl ⟨by decide, by decide, Or.inr ⟨by decide, by decide⟩⟩ ?_
            intro mv57 hq58_ gq59_ kq60_
            have hq61_ := Lf.mu hr (M0 := M0) hR hq58_ (by decide)
            have hq62_ : (mv57 1 2).toInt = (M 1 2).toInt := by rw [hq58_, mu_ne (Or.inr (by decide))]
            have hq63_ : (mv57 r 6).toInt = (M r 6).toInt := by rw [hq58_, mu_ne (Or.inl (lawne hr (by decide)).1)]
            have hq64_ : (mv57 1 3).toInt = ((M 1 3).toInt + 1) := by rw [hq58_, mu_at]; exact (i_add rfl l_1 (by omega) (by omega))
            refine T_qc (hF_X4_readFactor a1 mv57 gq59_ (i_rng (lo := 0) (hi := 6) rfl (by omega) (by omega)) (by omega) (by omega)) ?_
            rintro rv65 mv66 ⟨hq67_, hq68_, hq69_, gq70_, kq71_⟩
            have hq72_ := r_1_3 gq59_
            have hq73_ := r_1_2 gq59_
            have hq74_ := rw_0_6 hr gq59_
            have kq75_ := Sm.call kq60_ kq71_ rfl
            have hq76_ := Lf.tr (M := M0) hq61_ hq69_
            have hq77_ : (mv66 1 2).toInt = (mv57 1 2).toInt := by rw [kq71_ 1 2 (by decide)]
            have hq78_ := r_1_3 gq70_
            have hq79_ := rw_0_6 hr gq70_
            have hq80_ := r_1_2 gq70_
            have hq83_ := (show ((0 : Int32)).toInt = _ from l_0)
            refine T_qc (t_X3_add hn hr rv6 (0 : Int32) mv66 gq70_ (i_rng (lo := 0) (hi := 1000000) l_0 (by omega) (by omega)) (by have e1 : ((0 : Int32)).toInt = _ := l_0; omega)) ?_
            rintro rv81 mv82 ⟨hq84_, hq85_, hq86_, gq87_, kq88_⟩
            have kq89_ := Sm.call kq75_ kq88_ rfl
            have hq90_ := Lf.tr (M := M0) hq76_ hq86_
            have hq91_ : (mv82 1 2).toInt = (mv66 1 2).toInt := by rw [kq88_ 1 2 (by decide)]
            have hq92_ : (mv82 1 3).toInt = (mv66 1 3).toInt := by rw [kq88_ 1 3 (by decide)]
            have hq93_ := rw_0_6 hr gq87_
            refine T_ql (i_add rfl l_1 (by omega) (by omega)) ?_
            intro xv94 hq95_
            have hq96_ := r_1_3 gq87_
            have hq97_ := r_1_2 gq87_
            exact ih a1 rv65 xv94 mv82 gq87_ kq89_ (i_rng (lo := 0) (hi := 6) rfl (by omega) (by omega)) (i_rng (lo := 0) (hi := 1) rfl (by omega) (by omega)) (i_rng (lo := 0) (hi := 240) rfl (by omega) (by omega)) (by omega) hq90_ (by omega) (by omega)
          · refine T_eq rfl l_37 (fun hq98_ => ?_) (fun hq98_ => ?_)
            · unfold f_X4_readProduct_51
              refine T_mu hG hS (i_rng (lo := 0) (hi := 240) (i_add rfl l_1 (by omega) (by omega)) (by omega) (by omega)) (nw_1 _) (i := 0) rfl ⟨by decide, by decide, Or.inr ⟨by decide, by decide⟩⟩ ?_
              intro mv99 hq100_ gq101_ kq102_
              have hq103_ := Lf.mu hr (M0 := M0) hR hq100_ (by decide)
              have hq104_ : (mv99 1 2).toInt = (M 1 2).toInt := by rw [hq100_, mu_ne (Or.inr (by decide))]
              have hq105_ : (mv99 r 6).toInt = (M r 6).toInt := by rw [hq100_, mu_ne (Or.inl (lawne hr (by decide)).1)]
              have hq106_ : (mv99 1 3).toInt = ((M 1 3).toInt + 1) := by rw [hq100_, mu_at]; exact (i_add rfl l_1 (by omega) (by omega))
              refine T_qc (hF_X4_readFactor a1 mv99 gq101_ (i_rng (lo := 0) (hi := 6) rfl (by omega) (by omega)) (by omega) (by omega)) ?_
              rintro rv107 mv108 ⟨hq109_, hq110_, hq111_, gq112_, kq113_⟩
              have hq114_ := r_1_3 gq101_
              have hq115_ := r_1_2 gq101_
              have hq116_ := rw_0_6 hr gq101_
              have kq117_ := Sm.call kq102_ kq113_ rfl
              have hq118_ := Lf.tr (M := M0) hq103_ hq111_
              have hq119_ : (mv108 1 2).toInt = (mv99 1 2).toInt := by rw [kq113_ 1 2 (by decide)]
              have hq120_ := r_1_3 gq112_
              have hq121_ := rw_0_6 hr gq112_
              have hq122_ := r_1_2 gq112_
              have hq125_ := (show ((0 : Int32)).toInt = _ from l_0)
              refine T_qc (t_X3_add hn hr rv6 (0 : Int32) mv108 gq112_ (i_rng (lo := 0) (hi := 1000000) l_0 (by omega) (by omega)) (by have e1 : ((0 : Int32)).toInt = _ := l_0; omega)) ?_
              rintro rv123 mv124 ⟨hq126_, hq127_, hq128_, gq129_, kq130_⟩
              have kq131_ := Sm.call kq117_ kq130_ rfl
              have hq132_ := Lf.tr (M := M0) hq118_ hq128_
              have hq133_ : (mv124 1 2).toInt = (mv108 1 2).toInt := by rw [kq130_ 1 2 (by decide)]
              have hq134_ : (mv124 1 3).toInt = (mv108 1 3).toInt := by rw [kq130_ 1 3 (by decide)]
              have hq135_ := rw_0_6 hr gq129_
              refine T_ql (i_add rfl l_1 (by omega) (by omega)) ?_
              intro xv136 hq137_
              have hq138_ := r_1_3 gq129_
              have hq139_ := r_1_2 gq129_
              exact ih a1 rv107 xv136 mv124 gq129_ kq131_ (i_rng (lo := 0) (hi := 6) rfl (by omega) (by omega)) (i_rng (lo := 0) (hi := 1) rfl (by omega) (by omega)) (i_rng (lo := 0) (hi := 240) rfl (by omega) (by omega)) (by omega) hq132_ (by omega) (by omega)
            · exact T_ret ⟨(i_rng (lo := 0) (hi := 1) l_1 (by omega) (by omega)), (by have e9 : ((1 : Int32)).toInt = _ := l_1; omega), hR, hG, hS⟩
theorem to_X4_readProduct {n : Nat} (hn : 200000 ≤ n) {r : Nat} (hr : q_isLaw r) {B : Nat} {F_X4_readFactor : Int32 → qM → qR} (hF_X4_readFactor : ∀ (a1 : Int32) (M : qM), G M → 0 ≤ a1.toInt ∧ a1.toInt ≤ 6 → (M 1 3).toInt ≤ (M 1 2).toInt ∧ (M r 6).toInt ≤ (M 1 3).toInt → 3 * (6 - a1.toInt) + 0 < (B : Int) → qT (F_X4_readFactor a1 M) (po_X4_readFactor r a1 M)) (a1 : Int32) (M : qM) (hG : G M) (pa1 : 0 ≤ a1.toInt ∧ a1.toInt ≤ 6) (pe : (M 1 3).toInt ≤ (M 1 2).toInt ∧ (M r 6).toInt ≤ (M 1 3).toInt) (hb : 3 * (6 - a1.toInt) + 1 < (B : Int) + 1) : qT (fo_X4_readProduct n r F_X4_readFactor a1 M) (po_X4_readProduct r a1 M) := by
  have hS : Sm l_X4_readProduct M M := Sm.rf
  unfold fo_X4_readProduct
  have hq140_ := r_1_3 hG
  have hq141_ := r_1_2 hG
  have hq142_ := rw_0_6 hr hG
  refine T_qc (hF_X4_readFactor a1 M hG (i_rng (lo := 0) (hi := 6) rfl (by omega) (by omega)) (by omega) (by omega)) ?_
  rintro rv143 mv144 ⟨hq145_, hq146_, hq147_, gq148_, kq149_⟩
  have kq150_ := Sm.call hS kq149_ rfl
  have hq151_ := Lf.tr (M := M) Lf.rf hq147_
  have hq152_ : (mv144 1 2).toInt = (M 1 2).toInt := by rw [kq149_ 1 2 (by decide)]
  have hq153_ := r_1_3 gq148_
  have hq154_ := rw_0_6 hr gq148_
  have hq155_ := r_1_2 gq148_
  exact (t_X4_readProduct_8 hn hr hF_X4_readFactor) n a1 rv143 (0 : Int32) mv144 gq148_ kq150_ (i_rng (lo := 0) (hi := 6) rfl (by omega) (by omega)) (i_rng (lo := 0) (hi := 1) rfl (by omega) (by omega)) (i_rng (lo := 0) (hi := 240) l_0 (by omega) (by omega)) (by have e2 : ((0 : Int32)).toInt = _ := l_0; omega) hq151_ (by omega) (by have e2 : ((0 : Int32)).toInt = _ := l_0; omega)
theorem t_X4_readSum_8 {n : Nat} (hn : 200000 ≤ n) {r : Nat} (hr : q_isLaw r) {B : Nat} {F_X4_readProduct : Int32 → qM → qR} (hF_X4_readProduct : ∀ (a1 : Int32) (M : qM), G M → 0 ≤ a1.toInt ∧ a1.toInt ≤ 6 → (M 1 3).toInt ≤ (M 1 2).toInt ∧ (M r 6).toInt ≤ (M 1 3).toInt → 3 * (6 - a1.toInt) + 1 < (B : Int) → qT (F_X4_readProduct a1 M) (po_X4_readProduct r a1 M)) {oa1 : Int32} {M0 : qM} : ∀ (m : Nat) (a1 a2 a3 : Int32) (M : qM), G M → Sm l_X4_readSum M0 M → 0 ≤ a1.toInt ∧ a1.toInt ≤ 6 → 0 ≤ a2.toInt ∧ a2.toInt ≤ 1 → 0 ≤ a3.toInt ∧ a3.toInt ≤ 240 → (a2.toInt = 0 ∨ ((M0 1 3).toInt - (M0 r 6).toInt ≤ (M 1 3).toInt - (M r 6).toInt ∧ (M 1 3).toInt ≤ (M 1 2).toInt ∧ (M r 6).toInt ≤ (M 1 3).toInt)) → Lf r M0 M → 3 * (6 - a1.toInt) + 2 < (B : Int) + 1 → 240 - a3.toInt < (m : Int) → qT (f_X4_readSum_8 n r F_X4_readProduct m a1 a2 a3 M) (po_X4_readSum r oa1 M0) := by
  intro m
  induction m with
  | zero =>
    intro a1 a2 a3 M hG hS i0 i1 i2 hE hR i7 i8
    have hq1_ := r_1_3 hG
    have hq2_ := r_1_2 hG
    have hq3_ := rw_0_6 hr hG
    exfalso; omega
  | succ m ih =>
    intro a1 a2 a3 M hG hS i0 i1 i2 hE hR i7 i8
    show qT (b_X4_readSum_8 n r F_X4_readProduct (f_X4_readSum_8 n r F_X4_readProduct m) a1 a2 a3 M) _
    unfold b_X4_readSum_8
    have hq1_ := r_1_3 hG
    have hq2_ := r_1_2 hG
    have hq3_ := rw_0_6 hr hG
    refine T_le l_240 rfl (fun hq4_ => ?_) (fun hq4_ => ?_)
    · refine T_qb rfl (by omega) (by omega) ?_
      exact T_ret ⟨(i_rng (lo := 0) (hi := 1) rfl (by omega) (by omega)), (by have e9 : (a2).toInt = _ := rfl; omega), hR, hG, hS⟩
    · refine T_eq rfl l_0 (fun hq5_ => ?_) (fun hq5_ => ?_)
      · refine T_qb rfl (by omega) (by omega) ?_
        exact T_ret ⟨(i_rng (lo := 0) (hi := 1) rfl (by omega) (by omega)), (by have e9 : (a2).toInt = _ := rfl; omega), hR, hG, hS⟩
      · refine T_qc (t_X9_sign hn  M hG ) ?_
        rintro rv6 mv7 ⟨hq8_, hq9_, gq10_, kq11_⟩
        have hq12_ := r_2 hG ((M 1 3).toNatClampNeg)
        have hq13_ := kq11_.nil
        subst hq13_
        refine T_eq rfl l_43 (fun hq14_ => ?_) (fun hq14_ => ?_)
        · unfold f_X4_readSum_44
          refine T_mu hG hS (i_rng (lo := 0) (hi := 240) (i_add rfl l_1 (by omega) (by omega)) (by omega) (by omega)) (nw_1 _) (i := 0) rfl ⟨by decide, by decide, Or.inr ⟨by decide, by decide⟩⟩ ?_
          intro mv15 hq16_ gq17_ kq18_
          have hq19_ := Lf.mu hr (M0 := M0) hR hq16_ (by decide)
          have hq20_ : (mv15 1 2).toInt = (M 1 2).toInt := by rw [hq16_, mu_ne (Or.inr (by decide))]
          have hq21_ : (mv15 r 6).toInt = (M r 6).toInt := by rw [hq16_, mu_ne (Or.inl (lawne hr (by decide)).1)]
          have hq22_ : (mv15 1 3).toInt = ((M 1 3).toInt + 1) := by rw [hq16_, mu_at]; exact (i_add rfl l_1 (by omega) (by omega))
          refine T_qc (hF_X4_readProduct a1 mv15 gq17_ (i_rng (lo := 0) (hi := 6) rfl (by omega) (by omega)) (by omega) (by omega)) ?_
          rintro rv23 mv24 ⟨hq25_, hq26_, hq27_, gq28_, kq29_⟩
          have hq30_ := r_1_3 gq17_
          have hq31_ := r_1_2 gq17_
          have hq32_ := rw_0_6 hr gq17_
          have kq33_ := Sm.call kq18_ kq29_ rfl
          have hq34_ := Lf.tr (M := M0) hq19_ hq27_
          have hq35_ : (mv24 1 2).toInt = (mv15 1 2).toInt := by rw [kq29_ 1 2 (by decide)]
          have hq36_ := r_1_3 gq28_
          have hq37_ := rw_0_6 hr gq28_
          have hq38_ := r_1_2 gq28_
          have hq41_ := (show ((0 : Int32)).toInt = _ from l_0)
          refine T_qc (t_X3_add hn hr rv6 (0 : Int32) mv24 gq28_ (i_rng (lo := 0) (hi := 1000000) l_0 (by omega) (by omega)) (by have e1 : ((0 : Int32)).toInt = _ := l_0; omega)) ?_
          rintro rv39 mv40 ⟨hq42_, hq43_, hq44_, gq45_, kq46_⟩
          have kq47_ := Sm.call kq33_ kq46_ rfl
          have hq48_ := Lf.tr (M := M0) hq34_ hq44_
          have hq49_ : (mv40 1 2).toInt = (mv24 1 2).toInt := by rw [kq46_ 1 2 (by decide)]
          have hq50_ : (mv40 1 3).toInt = (mv24 1 3).toInt := by rw [kq46_ 1 3 (by decide)]
          have hq51_ := rw_0_6 hr gq45_
          refine T_ql (i_add rfl l_1 (by omega) (by omega)) ?_
          intro xv52 hq53_
          have hq54_ := r_1_3 gq45_
          have hq55_ := r_1_2 gq45_
          exact ih a1 rv23 xv52 mv40 gq45_ kq47_ (i_rng (lo := 0) (hi := 6) rfl (by omega) (by omega)) (i_rng (lo := 0) (hi := 1) rfl (by omega) (by omega)) (i_rng (lo := 0) (hi := 240) rfl (by omega) (by omega)) (by omega) hq48_ (by omega) (by omega)
        · refine T_eq rfl l_45 (fun hq56_ => ?_) (fun hq56_ => ?_)
          · unfold f_X4_readSum_44
            refine T_mu hG hS (i_rng (lo := 0) (hi := 240) (i_add rfl l_1 (by omega) (by omega)) (by omega) (by omega)) (nw_1 _) (i := 0) rfl ⟨by decide, by decide, Or.inr ⟨by decide, by decide⟩⟩ ?_
            intro mv57 hq58_ gq59_ kq60_
            have hq61_ := Lf.mu hr (M0 := M0) hR hq58_ (by decide)
            have hq62_ : (mv57 1 2).toInt = (M 1 2).toInt := by rw [hq58_, mu_ne (Or.inr (by decide))]
            have hq63_ : (mv57 r 6).toInt = (M r 6).toInt := by rw [hq58_, mu_ne (Or.inl (lawne hr (by decide)).1)]
            have hq64_ : (mv57 1 3).toInt = ((M 1 3).toInt + 1) := by rw [hq58_, mu_at]; exact (i_add rfl l_1 (by omega) (by omega))
            refine T_qc (hF_X4_readProduct a1 mv57 gq59_ (i_rng (lo := 0) (hi := 6) rfl (by omega) (by omega)) (by omega) (by omega)) ?_
            rintro rv65 mv66 ⟨hq67_, hq68_, hq69_, gq70_, kq71_⟩
            have hq72_ := r_1_3 gq59_
            have hq73_ := r_1_2 gq59_
            have hq74_ := rw_0_6 hr gq59_
            have kq75_ := Sm.call kq60_ kq71_ rfl
            have hq76_ := Lf.tr (M := M0) hq61_ hq69_
            have hq77_ : (mv66 1 2).toInt = (mv57 1 2).toInt := by rw [kq71_ 1 2 (by decide)]
            have hq78_ := r_1_3 gq70_
            have hq79_ := rw_0_6 hr gq70_
            have hq80_ := r_1_2 gq70_
            have hq83_ := (show ((0 : Int32)).toInt = _ from l_0)
            refine T_qc (t_X3_add hn hr rv6 (0 : Int32) mv66 gq70_ (i_rng (lo := 0) (hi := 1000000) l_0 (by omega) (by omega)) (by have e1 : ((0 : Int32)).toInt = _ := l_0; omega)) ?_
            rintro rv81 mv82 ⟨hq84_, hq85_, hq86_, gq87_, kq88_⟩
            have kq89_ := Sm.call kq75_ kq88_ rfl
            have hq90_ := Lf.tr (M := M0) hq76_ hq86_
            have hq91_ : (mv82 1 2).toInt = (mv66 1 2).toInt := by rw [kq88_ 1 2 (by decide)]
            have hq92_ : (mv82 1 3).toInt = (mv66 1 3).toInt := by rw [kq88_ 1 3 (by decide)]
            have hq93_ := rw_0_6 hr gq87_
            refine T_ql (i_add rfl l_1 (by omega) (by omega)) ?_
            intro xv94 hq95_
            have hq96_ := r_1_3 gq87_
            have hq97_ := r_1_2 gq87_
            exact ih a1 rv65 xv94 mv82 gq87_ kq89_ (i_rng (lo := 0) (hi := 6) rfl (by omega) (by omega)) (i_rng (lo := 0) (hi := 1) rfl (by omega) (by omega)) (i_rng (lo := 0) (hi := 240) rfl (by omega) (by omega)) (by omega) hq90_ (by omega) (by omega)
          · exact T_ret ⟨(i_rng (lo := 0) (hi := 1) l_1 (by omega) (by omega)), (by have e9 : ((1 : Int32)).toInt = _ := l_1; omega), hR, hG, hS⟩
theorem to_X4_readSum {n : Nat} (hn : 200000 ≤ n) {r : Nat} (hr : q_isLaw r) {B : Nat} {F_X4_readProduct : Int32 → qM → qR} (hF_X4_readProduct : ∀ (a1 : Int32) (M : qM), G M → 0 ≤ a1.toInt ∧ a1.toInt ≤ 6 → (M 1 3).toInt ≤ (M 1 2).toInt ∧ (M r 6).toInt ≤ (M 1 3).toInt → 3 * (6 - a1.toInt) + 1 < (B : Int) → qT (F_X4_readProduct a1 M) (po_X4_readProduct r a1 M)) (a1 : Int32) (M : qM) (hG : G M) (pa1 : 0 ≤ a1.toInt ∧ a1.toInt ≤ 6) (pe : (M 1 3).toInt ≤ (M 1 2).toInt ∧ (M r 6).toInt ≤ (M 1 3).toInt) (hb : 3 * (6 - a1.toInt) + 2 < (B : Int) + 1) : qT (fo_X4_readSum n r F_X4_readProduct a1 M) (po_X4_readSum r a1 M) := by
  have hS : Sm l_X4_readSum M M := Sm.rf
  unfold fo_X4_readSum
  have hq98_ := r_1_3 hG
  have hq99_ := r_1_2 hG
  have hq100_ := rw_0_6 hr hG
  refine T_qc (hF_X4_readProduct a1 M hG (i_rng (lo := 0) (hi := 6) rfl (by omega) (by omega)) (by omega) (by omega)) ?_
  rintro rv101 mv102 ⟨hq103_, hq104_, hq105_, gq106_, kq107_⟩
  have kq108_ := Sm.call hS kq107_ rfl
  have hq109_ := Lf.tr (M := M) Lf.rf hq105_
  have hq110_ : (mv102 1 2).toInt = (M 1 2).toInt := by rw [kq107_ 1 2 (by decide)]
  have hq111_ := r_1_3 gq106_
  have hq112_ := rw_0_6 hr gq106_
  have hq113_ := r_1_2 gq106_
  exact (t_X4_readSum_8 hn hr hF_X4_readProduct) n a1 rv101 (0 : Int32) mv102 gq106_ kq108_ (i_rng (lo := 0) (hi := 6) rfl (by omega) (by omega)) (i_rng (lo := 0) (hi := 1) rfl (by omega) (by omega)) (i_rng (lo := 0) (hi := 240) l_0 (by omega) (by omega)) (by have e2 : ((0 : Int32)).toInt = _ := l_0; omega) hq109_ (by omega) (by have e2 : ((0 : Int32)).toInt = _ := l_0; omega)
theorem trc_X4_readFactor {n : Nat} (hn : 200000 ≤ n) {r : Nat} (hr : q_isLaw r) : ∀ m : Nat, (∀ (a1 : Int32) (M : qM), G M → 0 ≤ a1.toInt ∧ a1.toInt ≤ 6 → (M 1 3).toInt ≤ (M 1 2).toInt ∧ (M r 6).toInt ≤ (M 1 3).toInt → 3 * (6 - a1.toInt) + 0 < (m : Int) → qT (rc_X4_readFactor n r m 0 a1 M) (po_X4_readFactor r a1 M)) ∧ (∀ (a1 : Int32) (M : qM), G M → 0 ≤ a1.toInt ∧ a1.toInt ≤ 6 → (M 1 3).toInt ≤ (M 1 2).toInt ∧ (M r 6).toInt ≤ (M 1 3).toInt → 3 * (6 - a1.toInt) + 1 < (m : Int) → qT (rc_X4_readFactor n r m 1 a1 M) (po_X4_readProduct r a1 M)) ∧ (∀ (a1 : Int32) (M : qM), G M → 0 ≤ a1.toInt ∧ a1.toInt ≤ 6 → (M 1 3).toInt ≤ (M 1 2).toInt ∧ (M r 6).toInt ≤ (M 1 3).toInt → 3 * (6 - a1.toInt) + 2 < (m : Int) → qT (rc_X4_readFactor n r m 2 a1 M) (po_X4_readSum r a1 M)) := by
  intro m
  induction m with
  | zero =>
    exact ⟨(fun a1 M q0 q1 q2 q3 => by exfalso; omega), (fun a1 M q0 q1 q2 q3 => by exfalso; omega), (fun a1 M q0 q1 q2 q3 => by exfalso; omega)⟩
  | succ m ih =>
    refine ⟨?_, ?_, ?_⟩
    · exact fun a1 M q0 q1 q2 q3 => to_X4_readFactor hn hr (B := m) (ih.2.2) a1 M q0 q1 q2 (by omega)
    · exact fun a1 M q0 q1 q2 q3 => to_X4_readProduct hn hr (B := m) (ih.1) a1 M q0 q1 q2 (by omega)
    · exact fun a1 M q0 q1 q2 q3 => to_X4_readSum hn hr (B := m) (ih.2.1) a1 M q0 q1 q2 (by omega)
theorem t_X4_readFactor {n : Nat} (hn : 200000 ≤ n) {r : Nat} (hr : q_isLaw r) (a1 : Int32) (M : qM) (hG : G M) (pa1 : 0 ≤ a1.toInt ∧ a1.toInt ≤ 6) (pe : (M 1 3).toInt ≤ (M 1 2).toInt ∧ (M r 6).toInt ≤ (M 1 3).toInt) : qT (f_X4_readFactor n r a1 M) (po_X4_readFactor r a1 M) := by
  unfold f_X4_readFactor
  exact (trc_X4_readFactor hn hr 30).1 a1 M hG pa1 pe (by omega)
theorem t_X4_readProduct {n : Nat} (hn : 200000 ≤ n) {r : Nat} (hr : q_isLaw r) (a1 : Int32) (M : qM) (hG : G M) (pa1 : 0 ≤ a1.toInt ∧ a1.toInt ≤ 6) (pe : (M 1 3).toInt ≤ (M 1 2).toInt ∧ (M r 6).toInt ≤ (M 1 3).toInt) : qT (f_X4_readProduct n r a1 M) (po_X4_readProduct r a1 M) := by
  unfold f_X4_readProduct
  exact (trc_X4_readFactor hn hr 30).2.1 a1 M hG pa1 pe (by omega)
theorem t_X4_readSum {n : Nat} (hn : 200000 ≤ n) {r : Nat} (hr : q_isLaw r) (a1 : Int32) (M : qM) (hG : G M) (pa1 : 0 ≤ a1.toInt ∧ a1.toInt ≤ 6) (pe : (M 1 3).toInt ≤ (M 1 2).toInt ∧ (M r 6).toInt ≤ (M 1 3).toInt) : qT (f_X4_readSum n r a1 M) (po_X4_readSum r a1 M) := by
  unfold f_X4_readSum
  exact (trc_X4_readFactor hn hr 30).2.2 a1 M hG pa1 pe (by omega)
