abbrev l_X8_goThrough : List Bx := [(34, 35, 4, 5), (35, 37, 0, 0), (70, 71, 10, 12), (72, 73, 0, 0), (75, 77, 0, 0)]
abbrev po_X8_goThrough (a1 a2 : Int32) (M : qM) (v : Int32) (M' : qM) : Prop := (0 ≤ v.toInt ∧ v.toInt ≤ 0) ∧ G M' ∧ Sm l_X8_goThrough M M'
theorem t_X8_goThrough_110 {n : Nat} (hn : 200000 ≤ n) {j : Nat} (hj : q_isLaw j) {oa1 oa2 : Int32} {M0 : qM} {K57 : Int32 → Int32 → qM → qR} {BK57 : Nat} (hK57 : ∀ (a1 a3 : Int32) (M : qM), G M → Sm l_X8_goThrough M0 M → 0 ≤ a1.toInt ∧ a1.toInt ≤ 9 → (-2147483633) ≤ a3.toInt ∧ a3.toInt ≤ 256 → 256 - a3.toInt < (BK57 : Int) → qT (K57 a1 a3 M) (po_X8_goThrough oa1 oa2 M0)) : ∀ (m : Nat) (a1 a3 a4 : Int32) (M : qM), G M → Sm l_X8_goThrough M0 M → 0 ≤ a1.toInt ∧ a1.toInt ≤ 9 → (-2147483634) ≤ a3.toInt ∧ a3.toInt ≤ 255 → 0 ≤ a4.toInt ∧ a4.toInt ≤ 4 → 256 - a3.toInt < (BK57 : Int) + 1 → 4 - a4.toInt < (m : Int) → qT (f_X8_goThrough_110 n j K57 m a1 a3 a4 M) (po_X8_goThrough oa1 oa2 M0) := by
  intro m
  induction m with
  | zero =>
    intro a1 a3 a4 M hG hS i0 i1 i2 i3 i4
    exfalso; omega
  | succ m ih =>
    intro a1 a3 a4 M hG hS i0 i1 i2 i3 i4
    show qT (b_X8_goThrough_110 n j K57 (f_X8_goThrough_110 n j K57 m) a1 a3 a4 M) _
    unfold b_X8_goThrough_110
    have hq18_ := r_70_8 hG
    refine T_le rfl rfl (fun hq19_ => ?_) (fun hq19_ => ?_)
    · refine T_ql (i_add rfl l_1 (by omega) (by omega)) ?_
      intro xv20 hq21_
      exact hK57 a1 xv20 M hG hS (i_rng (lo := 0) (hi := 9) rfl (by omega) (by omega)) (i_rng (lo := (-2147483633)) (hi := 256) rfl (by omega) (by omega)) (by omega)
    · refine T_qg rfl (by omega) (by omega) ?_
      refine T_qc (t_X8_old hn a4 M hG (i_rng (lo := 0) (hi := 3) rfl (by omega) (by omega))) ?_
      rintro rv22 mv23 ⟨gq24_, kq25_⟩
      have hq26_ := kq25_.nil
      subst hq26_
      refine T_lt rfl rfl (fun hq27_ => ?_) (fun hq27_ => ?_)
      · unfold f_X8_goThrough_142
        refine T_qg rfl (by omega) (by omega) ?_
        have hq29_ := i_full (M 76 a4.toNatClampNeg)
        refine T_mu hG hS (rn_76 _ _) (nw_76 _) (i := 4) rfl ⟨by decide, by decide, Or.inl rfl⟩ ?_
        intro mv28 hq30_ gq31_ kq32_
        have hq33_ : (mv28 70 8).toInt = (M 70 8).toInt := by rw [hq30_, mu_ne (Or.inl (by decide))]
        have hq34_ : (mv28 76 a4.toNatClampNeg).toInt = ((M 76 a4.toNatClampNeg).toInt + 0) := by rw [hq30_, mu_at]; exact (i_add rfl l_0 (by omega) (by omega))
        refine T_ql (i_add rfl l_1 (by omega) (by omega)) ?_
        intro xv35 hq36_
        exact ih a1 a3 xv35 mv28 gq31_ kq32_ (i_rng (lo := 0) (hi := 9) rfl (by omega) (by omega)) (i_rng (lo := (-2147483634)) (hi := 255) rfl (by omega) (by omega)) (i_rng (lo := 0) (hi := 4) rfl (by omega) (by omega)) (by omega) (by omega)
      · unfold f_X8_goThrough_142
        refine T_qg rfl (by omega) (by omega) ?_
        have hq38_ := i_full (M 76 a4.toNatClampNeg)
        refine T_mu hG hS (rn_76 _ _) (nw_76 _) (i := 4) rfl ⟨by decide, by decide, Or.inl rfl⟩ ?_
        intro mv37 hq39_ gq40_ kq41_
        have hq42_ : (mv37 70 8).toInt = (M 70 8).toInt := by rw [hq39_, mu_ne (Or.inl (by decide))]
        have hq43_ : (mv37 76 a4.toNatClampNeg).toInt = ((M 76 a4.toNatClampNeg) + (1 : Int32)).toInt := by rw [hq39_, mu_at]
        refine T_ql (i_add rfl l_1 (by omega) (by omega)) ?_
        intro xv44 hq45_
        exact ih a1 a3 xv44 mv37 gq40_ kq41_ (i_rng (lo := 0) (hi := 9) rfl (by omega) (by omega)) (i_rng (lo := (-2147483634)) (hi := 255) rfl (by omega) (by omega)) (i_rng (lo := 0) (hi := 4) rfl (by omega) (by omega)) (by omega) (by omega)
theorem t_X8_goThrough_57 {n : Nat} (hn : 200000 ≤ n) {j : Nat} (hj : q_isLaw j) {oa1 oa2 : Int32} {M0 : qM} : ∀ (m : Nat) (a1 a3 : Int32) (M : qM), G M → Sm l_X8_goThrough M0 M → 0 ≤ a1.toInt ∧ a1.toInt ≤ 9 → (-2147483633) ≤ a3.toInt ∧ a3.toInt ≤ 256 → 256 - a3.toInt < (m : Int) → qT (f_X8_goThrough_57 n j m a1 a3 M) (po_X8_goThrough oa1 oa2 M0) := by
  intro m
  induction m with
  | zero =>
    intro a1 a3 M hG hS i0 i1 i2
    exfalso; omega
  | succ m ih =>
    intro a1 a3 M hG hS i0 i1 i2
    show qT (b_X8_goThrough_57 n j (f_X8_goThrough_57 n j m) a1 a3 M) _
    unfold b_X8_goThrough_57
    have hq53_ := r_70_8 hG
    have hq54_ := i_shl1 (c := 8) (k := (2 : Int32) * (M 70 8)) (by decide) (i_mul l_2 rfl (by omega) (by omega)) (by omega) (by omega)
    refine T_le rfl rfl (fun hq55_ => ?_) (fun hq55_ => ?_)
    · exact T_ret ⟨(i_rng (lo := 0) (hi := 0) l_0 (by omega) (by omega)), hG, hS⟩
    · refine T_qc (t_X8_fits hn a3 a1 M hG (i_rng (lo := (-2147483634)) (hi := 255) rfl (by omega) (by omega)) (i_rng (lo := 0) (hi := 9) rfl (by omega) (by omega))) ?_
      rintro rv56 mv57 ⟨hq58_, gq59_, kq60_⟩
      have kq61_ := Sm.call hS kq60_ rfl
      refine T_eq rfl l_0 (fun hq62_ => ?_) (fun hq62_ => ?_)
      · refine T_ql (i_add rfl l_1 (by omega) (by omega)) ?_
        intro xv63 hq64_
        exact ih a1 xv63 mv57 gq59_ kq61_ (i_rng (lo := 0) (hi := 9) rfl (by omega) (by omega)) (i_rng (lo := (-2147483633)) (hi := 256) rfl (by omega) (by omega)) (by omega)
      · refine T_eq rfl l_0 (fun hq65_ => ?_) (fun hq65_ => ?_)
        · unfold f_X8_goThrough_94
          refine T_mu gq59_ kq61_ (rn_70_11 _) (nw_70 _) (i := 2) rfl ⟨by decide, by decide, Or.inr ⟨by decide, by decide⟩⟩ ?_
          intro mv66 hq67_ gq68_ kq69_
          have hq70_ : (mv66 70 10).toInt = (mv57 70 10).toInt := by rw [hq67_, mu_ne (Or.inr (by decide))]
          have hq71_ : (mv66 70 11).toInt = a3.toInt := by rw [hq67_, mu_at]
          refine T_mu gq68_ kq69_ (rn_70_10 _) (nw_70 _) (i := 2) rfl ⟨by decide, by decide, Or.inr ⟨by decide, by decide⟩⟩ ?_
          intro mv72 hq73_ gq74_ kq75_
          have hq76_ : (mv72 70 11).toInt = (mv66 70 11).toInt := by rw [hq73_, mu_ne (Or.inr (by decide))]
          have hq77_ : (mv72 70 10).toInt = ((mv66 70 10).toInt + 1) := by rw [hq73_, mu_at]; exact (i_add rfl l_1 (by omega) (by omega))
          exact (t_X8_goThrough_110 hn hj ih) n a1 a3 (0 : Int32) mv72 gq74_ kq75_ (i_rng (lo := 0) (hi := 9) rfl (by omega) (by omega)) (i_rng (lo := (-2147483634)) (hi := 255) rfl (by omega) (by omega)) (i_rng (lo := 0) (hi := 4) l_0 (by omega) (by omega)) (by omega) (by have e2 : ((0 : Int32)).toInt = _ := l_0; omega)
        · unfold f_X8_goThrough_94
          refine T_mu gq59_ kq61_ (rn_70_11 _) (nw_70 _) (i := 2) rfl ⟨by decide, by decide, Or.inr ⟨by decide, by decide⟩⟩ ?_
          intro mv78 hq79_ gq80_ kq81_
          have hq82_ : (mv78 70 10).toInt = (mv57 70 10).toInt := by rw [hq79_, mu_ne (Or.inr (by decide))]
          have hq83_ : (mv78 70 11).toInt = (mv57 70 11).toInt := by rw [hq79_, mu_at]
          have hq85_ := i_full (mv78 70 10)
          refine T_mu gq80_ kq81_ (rn_70_10 _) (nw_70 _) (i := 2) rfl ⟨by decide, by decide, Or.inr ⟨by decide, by decide⟩⟩ ?_
          intro mv84 hq86_ gq87_ kq88_
          have hq89_ : (mv84 70 11).toInt = (mv78 70 11).toInt := by rw [hq86_, mu_ne (Or.inr (by decide))]
          have hq90_ : (mv84 70 10).toInt = ((mv78 70 10) + (1 : Int32)).toInt := by rw [hq86_, mu_at]
          exact (t_X8_goThrough_110 hn hj ih) n a1 a3 (0 : Int32) mv84 gq87_ kq88_ (i_rng (lo := 0) (hi := 9) rfl (by omega) (by omega)) (i_rng (lo := (-2147483634)) (hi := 255) rfl (by omega) (by omega)) (i_rng (lo := 0) (hi := 4) l_0 (by omega) (by omega)) (by omega) (by have e2 : ((0 : Int32)).toInt = _ := l_0; omega)
theorem t_X8_goThrough_21 {n : Nat} (hn : 200000 ≤ n) {j : Nat} (hj : q_isLaw j) {oa1 oa2 : Int32} {M0 : qM} : ∀ (m : Nat) (a1 a2 a3 : Int32) (M : qM), G M → Sm l_X8_goThrough M0 M → 0 ≤ a1.toInt ∧ a1.toInt ≤ 9 → 0 ≤ a3.toInt ∧ a3.toInt ≤ 4 → 4 - a3.toInt < (m : Int) → qT (f_X8_goThrough_21 n j m a1 a2 a3 M) (po_X8_goThrough oa1 oa2 M0) := by
  sorry
theorem t_X8_goThrough {n : Nat} (hn : 200000 ≤ n) {j : Nat} (hj : q_isLaw j) (a1 a2 : Int32) (M : qM) (hG : G M) (pa1 : 0 ≤ a1.toInt ∧ a1.toInt ≤ 9) : qT (f_X8_goThrough n j a1 a2 M) (po_X8_goThrough a1 a2 M) := by
  have hS : Sm l_X8_goThrough M M := Sm.rf
  unfold f_X8_goThrough
  refine T_mu hG hS (rn_70_10 _) (nw_70 _) (i := 2) rfl ⟨by decide, by decide, Or.inr ⟨by decide, by decide⟩⟩ ?_
  intro mv109 hq110_ gq111_ kq112_
  have hq113_ : (mv109 70 10).toInt = 0 := by rw [hq110_, mu_at]; exact l_0
  refine T_mu gq111_ kq112_ (rn_70_11 _) (nw_70 _) (i := 2) rfl ⟨by decide, by decide, Or.inr ⟨by decide, by decide⟩⟩ ?_
  intro mv114 hq115_ gq116_ kq117_
  have hq118_ : (mv114 70 10).toInt = (mv109 70 10).toInt := by rw [hq115_, mu_ne (Or.inr (by decide))]
  have hq119_ : (mv114 70 11).toInt = (-2) := by rw [hq115_, mu_at]; exact l_m2
  refine T_qc (t_J7_fill_53178_c76_4 hn (0 : Int32) mv114 gq116_ (i_rng (lo := 0) (hi := 0) l_0 (by omega) (by omega))) ?_
  rintro rv120 mv121 ⟨hq122_, gq123_, kq124_⟩
  have kq125_ := Sm.call kq117_ kq124_ rfl
  have hq126_ : (mv121 70 10).toInt = (mv114 70 10).toInt := by rw [kq124_ 70 10 (by decide)]
  have hq127_ : (mv121 70 11).toInt = (mv114 70 11).toInt := by rw [kq124_ 70 11 (by decide)]
  exact (t_X8_goThrough_21 hn hj) n a1 a2 (0 : Int32) mv121 gq123_ kq125_ (i_rng (lo := 0) (hi := 9) rfl (by omega) (by omega)) (i_rng (lo := 0) (hi := 4) l_0 (by omega) (by omega)) (by have e2 : ((0 : Int32)).toInt = _ := l_0; omega)
abbrev l_X8_greaterPart : List Bx := []
abbrev po_X8_greaterPart (a1 : Int32) (M : qM) (v : Int32) (M' : qM) : Prop := G M' ∧ Sm l_X8_greaterPart M M'
theorem t_X8_greaterPart {n : Nat} (hn : 200000 ≤ n) (a1 : Int32) (M : qM) (hG : G M) (pa1 : 0 ≤ a1.toInt ∧ a1.toInt ≤ 3) : qT (f_X8_greaterPart n a1 M) (po_X8_greaterPart a1 M) := by
  have hS : Sm l_X8_greaterPart M M := Sm.rf
  unfold f_X8_greaterPart
  refine T_qg rfl (by omega) (by omega) ?_
  refine T_qg rfl (by omega) (by omega) ?_
  have hq1_ := i_full (M 70 10)
  have hq2_ := i_full (M 76 a1.toNatClampNeg)
  have hq3_ := i_max (a := M 76 a1.toNatClampNeg) (b := (M 70 10) - (M 76 a1.toNatClampNeg)) rfl rfl
  exact T_ret ⟨hG, hS⟩
abbrev l_X8_tellingPlace : List Bx := []
abbrev po_X8_tellingPlace (M : qM) (v : Int32) (M' : qM) : Prop := (0 ≤ v.toInt ∧ v.toInt ≤ 3) ∧ G M' ∧ Sm l_X8_tellingPlace M M'
theorem t_X8_tellingPlace_4 {n : Nat} (hn : 200000 ≤ n) {M0 : qM} : ∀ (m : Nat) (a1 a2 : Int32) (M : qM), G M → Sm l_X8_tellingPlace M0 M → 0 ≤ a1.toInt ∧ a1.toInt ≤ 3 → 1 ≤ a2.toInt ∧ a2.toInt ≤ 4 → 4 - a2.toInt < (m : Int) → qT (f_X8_tellingPlace_4 n m a1 a2 M) (po_X8_tellingPlace  M0) := by
  intro m
  induction m with
  | zero =>
    intro a1 a2 M hG hS i0 i1 i2
    exfalso; omega
  | succ m ih =>
    intro a1 a2 M hG hS i0 i1 i2
    show qT (b_X8_tellingPlace_4 n (f_X8_tellingPlace_4 n m) a1 a2 M) _
    unfold b_X8_tellingPlace_4
    have hq3_ := r_70_8 hG
    refine T_le rfl rfl (fun hq4_ => ?_) (fun hq4_ => ?_)
    · exact T_ret ⟨(i_rng (lo := 0) (hi := 3) rfl (by omega) (by omega)), hG, hS⟩
    · refine T_qc (t_X8_greaterPart hn a2 M hG (i_rng (lo := 0) (hi := 3) rfl (by omega) (by omega))) ?_
      rintro rv5 mv6 ⟨gq7_, kq8_⟩
      have hq9_ := kq8_.nil
      subst hq9_
      refine T_qc (t_X8_greaterPart hn a1 M hG (i_rng (lo := 0) (hi := 3) rfl (by omega) (by omega))) ?_
      rintro rv10 mv11 ⟨gq12_, kq13_⟩
      have hq14_ := kq13_.nil
      subst hq14_
      refine T_le rfl rfl (fun hq15_ => ?_) (fun hq15_ => ?_)
      · refine T_ql (i_add rfl l_1 (by omega) (by omega)) ?_
        intro xv16 hq17_
        exact ih a1 xv16 M hG hS (i_rng (lo := 0) (hi := 3) rfl (by omega) (by omega)) (i_rng (lo := 1) (hi := 4) rfl (by omega) (by omega)) (by omega)
      · refine T_ql (i_add rfl l_1 (by omega) (by omega)) ?_
        intro xv18 hq19_
        exact ih a2 xv18 M hG hS (i_rng (lo := 0) (hi := 3) rfl (by omega) (by omega)) (i_rng (lo := 1) (hi := 4) rfl (by omega) (by omega)) (by omega)
theorem t_X8_tellingPlace {n : Nat} (hn : 200000 ≤ n) (M : qM) (hG : G M) : qT (f_X8_tellingPlace n  M) (po_X8_tellingPlace  M) := by
  have hS : Sm l_X8_tellingPlace M M := Sm.rf
  unfold f_X8_tellingPlace
  exact (t_X8_tellingPlace_4 hn) n (0 : Int32) (1 : Int32) M hG hS (i_rng (lo := 0) (hi := 3) l_0 (by omega) (by omega)) (i_rng (lo := 1) (hi := 4) l_1 (by omega) (by omega)) (by have e0 : ((0 : Int32)).toInt = _ := l_0; have e1 : ((1 : Int32)).toInt = _ := l_1; omega)
abbrev l_X11_histories : List Bx := [(1, 2, 1, 2), (34, 35, 4, 5), (35, 37, 0, 0), (70, 71, 8, 12), (71, 77, 0, 0)]
abbrev po_X11_histories (a1 a2 a3 a4 : Int32) (M : qM) (v : Int32) (M' : qM) : Prop := G M' ∧ Sm l_X11_histories M M'
theorem t_X11_histories {n : Nat} (hn : 200000 ≤ n) {j : Nat} (hj : q_isLaw j) (a1 a2 a3 a4 : Int32) (M : qM) (hG : G M) : qT (f_X11_histories n j a1 a2 a3 a4 M) (po_X11_histories a1 a2 a3 a4 M) := by
  have hS : Sm l_X11_histories M M := Sm.rf
  unfold f_X11_histories
  refine T_lt rfl l_1 (fun hq1_ => ?_) (fun hq1_ => ?_)
  · exact T_ret ⟨hG, hS⟩
  · refine T_lt l_4 rfl (fun hq2_ => ?_) (fun hq2_ => ?_)
    · exact T_ret ⟨hG, hS⟩
    · refine T_lt rfl l_0 (fun hq3_ => ?_) (fun hq3_ => ?_)
      · exact T_ret ⟨hG, hS⟩
      · refine T_lt l_10 rfl (fun hq4_ => ?_) (fun hq4_ => ?_)
        · exact T_ret ⟨hG, hS⟩
        · refine T_lt rfl l_0 (fun hq5_ => ?_) (fun hq5_ => ?_)
          · exact T_ret ⟨hG, hS⟩
          · refine T_le rfl l_9 (fun hq6_ => ?_) (fun hq6_ => ?_)
            · refine T_lt rfl l_0 (fun hq7_ => ?_) (fun hq7_ => ?_)
              · exact T_ret ⟨hG, hS⟩
              · refine T_lt l_2 rfl (fun hq8_ => ?_) (fun hq8_ => ?_)
                · exact T_ret ⟨hG, hS⟩
                · have hq9_ := r_1_1 hG
                  refine T_le (i_add rfl (i_mul l_2 rfl (by omega) (by omega)) (by omega) (by omega)) rfl (fun hq10_ => ?_) (fun hq10_ => ?_)
                  · refine T_qc (t_X8_read hn a1 a2 M hG (i_rng (lo := 1) (hi := 4) rfl (by omega) (by omega)) (i_rng (lo := 0) (hi := 10) rfl (by omega) (by omega))) ?_
                    rintro rv11 mv12 ⟨hq13_, gq14_, kq15_⟩
                    have kq16_ := Sm.call hS kq15_ rfl
                    have hq17_ : (mv12 1 1).toInt = (M 1 1).toInt := by rw [kq15_ 1 1 (by decide)]
                    refine T_qc (t_X9_clear hn  mv12 gq14_ ) ?_
                    rintro rv18 mv19 ⟨hq20_, gq21_, kq22_⟩
                    have kq23_ := Sm.call kq16_ kq22_ rfl
                    refine T_eq rfl l_0 (fun hq24_ => ?_) (fun hq24_ => ?_)
                    · exact T_ret ⟨gq21_, kq23_⟩
                    · refine T_qc (t_X8_goThrough hn hj a3 (mv19 7 9) mv19 gq21_ (i_rng (lo := 0) (hi := 9) rfl (by omega) (by omega))) ?_
                      rintro rv25 mv26 ⟨hq27_, gq28_, kq29_⟩
                      have kq30_ := Sm.call kq23_ kq29_ rfl
                      refine T_eq rfl l_0 (fun hq31_ => ?_) (fun hq31_ => ?_)
                      · exact T_ret ⟨gq28_, kq30_⟩
                      · refine T_eq rfl l_1 (fun hq32_ => ?_) (fun hq32_ => ?_)
                        · exact T_ret ⟨gq28_, kq30_⟩
                        · refine T_qc (t_X8_tellingPlace hn  mv26 gq28_ ) ?_
                          rintro rv33 mv34 ⟨hq35_, gq36_, kq37_⟩
                          have hq38_ := kq37_.nil
                          subst hq38_
                          exact T_ret ⟨gq28_, kq30_⟩
                  · exact T_ret ⟨hG, hS⟩
            · exact T_ret ⟨hG, hS⟩
abbrev l_X12_takesPast : List Bx := [(77, 78, 61, 62), (96, 98, 0, 0), (116, 118, 0, 0)]
abbrev po_X12_takesPast (a1 a2 : Int32) (M : qM) (v : Int32) (M' : qM) : Prop := (0 ≤ v.toInt ∧ v.toInt ≤ 1) ∧ G M' ∧ Sm l_X12_takesPast M M'
theorem t_X12_takesPast_150 {n : Nat} (hn : 200000 ≤ n) {oa1 oa2 : Int32} {M0 : qM} {K135 : Int32 → Int32 → qM → qR} {BK135 : Nat} (hK135 : ∀ (a1 a3 : Int32) (M : qM), G M → Sm l_X12_takesPast M0 M → 1 ≤ a1.toInt ∧ a1.toInt ≤ 4 → 0 ≤ a3.toInt ∧ a3.toInt ≤ 4 → 4 - a3.toInt < (BK135 : Int) → qT (K135 a1 a3 M) (po_X12_takesPast oa1 oa2 M0)) : ∀ (m : Nat) (a1 a3 a4 : Int32) (M : qM), G M → Sm l_X12_takesPast M0 M → 1 ≤ a1.toInt ∧ a1.toInt ≤ 4 → 0 ≤ a3.toInt ∧ a3.toInt ≤ 3 → 0 ≤ a4.toInt ∧ a4.toInt ≤ 4 → 4 - a3.toInt < (BK135 : Int) + 1 → 4 - a4.toInt < (m : Int) → qT (f_X12_takesPast_150 n K135 m a1 a3 a4 M) (po_X12_takesPast oa1 oa2 M0) := by
  sorry
theorem t_X12_takesPast_42 {n : Nat} (hn : 200000 ≤ n) {oa1 oa2 : Int32} {M0 : qM} {K7 : Int32 → Int32 → Int32 → qM → qR} {BK7 : Nat} (hK7 : ∀ (a1 a2 a3 : Int32) (M : qM), G M → Sm l_X12_takesPast M0 M → 1 ≤ a1.toInt ∧ a1.toInt ≤ 4 → 0 ≤ a2.toInt ∧ a2.toInt ≤ 10 → 0 ≤ a3.toInt ∧ a3.toInt ≤ 4 → 4 - a3.toInt < (BK7 : Int) → qT (K7 a1 a2 a3 M) (po_X12_takesPast oa1 oa2 M0)) : ∀ (m : Nat) (a1 a2 a3 a4 : Int32) (M : qM), G M → Sm l_X12_takesPast M0 M → 1 ≤ a1.toInt ∧ a1.toInt ≤ 4 → 0 ≤ a2.toInt ∧ a2.toInt ≤ 10 → 0 ≤ a3.toInt ∧ a3.toInt ≤ 3 → 0 ≤ a4.toInt ∧ a4.toInt ≤ 3 → 4 - a3.toInt < (BK7 : Int) + 1 → 3 - a4.toInt < (m : Int) → qT (f_X12_takesPast_42 n K7 m a1 a2 a3 a4 M) (po_X12_takesPast oa1 oa2 M0) := by
  intro m
  induction m with
  | zero =>
    intro a1 a2 a3 a4 M hG hS i0 i1 i2 i3 i4 i5
    exfalso; omega
  | succ m ih =>
    intro a1 a2 a3 a4 M hG hS i0 i1 i2 i3 i4 i5
    show qT (b_X12_takesPast_42 n K7 (f_X12_takesPast_42 n K7 m) a1 a2 a3 a4 M) _
    unfold b_X12_takesPast_42
    refine T_le rfl rfl (fun hq38_ => ?_) (fun hq38_ => ?_)
    · refine T_ql (i_add rfl l_1 (by omega) (by omega)) ?_
      intro xv39 hq40_
      exact hK7 a1 a2 xv39 M hG hS (i_rng (lo := 1) (hi := 4) rfl (by omega) (by omega)) (i_rng (lo := 0) (hi := 10) rfl (by omega) (by omega)) (i_rng (lo := 0) (hi := 4) rfl (by omega) (by omega)) (by omega)
    · refine T_qg rfl (by omega) (by omega) ?_
      refine T_qg rfl (by omega) (by omega) ?_
      have hq41_ := r_116 hG a4.toNatClampNeg
      have hq42_ := r_116 hG a3.toNatClampNeg
      refine T_eq rfl rfl (fun hq43_ => ?_) (fun hq43_ => ?_)
      · exact T_ret ⟨(i_rng (lo := 0) (hi := 1) l_0 (by omega) (by omega)), hG, hS⟩
      · refine T_ql (i_add rfl l_1 (by omega) (by omega)) ?_
        intro xv44 hq45_
        exact ih a1 a2 a3 xv44 M hG hS (i_rng (lo := 1) (hi := 4) rfl (by omega) (by omega)) (i_rng (lo := 0) (hi := 10) rfl (by omega) (by omega)) (i_rng (lo := 0) (hi := 3) rfl (by omega) (by omega)) (i_rng (lo := 0) (hi := 3) rfl (by omega) (by omega)) (by omega) (by omega)
theorem t_X12_takesPast_135 {n : Nat} (hn : 200000 ≤ n) {oa1 oa2 : Int32} {M0 : qM} : ∀ (m : Nat) (a1 a3 : Int32) (M : qM), G M → Sm l_X12_takesPast M0 M → 1 ≤ a1.toInt ∧ a1.toInt ≤ 4 → 0 ≤ a3.toInt ∧ a3.toInt ≤ 4 → 4 - a3.toInt < (m : Int) → qT (f_X12_takesPast_135 n m a1 a3 M) (po_X12_takesPast oa1 oa2 M0) := by
  intro m
  induction m with
  | zero =>
    intro a1 a3 M hG hS i0 i1 i2
    exfalso; omega
  | succ m ih =>
    intro a1 a3 M hG hS i0 i1 i2
    show qT (b_X12_takesPast_135 n (f_X12_takesPast_135 n m) a1 a3 M) _
    unfold b_X12_takesPast_135
    refine T_le rfl rfl (fun hq49_ => ?_) (fun hq49_ => ?_)
    · exact T_ret ⟨(i_rng (lo := 0) (hi := 1) l_1 (by omega) (by omega)), hG, hS⟩
    · refine T_qg rfl (by omega) (by omega) ?_
      refine T_mu hG hS (rn_117 _ _) (nw_117 _) (i := 2) rfl ⟨by decide, by decide, Or.inl rfl⟩ ?_
      intro mv50 hq51_ gq52_ kq53_
      have hq54_ : (mv50 117 a3.toNatClampNeg).toInt = 0 := by rw [hq51_, mu_at]; exact l_0
      exact (t_X12_takesPast_150 hn ih) n a1 a3 (0 : Int32) mv50 gq52_ kq53_ (i_rng (lo := 1) (hi := 4) rfl (by omega) (by omega)) (i_rng (lo := 0) (hi := 3) rfl (by omega) (by omega)) (i_rng (lo := 0) (hi := 4) l_0 (by omega) (by omega)) (by omega) (by have e2 : ((0 : Int32)).toInt = _ := l_0; omega)
theorem t_X12_takesPast_80 {n : Nat} (hn : 200000 ≤ n) {oa1 oa2 : Int32} {M0 : qM} : ∀ (m : Nat) (a1 a2 a3 : Int32) (M : qM), G M → Sm l_X12_takesPast M0 M → 1 ≤ a1.toInt ∧ a1.toInt ≤ 4 → 0 ≤ a2.toInt ∧ a2.toInt ≤ 10 → 0 ≤ a3.toInt ∧ a3.toInt ≤ 10 → 10 - a3.toInt < (m : Int) → qT (f_X12_takesPast_80 n m a1 a2 a3 M) (po_X12_takesPast oa1 oa2 M0) := by
  intro m
  induction m with
  | zero =>
    intro a1 a2 a3 M hG hS i0 i1 i2 i3
    exfalso; omega
  | succ m ih =>
    intro a1 a2 a3 M hG hS i0 i1 i2 i3
    show qT (b_X12_takesPast_80 n (f_X12_takesPast_80 n m) a1 a2 a3 M) _
    unfold b_X12_takesPast_80
    refine T_le rfl rfl (fun hq56_ => ?_) (fun hq56_ => ?_)
    · exact (t_X12_takesPast_135 hn) n a1 (0 : Int32) M hG hS (i_rng (lo := 1) (hi := 4) rfl (by omega) (by omega)) (i_rng (lo := 0) (hi := 4) l_0 (by omega) (by omega)) (by have e1 : ((0 : Int32)).toInt = _ := l_0; omega)
    · refine T_qg (i_add rfl (i_mul l_2 rfl (by omega) (by omega)) (by omega) (by omega)) (by omega) (by omega) ?_
      have hq59_ := r_84 hG ((a1 + ((2 : Int32) * a3)).toNatClampNeg)
      have hq60_ := (show ((0 : Int32)).toInt = _ from l_0)
      have hq61_ := (show (a1 - (1 : Int32)).toInt = _ from (i_sub rfl l_1 (by omega) (by omega)))
      refine T_qc (t_X12_in hn (M 84 ((a1 + ((2 : Int32) * a3)).toNatClampNeg)) (0 : Int32) (a1 - (1 : Int32)) M hG (i_rng (lo := 0) (hi := 70) l_0 (by omega) (by omega)) (i_rng (lo := 0) (hi := 99999) (i_sub rfl l_1 (by omega) (by omega)) (by omega) (by omega))) ?_
      rintro rv57 mv58 ⟨hq62_, hq63_, gq64_, kq65_⟩
      have hq66_ := kq65_.nil
      subst hq66_
      refine T_eq rfl l_0 (fun hq67_ => ?_) (fun hq67_ => ?_)
      · exact T_ret ⟨(i_rng (lo := 0) (hi := 1) l_0 (by omega) (by omega)), hG, hS⟩
      · refine T_qg (i_add (i_add rfl (i_mul l_2 rfl (by omega) (by omega)) (by omega) (by omega)) l_1 (by omega) (by omega)) (by omega) (by omega) ?_
        have hq70_ := r_84 hG (((a1 + ((2 : Int32) * a3)) + (1 : Int32)).toNatClampNeg)
        have hq71_ := (show ((1 : Int32)).toInt = _ from l_1)
        refine T_qc (t_X12_in hn (M 84 (((a1 + ((2 : Int32) * a3)) + (1 : Int32)).toNatClampNeg)) (0 : Int32) (1 : Int32) M hG (i_rng (lo := 0) (hi := 70) l_0 (by omega) (by omega)) (i_rng (lo := 0) (hi := 99999) l_1 (by omega) (by omega))) ?_
        rintro rv68 mv69 ⟨hq72_, hq73_, gq74_, kq75_⟩
        have hq76_ := kq75_.nil
        subst hq76_
        refine T_eq rfl l_0 (fun hq77_ => ?_) (fun hq77_ => ?_)
        · exact T_ret ⟨(i_rng (lo := 0) (hi := 1) l_0 (by omega) (by omega)), hG, hS⟩
        · refine T_ql (i_add rfl l_1 (by omega) (by omega)) ?_
          intro xv78 hq79_
          exact ih a1 a2 xv78 M hG hS (i_rng (lo := 1) (hi := 4) rfl (by omega) (by omega)) (i_rng (lo := 0) (hi := 10) rfl (by omega) (by omega)) (i_rng (lo := 0) (hi := 10) rfl (by omega) (by omega)) (by omega)
theorem t_X12_takesPast_7 {n : Nat} (hn : 200000 ≤ n) {oa1 oa2 : Int32} {M0 : qM} : ∀ (m : Nat) (a1 a2 a3 : Int32) (M : qM), G M → Sm l_X12_takesPast M0 M → 1 ≤ a1.toInt ∧ a1.toInt ≤ 4 → 0 ≤ a2.toInt ∧ a2.toInt ≤ 10 → 0 ≤ a3.toInt ∧ a3.toInt ≤ 4 → 4 - a3.toInt < (m : Int) → qT (f_X12_takesPast_7 n m a1 a2 a3 M) (po_X12_takesPast oa1 oa2 M0) := by
  intro m
  induction m with
  | zero =>
    intro a1 a2 a3 M hG hS i0 i1 i2 i3
    exfalso; omega
  | succ m ih =>
    intro a1 a2 a3 M hG hS i0 i1 i2 i3
    show qT (b_X12_takesPast_7 n (f_X12_takesPast_7 n m) a1 a2 a3 M) _
    unfold b_X12_takesPast_7
    refine T_le rfl rfl (fun hq82_ => ?_) (fun hq82_ => ?_)
    · exact (t_X12_takesPast_80 hn) n a1 a2 (0 : Int32) M hG hS (i_rng (lo := 1) (hi := 4) rfl (by omega) (by omega)) (i_rng (lo := 0) (hi := 10) rfl (by omega) (by omega)) (i_rng (lo := 0) (hi := 10) l_0 (by omega) (by omega)) (by have e2 : ((0 : Int32)).toInt = _ := l_0; omega)
    · refine T_qg rfl (by omega) (by omega) ?_
      refine T_qg rfl (by omega) (by omega) ?_
      have hq84_ := r_84 hG a3.toNatClampNeg
      refine T_mu hG hS (i_rng (lo := (-128)) (hi := 127) rfl (by omega) (by omega)) (nw_116 _) (i := 2) rfl ⟨by decide, by decide, Or.inl rfl⟩ ?_
      intro mv83 hq85_ gq86_ kq87_
      have hq88_ : (mv83 116 a3.toNatClampNeg).toInt = (M 84 a3.toNatClampNeg).toInt := by rw [hq85_, mu_at]
      refine T_qg rfl (by omega) (by omega) ?_
      have hq91_ := r_116 gq86_ a3.toNatClampNeg
      refine T_qc (t_X12_isKind hn (mv83 116 a3.toNatClampNeg) mv83 gq86_ ) ?_
      rintro rv89 mv90 ⟨hq92_, hq93_, gq94_, kq95_⟩
      have hq96_ := kq95_.nil
      subst hq96_
      refine T_eq rfl l_0 (fun hq97_ => ?_) (fun hq97_ => ?_)
      · exact T_ret ⟨(i_rng (lo := 0) (hi := 1) l_0 (by omega) (by omega)), gq86_, kq87_⟩
      · exact (t_X12_takesPast_42 hn ih) n a1 a2 a3 (0 : Int32) mv83 gq86_ kq87_ (i_rng (lo := 1) (hi := 4) rfl (by omega) (by omega)) (i_rng (lo := 0) (hi := 10) rfl (by omega) (by omega)) (i_rng (lo := 0) (hi := 3) rfl (by omega) (by omega)) (i_rng (lo := 0) (hi := 3) l_0 (by omega) (by omega)) (by omega) (by have e3 : ((0 : Int32)).toInt = _ := l_0; omega)
theorem t_X12_takesPast {n : Nat} (hn : 200000 ≤ n) (a1 a2 : Int32) (M : qM) (hG : G M) (pa1 : 1 ≤ a1.toInt ∧ a1.toInt ≤ 4) (pa2 : 0 ≤ a2.toInt ∧ a2.toInt ≤ 10) : qT (f_X12_takesPast n a1 a2 M) (po_X12_takesPast a1 a2 M) := by
  have hS : Sm l_X12_takesPast M M := Sm.rf
  unfold f_X12_takesPast
  refine T_mu hG hS (i_rng (lo := 0) (hi := 4) rfl (by omega) (by omega)) nw_77_61 (i := 0) rfl ⟨by decide, by decide, Or.inr ⟨by decide, by decide⟩⟩ ?_
  intro mv98 hq99_ gq100_ kq101_
  have hq102_ : (mv98 77 61).toInt = a1.toInt := by rw [hq99_, mu_at]
  exact (t_X12_takesPast_7 hn) n a1 a2 (0 : Int32) mv98 gq100_ kq101_ (i_rng (lo := 1) (hi := 4) rfl (by omega) (by omega)) (i_rng (lo := 0) (hi := 10) rfl (by omega) (by omega)) (i_rng (lo := 0) (hi := 4) l_0 (by omega) (by omega)) (by have e2 : ((0 : Int32)).toInt = _ := l_0; omega)
abbrev l_X12_begins : List Bx := [(118, 119, 0, 0)]
abbrev po_X12_begins (a1 : Int32) (M : qM) (v : Int32) (M' : qM) : Prop := (0 ≤ v.toInt ∧ v.toInt ≤ 0) ∧ G M' ∧ Sm l_X12_begins M M'
theorem t_X12_begins_9 {n : Nat} (hn : 200000 ≤ n) {oa1 : Int32} {M0 : qM} : ∀ (m : Nat) (a2 a3 : Int32) (M : qM), G M → Sm l_X12_begins M0 M → 0 ≤ a2.toInt ∧ a2.toInt ≤ 255 → (-1) ≤ a3.toInt ∧ a3.toInt ≤ 3 → a3.toInt - (-1) < (m : Int) → qT (f_X12_begins_9 n m a2 a3 M) (po_X12_begins oa1 M0) := by
  intro m
  induction m with
  | zero =>
    intro a2 a3 M hG hS i0 i1 i2
    exfalso; omega
  | succ m ih =>
    intro a2 a3 M hG hS i0 i1 i2
    show qT (b_X12_begins_9 n (f_X12_begins_9 n m) a2 a3 M) _
    unfold b_X12_begins_9
    refine T_lt rfl l_0 (fun hq3_ => ?_) (fun hq3_ => ?_)
    · exact T_ret ⟨(i_rng (lo := 0) (hi := 0) l_0 (by omega) (by omega)), hG, hS⟩
    · refine T_qg rfl (by omega) (by omega) ?_
      refine T_mu hG hS (rn_118 _ _) (nw_118 _) (i := 0) rfl ⟨by decide, by decide, Or.inl rfl⟩ ?_
      intro mv4 hq5_ gq6_ kq7_
      have hq8_ : (mv4 118 a3.toNatClampNeg).toInt = (a2.toInt - ((a2.toInt / 4) * 4)) := by rw [hq5_, mu_at]; exact (i_sub rfl (i_mul (i_div rfl l_4 (by omega) (by omega)) l_4 (by omega) (by omega)) (by omega) (by omega))
      refine T_ql (i_div rfl l_4 (by omega) (by omega)) ?_
      intro xv9 hq10_
      refine T_ql (i_add rfl l_m1 (by omega) (by omega)) ?_
      intro xv11 hq12_
      exact ih xv9 xv11 mv4 gq6_ kq7_ (i_rng (lo := 0) (hi := 255) rfl (by omega) (by omega)) (i_rng (lo := (-1)) (hi := 3) rfl (by omega) (by omega)) (by omega)
theorem t_X12_begins {n : Nat} (hn : 200000 ≤ n) (a1 : Int32) (M : qM) (hG : G M) (pa1 : 0 ≤ a1.toInt ∧ a1.toInt ≤ 255) : qT (f_X12_begins n a1 M) (po_X12_begins a1 M) := by
  have hS : Sm l_X12_begins M M := Sm.rf
  unfold f_X12_begins
  have hq13_ := r_77_61 hG
  refine T_ql (i_sub rfl l_1 (by omega) (by omega)) ?_
  intro xv14 hq15_
  exact (t_X12_begins_9 hn) n a1 xv14 M hG hS (i_rng (lo := 0) (hi := 255) rfl (by omega) (by omega)) (i_rng (lo := (-1)) (hi := 3) rfl (by omega) (by omega)) (by omega)
