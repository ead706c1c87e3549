abbrev l_X1_run : List Bx := [(34, 35, 4, 5), (36, 37, 0, 0)]
abbrev po_X1_run (a1 a2 : Int32) (M : qM) (v : Int32) (M' : qM) : Prop := G M' ∧ Sm l_X1_run M M'
theorem t_X1_run_10 {n : Nat} (hn : 200000 ≤ n) {j : Nat} (hj : q_isLaw j) {oa1 oa2 : Int32} {M0 : qM} : ∀ (m : Nat) (a2 a3 a4 : Int32) (M : qM), G M → Sm l_X1_run M0 M → 0 ≤ a2.toInt ∧ a2.toInt ≤ 240 → 0 ≤ a3.toInt ∧ a3.toInt ≤ 64 → 0 ≤ a4.toInt ∧ a4.toInt ≤ 1000001 → (0 : Int) < (m : Int) ∧ 241 - a4.toInt < (m : Int) → qT (f_X1_run_10 n j m a2 a3 a4 M) (po_X1_run oa1 oa2 M0) := by
  intro m
  induction m with
  | zero =>
    intro a2 a3 a4 M hG hS i0 i1 i2 i5
    exfalso; omega
  | succ m ih =>
    intro a2 a3 a4 M hG hS i0 i1 i2 i5
    show qT (b_X1_run_10 n j (f_X1_run_10 n j m) a2 a3 a4 M) _
    unfold b_X1_run_10
    refine T_le rfl rfl (fun hq1_ => ?_) (fun hq1_ => ?_)
    · unfold f_X1_run_243
      refine T_eq rfl l_0 (fun hq2_ => ?_) (fun hq2_ => ?_)
      · refine T_le l_1 rfl (fun hq3_ => ?_) (fun hq3_ => ?_)
        · exact T_ret ⟨hG, hS⟩
        · exact T_ret ⟨hG, hS⟩
      · exact T_ret ⟨hG, hS⟩
    · refine T_eq rfl l_0 (fun hq4_ => ?_) (fun hq4_ => ?_)
      · refine T_qg rfl (by omega) (by omega) ?_
        refine T_ql rfl ?_
        intro xv5 hq6_
        refine T_qg rfl (by omega) (by omega) ?_
        have hq7_ := rw_2 hj hG a4.toNatClampNeg
        have hq8_ := hG.2.1 j hj a4.toNatClampNeg
        refine T_ql rfl ?_
        intro xv9 hq10_
        refine T_eq rfl l_0 (fun hq11_ => ?_) (fun hq11_ => ?_)
        · unfold f_X1_run_58
          refine T_le l_64 rfl (fun hq12_ => ?_) (fun hq12_ => ?_)
          · refine T_ql (i_add rfl l_1 (by omega) (by omega)) ?_
            intro xv13 hq14_
            exact ih a2 a3 xv13 M hG hS (i_rng (lo := 0) (hi := 240) rfl (by omega) (by omega)) (i_rng (lo := 0) (hi := 64) rfl (by omega) (by omega)) (i_rng (lo := 0) (hi := 1000001) rfl (by omega) (by omega)) (by omega)
          · refine T_eq rfl l_0 (fun hq15_ => ?_) (fun hq15_ => ?_)
            · refine T_qg rfl (by omega) (by omega) ?_
              refine T_mu hG hS (rn_36 _ _) (nw_36 _) (i := 1) rfl ⟨by decide, by decide, Or.inl rfl⟩ ?_
              intro mv16 hq17_ gq18_ kq19_
              have hq20_ : (mv16 34 4).toInt = (M 34 4).toInt := by rw [hq17_, mu_ne (Or.inl (by decide))]
              have hq21_ : (mv16 36 a3.toNatClampNeg).toInt = xv9.toInt := by rw [hq17_, mu_at]
              refine T_ql (i_add rfl l_1 (by omega) (by omega)) ?_
              intro xv22 hq23_
              refine T_ql (i_add rfl l_1 (by omega) (by omega)) ?_
              intro xv24 hq25_
              exact ih a2 xv22 xv24 mv16 gq18_ kq19_ (i_rng (lo := 0) (hi := 240) rfl (by omega) (by omega)) (i_rng (lo := 0) (hi := 64) rfl (by omega) (by omega)) (i_rng (lo := 0) (hi := 1000001) rfl (by omega) (by omega)) (by omega)
            · exfalso; omega
        · refine T_eq rfl l_1 (fun hq26_ => ?_) (fun hq26_ => ?_)
          · unfold f_X1_run_58
            refine T_le l_64 rfl (fun hq27_ => ?_) (fun hq27_ => ?_)
            · refine T_ql (i_add rfl l_1 (by omega) (by omega)) ?_
              intro xv28 hq29_
              exact ih a2 a3 xv28 M hG hS (i_rng (lo := 0) (hi := 240) rfl (by omega) (by omega)) (i_rng (lo := 0) (hi := 64) rfl (by omega) (by omega)) (i_rng (lo := 0) (hi := 1000001) rfl (by omega) (by omega)) (by omega)
            · refine T_eq rfl l_0 (fun hq30_ => ?_) (fun hq30_ => ?_)
              · exfalso; omega
              · refine T_qg rfl (by omega) (by omega) ?_
                refine T_qg rfl (by omega) (by omega) ?_
                refine T_mu hG hS (rn_36 _ _) (nw_36 _) (i := 1) rfl ⟨by decide, by decide, Or.inl rfl⟩ ?_
                intro mv31 hq32_ gq33_ kq34_
                have hq35_ : (mv31 34 4).toInt = (M 34 4).toInt := by rw [hq32_, mu_ne (Or.inl (by decide))]
                have hq36_ : (mv31 36 a3.toNatClampNeg).toInt = (M 35 xv9.toNatClampNeg).toInt := by rw [hq32_, mu_at]
                refine T_ql (i_add rfl l_1 (by omega) (by omega)) ?_
                intro xv37 hq38_
                refine T_ql (i_add rfl l_1 (by omega) (by omega)) ?_
                intro xv39 hq40_
                exact ih a2 xv37 xv39 mv31 gq33_ kq34_ (i_rng (lo := 0) (hi := 240) rfl (by omega) (by omega)) (i_rng (lo := 0) (hi := 64) rfl (by omega) (by omega)) (i_rng (lo := 0) (hi := 1000001) rfl (by omega) (by omega)) (by omega)
          · refine T_lt rfl l_32 (fun hq41_ => ?_) (fun hq41_ => ?_)
            · unfold f_X1_run_139
              refine T_eq rfl l_2 (fun hq42_ => ?_) (fun hq42_ => ?_)
              · refine T_lt rfl l_1 (fun hq43_ => ?_) (fun hq43_ => ?_)
                · unfold f_X1_run_171
                  refine T_lt rfl l_1 (fun hq44_ => ?_) (fun hq44_ => ?_)
                  · refine T_ql (i_add rfl l_1 (by omega) (by omega)) ?_
                    intro xv45 hq46_
                    exact ih a2 a3 xv45 M hG hS (i_rng (lo := 0) (hi := 240) rfl (by omega) (by omega)) (i_rng (lo := 0) (hi := 64) rfl (by omega) (by omega)) (i_rng (lo := 0) (hi := 1000001) rfl (by omega) (by omega)) (by omega)
                  · exfalso; omega
                · refine T_qg (i_sub rfl l_1 (by omega) (by omega)) (by omega) (by omega) ?_
                  refine T_qg (i_sub rfl l_1 (by omega) (by omega)) (by omega) (by omega) ?_
                  have hq48_ := i_full (M 36 ((a3 - (1 : Int32)).toNatClampNeg))
                  refine T_mu hG hS (rn_36 _ _) (nw_36 _) (i := 1) rfl ⟨by decide, by decide, Or.inl rfl⟩ ?_
                  intro mv47 hq49_ gq50_ kq51_
                  have hq52_ : (mv47 34 4).toInt = (M 34 4).toInt := by rw [hq49_, mu_ne (Or.inl (by decide))]
                  have hq53_ : (mv47 36 ((a3 - (1 : Int32)).toNatClampNeg)).toInt = ((1 : Int32) - (M 36 ((a3 - (1 : Int32)).toNatClampNeg))).toInt := by rw [hq49_, mu_at]
                  refine T_ql (i_add rfl l_1 (by omega) (by omega)) ?_
                  intro xv54 hq55_
                  exact ih a2 a3 xv54 mv47 gq50_ kq51_ (i_rng (lo := 0) (hi := 240) rfl (by omega) (by omega)) (i_rng (lo := 0) (hi := 64) rfl (by omega) (by omega)) (i_rng (lo := 0) (hi := 1000001) rfl (by omega) (by omega)) (by omega)
              · unfold f_X1_run_171
                refine T_lt rfl l_1 (fun hq56_ => ?_) (fun hq56_ => ?_)
                · refine T_ql (i_add rfl l_1 (by omega) (by omega)) ?_
                  intro xv57 hq58_
                  exact ih a2 a3 xv57 M hG hS (i_rng (lo := 0) (hi := 240) rfl (by omega) (by omega)) (i_rng (lo := 0) (hi := 64) rfl (by omega) (by omega)) (i_rng (lo := 0) (hi := 1000001) rfl (by omega) (by omega)) (by omega)
                · refine T_qg (i_sub rfl l_1 (by omega) (by omega)) (by omega) (by omega) ?_
                  refine T_eq rfl l_4 (fun hq59_ => ?_) (fun hq59_ => ?_)
                  · unfold f_X1_run_195
                    refine T_eq rfl l_1 (fun hq60_ => ?_) (fun hq60_ => ?_)
                    · unfold f_X1_run_203
                      refine T_eq l_1 l_0 (fun hq61_ => ?_) (fun hq61_ => ?_)
                      · exfalso; omega
                      · unfold f_X1_run_222
                        refine T_eq l_1 l_0 (fun hq62_ => ?_) (fun hq62_ => ?_)
                        · exfalso; omega
                        · have hq63_ := i_max (a := a4) (b := xv9) rfl rfl
                          refine T_ql (i_add rfl l_1 (by omega) (by omega)) ?_
                          intro xv64 hq65_
                          exact ih a2 a3 xv64 M hG hS (i_rng (lo := 0) (hi := 240) rfl (by omega) (by omega)) (i_rng (lo := 0) (hi := 64) rfl (by omega) (by omega)) (i_rng (lo := 0) (hi := 1000001) rfl (by omega) (by omega)) (by omega)
                    · unfold f_X1_run_203
                      refine T_eq l_0 l_0 (fun hq66_ => ?_) (fun hq66_ => ?_)
                      · unfold f_X1_run_222
                        refine T_eq l_0 l_0 (fun hq67_ => ?_) (fun hq67_ => ?_)
                        · refine T_ql (i_sub rfl l_1 (by omega) (by omega)) ?_
                          intro xv68 hq69_
                          refine T_ql (i_add rfl l_1 (by omega) (by omega)) ?_
                          intro xv70 hq71_
                          exact ih a2 xv68 xv70 M hG hS (i_rng (lo := 0) (hi := 240) rfl (by omega) (by omega)) (i_rng (lo := 0) (hi := 64) rfl (by omega) (by omega)) (i_rng (lo := 0) (hi := 1000001) rfl (by omega) (by omega)) (by omega)
                        · exfalso; omega
                      · exfalso; omega
                  · unfold f_X1_run_195
                    refine T_eq rfl l_0 (fun hq72_ => ?_) (fun hq72_ => ?_)
                    · unfold f_X1_run_203
                      refine T_eq l_1 l_0 (fun hq73_ => ?_) (fun hq73_ => ?_)
                      · exfalso; omega
                      · unfold f_X1_run_222
                        refine T_eq l_1 l_0 (fun hq74_ => ?_) (fun hq74_ => ?_)
                        · exfalso; omega
                        · have hq75_ := i_max (a := a4) (b := xv9) rfl rfl
                          refine T_ql (i_add rfl l_1 (by omega) (by omega)) ?_
                          intro xv76 hq77_
                          exact ih a2 a3 xv76 M hG hS (i_rng (lo := 0) (hi := 240) rfl (by omega) (by omega)) (i_rng (lo := 0) (hi := 64) rfl (by omega) (by omega)) (i_rng (lo := 0) (hi := 1000001) rfl (by omega) (by omega)) (by omega)
                    · unfold f_X1_run_203
                      refine T_eq l_0 l_0 (fun hq78_ => ?_) (fun hq78_ => ?_)
                      · unfold f_X1_run_222
                        refine T_eq l_0 l_0 (fun hq79_ => ?_) (fun hq79_ => ?_)
                        · refine T_ql (i_sub rfl l_1 (by omega) (by omega)) ?_
                          intro xv80 hq81_
                          refine T_ql (i_add rfl l_1 (by omega) (by omega)) ?_
                          intro xv82 hq83_
                          exact ih a2 xv80 xv82 M hG hS (i_rng (lo := 0) (hi := 240) rfl (by omega) (by omega)) (i_rng (lo := 0) (hi := 64) rfl (by omega) (by omega)) (i_rng (lo := 0) (hi := 1000001) rfl (by omega) (by omega)) (by omega)
                        · exfalso; omega
                      · exfalso; omega
            · refine T_lt rfl l_2 (fun hq84_ => ?_) (fun hq84_ => ?_)
              · unfold f_X1_run_139
                refine T_eq rfl l_2 (fun hq85_ => ?_) (fun hq85_ => ?_)
                · exfalso; omega
                · unfold f_X1_run_171
                  refine T_lt rfl l_1 (fun hq86_ => ?_) (fun hq86_ => ?_)
                  · refine T_ql (i_add rfl l_1 (by omega) (by omega)) ?_
                    intro xv87 hq88_
                    exact ih a2 a3 xv87 M hG hS (i_rng (lo := 0) (hi := 240) rfl (by omega) (by omega)) (i_rng (lo := 0) (hi := 64) rfl (by omega) (by omega)) (i_rng (lo := 0) (hi := 1000001) rfl (by omega) (by omega)) (by omega)
                  · refine T_qg (i_sub rfl l_1 (by omega) (by omega)) (by omega) (by omega) ?_
                    refine T_eq rfl l_4 (fun hq89_ => ?_) (fun hq89_ => ?_)
                    · exfalso; omega
                    · unfold f_X1_run_195
                      refine T_eq rfl l_0 (fun hq90_ => ?_) (fun hq90_ => ?_)
                      · unfold f_X1_run_203
                        refine T_eq l_1 l_0 (fun hq91_ => ?_) (fun hq91_ => ?_)
                        · exfalso; omega
                        · unfold f_X1_run_222
                          refine T_eq l_1 l_0 (fun hq92_ => ?_) (fun hq92_ => ?_)
                          · exfalso; omega
                          · have hq93_ := i_max (a := a4) (b := xv9) rfl rfl
                            refine T_ql (i_add rfl l_1 (by omega) (by omega)) ?_
                            intro xv94 hq95_
                            exact ih a2 a3 xv94 M hG hS (i_rng (lo := 0) (hi := 240) rfl (by omega) (by omega)) (i_rng (lo := 0) (hi := 64) rfl (by omega) (by omega)) (i_rng (lo := 0) (hi := 1000001) rfl (by omega) (by omega)) (by omega)
                      · unfold f_X1_run_203
                        refine T_eq l_0 l_0 (fun hq96_ => ?_) (fun hq96_ => ?_)
                        · unfold f_X1_run_222
                          refine T_eq l_0 l_0 (fun hq97_ => ?_) (fun hq97_ => ?_)
                          · refine T_ql (i_sub rfl l_1 (by omega) (by omega)) ?_
                            intro xv98 hq99_
                            refine T_ql (i_add rfl l_1 (by omega) (by omega)) ?_
                            intro xv100 hq101_
                            exact ih a2 xv98 xv100 M hG hS (i_rng (lo := 0) (hi := 240) rfl (by omega) (by omega)) (i_rng (lo := 0) (hi := 64) rfl (by omega) (by omega)) (i_rng (lo := 0) (hi := 1000001) rfl (by omega) (by omega)) (by omega)
                          · exfalso; omega
                        · exfalso; omega
              · refine T_ql (i_add rfl l_m1 (by omega) (by omega)) ?_
                intro xv102 hq103_
                refine T_qg (i_sub rfl l_1 (by omega) (by omega)) (by omega) (by omega) ?_
                refine T_qg rfl (by omega) (by omega) ?_
                have hq106_ := i_full (xv5)
                refine T_qc (t_X1_reckon hn xv5 (M 36 ((xv102 - (1 : Int32)).toNatClampNeg)) (M 36 xv102.toNatClampNeg) M hG (i_rng (lo := 32) (hi := 2147483647) rfl (by omega) (by omega))) ?_
                rintro rv104 mv105 ⟨gq107_, kq108_⟩
                have kq109_ := Sm.call hS kq108_ rfl
                refine T_qg (i_sub rfl l_1 (by omega) (by omega)) (by omega) (by omega) ?_
                refine T_mu gq107_ kq109_ (rn_36 _ _) (nw_36 _) (i := 1) rfl ⟨by decide, by decide, Or.inl rfl⟩ ?_
                intro mv110 hq111_ gq112_ kq113_
                have hq114_ : (mv110 36 ((xv102 - (1 : Int32)).toNatClampNeg)).toInt = rv104.toInt := by rw [hq111_, mu_at]
                refine T_ql (i_add rfl l_1 (by omega) (by omega)) ?_
                intro xv115 hq116_
                exact ih a2 xv102 xv115 mv110 gq112_ kq113_ (i_rng (lo := 0) (hi := 240) rfl (by omega) (by omega)) (i_rng (lo := 0) (hi := 64) rfl (by omega) (by omega)) (i_rng (lo := 0) (hi := 1000001) rfl (by omega) (by omega)) (by omega)
      · unfold f_X1_run_243
        refine T_eq rfl l_0 (fun hq117_ => ?_) (fun hq117_ => ?_)
        · refine T_le l_1 rfl (fun hq118_ => ?_) (fun hq118_ => ?_)
          · exact T_ret ⟨hG, hS⟩
          · exact T_ret ⟨hG, hS⟩
        · exact T_ret ⟨hG, hS⟩
theorem t_X1_run {n : Nat} (hn : 200000 ≤ n) {j : Nat} (hj : q_isLaw j) (a1 a2 : Int32) (M : qM) (hG : G M) (pa1 : 0 ≤ a1.toInt ∧ a1.toInt ≤ 240) (pa2 : 0 ≤ a2.toInt ∧ a2.toInt ≤ 240) : qT (f_X1_run n j a1 a2 M) (po_X1_run a1 a2 M) := by
  have hS : Sm l_X1_run M M := Sm.rf
  unfold f_X1_run
  refine T_mu hG hS (rn_34_4 _) (nw_34 _) (i := 0) rfl ⟨by decide, by decide, Or.inr ⟨by decide, by decide⟩⟩ ?_
  intro mv119 hq120_ gq121_ kq122_
  have hq123_ : (mv119 34 4).toInt = 0 := by rw [hq120_, mu_at]; exact l_0
  exact (t_X1_run_10 hn hj) n a2 (0 : Int32) a1 mv119 gq121_ kq122_ (i_rng (lo := 0) (hi := 240) rfl (by omega) (by omega)) (i_rng (lo := 0) (hi := 64) l_0 (by omega) (by omega)) (i_rng (lo := 0) (hi := 1000001) rfl (by omega) (by omega)) (by have e1 : ((0 : Int32)).toInt = _ := l_0; omega)
abbrev l_X1_isAlike : List Bx := [(34, 35, 4, 5), (35, 36, 3, 6), (36, 37, 0, 0)]
abbrev po_X1_isAlike (a1 : Int32) (M : qM) (v : Int32) (M' : qM) : Prop := (0 ≤ v.toInt ∧ v.toInt ≤ 1) ∧ G M' ∧ Sm l_X1_isAlike M M'
theorem t_X1_isAlike_49 {n : Nat} (hn : 200000 ≤ n) {j : Nat} (hj : q_isLaw j) {oa1 : Int32} {M0 : qM} : ∀ (m : Nat) (a2 : Int32) (M : qM), G M → Sm l_X1_isAlike M0 M → 0 ≤ a2.toInt ∧ a2.toInt ≤ 16 → 16 - a2.toInt < (m : Int) → qT (f_X1_isAlike_49 n j m a2 M) (po_X1_isAlike oa1 M0) := by
  intro m
  induction m with
  | zero =>
    intro a2 M hG hS i0 i3
    exfalso; omega
  | succ m ih =>
    intro a2 M hG hS i0 i3
    show qT (b_X1_isAlike_49 n j (f_X1_isAlike_49 n j m) a2 M) _
    unfold b_X1_isAlike_49
    have hq3_ := rw_0_7 hj hG
    refine T_le rfl rfl (fun hq4_ => ?_) (fun hq4_ => ?_)
    · exact T_ret ⟨(i_rng (lo := 0) (hi := 1) l_0 (by omega) (by omega)), hG, hS⟩
    · refine T_qg rfl (by omega) (by omega) ?_
      refine T_eq rfl l_97 (fun hq5_ => ?_) (fun hq5_ => ?_)
      · refine T_qg rfl (by omega) (by omega) ?_
        refine T_qg rfl (by omega) (by omega) ?_
        have hq8_ := rw_5 hj hG a2.toNatClampNeg
        have hq9_ := rw_6 hj hG a2.toNatClampNeg
        refine T_qc (t_X1_run hn hj (M (j + 5) a2.toNatClampNeg) (M (j + 6) a2.toNatClampNeg) M hG (i_rng (lo := 0) (hi := 240) rfl (by omega) (by omega)) (i_rng (lo := 0) (hi := 240) rfl (by omega) (by omega))) ?_
        rintro rv6 mv7 ⟨gq10_, kq11_⟩
        have kq12_ := Sm.call hS kq11_ rfl
        have hq13_ : (mv7 j 7).toInt = (M j 7).toInt := by rw [kq11_ j 7 (outl (lawin hj).1 rfl)]
        refine T_eq rfl l_0 (fun hq14_ => ?_) (fun hq14_ => ?_)
        · refine T_ql (i_add rfl l_1 (by omega) (by omega)) ?_
          intro xv15 hq16_
          exact ih xv15 mv7 gq10_ kq12_ (i_rng (lo := 0) (hi := 16) rfl (by omega) (by omega)) (by omega)
        · exact T_ret ⟨(i_rng (lo := 0) (hi := 1) l_1 (by omega) (by omega)), gq10_, kq12_⟩
      · refine T_ql (i_add rfl l_1 (by omega) (by omega)) ?_
        intro xv17 hq18_
        exact ih xv17 M hG hS (i_rng (lo := 0) (hi := 16) rfl (by omega) (by omega)) (by omega)
theorem t_X1_isAlike {n : Nat} (hn : 200000 ≤ n) {j : Nat} (hj : q_isLaw j) (a1 : Int32) (M : qM) (hG : G M) (pa1 : 0 ≤ a1.toInt ∧ a1.toInt ≤ 11) : qT (f_X1_isAlike n j a1 M) (po_X1_isAlike a1 M) := by
  have hS : Sm l_X1_isAlike M M := Sm.rf
  unfold f_X1_isAlike
  refine T_mu hG hS (rn_35 _ _) (nw_35 _) (i := 1) rfl ⟨by decide, by decide, Or.inr ⟨by decide, by decide⟩⟩ ?_
  intro mv19 hq20_ gq21_ kq22_
  have hq23_ : (mv19 35 3).toInt = a1.toInt := by rw [hq20_, mu_at]
  refine T_qg rfl (by omega) (by omega) ?_
  refine T_mu gq21_ kq22_ (rn_35 _ _) (nw_35 _) (i := 1) rfl ⟨by decide, by decide, Or.inr ⟨by decide, by decide⟩⟩ ?_
  intro mv24 hq25_ gq26_ kq27_
  have hq28_ : (mv24 35 3).toInt = (mv19 35 3).toInt := by rw [hq25_, mu_ne (Or.inr (by decide))]
  have hq29_ : (mv24 35 4).toInt = (mv19 5 a1.toNatClampNeg).toInt := by rw [hq25_, mu_at]
  refine T_qg rfl (by omega) (by omega) ?_
  refine T_qc (t_J6_bitCount_0f7a4 hn ((mv24 35 2) &&& (mv24 5 a1.toNatClampNeg)) mv24 gq26_ ) ?_
  rintro rv30 mv31 ⟨hq32_, gq33_, kq34_⟩
  have hq35_ := kq34_.nil
  subst hq35_
  refine T_mu gq26_ kq27_ (rn_35 _ _) (nw_35 _) (i := 1) rfl ⟨by decide, by decide, Or.inr ⟨by decide, by decide⟩⟩ ?_
  intro mv36 hq37_ gq38_ kq39_
  have hq40_ : (mv36 35 3).toInt = (mv24 35 3).toInt := by rw [hq37_, mu_ne (Or.inr (by decide))]
  have hq41_ : (mv36 35 4).toInt = (mv24 35 4).toInt := by rw [hq37_, mu_ne (Or.inr (by decide))]
  have hq42_ : (mv36 35 5).toInt = rv30.toInt := by rw [hq37_, mu_at]
  exact (t_X1_isAlike_49 hn hj) n (0 : Int32) mv36 gq38_ kq39_ (i_rng (lo := 0) (hi := 16) l_0 (by omega) (by omega)) (by have e0 : ((0 : Int32)).toInt = _ := l_0; omega)
abbrev l_X1_alikes : List Bx := [(34, 35, 4, 5), (35, 37, 0, 0)]
abbrev po_X1_alikes (a1 a2 : Int32) (M : qM) (v : Int32) (M' : qM) : Prop := G M' ∧ Sm l_X1_alikes M M'
theorem t_X1_alikes_29 {n : Nat} (hn : 200000 ≤ n) {j : Nat} (hj : q_isLaw j) {oa1 oa2 : Int32} {M0 : qM} : ∀ (m : Nat) (a1 a3 a4 : Int32) (M : qM), G M → Sm l_X1_alikes M0 M → 0 ≤ a1.toInt ∧ a1.toInt ≤ 11 → 0 ≤ a4.toInt ∧ a4.toInt ≤ 12 → 12 - a4.toInt < (m : Int) → qT (f_X1_alikes_29 n j m a1 a3 a4 M) (po_X1_alikes oa1 oa2 M0) := by
  intro m
  induction m with
  | zero =>
    intro a1 a3 a4 M hG hS i0 i1 i4
    exfalso; omega
  | succ m ih =>
    intro a1 a3 a4 M hG hS i0 i1 i4
    show qT (b_X1_alikes_29 n j (f_X1_alikes_29 n j m) a1 a3 a4 M) _
    unfold b_X1_alikes_29
    refine T_le l_12 rfl (fun hq7_ => ?_) (fun hq7_ => ?_)
    · exact T_ret ⟨hG, hS⟩
    · refine T_eq rfl rfl (fun hq8_ => ?_) (fun hq8_ => ?_)
      · unfold f_X1_alikes_63
        have hq9_ := i_shl1 (c := 11) (k := a4) (by decide) rfl (by omega) (by omega)
        refine T_ql rfl ?_
        intro xv10 hq11_
        refine T_ql (i_add rfl l_1 (by omega) (by omega)) ?_
        intro xv12 hq13_
        exact ih a1 xv10 xv12 M hG hS (i_rng (lo := 0) (hi := 11) rfl (by omega) (by omega)) (i_rng (lo := 0) (hi := 12) rfl (by omega) (by omega)) (by omega)
      · refine T_qc (t_X2_knows hn a4 M hG ) ?_
        rintro rv14 mv15 ⟨hq16_, hq17_, gq18_, kq19_⟩
        have hq20_ := kq19_.nil
        subst hq20_
        refine T_eq rfl l_0 (fun hq21_ => ?_) (fun hq21_ => ?_)
        · refine T_ql (i_add rfl l_1 (by omega) (by omega)) ?_
          intro xv22 hq23_
          exact ih a1 a3 xv22 M hG hS (i_rng (lo := 0) (hi := 11) rfl (by omega) (by omega)) (i_rng (lo := 0) (hi := 12) rfl (by omega) (by omega)) (by omega)
        · refine T_qc (t_X1_isAlike hn hj a4 M hG (i_rng (lo := 0) (hi := 11) rfl (by omega) (by omega))) ?_
          rintro rv24 mv25 ⟨hq26_, gq27_, kq28_⟩
          have kq29_ := Sm.call hS kq28_ rfl
          refine T_eq rfl l_0 (fun hq30_ => ?_) (fun hq30_ => ?_)
          · refine T_ql (i_add rfl l_1 (by omega) (by omega)) ?_
            intro xv31 hq32_
            exact ih a1 a3 xv31 mv25 gq27_ kq29_ (i_rng (lo := 0) (hi := 11) rfl (by omega) (by omega)) (i_rng (lo := 0) (hi := 12) rfl (by omega) (by omega)) (by omega)
          · unfold f_X1_alikes_63
            have hq33_ := i_shl1 (c := 11) (k := a4) (by decide) rfl (by omega) (by omega)
            refine T_ql rfl ?_
            intro xv34 hq35_
            refine T_ql (i_add rfl l_1 (by omega) (by omega)) ?_
            intro xv36 hq37_
            exact ih a1 xv34 xv36 mv25 gq27_ kq29_ (i_rng (lo := 0) (hi := 11) rfl (by omega) (by omega)) (i_rng (lo := 0) (hi := 12) rfl (by omega) (by omega)) (by omega)
theorem t_X1_alikes {n : Nat} (hn : 200000 ≤ n) {j : Nat} (hj : q_isLaw j) (a1 a2 : Int32) (M : qM) (hG : G M) (pa1 : 0 ≤ a1.toInt ∧ a1.toInt ≤ 11) : qT (f_X1_alikes n j a1 a2 M) (po_X1_alikes a1 a2 M) := by
  have hS : Sm l_X1_alikes M M := Sm.rf
  unfold f_X1_alikes
  refine T_qg rfl (by omega) (by omega) ?_
  refine T_qg rfl (by omega) (by omega) ?_
  refine T_qc (t_X1_tellDeed hn a1 (M 4 a1.toNatClampNeg) (M 5 a1.toNatClampNeg) a2 M hG (i_rng (lo := 0) (hi := 12) rfl (by omega) (by omega))) ?_
  rintro rv38 mv39 ⟨hq40_, gq41_, kq42_⟩
  have kq43_ := Sm.call hS kq42_ rfl
  exact (t_X1_alikes_29 hn hj) n a1 (0 : Int32) (0 : Int32) mv39 gq41_ kq43_ (i_rng (lo := 0) (hi := 11) rfl (by omega) (by omega)) (i_rng (lo := 0) (hi := 12) l_0 (by omega) (by omega)) (by have e1 : ((0 : Int32)).toInt = _ := l_0; have e2 : ((0 : Int32)).toInt = _ := l_0; omega)
abbrev l_X10_triesByAll_c7 : List Bx := []
abbrev po_X10_triesByAll_c7 (a1 : Int32) (M : qM) (v : Int32) (M' : qM) : Prop := G M' ∧ Sm l_X10_triesByAll_c7 M M'
theorem t_X10_triesByAll_c7_4 {n : Nat} (hn : 200000 ≤ n) {oa1 : Int32} {M0 : qM} : ∀ (m : Nat) (a1 a2 a3 : Int32) (M : qM), G M → Sm l_X10_triesByAll_c7 M0 M → 0 ≤ a1.toInt ∧ a1.toInt ≤ 11 → 0 ≤ a3.toInt ∧ a3.toInt ≤ 8 → 8 - a3.toInt < (m : Int) → qT (f_X10_triesByAll_4 n 7 m a1 a2 a3 M) (po_X10_triesByAll_c7 oa1 M0) := by
  intro m
  induction m with
  | zero =>
    intro a1 a2 a3 M hG hS i0 i1 i4
    exfalso; omega
  | succ m ih =>
    intro a1 a2 a3 M hG hS i0 i1 i4
    show qT (b_X10_triesByAll_4 n 7 (f_X10_triesByAll_4 n 7 m) a1 a2 a3 M) _
    unfold b_X10_triesByAll_4
    try simp only [Nat.reduceAdd]
    refine T_le l_8 rfl (fun hq3_ => ?_) (fun hq3_ => ?_)
    · exact T_ret ⟨hG, hS⟩
    · refine T_qg (i_add (i_mul rfl l_12 (by omega) (by omega)) rfl (by omega) (by omega)) (by omega) (by omega) ?_
      have hq4_ := i_full (a2)
      have hq5_ := i_full (M 9 (((a3 * (12 : Int32)) + a1).toNatClampNeg))
      refine T_ql rfl ?_
      intro xv6 hq7_
      refine T_ql (i_add rfl l_1 (by omega) (by omega)) ?_
      intro xv8 hq9_
      exact ih a1 xv6 xv8 M hG hS (i_rng (lo := 0) (hi := 11) rfl (by omega) (by omega)) (i_rng (lo := 0) (hi := 8) rfl (by omega) (by omega)) (by omega)
theorem t_X10_triesByAll_c7 {n : Nat} (hn : 200000 ≤ n) (a1 : Int32) (M : qM) (hG : G M) (pa1 : 0 ≤ a1.toInt ∧ a1.toInt ≤ 11) : qT (f_X10_triesByAll n 7 a1 M) (po_X10_triesByAll_c7 a1 M) := by
  have hS : Sm l_X10_triesByAll_c7 M M := Sm.rf
  unfold f_X10_triesByAll
  try simp only [Nat.reduceAdd]
  exact (t_X10_triesByAll_c7_4 hn) n a1 (0 : Int32) (0 : Int32) M hG hS (i_rng (lo := 0) (hi := 11) rfl (by omega) (by omega)) (i_rng (lo := 0) (hi := 8) l_0 (by omega) (by omega)) (by have e1 : ((0 : Int32)).toInt = _ := l_0; have e2 : ((0 : Int32)).toInt = _ := l_0; omega)
abbrev l_X1_tellTry : List Bx := [(35, 36, 7, 12)]
abbrev po_X1_tellTry (a1 a2 a3 a4 a5 : Int32) (M : qM) (v : Int32) (M' : qM) : Prop := (0 ≤ v.toInt ∧ v.toInt ≤ 0) ∧ G M' ∧ Sm l_X1_tellTry M M'
theorem t_X1_tellTry {n : Nat} (hn : 200000 ≤ n) (a1 a2 a3 a4 a5 : Int32) (M : qM) (hG : G M) (pa1 : 0 ≤ a1.toInt ∧ a1.toInt ≤ 7) (pa2 : 0 ≤ a2.toInt ∧ a2.toInt ≤ 8) : qT (f_X1_tellTry n a1 a2 a3 a4 a5 M) (po_X1_tellTry a1 a2 a3 a4 a5 M) := by
  have hS : Sm l_X1_tellTry M M := Sm.rf
  unfold f_X1_tellTry
  refine T_mu hG hS (rn_35 _ _) (nw_35 _) (i := 0) rfl ⟨by decide, by decide, Or.inr ⟨by decide, by decide⟩⟩ ?_
  intro mv1 hq2_ gq3_ kq4_
  have hq5_ : (mv1 35 7).toInt = a1.toInt := by rw [hq2_, mu_at]
  refine T_mu gq3_ kq4_ (rn_35 _ _) (nw_35 _) (i := 0) rfl ⟨by decide, by decide, Or.inr ⟨by decide, by decide⟩⟩ ?_
  intro mv6 hq7_ gq8_ kq9_
  have hq10_ : (mv6 35 7).toInt = (mv1 35 7).toInt := by rw [hq7_, mu_ne (Or.inr (by decide))]
  have hq11_ : (mv6 35 8).toInt = a2.toInt := by rw [hq7_, mu_at]
  refine T_mu gq8_ kq9_ (rn_35 _ _) (nw_35 _) (i := 0) rfl ⟨by decide, by decide, Or.inr ⟨by decide, by decide⟩⟩ ?_
  intro mv12 hq13_ gq14_ kq15_
  have hq16_ : (mv12 35 7).toInt = (mv6 35 7).toInt := by rw [hq13_, mu_ne (Or.inr (by decide))]
  have hq17_ : (mv12 35 8).toInt = (mv6 35 8).toInt := by rw [hq13_, mu_ne (Or.inr (by decide))]
  have hq18_ : (mv12 35 9).toInt = a3.toInt := by rw [hq13_, mu_at]
  refine T_mu gq14_ kq15_ (rn_35 _ _) (nw_35 _) (i := 0) rfl ⟨by decide, by decide, Or.inr ⟨by decide, by decide⟩⟩ ?_
  intro mv19 hq20_ gq21_ kq22_
  have hq23_ : (mv19 35 7).toInt = (mv12 35 7).toInt := by rw [hq20_, mu_ne (Or.inr (by decide))]
  have hq24_ : (mv19 35 8).toInt = (mv12 35 8).toInt := by rw [hq20_, mu_ne (Or.inr (by decide))]
  have hq25_ : (mv19 35 9).toInt = (mv12 35 9).toInt := by rw [hq20_, mu_ne (Or.inr (by decide))]
  have hq26_ : (mv19 35 10).toInt = a4.toInt := by rw [hq20_, mu_at]
  refine T_mu gq21_ kq22_ (rn_35 _ _) (nw_35 _) (i := 0) rfl ⟨by decide, by decide, Or.inr ⟨by decide, by decide⟩⟩ ?_
  intro mv27 hq28_ gq29_ kq30_
  have hq31_ : (mv27 35 7).toInt = (mv19 35 7).toInt := by rw [hq28_, mu_ne (Or.inr (by decide))]
  have hq32_ : (mv27 35 8).toInt = (mv19 35 8).toInt := by rw [hq28_, mu_ne (Or.inr (by decide))]
  have hq33_ : (mv27 35 9).toInt = (mv19 35 9).toInt := by rw [hq28_, mu_ne (Or.inr (by decide))]
  have hq34_ : (mv27 35 10).toInt = (mv19 35 10).toInt := by rw [hq28_, mu_ne (Or.inr (by decide))]
  have hq35_ : (mv27 35 11).toInt = a5.toInt := by rw [hq28_, mu_at]
  exact T_ret ⟨(i_rng (lo := 0) (hi := 0) l_0 (by omega) (by omega)), gq29_, kq30_⟩
abbrev l_X0_tellAll_c7 : List Bx := [(35, 36, 0, 0)]
abbrev po_X0_tellAll_c7 (a2 a3 a4 : Int32) (M : qM) (v : Int32) (M' : qM) : Prop := (0 ≤ v.toInt ∧ v.toInt ≤ 0) ∧ G M' ∧ Sm l_X0_tellAll_c7 M M'
theorem t_X0_tellAll_c7 {n : Nat} (hn : 200000 ≤ n) (a2 a3 a4 : Int32) (M : qM) (hG : G M) (pa2 : 0 ≤ a2.toInt ∧ a2.toInt ≤ 7) (pa3 : 0 ≤ a3.toInt ∧ a3.toInt ≤ 11) (pa4 : 0 ≤ a4.toInt ∧ a4.toInt ≤ 8) : qT (f_X0_tellAll n 7 a2 a3 a4 M) (po_X0_tellAll_c7 a2 a3 a4 M) := by
  have hS : Sm l_X0_tellAll_c7 M M := Sm.rf
  unfold f_X0_tellAll
  try simp only [Nat.reduceAdd]
  refine T_ql (i_add (i_mul rfl l_12 (by omega) (by omega)) rfl (by omega) (by omega)) ?_
  intro xv1 hq2_
  refine T_qg rfl (by omega) (by omega) ?_
  refine T_qg rfl (by omega) (by omega) ?_
  refine T_qc (t_X1_tellDeed hn a3 (M 4 a3.toNatClampNeg) (M 5 a3.toNatClampNeg) (M 7 9) M hG (i_rng (lo := 0) (hi := 12) rfl (by omega) (by omega))) ?_
  rintro rv3 mv4 ⟨hq5_, gq6_, kq7_⟩
  have kq8_ := Sm.call hS kq7_ rfl
  refine T_qg rfl (by omega) (by omega) ?_
  refine T_qc (t_X10_triesByAll_c7 hn a3 mv4 gq6_ (i_rng (lo := 0) (hi := 11) rfl (by omega) (by omega))) ?_
  rintro rv9 mv10 ⟨gq11_, kq12_⟩
  have hq13_ := kq12_.nil
  subst hq13_
  refine T_qg rfl (by omega) (by omega) ?_
  refine T_qc (t_X1_tellTry hn a2 a4 (mv4 9 xv1.toNatClampNeg) rv9 (mv4 11 xv1.toNatClampNeg) mv4 gq6_ (i_rng (lo := 0) (hi := 7) rfl (by omega) (by omega)) (i_rng (lo := 0) (hi := 8) rfl (by omega) (by omega))) ?_
  rintro rv14 mv15 ⟨hq16_, gq17_, kq18_⟩
  have kq19_ := Sm.call kq8_ kq18_ rfl
  exact T_ret ⟨(i_rng (lo := 0) (hi := 0) l_0 (by omega) (by omega)), gq17_, kq19_⟩
