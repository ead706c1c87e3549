abbrev l_J7_fill_53178_c35_12 : List Bx := [(35, 36, 0, 0)]
abbrev po_J7_fill_53178_c35_12 (a1 : Int32) (M : qM) (v : Int32) (M' : qM) : Prop := (0 ≤ v.toInt ∧ v.toInt ≤ 0) ∧ G M' ∧ Sm l_J7_fill_53178_c35_12 M M'
theorem t_J7_fill_53178_c35_12_5 {n : Nat} (hn : 200000 ≤ n) {oa1 : Int32} {M0 : qM} : ∀ (m : Nat) (a1 a2 a3 : Int32) (M : qM), G M → Sm l_J7_fill_53178_c35_12 M0 M → 0 ≤ a1.toInt ∧ a1.toInt ≤ 0 → 0 ≤ a2.toInt ∧ a2.toInt ≤ 12 → 12 ≤ a3.toInt ∧ a3.toInt ≤ 12 → 12 - a2.toInt < (m : Int) → qT (f_J7_fill_53178_5 n 35 12 m a1 a2 a3 M) (po_J7_fill_53178_c35_12 oa1 M0) := by
  intro m
  induction m with
  | zero =>
    intro a1 a2 a3 M hG hS i0 i1 i2 i3
    exfalso; omega
  | succ m ih =>
    intro a1 a2 a3 M hG hS i0 i1 i2 i3
    show qT (b_J7_fill_53178_5 n 35 12 (f_J7_fill_53178_5 n 35 12 m) a1 a2 a3 M) _
    unfold b_J7_fill_53178_5
    try simp only [Nat.reduceAdd]
    refine T_le rfl rfl (fun hq2_ => ?_) (fun hq2_ => ?_)
    · exact T_ret ⟨(i_rng (lo := 0) (hi := 0) l_0 (by omega) (by omega)), hG, hS⟩
    · refine T_qg rfl (by omega) (by omega) ?_
      refine T_mu hG hS (rn_35 _ _) (nw_35 _) (i := 0) rfl ⟨by decide, by decide, Or.inl rfl⟩ ?_
      intro mv3 hq4_ gq5_ kq6_
      have hq7_ : (mv3 35 a2.toNatClampNeg).toInt = a1.toInt := by rw [hq4_, mu_at]
      refine T_ql (i_add rfl l_1 (by omega) (by omega)) ?_
      intro xv8 hq9_
      exact ih a1 xv8 a3 mv3 gq5_ kq6_ (i_rng (lo := 0) (hi := 0) rfl (by omega) (by omega)) (i_rng (lo := 0) (hi := 12) rfl (by omega) (by omega)) (i_rng (lo := 12) (hi := 12) rfl (by omega) (by omega)) (by omega)
theorem t_J7_fill_53178_c35_12 {n : Nat} (hn : 200000 ≤ n) (a1 : Int32) (M : qM) (hG : G M) (pa1 : 0 ≤ a1.toInt ∧ a1.toInt ≤ 0) : qT (f_J7_fill_53178 n 35 12 a1 M) (po_J7_fill_53178_c35_12 a1 M) := by
  have hS : Sm l_J7_fill_53178_c35_12 M M := Sm.rf
  unfold f_J7_fill_53178
  try simp only [Nat.reduceAdd]
  refine T_ql (show (Int32.ofNat 12).toInt = 12 from by decide) ?_
  intro xv10 hq11_
  exact (t_J7_fill_53178_c35_12_5 hn) n a1 (0 : Int32) xv10 M hG hS (i_rng (lo := 0) (hi := 0) rfl (by omega) (by omega)) (i_rng (lo := 0) (hi := 12) l_0 (by omega) (by omega)) (i_rng (lo := 12) (hi := 12) rfl (by omega) (by omega)) (by have e1 : ((0 : Int32)).toInt = _ := l_0; omega)
abbrev l_X1_tellDeed : List Bx := [(35, 36, 0, 0)]
abbrev po_X1_tellDeed (a1 a2 a3 a4 : Int32) (M : qM) (v : Int32) (M' : qM) : Prop := (0 ≤ v.toInt ∧ v.toInt ≤ 0) ∧ G M' ∧ Sm l_X1_tellDeed M M'
theorem t_X1_tellDeed {n : Nat} (hn : 200000 ≤ n) (a1 a2 a3 a4 : Int32) (M : qM) (hG : G M) (pa1 : 0 ≤ a1.toInt ∧ a1.toInt ≤ 12) : qT (f_X1_tellDeed n a1 a2 a3 a4 M) (po_X1_tellDeed a1 a2 a3 a4 M) := by
  have hS : Sm l_X1_tellDeed M M := Sm.rf
  unfold f_X1_tellDeed
  refine T_qc (t_J7_fill_53178_c35_12 hn (0 : Int32) M hG (i_rng (lo := 0) (hi := 0) l_0 (by omega) (by omega))) ?_
  rintro rv1 mv2 ⟨hq3_, gq4_, kq5_⟩
  have kq6_ := Sm.call hS kq5_ rfl
  refine T_mu gq4_ kq6_ (rn_35 _ _) (nw_35 _) (i := 0) rfl ⟨by decide, by decide, Or.inl rfl⟩ ?_
  intro mv7 hq8_ gq9_ kq10_
  have hq11_ : (mv7 35 0).toInt = a1.toInt := by rw [hq8_, mu_at]
  refine T_mu gq9_ kq10_ (rn_35 _ _) (nw_35 _) (i := 0) rfl ⟨by decide, by decide, Or.inl rfl⟩ ?_
  intro mv12 hq13_ gq14_ kq15_
  have hq16_ : (mv12 35 0).toInt = (mv7 35 0).toInt := by rw [hq13_, mu_ne (Or.inr (by decide))]
  have hq17_ : (mv12 35 1).toInt = a2.toInt := by rw [hq13_, mu_at]
  refine T_mu gq14_ kq15_ (rn_35 _ _) (nw_35 _) (i := 0) rfl ⟨by decide, by decide, Or.inl rfl⟩ ?_
  intro mv18 hq19_ gq20_ kq21_
  have hq22_ : (mv18 35 0).toInt = (mv12 35 0).toInt := by rw [hq19_, mu_ne (Or.inr (by decide))]
  have hq23_ : (mv18 35 1).toInt = (mv12 35 1).toInt := by rw [hq19_, mu_ne (Or.inr (by decide))]
  have hq24_ : (mv18 35 2).toInt = a3.toInt := by rw [hq19_, mu_at]
  refine T_mu gq20_ kq21_ (rn_35 _ _) (nw_35 _) (i := 0) rfl ⟨by decide, by decide, Or.inl rfl⟩ ?_
  intro mv25 hq26_ gq27_ kq28_
  have hq29_ : (mv25 35 0).toInt = (mv18 35 0).toInt := by rw [hq26_, mu_ne (Or.inr (by decide))]
  have hq30_ : (mv25 35 1).toInt = (mv18 35 1).toInt := by rw [hq26_, mu_ne (Or.inr (by decide))]
  have hq31_ : (mv25 35 2).toInt = (mv18 35 2).toInt := by rw [hq26_, mu_ne (Or.inr (by decide))]
  have hq32_ : (mv25 35 6).toInt = a4.toInt := by rw [hq26_, mu_at]
  exact T_ret ⟨(i_rng (lo := 0) (hi := 0) l_0 (by omega) (by omega)), gq27_, kq28_⟩
abbrev l_J6_bitCount_0f7a4 : List Bx := []
abbrev po_J6_bitCount_0f7a4 (a0 : Int32) (M : qM) (v : Int32) (M' : qM) : Prop := (0 ≤ v.toInt ∧ v.toInt ≤ 63) ∧ G M' ∧ Sm l_J6_bitCount_0f7a4 M M'
theorem t_J6_bitCount_0f7a4 {n : Nat} (hn : 200000 ≤ n) (a0 : Int32) (M : qM) (hG : G M) : qT (f_J6_bitCount_0f7a4 n a0 M) (po_J6_bitCount_0f7a4 a0 M) := by
  have hS : Sm l_J6_bitCount_0f7a4 M M := Sm.rf
  unfold f_J6_bitCount_0f7a4
  have hq1_ := i_and (a := (a0.toUInt32 >>> (((1 : Int32).toUInt32) &&& (Int32.toUInt32 31))).toInt32) (b := (1431655765 : Int32)) l_1431655765 (by omega)
  have hq2_ := i_full (a0)
  refine T_ql rfl ?_
  intro xv3 hq4_
  have hq5_ := i_and (a := xv3) (b := (858993459 : Int32)) l_858993459 (by omega)
  have hq6_ := i_and (a := (xv3.toUInt32 >>> (((2 : Int32).toUInt32) &&& (Int32.toUInt32 31))).toInt32) (b := (858993459 : Int32)) l_858993459 (by omega)
  refine T_ql (i_add rfl rfl (by omega) (by omega)) ?_
  intro xv7 hq8_
  have hq9_ := i_full ((xv7.toUInt32 >>> (((4 : Int32).toUInt32) &&& (Int32.toUInt32 31))).toInt32)
  have hq10_ := i_and (a := xv7 + ((xv7.toUInt32 >>> (((4 : Int32).toUInt32) &&& (Int32.toUInt32 31))).toInt32)) (b := (252645135 : Int32)) l_252645135 (by omega)
  refine T_ql rfl ?_
  intro xv11 hq12_
  have hq13_ := i_full ((xv11.toUInt32 >>> (((8 : Int32).toUInt32) &&& (Int32.toUInt32 31))).toInt32)
  refine T_ql rfl ?_
  intro xv14 hq15_
  have hq16_ := i_full (xv14)
  have hq17_ := i_full ((xv14.toUInt32 >>> (((16 : Int32).toUInt32) &&& (Int32.toUInt32 31))).toInt32)
  refine T_ql rfl ?_
  intro xv18 hq19_
  have hq20_ := i_and (a := xv18) (b := (63 : Int32)) l_63 (by omega)
  exact T_ret ⟨(i_rng (lo := 0) (hi := 63) rfl (by omega) (by omega)), hG, hS⟩
abbrev l_X1_reckon : List Bx := [(34, 35, 4, 5)]
abbrev po_X1_reckon (a1 a2 a3 : Int32) (M : qM) (v : Int32) (M' : qM) : Prop := G M' ∧ Sm l_X1_reckon M M'
theorem t_X1_reckon {n : Nat} (hn : 200000 ≤ n) (a1 a2 a3 : Int32) (M : qM) (hG : G M) (pa1 : 32 ≤ a1.toInt ∧ a1.toInt ≤ 2147483647) : qT (f_X1_reckon n a1 a2 a3 M) (po_X1_reckon a1 a2 a3 M) := by
  have hS : Sm l_X1_reckon M M := Sm.rf
  unfold f_X1_reckon
  refine T_sw rfl l_42 (fun hq1_ => ?_) (fun hq1_ => ?_)
  · have hq2_ := i_full (a2)
    have hq3_ := i_full (a3)
    exact T_ret ⟨hG, hS⟩
  refine T_sw rfl l_43 (fun hq4_ => ?_) (fun hq4_ => ?_)
  · have hq5_ := i_full (a2)
    have hq6_ := i_full (a3)
    exact T_ret ⟨hG, hS⟩
  refine T_sw rfl l_45 (fun hq7_ => ?_) (fun hq7_ => ?_)
  · have hq8_ := i_full (a2)
    have hq9_ := i_full (a3)
    exact T_ret ⟨hG, hS⟩
  refine T_sw rfl l_60 (fun hq10_ => ?_) (fun hq10_ => ?_)
  · refine T_le rfl rfl (fun hq11_ => ?_) (fun hq11_ => ?_)
    · exact T_ret ⟨hG, hS⟩
    · exact T_ret ⟨hG, hS⟩
  refine T_sw rfl l_61 (fun hq12_ => ?_) (fun hq12_ => ?_)
  · refine T_eq rfl rfl (fun hq13_ => ?_) (fun hq13_ => ?_)
    · exact T_ret ⟨hG, hS⟩
    · exact T_ret ⟨hG, hS⟩
  refine T_sw rfl l_62 (fun hq14_ => ?_) (fun hq14_ => ?_)
  · refine T_le rfl rfl (fun hq15_ => ?_) (fun hq15_ => ?_)
    · exact T_ret ⟨hG, hS⟩
    · exact T_ret ⟨hG, hS⟩
  refine T_sw0 ?_
  refine T_eq rfl l_0 (fun hq16_ => ?_) (fun hq16_ => ?_)
  · refine T_mu hG hS (rn_34_4 _) (nw_34 _) (i := 0) rfl ⟨by decide, by decide, Or.inr ⟨by decide, by decide⟩⟩ ?_
    intro mv17 hq18_ gq19_ kq20_
    have hq21_ : (mv17 34 4).toInt = 1 := by rw [hq18_, mu_at]; exact l_1
    exact T_ret ⟨gq19_, kq20_⟩
  · refine T_eq rfl l_47 (fun hq22_ => ?_) (fun hq22_ => ?_)
    · refine T_qd rfl (by omega) ?_
      have hq23_ := i_full (a2)
      have hq24_ := i_full (a3)
      exact T_ret ⟨hG, hS⟩
    · refine T_qd rfl (by omega) ?_
      exact T_ret ⟨hG, hS⟩
abbrev l_X1_run : List Bx := [(34, 35, 4, 5), (36, 37, 0, 0)]
abbrev po_X1_run (a1 a2 : Int32) (M : qM) (v : Int32) (M' : qM) : Prop := G M' ∧ Sm l_X1_run M M'
theorem t_X1_run_10 {n : Nat} (hn : 200000 ≤ n) {j : Nat} (hj : q_isLaw j) {oa1 oa2 : Int32} {M0 : qM} : ∀ (m : Nat) (a2 a3 a4 : Int32) (M : qM), G M → Sm l_X1_run M0 M → 0 ≤ a2.toInt ∧ a2.toInt ≤ 240 → 0 ≤ a3.toInt ∧ a3.toInt ≤ 64 → 0 ≤ a4.toInt ∧ a4.toInt ≤ 1000001 → (0 : Int) < (m : Int) ∧ 241 - a4.toInt < (m : Int) → qT (f_X1_run_10 n j m a2 a3 a4 M) (po_X1_run oa1 oa2 M0) := by
  intro m
  induction m with
  | zero =>
    intro a2 a3 a4 M hG hS i0 i1 i2 i3
    exfalso; omega
  | succ m ih =>
    intro a2 a3 a4 M hG hS i0 i1 i2 i3
    show qT (b_X1_run_10 n j (f_X1_run_10 n j m) a2 a3 a4 M) _
    unfold b_X1_run_10
    refine T_le rfl rfl (fun hq1_ => ?_) (fun hq1_ => ?_)
    · unfold f_X1_run_243
      refine T_eq rfl l_0 (fun hq2_ => ?_) (fun hq2_ => ?_)
      · refine T_le l_1 rfl (fun hq3_ => ?_) (fun hq3_ => ?_)
        · exact T_ret ⟨hG, hS⟩
        · exact T_ret ⟨hG, hS⟩
      · exact T_ret ⟨hG, hS⟩
    · refine T_eq rfl l_0 (fun hq4_ => ?_) (fun hq4_ => ?_)
      · refine T_qg rfl (by omega) (by omega) ?_
        refine T_ql rfl ?_
        intro xv5 hq6_
        refine T_qg rfl (by omega) (by omega) ?_
        have hq7_ := rw_2 hj hG a4.toNatClampNeg
        have hq8_ := hG.2.1 j hj a4.toNatClampNeg
        refine T_ql rfl ?_
        intro xv9 hq10_
        refine T_eq rfl l_0 (fun hq11_ => ?_) (fun hq11_ => ?_)
        · unfold f_X1_run_58
          refine T_le l_64 rfl (fun hq12_ => ?_) (fun hq12_ => ?_)
          · refine T_ql (i_add rfl l_1 (by omega) (by omega)) ?_
            intro xv13 hq14_
            exact ih a2 a3 xv13 M hG hS (i_rng (lo := 0) (hi := 240) rfl (by omega) (by omega)) (i_rng (lo := 0) (hi := 64) rfl (by omega) (by omega)) (i_rng (lo := 0) (hi := 1000001) rfl (by omega) (by omega)) (by omega)
          · refine T_eq rfl l_0 (fun hq15_ => ?_) (fun hq15_ => ?_)
            · refine T_qg rfl (by omega) (by omega) ?_
              refine T_mu hG hS (rn_36 _ _) (nw_36 _) (i := 1) rfl ⟨by decide, by decide, Or.inl rfl⟩ ?_
              intro mv16 hq17_ gq18_ kq19_
              have hq20_ : (mv16 34 4).toInt = (M 34 4).toInt := by rw [hq17_, mu_ne (Or.inl (by decide))]
              have hq21_ : (mv16 36 a3.toNatClampNeg).toInt = xv9.toInt := by rw [hq17_, mu_at]
              refine T_ql (i_add rfl l_1 (by omega) (by omega)) ?_
              intro xv22 hq23_
              refine T_ql (i_add rfl l_1 (by omega) (by omega)) ?_
              intro xv24 hq25_
              exact ih a2 xv22 xv24 mv16 gq18_ kq19_ (i_rng (lo := 0) (hi := 240) rfl (by omega) (by omega)) (i_rng (lo := 0) (hi := 64) rfl (by omega) (by omega)) (i_rng (lo := 0) (hi := 1000001) rfl (by omega) (by omega)) (by omega)
            · exfalso; omega
        · refine T_eq rfl l_1 (fun hq26_ => ?_) (fun hq26_ => ?_)
          · unfold f_X1_run_58
            refine T_le l_64 rfl (fun hq27_ => ?_) (fun hq27_ => ?_)
            · refine T_ql (i_add rfl l_1 (by omega) (by omega)) ?_
              intro xv28 hq29_
              exact ih a2 a3 xv28 M hG hS (i_rng (lo := 0) (hi := 240) rfl (by omega) (by omega)) (i_rng (lo := 0) (hi := 64) rfl (by omega) (by omega)) (i_rng (lo := 0) (hi := 1000001) rfl (by omega) (by omega)) (by omega)
            · refine T_eq rfl l_0 (fun hq30_ => ?_) (fun hq30_ => ?_)
              · exfalso; omega
              · refine T_qg rfl (by omega) (by omega) ?_
                refine T_qg rfl (by omega) (by omega) ?_
                refine T_mu hG hS (rn_36 _ _) (nw_36 _) (i := 1) rfl ⟨by decide, by decide, Or.inl rfl⟩ ?_
                intro mv31 hq32_ gq33_ kq34_
                have hq35_ : (mv31 34 4).toInt = (M 34 4).toInt := by rw [hq32_, mu_ne (Or.inl (by decide))]
                have hq36_ : (mv31 36 a3.toNatClampNeg).toInt = (M 35 xv9.toNatClampNeg).toInt := by rw [hq32_, mu_at]
                refine T_ql (i_add rfl l_1 (by omega) (by omega)) ?_
                intro xv37 hq38_
                refine T_ql (i_add rfl l_1 (by omega) (by omega)) ?_
                intro xv39 hq40_
                exact ih a2 xv37 xv39 mv31 gq33_ kq34_ (i_rng (lo := 0) (hi := 240) rfl (by omega) (by omega)) (i_rng (lo := 0) (hi := 64) rfl (by omega) (by omega)) (i_rng (lo := 0) (hi := 1000001) rfl (by omega) (by omega)) (by omega)
          · refine T_lt rfl l_32 (fun hq41_ => ?_) (fun hq41_ => ?_)
            · unfold f_X1_run_139
              refine T_eq rfl l_2 (fun hq42_ => ?_) (fun hq42_ => ?_)
              · refine T_lt rfl l_1 (fun hq43_ => ?_) (fun hq43_ => ?_)
                · unfold f_X1_run_171
                  refine T_lt rfl l_1 (fun hq44_ => ?_) (fun hq44_ => ?_)
                  · refine T_ql (i_add rfl l_1 (by omega) (by omega)) ?_
                    intro xv45 hq46_
                    exact ih a2 a3 xv45 M hG hS (i_rng (lo := 0) (hi := 240) rfl (by omega) (by omega)) (i_rng (lo := 0) (hi := 64) rfl (by omega) (by omega)) (i_rng (lo := 0) (hi := 1000001) rfl (by omega) (by omega)) (by omega)
                  · exfalso; omega
                · refine T_qg (i_sub rfl l_1 (by omega) (by omega)) (by omega) (by omega) ?_
                  refine T_qg (i_sub rfl l_1 (by omega) (by omega)) (by omega) (by omega) ?_
                  have hq48_ := i_full (M 36 ((a3 - (1 : Int32)).toNatClampNeg))
                  refine T_mu hG hS (rn_36 _ _) (nw_36 _) (i := 1) rfl ⟨by decide, by decide, Or.inl rfl⟩ ?_
                  intro mv47 hq49_ gq50_ kq51_
                  have hq52_ : (mv47 34 4).toInt = (M 34 4).toInt := by rw [hq49_, mu_ne (Or.inl (by decide))]
                  have hq53_ : (mv47 36 ((a3 - (1 : Int32)).toNatClampNeg)).toInt = ((1 : Int32) - (M 36 ((a3 - (1 : Int32)).toNatClampNeg))).toInt := by rw [hq49_, mu_at]
                  refine T_ql (i_add rfl l_1 (by omega) (by omega)) ?_
                  intro xv54 hq55_
                  exact ih a2 a3 xv54 mv47 gq50_ kq51_ (i_rng (lo := 0) (hi := 240) rfl (by omega) (by omega)) (i_rng (lo := 0) (hi := 64) rfl (by omega) (by omega)) (i_rng (lo := 0) (hi := 1000001) rfl (by omega) (by omega)) (by omega)
              · unfold f_X1_run_171
                refine T_lt rfl l_1 (fun hq56_ => ?_) (fun hq56_ => ?_)
                · refine T_ql (i_add rfl l_1 (by omega) (by omega)) ?_
                  intro xv57 hq58_
                  exact ih a2 a3 xv57 M hG hS (i_rng (lo := 0) (hi := 240) rfl (by omega) (by omega)) (i_rng (lo := 0) (hi := 64) rfl (by omega) (by omega)) (i_rng (lo := 0) (hi := 1000001) rfl (by omega) (by omega)) (by omega)
                · refine T_qg (i_sub rfl l_1 (by omega) (by omega)) (by omega) (by omega) ?_
                  refine T_eq rfl l_4 (fun hq59_ => ?_) (fun hq59_ => ?_)
                  · unfold f_X1_run_195
                    refine T_eq rfl l_1 (fun hq60_ => ?_) (fun hq60_ => ?_)
                    · unfold f_X1_run_203
                      refine T_eq l_1 l_0 (fun hq61_ => ?_) (fun hq61_ => ?_)
                      · exfalso; omega
                      · unfold f_X1_run_222
                        refine T_eq l_1 l_0 (fun hq62_ => ?_) (fun hq62_ => ?_)
                        · exfalso; omega
                        · have hq63_ := i_max (a := a4) (b := xv9) rfl rfl
                          refine T_ql (i_add rfl l_1 (by omega) (by omega)) ?_
                          intro xv64 hq65_
                          exact ih a2 a3 xv64 M hG hS (i_rng (lo := 0) (hi := 240) rfl (by omega) (by omega)) (i_rng (lo := 0) (hi := 64) rfl (by omega) (by omega)) (i_rng (lo := 0) (hi := 1000001) rfl (by omega) (by omega)) (by omega)
                    · unfold f_X1_run_203
                      refine T_eq l_0 l_0 (fun hq66_ => ?_) (fun hq66_ => ?_)
                      · unfold f_X1_run_222
                        refine T_eq l_0 l_0 (fun hq67_ => ?_) (fun hq67_ => ?_)
                        · refine T_ql (i_sub rfl l_1 (by omega) (by omega)) ?_
                          intro xv68 hq69_
                          refine T_ql (i_add rfl l_1 (by omega) (by omega)) ?_
                          intro xv70 hq71_
                          exact ih a2 xv68 xv70 M hG hS (i_rng (lo := 0) (hi := 240) rfl (by omega) (by omega)) (i_rng (lo := 0) (hi := 64) rfl (by omega) (by omega)) (i_rng (lo := 0) (hi := 1000001) rfl (by omega) (by omega)) (by omega)
                        · exfalso; omega
                      · exfalso; omega
                  · unfold f_X1_run_195
                    refine T_eq rfl l_0 (fun hq72_ => ?_) (fun hq72_ => ?_)
                    · unfold f_X1_run_203
                      refine T_eq l_1 l_0 (fun hq73_ => ?_) (fun hq73_ => ?_)
                      · exfalso; omega
                      · unfold f_X1_run_222
                        refine T_eq l_1 l_0 (fun hq74_ => ?_) (fun hq74_ => ?_)
                        · exfalso; omega
                        · have hq75_ := i_max (a := a4) (b := xv9) rfl rfl
                          refine T_ql (i_add rfl l_1 (by omega) (by omega)) ?_
                          intro xv76 hq77_
                          exact ih a2 a3 xv76 M hG hS (i_rng (lo := 0) (hi := 240) rfl (by omega) (by omega)) (i_rng (lo := 0) (hi := 64) rfl (by omega) (by omega)) (i_rng (lo := 0) (hi := 1000001) rfl (by omega) (by omega)) (by omega)
                    · unfold f_X1_run_203
                      refine T_eq l_0 l_0 (fun hq78_ => ?_) (fun hq78_ => ?_)
                      · unfold f_X1_run_222
                        refine T_eq l_0 l_0 (fun hq79_ => ?_) (fun hq79_ => ?_)
                        · refine T_ql (i_sub rfl l_1 (by omega) (by omega)) ?_
                          intro xv80 hq81_
                          refine T_ql (i_add rfl l_1 (by omega) (by omega)) ?_
                          intro xv82 hq83_
                          exact ih a2 xv80 xv82 M hG hS (i_rng (lo := 0) (hi := 240) rfl (by omega) (by omega)) (i_rng (lo := 0) (hi := 64) rfl (by omega) (by omega)) (i_rng (lo := 0) (hi := 1000001) rfl (by omega) (by omega)) (by omega)
                        · exfalso; omega
                      · exfalso; omega
            · refine T_lt rfl l_2 (fun hq84_ => ?_) (fun hq84_ => ?_)
              · unfold f_X1_run_139
                refine T_eq rfl l_2 (fun hq85_ => ?_) (fun hq85_ => ?_)
                · exfalso; omega
                · unfold f_X1_run_171
                  refine T_lt rfl l_1 (fun hq86_ => ?_) (fun hq86_ => ?_)
                  · refine T_ql (i_add rfl l_1 (by omega) (by omega)) ?_
                    intro xv87 hq88_
                    exact ih a2 a3 xv87 M hG hS (i_rng (lo := 0) (hi := 240) rfl (by omega) (by omega)) (i_rng (lo := 0) (hi := 64) rfl (by omega) (by omega)) (i_rng (lo := 0) (hi := 1000001) rfl (by omega) (by omega)) (by omega)
                  · refine T_qg (i_sub rfl l_1 (by omega) (by omega)) (by omega) (by omega) ?_
                    refine T_eq rfl l_4 (fun hq89_ => ?_) (fun hq89_ => ?_)
                    · exfalso; omega
                    · unfold f_X1_run_195
                      refine T_eq rfl l_0 (fun hq90_ => ?_) (fun hq90_ => ?_)
                      · unfold f_X1_run_203
                        refine T_eq l_1 l_0 (fun hq91_ => ?_) (fun hq91_ => ?_)
                        · exfalso; omega
                        · unfold f_X1_run_222
                          refine T_eq l_1 l_0 (fun hq92_ => ?_) (fun hq92_ => ?_)
                          · exfalso; omega
                          · have hq93_ := i_max (a := a4) (b := xv9) rfl rfl
                            refine T_ql (i_add rfl l_1 (by omega) (by omega)) ?_
                            intro xv94 hq95_
                            exact ih a2 a3 xv94 M hG hS (i_rng (lo := 0) (hi := 240) rfl (by omega) (by omega)) (i_rng (lo := 0) (hi := 64) rfl (by omega) (by omega)) (i_rng (lo := 0) (hi := 1000001) rfl (by omega) (by omega)) (by omega)
                      · unfold f_X1_run_203
                        refine T_eq l_0 l_0 (fun hq96_ => ?_) (fun hq96_ => ?_)
                        · unfold f_X1_run_222
                          refine T_eq l_0 l_0 (fun hq97_ => ?_) (fun hq97_ => ?_)
                          · refine T_ql (i_sub rfl l_1 (by omega) (by omega)) ?_
                            intro xv98 hq99_
                            refine T_ql (i_add rfl l_1 (by omega) (by omega)) ?_
                            intro xv100 hq101_
                            exact ih a2 xv98 xv100 M hG hS (i_rng (lo := 0) (hi := 240) rfl (by omega) (by omega)) (i_rng (lo := 0) (hi := 64) rfl (by omega) (by omega)) (i_rng (lo := 0) (hi := 1000001) rfl (by omega) (by omega)) (by omega)
                          · exfalso; omega
                        · exfalso; omega
              · refine T_ql (i_add rfl l_m1 (by omega) (by omega)) ?_
                intro xv102 hq103_
                refine T_qg (i_sub rfl l_1 (by omega) (by omega)) (by omega) (by omega) ?_
                refine T_qg rfl (by omega) (by omega) ?_
                have hq106_ := i_full (xv5)
                refine T_qc (t_X1_reckon hn xv5 (M 36 ((xv102 - (1 : Int32)).toNatClampNeg)) (M 36 xv102.toNatClampNeg) M hG (i_rng (lo := 32) (hi := 2147483647) rfl (by omega) (by omega))) ?_
                rintro rv104 mv105 ⟨gq107_, kq108_⟩
                have kq109_ := Sm.call hS kq108_ rfl
                refine T_qg (i_sub rfl l_1 (by omega) (by omega)) (by omega) (by omega) ?_
                refine T_mu gq107_ kq109_ (rn_36 _ _) (nw_36 _) (i := 1) rfl ⟨by decide, by decide, Or.inl rfl⟩ ?_
                intro mv110 hq111_ gq112_ kq113_
                have hq114_ : (mv110 36 ((xv102 - (1 : Int32)).toNatClampNeg)).toInt = rv104.toInt := by rw [hq111_, mu_at]
                refine T_ql (i_add rfl l_1 (by omega) (by omega)) ?_
                intro xv115 hq116_
                exact ih a2 xv102 xv115 mv110 gq112_ kq113_ (i_rng (lo := 0) (hi := 240) rfl (by omega) (by omega)) (i_rng (lo := 0) (hi := 64) rfl (by omega) (by omega)) (i_rng (lo := 0) (hi := 1000001) rfl (by omega) (by omega)) (by omega)
      · unfold f_X1_run_243
        refine T_eq rfl l_0 (fun hq117_ => ?_) (fun hq117_ => ?_)
        · refine T_le l_1 rfl (fun hq118_ => ?_) (fun hq118_ => ?_)
          · exact T_ret ⟨hG, hS⟩
          · exact T_ret ⟨hG, hS⟩
        · exact T_ret ⟨hG, hS⟩
theorem t_X1_run {n : Nat} (hn : 200000 ≤ n) {j : Nat} (hj : q_isLaw j) (a1 a2 : Int32) (M : qM) (hG : G M) (pa1 : 0 ≤ a1.toInt ∧ a1.toInt ≤ 240) (pa2 : 0 ≤ a2.toInt ∧ a2.toInt ≤ 240) : qT (f_X1_run n j a1 a2 M) (po_X1_run a1 a2 M) := by
  have hS : Sm l_X1_run M M := Sm.rf
  unfold f_X1_run
  refine T_mu hG hS (rn_34_4 _) (nw_34 _) (i := 0) rfl ⟨by decide, by decide, Or.inr ⟨by decide, by decide⟩⟩ ?_
  intro mv119 hq120_ gq121_ kq122_
  have hq123_ : (mv119 34 4).toInt = 0 := by rw [hq120_, mu_at]; exact l_0
  exact (t_X1_run_10 hn hj) n a2 (0 : Int32) a1 mv119 gq121_ kq122_ (i_rng (lo := 0) (hi := 240) rfl (by omega) (by omega)) (i_rng (lo := 0) (hi := 64) l_0 (by omega) (by omega)) (i_rng (lo := 0) (hi := 1000001) rfl (by omega) (by omega)) (by have e1 : ((0 : Int32)).toInt = _ := l_0; omega)
abbrev l_X1_isAlike : List Bx := [(34, 35, 4, 5), (35, 36, 3, 6), (36, 37, 0, 0)]
abbrev po_X1_isAlike (a1 : Int32) (M : qM) (v : Int32) (M' : qM) : Prop := (0 ≤ v.toInt ∧ v.toInt ≤ 1) ∧ G M' ∧ Sm l_X1_isAlike M M'
theorem t_X1_isAlike_49 {n : Nat} (hn : 200000 ≤ n) {j : Nat} (hj : q_isLaw j) {oa1 : Int32} {M0 : qM} : ∀ (m : Nat) (a2 : Int32) (M : qM), G M → Sm l_X1_isAlike M0 M → 0 ≤ a2.toInt ∧ a2.toInt ≤ 16 → 16 - a2.toInt < (m : Int) → qT (f_X1_isAlike_49 n j m a2 M) (po_X1_isAlike oa1 M0) := by
  intro m
  induction m with
  | zero =>
    intro a2 M hG hS i0 i1
    exfalso; omega
  | succ m ih =>
    intro a2 M hG hS i0 i1
    show qT (b_X1_isAlike_49 n j (f_X1_isAlike_49 n j m) a2 M) _
    unfold b_X1_isAlike_49
    have hq3_ := rw_0_7 hj hG
    refine T_le rfl rfl (fun hq4_ => ?_) (fun hq4_ => ?_)
    · exact T_ret ⟨(i_rng (lo := 0) (hi := 1) l_0 (by omega) (by omega)), hG, hS⟩
    · refine T_qg rfl (by omega) (by omega) ?_
      refine T_eq rfl l_97 (fun hq5_ => ?_) (fun hq5_ => ?_)
      · refine T_qg rfl (by omega) (by omega) ?_
        refine T_qg rfl (by omega) (by omega) ?_
        have hq8_ := rw_5 hj hG a2.toNatClampNeg
        have hq9_ := rw_6 hj hG a2.toNatClampNeg
        refine T_qc (t_X1_run hn hj (M (j + 5) a2.toNatClampNeg) (M (j + 6) a2.toNatClampNeg) M hG (i_rng (lo := 0) (hi := 240) rfl (by omega) (by omega)) (i_rng (lo := 0) (hi := 240) rfl (by omega) (by omega))) ?_
        rintro rv6 mv7 ⟨gq10_, kq11_⟩
        have kq12_ := Sm.call hS kq11_ rfl
        refine T_eq rfl l_0 (fun hq13_ => ?_) (fun hq13_ => ?_)
        · refine T_ql (i_add rfl l_1 (by omega) (by omega)) ?_
          intro xv14 hq15_
          exact ih xv14 mv7 gq10_ kq12_ (i_rng (lo := 0) (hi := 16) rfl (by omega) (by omega)) (by omega)
        · exact T_ret ⟨(i_rng (lo := 0) (hi := 1) l_1 (by omega) (by omega)), gq10_, kq12_⟩
      · refine T_ql (i_add rfl l_1 (by omega) (by omega)) ?_
        intro xv16 hq17_
        exact ih xv16 M hG hS (i_rng (lo := 0) (hi := 16) rfl (by omega) (by omega)) (by omega)
theorem t_X1_isAlike {n : Nat} (hn : 200000 ≤ n) {j : Nat} (hj : q_isLaw j) (a1 : Int32) (M : qM) (hG : G M) (pa1 : 0 ≤ a1.toInt ∧ a1.toInt ≤ 11) : qT (f_X1_isAlike n j a1 M) (po_X1_isAlike a1 M) := by
  have hS : Sm l_X1_isAlike M M := Sm.rf
  unfold f_X1_isAlike
  refine T_mu hG hS (rn_35 _ _) (nw_35 _) (i := 1) rfl ⟨by decide, by decide, Or.inr ⟨by decide, by decide⟩⟩ ?_
  intro mv18 hq19_ gq20_ kq21_
  have hq22_ : (mv18 35 3).toInt = a1.toInt := by rw [hq19_, mu_at]
  refine T_qg rfl (by omega) (by omega) ?_
  refine T_mu gq20_ kq21_ (rn_35 _ _) (nw_35 _) (i := 1) rfl ⟨by decide, by decide, Or.inr ⟨by decide, by decide⟩⟩ ?_
  intro mv23 hq24_ gq25_ kq26_
  have hq27_ : (mv23 35 3).toInt = (mv18 35 3).toInt := by rw [hq24_, mu_ne (Or.inr (by decide))]
  have hq28_ : (mv23 35 4).toInt = (mv18 5 a1.toNatClampNeg).toInt := by rw [hq24_, mu_at]
  refine T_qg rfl (by omega) (by omega) ?_
  refine T_qc (t_J6_bitCount_0f7a4 hn ((mv23 35 2) &&& (mv23 5 a1.toNatClampNeg)) mv23 gq25_ ) ?_
  rintro rv29 mv30 ⟨hq31_, gq32_, kq33_⟩
  have hq34_ := kq33_.nil
  subst hq34_
  refine T_mu gq25_ kq26_ (rn_35 _ _) (nw_35 _) (i := 1) rfl ⟨by decide, by decide, Or.inr ⟨by decide, by decide⟩⟩ ?_
  intro mv35 hq36_ gq37_ kq38_
  have hq39_ : (mv35 35 3).toInt = (mv23 35 3).toInt := by rw [hq36_, mu_ne (Or.inr (by decide))]
  have hq40_ : (mv35 35 4).toInt = (mv23 35 4).toInt := by rw [hq36_, mu_ne (Or.inr (by decide))]
  have hq41_ : (mv35 35 5).toInt = rv29.toInt := by rw [hq36_, mu_at]
  exact (t_X1_isAlike_49 hn hj) n (0 : Int32) mv35 gq37_ kq38_ (i_rng (lo := 0) (hi := 16) l_0 (by omega) (by omega)) (by have e0 : ((0 : Int32)).toInt = _ := l_0; omega)
