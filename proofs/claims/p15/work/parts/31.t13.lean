abbrev l_X12_bits : List Bx := []
abbrev po_X12_bits (a0 : Int32) (M : qM) (v : Int32) (M' : qM) : Prop := (0 ≤ v.toInt ∧ v.toInt ≤ 12) ∧ (v.toInt = bS a0 12) ∧ G M' ∧ Sm l_X12_bits M M'
theorem t_X12_bits_4 {n : Nat} (hn : 200000 ≤ n) {oa0 : Int32} {M0 : qM} : ∀ (m : Nat) (a0 a1 a2 : Int32) (M : qM), G M → Sm l_X12_bits M0 M → 0 ≤ a1.toInt ∧ a1.toInt ≤ 12 → 0 ≤ a2.toInt ∧ a2.toInt ≤ 12 → (a0 = oa0 ∧ a1.toInt = bS a0 a2.toInt.toNat ∧ a1.toInt ≤ a2.toInt) → 12 - a2.toInt < (m : Int) → qT (f_X12_bits_4 n m a0 a1 a2 M) (po_X12_bits oa0 M0) := by
  intro m
  induction m with
  | zero =>
    intro a0 a1 a2 M hG hS i0 i1 hE i5
    exfalso; omega
  | succ m ih =>
    intro a0 a1 a2 M hG hS i0 i1 hE i5
    show qT (b_X12_bits_4 n (f_X12_bits_4 n m) a0 a1 a2 M) _
    unfold b_X12_bits_4
    refine T_le l_12 rfl (fun hq3_ => ?_) (fun hq3_ => ?_)
    · exact T_ret ⟨(i_rng (lo := 0) (hi := 12) rfl (by omega) (by omega)), (by rw [← hE.1]; have h_ := hE.2.1; rw [show a2.toInt.toNat = 12 by omega] at h_; exact h_), hG, hS⟩
    · have hq4_ := i_and (a := a0 >>> (a2 &&& 31)) (b := (1 : Int32)) l_1 (by omega)
      refine T_ql (i_add rfl rfl (by omega) (by omega)) ?_
      intro xv5 hq6_
      refine T_ql (i_add rfl l_1 (by omega) (by omega)) ?_
      intro xv7 hq8_
      exact ih a0 xv5 xv7 M hG hS (i_rng (lo := 0) (hi := 12) rfl (by omega) (by omega)) (i_rng (lo := 0) (hi := 12) rfl (by omega) (by omega)) (by first | exact ⟨rfl, rfl, by have := l_0; omega⟩ | (refine ⟨hE.1, ?_, by omega⟩; rw [show (xv7).toInt.toNat = a2.toInt.toNat + 1 by omega, bS_s (by omega)]; have := hE.2; omega)) (by omega)
theorem t_X12_bits {n : Nat} (hn : 200000 ≤ n) (a0 : Int32) (M : qM) (hG : G M) : qT (f_X12_bits n a0 M) (po_X12_bits a0 M) := by
  have hS : Sm l_X12_bits M M := Sm.rf
  unfold f_X12_bits
  exact (t_X12_bits_4 hn) n a0 (0 : Int32) (0 : Int32) M hG hS (i_rng (lo := 0) (hi := 12) l_0 (by omega) (by omega)) (i_rng (lo := 0) (hi := 12) l_0 (by omega) (by omega)) (by have e1 : ((0 : Int32)).toInt = _ := l_0; have e2 : ((0 : Int32)).toInt = _ := l_0; first | exact ⟨rfl, rfl, by have := l_0; omega⟩ | (refine ⟨hE.1, ?_, by omega⟩; rw [show ((0 : Int32)).toInt.toNat = a2.toInt.toNat + 1 by omega, bS_s (by omega)]; have := hE.2; omega)) (by have e1 : ((0 : Int32)).toInt = _ := l_0; have e2 : ((0 : Int32)).toInt = _ := l_0; omega)
abbrev l_X12_reckon : List Bx := []
abbrev po_X12_reckon (a0 a1 a2 : Int32) (M : qM) (v : Int32) (M' : qM) : Prop := G M' ∧ Sm l_X12_reckon M M'
theorem t_X12_reckon {n : Nat} (hn : 200000 ≤ n) (a0 a1 a2 : Int32) (M : qM) (hG : G M) (pa0 : 2 ≤ a0.toInt ∧ a0.toInt ≤ 19) (pe : a2.toInt ≠ 0 ∨ (a0.toInt ≠ 5 ∧ a0.toInt ≠ 6)) : qT (f_X12_reckon n a0 a1 a2 M) (po_X12_reckon a0 a1 a2 M) := by
  have hS : Sm l_X12_reckon M M := Sm.rf
  unfold f_X12_reckon
  refine T_sw rfl l_2 (fun hq1_ => ?_) (fun hq1_ => ?_)
  · have hq2_ := i_full (a1)
    have hq3_ := i_full (a2)
    exact T_ret ⟨hG, hS⟩
  refine T_sw rfl l_3 (fun hq4_ => ?_) (fun hq4_ => ?_)
  · have hq5_ := i_full (a1)
    have hq6_ := i_full (a2)
    exact T_ret ⟨hG, hS⟩
  refine T_sw rfl l_4 (fun hq7_ => ?_) (fun hq7_ => ?_)
  · have hq8_ := i_full (a1)
    have hq9_ := i_full (a2)
    exact T_ret ⟨hG, hS⟩
  refine T_sw rfl l_5 (fun hq10_ => ?_) (fun hq10_ => ?_)
  · refine T_qd rfl (by omega) ?_
    have hq11_ := i_full (a1)
    have hq12_ := i_full (a2)
    exact T_ret ⟨hG, hS⟩
  refine T_sw rfl l_6 (fun hq13_ => ?_) (fun hq13_ => ?_)
  · refine T_qd rfl (by omega) ?_
    exact T_ret ⟨hG, hS⟩
  refine T_sw rfl l_7 (fun hq14_ => ?_) (fun hq14_ => ?_)
  · refine T_le rfl rfl (fun hq15_ => ?_) (fun hq15_ => ?_)
    · exact T_ret ⟨hG, hS⟩
    · exact T_ret ⟨hG, hS⟩
  refine T_sw rfl l_8 (fun hq16_ => ?_) (fun hq16_ => ?_)
  · refine T_le rfl rfl (fun hq17_ => ?_) (fun hq17_ => ?_)
    · exact T_ret ⟨hG, hS⟩
    · exact T_ret ⟨hG, hS⟩
  refine T_sw0 ?_
  refine T_eq rfl rfl (fun hq18_ => ?_) (fun hq18_ => ?_)
  · exact T_ret ⟨hG, hS⟩
  · exact T_ret ⟨hG, hS⟩
abbrev l_X12_comesTo : List Bx := [(96, 97, 0, 0)]
abbrev po_X12_comesTo (a1 a2 : Int32) (M : qM) (v : Int32) (M' : qM) : Prop := G M' ∧ Sm l_X12_comesTo M M'
theorem t_X12_comesTo_16 {n : Nat} (hn : 200000 ≤ n) {oa1 oa2 : Int32} {M0 : qM} {D : Nat → Nat} {f : Nat} {tt : Nat} (hD : ∀ k, f ≤ k → k < tt → 0 ≤ (M0 91 k).toInt ∧ D k ≤ 250 ∧ (((M0 91 k).toInt / 1048576 = 0 ∧ D (k + 1) = D k + 1) ∨ ((M0 91 k).toInt / 1048576 = 1 ∧ (M0 91 k).toInt % 1048576 ≤ 11 ∧ D (k + 1) = D k + 1) ∨ ((M0 91 k).toInt / 1048576 = 10 ∧ 1 ≤ D k ∧ D (k + 1) = D k) ∨ (((M0 91 k).toInt / 1048576 = 11 ∨ (M0 91 k).toInt / 1048576 = 12) ∧ 1 ≤ D k ∧ D (k + 1) + 1 = D k ∧ (k : Int) < (M0 91 k).toInt % 1048576 ∧ D ((M0 91 k).toInt % 1048576).toNat = D k) ∨ (2 ≤ (M0 91 k).toInt / 1048576 ∧ (M0 91 k).toInt / 1048576 ≤ 9 ∧ 2 ≤ D k ∧ D (k + 1) + 1 = D k))) : ∀ (m : Nat) (a2 a3 a4 a5 : Int32) (M : qM), G M → Sm l_X12_comesTo M0 M → 0 ≤ a2.toInt ∧ a2.toInt ≤ 250 → 0 ≤ a3.toInt ∧ a3.toInt ≤ 252 → 0 ≤ a4.toInt ∧ a4.toInt ≤ 0 → 0 ≤ a5.toInt ∧ a5.toInt ≤ 2000000 → (a2.toInt = (tt : Int) ∧ (f : Int) ≤ a5.toInt ∧ (a5.toInt < a2.toInt → (D a5.toInt.toNat : Int) = a3.toInt)) → (0 : Int) < (m : Int) ∧ 251 - a5.toInt < (m : Int) → qT (f_X12_comesTo_16 n m a2 a3 a4 a5 M) (po_X12_comesTo oa1 oa2 M0) := by
  intro m
  induction m with
  | zero =>
    intro a2 a3 a4 a5 M hG hS i0 i1 i2 i3 hE i7
    exfalso; omega
  | succ m ih =>
    intro a2 a3 a4 a5 M hG hS i0 i1 i2 i3 hE i7
    show qT (b_X12_comesTo_16 n (f_X12_comesTo_16 n m) a2 a3 a4 a5 M) _
    unfold b_X12_comesTo_16
    refine T_le rfl rfl (fun hq1_ => ?_) (fun hq1_ => ?_)
    · exact T_ret ⟨hG, hS⟩
    · refine T_qg rfl (by omega) (by omega) ?_
      have hw9_ := hD a5.toInt.toNat (by omega) (by omega)
      have hw8_ : (M 91 a5.toNatClampNeg).toInt = (M0 91 a5.toInt.toNat).toInt := by rw [tnc, hS 91 _ (outc rfl)]
      have hq2_ := r_91 hG a5.toNatClampNeg
      refine T_ql (i_div rfl l_1048576 (by omega) (by omega)) ?_
      intro xv3 hq4_
      refine T_qg rfl (by omega) (by omega) ?_
      refine T_ql (i_sub rfl (i_mul (i_div rfl l_1048576 (by omega) (by omega)) l_1048576 (by omega) (by omega)) (by omega) (by omega)) ?_
      intro xv5 hq6_
      refine T_ql (i_add rfl l_1 (by omega) (by omega)) ?_
      intro xv7 hq8_
      refine T_eq rfl l_0 (fun hq9_ => ?_) (fun hq9_ => ?_)
      · unfold f_X12_comesTo_63
        refine T_eq rfl l_0 (fun hq10_ => ?_) (fun hq10_ => ?_)
        · unfold f_X12_comesTo_85
          refine T_qg rfl (by omega) (by omega) ?_
          refine T_mu hG hS (rn_96 _ _) (nw_96 _) (i := 0) rfl ⟨by decide, by decide, Or.inl rfl⟩ ?_
          intro mv11 hq12_ gq13_ kq14_
          have hq15_ : (mv11 96 a3.toNatClampNeg).toInt = xv5.toInt := by rw [hq12_, mu_at]
          refine T_ql (i_add rfl l_1 (by omega) (by omega)) ?_
          intro xv16 hq17_
          exact ih a2 xv16 a4 xv7 mv11 gq13_ kq14_ (i_rng (lo := 0) (hi := 250) rfl (by omega) (by omega)) (i_rng (lo := 0) (hi := 252) rfl (by omega) (by omega)) (i_rng (lo := 0) (hi := 0) rfl (by omega) (by omega)) (i_rng (lo := 0) (hi := 2000000) rfl (by omega) (by omega)) (by refine ⟨by omega, by omega, fun _ => ?_⟩; first | (rw [show (xv7).toInt.toNat = a5.toInt.toNat + 1 by omega]; omega) | (rw [show (xv7).toInt.toNat = ((M0 91 a5.toInt.toNat).toInt % 1048576).toNat by omega]; omega) | (rw [hD0]; decide)) (by omega)
        · exfalso; omega
      · refine T_eq rfl l_1 (fun hq18_ => ?_) (fun hq18_ => ?_)
        · unfold f_X12_comesTo_63
          refine T_eq rfl l_0 (fun hq19_ => ?_) (fun hq19_ => ?_)
          · exfalso; omega
          · refine T_qg rfl (by omega) (by omega) ?_
            unfold f_X12_comesTo_85
            refine T_qg rfl (by omega) (by omega) ?_
            refine T_mu hG hS (rn_96 _ _) (nw_96 _) (i := 0) rfl ⟨by decide, by decide, Or.inl rfl⟩ ?_
            intro mv20 hq21_ gq22_ kq23_
            have hq24_ : (mv20 96 a3.toNatClampNeg).toInt = (M 97 xv5.toNatClampNeg).toInt := by rw [hq21_, mu_at]
            refine T_ql (i_add rfl l_1 (by omega) (by omega)) ?_
            intro xv25 hq26_
            exact ih a2 xv25 a4 xv7 mv20 gq22_ kq23_ (i_rng (lo := 0) (hi := 250) rfl (by omega) (by omega)) (i_rng (lo := 0) (hi := 252) rfl (by omega) (by omega)) (i_rng (lo := 0) (hi := 0) rfl (by omega) (by omega)) (i_rng (lo := 0) (hi := 2000000) rfl (by omega) (by omega)) (by refine ⟨by omega, by omega, fun _ => ?_⟩; first | (rw [show (xv7).toInt.toNat = a5.toInt.toNat + 1 by omega]; omega) | (rw [show (xv7).toInt.toNat = ((M0 91 a5.toInt.toNat).toInt % 1048576).toNat by omega]; omega) | (rw [hD0]; decide)) (by omega)
        · refine T_eq rfl l_10 (fun hq27_ => ?_) (fun hq27_ => ?_)
          · refine T_qg (i_sub rfl l_1 (by omega) (by omega)) (by omega) (by omega) ?_
            refine T_qg (i_sub rfl l_1 (by omega) (by omega)) (by omega) (by omega) ?_
            have hq29_ := i_full (M 96 ((a3 - (1 : Int32)).toNatClampNeg))
            refine T_mu hG hS (rn_96 _ _) (nw_96 _) (i := 0) rfl ⟨by decide, by decide, Or.inl rfl⟩ ?_
            intro mv28 hq30_ gq31_ kq32_
            have hq33_ : (mv28 96 ((a3 - (1 : Int32)).toNatClampNeg)).toInt = ((1 : Int32) - (M 96 ((a3 - (1 : Int32)).toNatClampNeg))).toInt := by rw [hq30_, mu_at]
            exact ih a2 a3 a4 xv7 mv28 gq31_ kq32_ (i_rng (lo := 0) (hi := 250) rfl (by omega) (by omega)) (i_rng (lo := 0) (hi := 252) rfl (by omega) (by omega)) (i_rng (lo := 0) (hi := 0) rfl (by omega) (by omega)) (i_rng (lo := 0) (hi := 2000000) rfl (by omega) (by omega)) (by refine ⟨by omega, by omega, fun _ => ?_⟩; first | (rw [show (xv7).toInt.toNat = a5.toInt.toNat + 1 by omega]; omega) | (rw [show (xv7).toInt.toNat = ((M0 91 a5.toInt.toNat).toInt % 1048576).toNat by omega]; omega) | (rw [hD0]; decide)) (by omega)
          · refine T_eq rfl l_11 (fun hq34_ => ?_) (fun hq34_ => ?_)
            · unfold f_X12_comesTo_135
              refine T_qg (i_sub rfl l_1 (by omega) (by omega)) (by omega) (by omega) ?_
              refine T_eq rfl l_12 (fun hq35_ => ?_) (fun hq35_ => ?_)
              · exfalso; omega
              · unfold f_X12_comesTo_155
                refine T_eq rfl l_0 (fun hq36_ => ?_) (fun hq36_ => ?_)
                · refine T_ql (i_add rfl rfl (by omega) (by omega)) ?_
                  intro xv37 hq38_
                  exact ih a2 a3 a4 xv37 M hG hS (i_rng (lo := 0) (hi := 250) rfl (by omega) (by omega)) (i_rng (lo := 0) (hi := 252) rfl (by omega) (by omega)) (i_rng (lo := 0) (hi := 0) rfl (by omega) (by omega)) (i_rng (lo := 0) (hi := 2000000) rfl (by omega) (by omega)) (by refine ⟨by omega, by omega, fun _ => ?_⟩; first | (rw [show (xv37).toInt.toNat = a5.toInt.toNat + 1 by omega]; omega) | (rw [show (xv37).toInt.toNat = ((M0 91 a5.toInt.toNat).toInt % 1048576).toNat by omega]; omega) | (rw [hD0]; decide)) (by omega)
                · refine T_ql (i_sub rfl l_1 (by omega) (by omega)) ?_
                  intro xv39 hq40_
                  exact ih a2 xv39 a4 xv7 M hG hS (i_rng (lo := 0) (hi := 250) rfl (by omega) (by omega)) (i_rng (lo := 0) (hi := 252) rfl (by omega) (by omega)) (i_rng (lo := 0) (hi := 0) rfl (by omega) (by omega)) (i_rng (lo := 0) (hi := 2000000) rfl (by omega) (by omega)) (by refine ⟨by omega, by omega, fun _ => ?_⟩; first | (rw [show (xv7).toInt.toNat = a5.toInt.toNat + 1 by omega]; omega) | (rw [show (xv7).toInt.toNat = ((M0 91 a5.toInt.toNat).toInt % 1048576).toNat by omega]; omega) | (rw [hD0]; decide)) (by omega)
            · refine T_eq rfl l_12 (fun hq41_ => ?_) (fun hq41_ => ?_)
              · unfold f_X12_comesTo_135
                refine T_qg (i_sub rfl l_1 (by omega) (by omega)) (by omega) (by omega) ?_
                refine T_eq rfl l_12 (fun hq42_ => ?_) (fun hq42_ => ?_)
                · unfold f_X12_comesTo_155
                  refine T_eq rfl l_1 (fun hq43_ => ?_) (fun hq43_ => ?_)
                  · refine T_ql (i_add rfl rfl (by omega) (by omega)) ?_
                    intro xv44 hq45_
                    exact ih a2 a3 a4 xv44 M hG hS (i_rng (lo := 0) (hi := 250) rfl (by omega) (by omega)) (i_rng (lo := 0) (hi := 252) rfl (by omega) (by omega)) (i_rng (lo := 0) (hi := 0) rfl (by omega) (by omega)) (i_rng (lo := 0) (hi := 2000000) rfl (by omega) (by omega)) (by refine ⟨by omega, by omega, fun _ => ?_⟩; first | (rw [show (xv44).toInt.toNat = a5.toInt.toNat + 1 by omega]; omega) | (rw [show (xv44).toInt.toNat = ((M0 91 a5.toInt.toNat).toInt % 1048576).toNat by omega]; omega) | (rw [hD0]; decide)) (by omega)
                  · refine T_ql (i_sub rfl l_1 (by omega) (by omega)) ?_
                    intro xv46 hq47_
                    exact ih a2 xv46 a4 xv7 M hG hS (i_rng (lo := 0) (hi := 250) rfl (by omega) (by omega)) (i_rng (lo := 0) (hi := 252) rfl (by omega) (by omega)) (i_rng (lo := 0) (hi := 0) rfl (by omega) (by omega)) (i_rng (lo := 0) (hi := 2000000) rfl (by omega) (by omega)) (by refine ⟨by omega, by omega, fun _ => ?_⟩; first | (rw [show (xv7).toInt.toNat = a5.toInt.toNat + 1 by omega]; omega) | (rw [show (xv7).toInt.toNat = ((M0 91 a5.toInt.toNat).toInt % 1048576).toNat by omega]; omega) | (rw [hD0]; decide)) (by omega)
                · exfalso; omega
              · refine T_ql (i_sub rfl l_1 (by omega) (by omega)) ?_
                intro xv48 hq49_
                refine T_eq rfl l_5 (fun hq50_ => ?_) (fun hq50_ => ?_)
                · unfold f_X12_comesTo_192
                  refine T_qg rfl (by omega) (by omega) ?_
                  refine T_eq rfl l_0 (fun hq51_ => ?_) (fun hq51_ => ?_)
                  · exact T_ret ⟨hG, hS⟩
                  · unfold f_X12_comesTo_203
                    refine T_qg (i_sub rfl l_1 (by omega) (by omega)) (by omega) (by omega) ?_
                    refine T_qg rfl (by omega) (by omega) ?_
                    refine T_qc (t_X12_reckon hn xv3 (M 96 ((xv48 - (1 : Int32)).toNatClampNeg)) (M 96 xv48.toNatClampNeg) M hG (i_rng (lo := 2) (hi := 19) rfl (by omega) (by omega)) (by omega)) ?_
                    rintro rv52 mv53 ⟨gq54_, kq55_⟩
                    have hq56_ := kq55_.nil
                    subst hq56_
                    refine T_qg (i_sub rfl l_1 (by omega) (by omega)) (by omega) (by omega) ?_
                    refine T_mu hG hS (rn_96 _ _) (nw_96 _) (i := 0) rfl ⟨by decide, by decide, Or.inl rfl⟩ ?_
                    intro mv57 hq58_ gq59_ kq60_
                    have hq61_ : (mv57 96 ((xv48 - (1 : Int32)).toNatClampNeg)).toInt = rv52.toInt := by rw [hq58_, mu_at]
                    exact ih a2 xv48 a4 xv7 mv57 gq59_ kq60_ (i_rng (lo := 0) (hi := 250) rfl (by omega) (by omega)) (i_rng (lo := 0) (hi := 252) rfl (by omega) (by omega)) (i_rng (lo := 0) (hi := 0) rfl (by omega) (by omega)) (i_rng (lo := 0) (hi := 2000000) rfl (by omega) (by omega)) (by refine ⟨by omega, by omega, fun _ => ?_⟩; first | (rw [show (xv7).toInt.toNat = a5.toInt.toNat + 1 by omega]; omega) | (rw [show (xv7).toInt.toNat = ((M0 91 a5.toInt.toNat).toInt % 1048576).toNat by omega]; omega) | (rw [hD0]; decide)) (by omega)
                · refine T_eq rfl l_6 (fun hq62_ => ?_) (fun hq62_ => ?_)
                  · unfold f_X12_comesTo_192
                    refine T_qg rfl (by omega) (by omega) ?_
                    refine T_eq rfl l_0 (fun hq63_ => ?_) (fun hq63_ => ?_)
                    · exact T_ret ⟨hG, hS⟩
                    · unfold f_X12_comesTo_203
                      refine T_qg (i_sub rfl l_1 (by omega) (by omega)) (by omega) (by omega) ?_
                      refine T_qg rfl (by omega) (by omega) ?_
                      refine T_qc (t_X12_reckon hn xv3 (M 96 ((xv48 - (1 : Int32)).toNatClampNeg)) (M 96 xv48.toNatClampNeg) M hG (i_rng (lo := 2) (hi := 19) rfl (by omega) (by omega)) (by omega)) ?_
                      rintro rv64 mv65 ⟨gq66_, kq67_⟩
                      have hq68_ := kq67_.nil
                      subst hq68_
                      refine T_qg (i_sub rfl l_1 (by omega) (by omega)) (by omega) (by omega) ?_
                      refine T_mu hG hS (rn_96 _ _) (nw_96 _) (i := 0) rfl ⟨by decide, by decide, Or.inl rfl⟩ ?_
                      intro mv69 hq70_ gq71_ kq72_
                      have hq73_ : (mv69 96 ((xv48 - (1 : Int32)).toNatClampNeg)).toInt = rv64.toInt := by rw [hq70_, mu_at]
                      exact ih a2 xv48 a4 xv7 mv69 gq71_ kq72_ (i_rng (lo := 0) (hi := 250) rfl (by omega) (by omega)) (i_rng (lo := 0) (hi := 252) rfl (by omega) (by omega)) (i_rng (lo := 0) (hi := 0) rfl (by omega) (by omega)) (i_rng (lo := 0) (hi := 2000000) rfl (by omega) (by omega)) (by refine ⟨by omega, by omega, fun _ => ?_⟩; first | (rw [show (xv7).toInt.toNat = a5.toInt.toNat + 1 by omega]; omega) | (rw [show (xv7).toInt.toNat = ((M0 91 a5.toInt.toNat).toInt % 1048576).toNat by omega]; omega) | (rw [hD0]; decide)) (by omega)
                  · unfold f_X12_comesTo_203
                    refine T_qg (i_sub rfl l_1 (by omega) (by omega)) (by omega) (by omega) ?_
                    refine T_qg rfl (by omega) (by omega) ?_
                    refine T_qc (t_X12_reckon hn xv3 (M 96 ((xv48 - (1 : Int32)).toNatClampNeg)) (M 96 xv48.toNatClampNeg) M hG (i_rng (lo := 2) (hi := 19) rfl (by omega) (by omega)) (by omega)) ?_
                    rintro rv74 mv75 ⟨gq76_, kq77_⟩
                    have hq78_ := kq77_.nil
                    subst hq78_
                    refine T_qg (i_sub rfl l_1 (by omega) (by omega)) (by omega) (by omega) ?_
                    refine T_mu hG hS (rn_96 _ _) (nw_96 _) (i := 0) rfl ⟨by decide, by decide, Or.inl rfl⟩ ?_
                    intro mv79 hq80_ gq81_ kq82_
                    have hq83_ : (mv79 96 ((xv48 - (1 : Int32)).toNatClampNeg)).toInt = rv74.toInt := by rw [hq80_, mu_at]
                    exact ih a2 xv48 a4 xv7 mv79 gq81_ kq82_ (i_rng (lo := 0) (hi := 250) rfl (by omega) (by omega)) (i_rng (lo := 0) (hi := 252) rfl (by omega) (by omega)) (i_rng (lo := 0) (hi := 0) rfl (by omega) (by omega)) (i_rng (lo := 0) (hi := 2000000) rfl (by omega) (by omega)) (by refine ⟨by omega, by omega, fun _ => ?_⟩; first | (rw [show (xv7).toInt.toNat = a5.toInt.toNat + 1 by omega]; omega) | (rw [show (xv7).toInt.toNat = ((M0 91 a5.toInt.toNat).toInt % 1048576).toNat by omega]; omega) | (rw [hD0]; decide)) (by omega)
theorem t_X12_comesTo {n : Nat} (hn : 200000 ≤ n) (a1 a2 : Int32) (M : qM) (hG : G M) (pa1 : 0 ≤ a1.toInt ∧ a1.toInt ≤ 250) (pa2 : 0 ≤ a2.toInt ∧ a2.toInt ≤ 250) (pe : WFs (M 91) a1.toInt.toNat a2.toInt.toNat) : qT (f_X12_comesTo n a1 a2 M) (po_X12_comesTo a1 a2 M) := by
  have hS : Sm l_X12_comesTo M M := Sm.rf
  obtain ⟨D, hD0, hD⟩ := pe
  unfold f_X12_comesTo
  refine T_ql (i_mul l_260 (i_div rfl l_260 (by omega) (by omega)) (by omega) (by omega)) ?_
  intro xv84 hq85_
  exact (t_X12_comesTo_16 hn hD) n a2 (0 : Int32) xv84 a1 M hG hS (i_rng (lo := 0) (hi := 250) rfl (by omega) (by omega)) (i_rng (lo := 0) (hi := 252) l_0 (by omega) (by omega)) (i_rng (lo := 0) (hi := 0) rfl (by omega) (by omega)) (i_rng (lo := 0) (hi := 2000000) rfl (by omega) (by omega)) (by have e1 : ((0 : Int32)).toInt = _ := l_0; refine ⟨by omega, by omega, fun _ => ?_⟩; first | (rw [show (a1).toInt.toNat = a5.toInt.toNat + 1 by omega]; omega) | (rw [show (a1).toInt.toNat = ((M0 91 a5.toInt.toNat).toInt % 1048576).toNat by omega]; omega) | (rw [hD0]; decide)) (by have e1 : ((0 : Int32)).toInt = _ := l_0; omega)
abbrev l_X12_isLike : List Bx := [(96, 98, 0, 0)]
abbrev po_X12_isLike (a1 a2 : Int32) (M : qM) (v : Int32) (M' : qM) : Prop := (0 ≤ v.toInt ∧ v.toInt ≤ 1) ∧ G M' ∧ Sm l_X12_isLike M M'
theorem t_X12_isLike_55 {n : Nat} (hn : 200000 ≤ n) {oa1 oa2 : Int32} {M0 : qM} : ∀ (m : Nat) (a3 : Int32) (M : qM), G M → Sm l_X12_isLike M0 M → 0 ≤ a3.toInt ∧ a3.toInt ≤ 16 → 16 - a3.toInt < (m : Int) → qT (f_X12_isLike_55 n m a3 M) (po_X12_isLike oa1 oa2 M0) := by
  intro m
  induction m with
  | zero =>
    intro a3 M hG hS i0 i3
    exfalso; omega
  | succ m ih =>
    intro a3 M hG hS i0 i3
    show qT (b_X12_isLike_55 n (f_X12_isLike_55 n m) a3 M) _
    unfold b_X12_isLike_55
    have hq3_ := r_77_17 hG
    refine T_le rfl rfl (fun hq4_ => ?_) (fun hq4_ => ?_)
    · exact T_ret ⟨(i_rng (lo := 0) (hi := 1) l_0 (by omega) (by omega)), hG, hS⟩
    · refine T_qg rfl (by omega) (by omega) ?_
      refine T_eq rfl l_97 (fun hq5_ => ?_) (fun hq5_ => ?_)
      · refine T_qg rfl (by omega) (by omega) ?_
        refine T_qg rfl (by omega) (by omega) ?_
        have hq8_ := r_94 hG a3.toNatClampNeg
        have hq9_ := r_95 hG a3.toNatClampNeg
        refine T_qc (t_X12_comesTo hn (M 94 a3.toNatClampNeg) (M 95 a3.toNatClampNeg) M hG (i_rng (lo := 0) (hi := 250) rfl (by omega) (by omega)) (i_rng (lo := 0) (hi := 250) rfl (by omega) (by omega)) (hG.2.2.1 a3.toNatClampNeg (by rw [tnc]; omega)).2) ?_
        rintro rv6 mv7 ⟨gq10_, kq11_⟩
        have kq12_ := Sm.call hS kq11_ rfl
        have hq13_ : (mv7 77 17).toInt = (M 77 17).toInt := by rw [kq11_ 77 17 (by decide)]
        have hq14_ : (mv7 92 a3.toNatClampNeg).toInt = (M 92 a3.toNatClampNeg).toInt := by rw [kq11_ 92 _ (outc rfl)]
        refine T_eq rfl l_1 (fun hq15_ => ?_) (fun hq15_ => ?_)
        · exact T_ret ⟨(i_rng (lo := 0) (hi := 1) l_1 (by omega) (by omega)), gq10_, kq12_⟩
        · refine T_ql (i_add rfl l_1 (by omega) (by omega)) ?_
          intro xv16 hq17_
          exact ih xv16 mv7 gq10_ kq12_ (i_rng (lo := 0) (hi := 16) rfl (by omega) (by omega)) (by omega)
      · refine T_ql (i_add rfl l_1 (by omega) (by omega)) ?_
        intro xv18 hq19_
        exact ih xv18 M hG hS (i_rng (lo := 0) (hi := 16) rfl (by omega) (by omega)) (by omega)
theorem t_X12_isLike {n : Nat} (hn : 200000 ≤ n) (a1 a2 : Int32) (M : qM) (hG : G M) (pa1 : 0 ≤ a1.toInt ∧ a1.toInt ≤ 12) (pa2 : 0 ≤ a2.toInt ∧ a2.toInt ≤ 11) : qT (f_X12_isLike n a1 a2 M) (po_X12_isLike a1 a2 M) := by
  have hS : Sm l_X12_isLike M M := Sm.rf
  unfold f_X12_isLike
  refine T_eq rfl rfl (fun hq20_ => ?_) (fun hq20_ => ?_)
  · exact T_ret ⟨(i_rng (lo := 0) (hi := 1) l_1 (by omega) (by omega)), hG, hS⟩
  · refine T_qc (t_X12_feelsKind hn a1 M hG (i_rng (lo := 0) (hi := 12) rfl (by omega) (by omega))) ?_
    rintro rv21 mv22 ⟨hq23_, gq24_, kq25_⟩
    have kq26_ := Sm.call hS kq25_ rfl
    refine T_mu gq24_ kq26_ (rn_97 _ _) (nw_97 _) (i := 0) rfl ⟨by decide, by decide, Or.inl rfl⟩ ?_
    intro mv27 hq28_ gq29_ kq30_
    have hq31_ : (mv27 97 3).toInt = a2.toInt := by rw [hq28_, mu_at]
    refine T_qg rfl (by omega) (by omega) ?_
    refine T_mu gq29_ kq30_ (rn_97 _ _) (nw_97 _) (i := 0) rfl ⟨by decide, by decide, Or.inl rfl⟩ ?_
    intro mv32 hq33_ gq34_ kq35_
    have hq36_ : (mv32 97 3).toInt = (mv27 97 3).toInt := by rw [hq33_, mu_ne (Or.inr (by decide))]
    have hq37_ : (mv32 97 4).toInt = (mv27 82 a2.toNatClampNeg).toInt := by rw [hq33_, mu_at]
    refine T_qg rfl (by omega) (by omega) ?_
    refine T_qg rfl (by omega) (by omega) ?_
    refine T_qc (t_X12_bits hn ((mv32 82 a1.toNatClampNeg) &&& (mv32 82 a2.toNatClampNeg)) mv32 gq34_ ) ?_
    rintro rv38 mv39 ⟨hq40_, hq41_, gq42_, kq43_⟩
    have hq44_ := kq43_.nil
    subst hq44_
    refine T_mu gq34_ kq35_ (rn_97 _ _) (nw_97 _) (i := 0) rfl ⟨by decide, by decide, Or.inl rfl⟩ ?_
    intro mv45 hq46_ gq47_ kq48_
    have hq49_ : (mv45 97 3).toInt = (mv32 97 3).toInt := by rw [hq46_, mu_ne (Or.inr (by decide))]
    have hq50_ : (mv45 97 4).toInt = (mv32 97 4).toInt := by rw [hq46_, mu_ne (Or.inr (by decide))]
    have hq51_ : (mv45 97 5).toInt = rv38.toInt := by rw [hq46_, mu_at]
    exact (t_X12_isLike_55 hn) n (0 : Int32) mv45 gq47_ kq48_ (i_rng (lo := 0) (hi := 16) l_0 (by omega) (by omega)) (by have e0 : ((0 : Int32)).toInt = _ := l_0; omega)
abbrev l_X12_allTries : List Bx := []
abbrev po_X12_allTries (a1 : Int32) (M : qM) (v : Int32) (M' : qM) : Prop := G M' ∧ Sm l_X12_allTries M M'
theorem t_X12_allTries_4 {n : Nat} (hn : 200000 ≤ n) {oa1 : Int32} {M0 : qM} : ∀ (m : Nat) (a1 a2 a3 : Int32) (M : qM), G M → Sm l_X12_allTries M0 M → 0 ≤ a1.toInt ∧ a1.toInt ≤ 11 → 0 ≤ a3.toInt ∧ a3.toInt ≤ 8 → 8 - a3.toInt < (m : Int) → qT (f_X12_allTries_4 n m a1 a2 a3 M) (po_X12_allTries oa1 M0) := by
  intro m
  induction m with
  | zero =>
    intro a1 a2 a3 M hG hS i0 i1 i4
    exfalso; omega
  | succ m ih =>
    intro a1 a2 a3 M hG hS i0 i1 i4
    show qT (b_X12_allTries_4 n (f_X12_allTries_4 n m) a1 a2 a3 M) _
    unfold b_X12_allTries_4
    refine T_le l_8 rfl (fun hq3_ => ?_) (fun hq3_ => ?_)
    · exact T_ret ⟨hG, hS⟩
    · refine T_qc (t_X12_at hn a3 a1 M hG (i_rng (lo := 0) (hi := 7) rfl (by omega) (by omega)) (i_rng (lo := 0) (hi := 11) rfl (by omega) (by omega))) ?_
      rintro rv4 mv5 ⟨hq6_, hq7_, gq8_, kq9_⟩
      have hq10_ := kq9_.nil
      subst hq10_
      refine T_qg (i_add l_0 rfl (by omega) (by omega)) (by omega) (by omega) ?_
      have hq11_ := i_full (a2)
      have hq12_ := i_full (M 78 (((0 : Int32) + rv4).toNatClampNeg))
      refine T_ql rfl ?_
      intro xv13 hq14_
      refine T_ql (i_add rfl l_1 (by omega) (by omega)) ?_
      intro xv15 hq16_
      exact ih a1 xv13 xv15 M hG hS (i_rng (lo := 0) (hi := 11) rfl (by omega) (by omega)) (i_rng (lo := 0) (hi := 8) rfl (by omega) (by omega)) (by omega)
theorem t_X12_allTries {n : Nat} (hn : 200000 ≤ n) (a1 : Int32) (M : qM) (hG : G M) (pa1 : 0 ≤ a1.toInt ∧ a1.toInt ≤ 11) : qT (f_X12_allTries n a1 M) (po_X12_allTries a1 M) := by
  have hS : Sm l_X12_allTries M M := Sm.rf
  unfold f_X12_allTries
  exact (t_X12_allTries_4 hn) n a1 (0 : Int32) (0 : Int32) M hG hS (i_rng (lo := 0) (hi := 11) rfl (by omega) (by omega)) (i_rng (lo := 0) (hi := 8) l_0 (by omega) (by omega)) (by have e1 : ((0 : Int32)).toInt = _ := l_0; have e2 : ((0 : Int32)).toInt = _ := l_0; omega)
abbrev l_X12_feels : List Bx := [(97, 98, 0, 0)]
abbrev po_X12_feels (a1 a2 a3 : Int32) (M : qM) (v : Int32) (M' : qM) : Prop := (0 ≤ v.toInt ∧ v.toInt ≤ 0) ∧ G M' ∧ Sm l_X12_feels M M'
theorem t_X12_feels {n : Nat} (hn : 200000 ≤ n) (a1 a2 a3 : Int32) (M : qM) (hG : G M) (pa1 : 0 ≤ a1.toInt ∧ a1.toInt ≤ 7) (pa2 : 0 ≤ a2.toInt ∧ a2.toInt ≤ 11) (pa3 : 0 ≤ a3.toInt ∧ a3.toInt ≤ 8) : qT (f_X12_feels n a1 a2 a3 M) (po_X12_feels a1 a2 a3 M) := by
  have hS : Sm l_X12_feels M M := Sm.rf
  unfold f_X12_feels
  refine T_qc (t_X12_feelsKind hn a2 M hG (i_rng (lo := 0) (hi := 12) rfl (by omega) (by omega))) ?_
  rintro rv1 mv2 ⟨hq3_, gq4_, kq5_⟩
  have kq6_ := Sm.call hS kq5_ rfl
  refine T_mu gq4_ kq6_ (rn_97 _ _) (nw_97 _) (i := 0) rfl ⟨by decide, by decide, Or.inl rfl⟩ ?_
  intro mv7 hq8_ gq9_ kq10_
  have hq11_ : (mv7 97 7).toInt = a1.toInt := by rw [hq8_, mu_at]
  refine T_mu gq9_ kq10_ (rn_97 _ _) (nw_97 _) (i := 0) rfl ⟨by decide, by decide, Or.inl rfl⟩ ?_
  intro mv12 hq13_ gq14_ kq15_
  have hq16_ : (mv12 97 7).toInt = (mv7 97 7).toInt := by rw [hq13_, mu_ne (Or.inr (by decide))]
  have hq17_ : (mv12 97 8).toInt = a3.toInt := by rw [hq13_, mu_at]
  refine T_qc (t_X12_at hn a1 a2 mv12 gq14_ (i_rng (lo := 0) (hi := 7) rfl (by omega) (by omega)) (i_rng (lo := 0) (hi := 11) rfl (by omega) (by omega))) ?_
  rintro rv18 mv19 ⟨hq20_, hq21_, gq22_, kq23_⟩
  have hq24_ := kq23_.nil
  subst hq24_
  refine T_qg (i_add l_0 rfl (by omega) (by omega)) (by omega) (by omega) ?_
  refine T_mu gq14_ kq15_ (rn_97 _ _) (nw_97 _) (i := 0) rfl ⟨by decide, by decide, Or.inl rfl⟩ ?_
  intro mv25 hq26_ gq27_ kq28_
  have hq29_ : (mv25 97 7).toInt = (mv12 97 7).toInt := by rw [hq26_, mu_ne (Or.inr (by decide))]
  have hq30_ : (mv25 97 8).toInt = (mv12 97 8).toInt := by rw [hq26_, mu_ne (Or.inr (by decide))]
  have hq31_ : (mv25 97 9).toInt = (mv12 78 (((0 : Int32) + rv18).toNatClampNeg)).toInt := by rw [hq26_, mu_at]
  refine T_qc (t_X12_allTries hn a2 mv25 gq27_ (i_rng (lo := 0) (hi := 11) rfl (by omega) (by omega))) ?_
  rintro rv32 mv33 ⟨gq34_, kq35_⟩
  have hq36_ := kq35_.nil
  subst hq36_
  refine T_mu gq27_ kq28_ (rn_97 _ _) (nw_97 _) (i := 0) rfl ⟨by decide, by decide, Or.inl rfl⟩ ?_
  intro mv37 hq38_ gq39_ kq40_
  have hq41_ : (mv37 97 7).toInt = (mv25 97 7).toInt := by rw [hq38_, mu_ne (Or.inr (by decide))]
  have hq42_ : (mv37 97 8).toInt = (mv25 97 8).toInt := by rw [hq38_, mu_ne (Or.inr (by decide))]
  have hq43_ : (mv37 97 9).toInt = (mv25 97 9).toInt := by rw [hq38_, mu_ne (Or.inr (by decide))]
  have hq44_ : (mv37 97 10).toInt = rv32.toInt := by rw [hq38_, mu_at]
  refine T_qc (t_X12_at hn a1 a2 mv37 gq39_ (i_rng (lo := 0) (hi := 7) rfl (by omega) (by omega)) (i_rng (lo := 0) (hi := 11) rfl (by omega) (by omega))) ?_
  rintro rv45 mv46 ⟨hq47_, hq48_, gq49_, kq50_⟩
  have hq51_ := kq50_.nil
  subst hq51_
  refine T_qg (i_add l_192 rfl (by omega) (by omega)) (by omega) (by omega) ?_
  refine T_mu gq39_ kq40_ (rn_97 _ _) (nw_97 _) (i := 0) rfl ⟨by decide, by decide, Or.inl rfl⟩ ?_
  intro mv52 hq53_ gq54_ kq55_
  have hq56_ : (mv52 97 7).toInt = (mv37 97 7).toInt := by rw [hq53_, mu_ne (Or.inr (by decide))]
  have hq57_ : (mv52 97 8).toInt = (mv37 97 8).toInt := by rw [hq53_, mu_ne (Or.inr (by decide))]
  have hq58_ : (mv52 97 9).toInt = (mv37 97 9).toInt := by rw [hq53_, mu_ne (Or.inr (by decide))]
  have hq59_ : (mv52 97 10).toInt = (mv37 97 10).toInt := by rw [hq53_, mu_ne (Or.inr (by decide))]
  have hq60_ : (mv52 97 11).toInt = (mv37 78 (((192 : Int32) + rv45).toNatClampNeg)).toInt := by rw [hq53_, mu_at]
  exact T_ret ⟨(i_rng (lo := 0) (hi := 0) l_0 (by omega) (by omega)), gq54_, kq55_⟩
