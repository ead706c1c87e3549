abbrev l_X8_fits : List Bx := [(75, 76, 0, 0)]
abbrev po_X8_fits (a1 a2 : Int32) (M : qM) (v : Int32) (M' : qM) : Prop := (0 ≤ v.toInt ∧ v.toInt ≤ 1) ∧ G M' ∧ Sm l_X8_fits M M'
theorem t_X8_fits_38 {n : Nat} (hn : 200000 ≤ n) {oa1 oa2 : Int32} {M0 : qM} : ∀ (m : Nat) (a2 a3 : Int32) (M : qM), G M → Sm l_X8_fits M0 M → 0 ≤ a2.toInt ∧ a2.toInt ≤ 9 → 0 ≤ a3.toInt ∧ a3.toInt ≤ 10 → KS  M → 10 - a3.toInt < (m : Int) → qT (f_X8_fits_38 n m a2 a3 M) (po_X8_fits oa1 oa2 M0) := by
  intro m
  induction m with
  | zero =>
    intro a2 a3 M hG hS i0 i1 wKS i5
    have hq5_ := r_70_8 hG
    exfalso; omega
  | succ m ih =>
    intro a2 a3 M hG hS i0 i1 wKS i5
    show qT (b_X8_fits_38 n (f_X8_fits_38 n m) a2 a3 M) _
    unfold b_X8_fits_38
    have hq5_ := r_70_8 hG
    have hq6_ := r_70_9 hG
    refine T_le rfl rfl (fun hq7_ => ?_) (fun hq7_ => ?_)
    · exact T_ret ⟨(i_rng (lo := 0) (hi := 1) l_1 (by omega) (by omega)), hG, hS⟩
    · refine T_qg rfl (by omega) (by omega) ?_
      have hq10_ := wKS.2 a3.toNatClampNeg (by rw [tnc]; omega)
      have hq11_ := r_73 hG a3.toNatClampNeg
      refine T_qc (t_X8_old hn (M 73 a3.toNatClampNeg) M hG (i_rng (lo := 0) (hi := 3) rfl (by omega) (by omega))) ?_
      rintro rv8 mv9 ⟨gq12_, kq13_⟩
      have hq14_ := kq13_.nil
      subst hq14_
      refine T_lt rfl rfl (fun hq15_ => ?_) (fun hq15_ => ?_)
      · unfold f_X8_fits_65
        refine T_qg rfl (by omega) (by omega) ?_
        refine T_eq l_0 rfl (fun hq16_ => ?_) (fun hq16_ => ?_)
        · refine T_qg rfl (by omega) (by omega) ?_
          refine T_ql rfl ?_
          intro xv17 hq18_
          refine T_qg rfl (by omega) (by omega) ?_
          refine T_qg rfl (by omega) (by omega) ?_
          have hq20_ := i_full (M 75 xv17.toNatClampNeg)
          refine T_mu hG hS (rn_75 _ _) (nw_75 _) (i := 0) rfl ⟨by decide, by decide, Or.inl rfl⟩ ?_
          intro mv19 hq21_ gq22_ kq23_
          have hq24_ := (fun h_ => KS_c (M := M) (M' := mv19) (by rw [hq21_, mu_ne (Or.inl (by decide))]) (by rw [hq21_, mu_ne (Or.inl (by decide))]) (by rw [hq21_, mu_nc (by decide)]) (by rw [hq21_, mu_nc (by decide)]) h_) wKS
          have hq25_ : (mv19 70 8).toInt = (M 70 8).toInt := by rw [hq21_, mu_ne (Or.inl (by decide))]
          have hq26_ : (mv19 70 9).toInt = (M 70 9).toInt := by rw [hq21_, mu_ne (Or.inl (by decide))]
          have hq27_ : (mv19 74 a3.toNatClampNeg).toInt = (M 74 a3.toNatClampNeg).toInt := by rw [hq21_, mu_ne (Or.inl (by decide))]
          have hq28_ : (mv19 75 xv17.toNatClampNeg).toInt = ((M 75 xv17.toNatClampNeg) + (1 : Int32)).toInt := by rw [hq21_, mu_at]
          refine T_ql (i_add rfl l_1 (by omega) (by omega)) ?_
          intro xv29 hq30_
          have hq31_ := r_70_8 gq22_
          exact ih a2 xv29 mv19 gq22_ kq23_ (i_rng (lo := 0) (hi := 9) rfl (by omega) (by omega)) (i_rng (lo := 0) (hi := 10) rfl (by omega) (by omega)) hq24_ (by omega)
        · exact T_ret ⟨(i_rng (lo := 0) (hi := 1) l_0 (by omega) (by omega)), hG, hS⟩
      · unfold f_X8_fits_65
        refine T_qg rfl (by omega) (by omega) ?_
        refine T_eq l_1 rfl (fun hq32_ => ?_) (fun hq32_ => ?_)
        · refine T_qg rfl (by omega) (by omega) ?_
          refine T_ql rfl ?_
          intro xv33 hq34_
          refine T_qg rfl (by omega) (by omega) ?_
          refine T_qg rfl (by omega) (by omega) ?_
          have hq36_ := i_full (M 75 xv33.toNatClampNeg)
          refine T_mu hG hS (rn_75 _ _) (nw_75 _) (i := 0) rfl ⟨by decide, by decide, Or.inl rfl⟩ ?_
          intro mv35 hq37_ gq38_ kq39_
          have hq40_ := (fun h_ => KS_c (M := M) (M' := mv35) (by rw [hq37_, mu_ne (Or.inl (by decide))]) (by rw [hq37_, mu_ne (Or.inl (by decide))]) (by rw [hq37_, mu_nc (by decide)]) (by rw [hq37_, mu_nc (by decide)]) h_) wKS
          have hq41_ : (mv35 70 8).toInt = (M 70 8).toInt := by rw [hq37_, mu_ne (Or.inl (by decide))]
          have hq42_ : (mv35 70 9).toInt = (M 70 9).toInt := by rw [hq37_, mu_ne (Or.inl (by decide))]
          have hq43_ : (mv35 74 a3.toNatClampNeg).toInt = (M 74 a3.toNatClampNeg).toInt := by rw [hq37_, mu_ne (Or.inl (by decide))]
          have hq44_ : (mv35 75 xv33.toNatClampNeg).toInt = ((M 75 xv33.toNatClampNeg) + (1 : Int32)).toInt := by rw [hq37_, mu_at]
          refine T_ql (i_add rfl l_1 (by omega) (by omega)) ?_
          intro xv45 hq46_
          have hq47_ := r_70_8 gq38_
          exact ih a2 xv45 mv35 gq38_ kq39_ (i_rng (lo := 0) (hi := 9) rfl (by omega) (by omega)) (i_rng (lo := 0) (hi := 10) rfl (by omega) (by omega)) hq40_ (by omega)
        · exact T_ret ⟨(i_rng (lo := 0) (hi := 1) l_0 (by omega) (by omega)), hG, hS⟩
theorem t_X8_fits_2 {n : Nat} (hn : 200000 ≤ n) {oa1 oa2 : Int32} {M0 : qM} : ∀ (m : Nat) (a1 a2 a3 : Int32) (M : qM), G M → Sm l_X8_fits M0 M → (-2147483634) ≤ a1.toInt ∧ a1.toInt ≤ 255 → 0 ≤ a2.toInt ∧ a2.toInt ≤ 9 → 0 ≤ a3.toInt ∧ a3.toInt ≤ 4 → KS  M → 4 - a3.toInt < (m : Int) → qT (f_X8_fits_2 n m a1 a2 a3 M) (po_X8_fits oa1 oa2 M0) := by
  intro m
  induction m with
  | zero =>
    intro a1 a2 a3 M hG hS i0 i1 i2 wKS i6
    exfalso; omega
  | succ m ih =>
    intro a1 a2 a3 M hG hS i0 i1 i2 wKS i6
    show qT (b_X8_fits_2 n (f_X8_fits_2 n m) a1 a2 a3 M) _
    unfold b_X8_fits_2
    have hq49_ := r_70_8 hG
    refine T_le rfl rfl (fun hq50_ => ?_) (fun hq50_ => ?_)
    · exact (t_X8_fits_38 hn) n a2 (0 : Int32) M hG hS (i_rng (lo := 0) (hi := 9) rfl (by omega) (by omega)) (i_rng (lo := 0) (hi := 10) l_0 (by omega) (by omega)) wKS (by have e1 : ((0 : Int32)).toInt = _ := l_0; omega)
    · refine T_qg rfl (by omega) (by omega) ?_
      have hq52_ := i_and (a := a1 >>> (((2 : Int32) * (((M 70 8) - (1 : Int32)) - a3)) &&& 31)) (b := (3 : Int32)) l_3 (by omega)
      refine T_mu hG hS (rn_75 _ _) (nw_75 _) (i := 0) rfl ⟨by decide, by decide, Or.inl rfl⟩ ?_
      intro mv51 hq53_ gq54_ kq55_
      have hq56_ := (fun h_ => KS_c (M := M) (M' := mv51) (by rw [hq53_, mu_ne (Or.inl (by decide))]) (by rw [hq53_, mu_ne (Or.inl (by decide))]) (by rw [hq53_, mu_nc (by decide)]) (by rw [hq53_, mu_nc (by decide)]) h_) wKS
      have hq57_ : (mv51 70 8).toInt = (M 70 8).toInt := by rw [hq53_, mu_ne (Or.inl (by decide))]
      have hq58_ : (mv51 75 a3.toNatClampNeg).toInt = ((a1 >>> (((2 : Int32) * (((M 70 8) - (1 : Int32)) - a3)) &&& 31)) &&& (3 : Int32)).toInt := by rw [hq53_, mu_at]
      refine T_ql (i_add rfl l_1 (by omega) (by omega)) ?_
      intro xv59 hq60_
      exact ih a1 a2 xv59 mv51 gq54_ kq55_ (i_rng (lo := (-2147483634)) (hi := 255) rfl (by omega) (by omega)) (i_rng (lo := 0) (hi := 9) rfl (by omega) (by omega)) (i_rng (lo := 0) (hi := 4) rfl (by omega) (by omega)) hq56_ (by omega)
theorem t_X8_fits {n : Nat} (hn : 200000 ≤ n) (a1 a2 : Int32) (M : qM) (hG : G M) (pa1 : (-2147483634) ≤ a1.toInt ∧ a1.toInt ≤ 255) (pa2 : 0 ≤ a2.toInt ∧ a2.toInt ≤ 9) (wKS : KS  M) : qT (f_X8_fits n a1 a2 M) (po_X8_fits a1 a2 M) := by
  have hS : Sm l_X8_fits M M := Sm.rf
  unfold f_X8_fits
  exact (t_X8_fits_2 hn) n a1 a2 (0 : Int32) M hG hS (i_rng (lo := (-2147483634)) (hi := 255) rfl (by omega) (by omega)) (i_rng (lo := 0) (hi := 9) rfl (by omega) (by omega)) (i_rng (lo := 0) (hi := 4) l_0 (by omega) (by omega)) wKS (by have e2 : ((0 : Int32)).toInt = _ := l_0; omega)
abbrev l_X8_goThrough : List Bx := [(34, 35, 4, 5), (35, 37, 0, 0), (70, 71, 10, 12), (72, 73, 0, 0), (75, 77, 0, 0)]
abbrev po_X8_goThrough (a1 a2 : Int32) (M : qM) (v : Int32) (M' : qM) : Prop := (0 ≤ v.toInt ∧ v.toInt ≤ 0) ∧ G M' ∧ Sm l_X8_goThrough M M'
theorem t_X8_goThrough_110 {n : Nat} (hn : 200000 ≤ n) {j : Nat} (hj : q_isLaw j) {oa1 oa2 : Int32} {M0 : qM} {K57 : Int32 → Int32 → qM → qR} {BK57 : Nat} (hK57 : ∀ (a1 a3 : Int32) (M : qM), G M → Sm l_X8_goThrough M0 M → 0 ≤ a1.toInt ∧ a1.toInt ≤ 9 → (-2147483633) ≤ a3.toInt ∧ a3.toInt ≤ 256 → KS  M → 256 - a3.toInt < (BK57 : Int) → qT (K57 a1 a3 M) (po_X8_goThrough oa1 oa2 M0)) : ∀ (m : Nat) (a1 a3 a4 : Int32) (M : qM), G M → Sm l_X8_goThrough M0 M → 0 ≤ a1.toInt ∧ a1.toInt ≤ 9 → (-2147483634) ≤ a3.toInt ∧ a3.toInt ≤ 255 → 0 ≤ a4.toInt ∧ a4.toInt ≤ 4 → KS  M → 256 - a3.toInt < (BK57 : Int) + 1 → 4 - a4.toInt < (m : Int) → qT (f_X8_goThrough_110 n j K57 m a1 a3 a4 M) (po_X8_goThrough oa1 oa2 M0) := by
  intro m
  induction m with
  | zero =>
    intro a1 a3 a4 M hG hS i0 i1 i2 wKS i6 i7
    exfalso; omega
  | succ m ih =>
    intro a1 a3 a4 M hG hS i0 i1 i2 wKS i6 i7
    show qT (b_X8_goThrough_110 n j K57 (f_X8_goThrough_110 n j K57 m) a1 a3 a4 M) _
    unfold b_X8_goThrough_110
    have hq18_ := r_70_8 hG
    refine T_le rfl rfl (fun hq19_ => ?_) (fun hq19_ => ?_)
    · refine T_ql (i_add rfl l_1 (by omega) (by omega)) ?_
      intro xv20 hq21_
      exact hK57 a1 xv20 M hG hS (i_rng (lo := 0) (hi := 9) rfl (by omega) (by omega)) (i_rng (lo := (-2147483633)) (hi := 256) rfl (by omega) (by omega)) wKS (by omega)
    · refine T_qg rfl (by omega) (by omega) ?_
      refine T_qc (t_X8_old hn a4 M hG (i_rng (lo := 0) (hi := 3) rfl (by omega) (by omega))) ?_
      rintro rv22 mv23 ⟨gq24_, kq25_⟩
      have hq26_ := kq25_.nil
      subst hq26_
      refine T_lt rfl rfl (fun hq27_ => ?_) (fun hq27_ => ?_)
      · unfold f_X8_goThrough_142
        refine T_qg rfl (by omega) (by omega) ?_
        have hq29_ := i_full (M 76 a4.toNatClampNeg)
        refine T_mu hG hS (rn_76 _ _) (nw_76 _) (i := 4) rfl ⟨by decide, by decide, Or.inl rfl⟩ ?_
        intro mv28 hq30_ gq31_ kq32_
        have hq33_ := (fun h_ => KS_c (M := M) (M' := mv28) (by rw [hq30_, mu_ne (Or.inl (by decide))]) (by rw [hq30_, mu_ne (Or.inl (by decide))]) (by rw [hq30_, mu_nc (by decide)]) (by rw [hq30_, mu_nc (by decide)]) h_) wKS
        have hq34_ : (mv28 70 8).toInt = (M 70 8).toInt := by rw [hq30_, mu_ne (Or.inl (by decide))]
        have hq35_ : (mv28 76 a4.toNatClampNeg).toInt = ((M 76 a4.toNatClampNeg).toInt + 0) := by rw [hq30_, mu_at]; exact (i_add rfl l_0 (by omega) (by omega))
        refine T_ql (i_add rfl l_1 (by omega) (by omega)) ?_
        intro xv36 hq37_
        exact ih a1 a3 xv36 mv28 gq31_ kq32_ (i_rng (lo := 0) (hi := 9) rfl (by omega) (by omega)) (i_rng (lo := (-2147483634)) (hi := 255) rfl (by omega) (by omega)) (i_rng (lo := 0) (hi := 4) rfl (by omega) (by omega)) hq33_ (by omega) (by omega)
      · unfold f_X8_goThrough_142
        refine T_qg rfl (by omega) (by omega) ?_
        have hq39_ := i_full (M 76 a4.toNatClampNeg)
        refine T_mu hG hS (rn_76 _ _) (nw_76 _) (i := 4) rfl ⟨by decide, by decide, Or.inl rfl⟩ ?_
        intro mv38 hq40_ gq41_ kq42_
        have hq43_ := (fun h_ => KS_c (M := M) (M' := mv38) (by rw [hq40_, mu_ne (Or.inl (by decide))]) (by rw [hq40_, mu_ne (Or.inl (by decide))]) (by rw [hq40_, mu_nc (by decide)]) (by rw [hq40_, mu_nc (by decide)]) h_) wKS
        have hq44_ : (mv38 70 8).toInt = (M 70 8).toInt := by rw [hq40_, mu_ne (Or.inl (by decide))]
        have hq45_ : (mv38 76 a4.toNatClampNeg).toInt = ((M 76 a4.toNatClampNeg) + (1 : Int32)).toInt := by rw [hq40_, mu_at]
        refine T_ql (i_add rfl l_1 (by omega) (by omega)) ?_
        intro xv46 hq47_
        exact ih a1 a3 xv46 mv38 gq41_ kq42_ (i_rng (lo := 0) (hi := 9) rfl (by omega) (by omega)) (i_rng (lo := (-2147483634)) (hi := 255) rfl (by omega) (by omega)) (i_rng (lo := 0) (hi := 4) rfl (by omega) (by omega)) hq43_ (by omega) (by omega)
theorem t_X8_goThrough_57 {n : Nat} (hn : 200000 ≤ n) {j : Nat} (hj : q_isLaw j) {oa1 oa2 : Int32} {M0 : qM} : ∀ (m : Nat) (a1 a3 : Int32) (M : qM), G M → Sm l_X8_goThrough M0 M → 0 ≤ a1.toInt ∧ a1.toInt ≤ 9 → (-2147483633) ≤ a3.toInt ∧ a3.toInt ≤ 256 → KS  M → 256 - a3.toInt < (m : Int) → qT (f_X8_goThrough_57 n j m a1 a3 M) (po_X8_goThrough oa1 oa2 M0) := by
  intro m
  induction m with
  | zero =>
    intro a1 a3 M hG hS i0 i1 wKS i5
    exfalso; omega
  | succ m ih =>
    intro a1 a3 M hG hS i0 i1 wKS i5
    show qT (b_X8_goThrough_57 n j (f_X8_goThrough_57 n j m) a1 a3 M) _
    unfold b_X8_goThrough_57
    have hq55_ := r_70_8 hG
    have hq56_ := i_shl1 (c := 8) (k := (2 : Int32) * (M 70 8)) (by decide) (i_mul l_2 rfl (by omega) (by omega)) (by omega) (by omega)
    refine T_le rfl rfl (fun hq57_ => ?_) (fun hq57_ => ?_)
    · exact T_ret ⟨(i_rng (lo := 0) (hi := 0) l_0 (by omega) (by omega)), hG, hS⟩
    · refine T_qc (t_X8_fits hn a3 a1 M hG (i_rng (lo := (-2147483634)) (hi := 255) rfl (by omega) (by omega)) (i_rng (lo := 0) (hi := 9) rfl (by omega) (by omega)) wKS) ?_
      rintro rv58 mv59 ⟨hq60_, gq61_, kq62_⟩
      have kq63_ := Sm.call hS kq62_ rfl
      have hq64_ := (fun h_ => KS_c (kq62_ 70 8 (by decide)) (kq62_ 70 9 (by decide)) (funext (fun s_ => kq62_ 71 s_ (outc rfl))) (funext (fun s_ => kq62_ 73 s_ (outc rfl))) h_) wKS
      refine T_eq rfl l_0 (fun hq65_ => ?_) (fun hq65_ => ?_)
      · refine T_ql (i_add rfl l_1 (by omega) (by omega)) ?_
        intro xv66 hq67_
        exact ih a1 xv66 mv59 gq61_ kq63_ (i_rng (lo := 0) (hi := 9) rfl (by omega) (by omega)) (i_rng (lo := (-2147483633)) (hi := 256) rfl (by omega) (by omega)) hq64_ (by omega)
      · refine T_eq rfl l_0 (fun hq68_ => ?_) (fun hq68_ => ?_)
        · unfold f_X8_goThrough_94
          refine T_mu gq61_ kq63_ (rn_70_11 _) (nw_70 _) (i := 2) rfl ⟨by decide, by decide, Or.inr ⟨by decide, by decide⟩⟩ ?_
          intro mv69 hq70_ gq71_ kq72_
          have hq73_ := (fun h_ => KS_c (M := mv59) (M' := mv69) (by rw [hq70_, mu_ne (Or.inr (by decide))]) (by rw [hq70_, mu_ne (Or.inr (by decide))]) (by rw [hq70_, mu_nc (by decide)]) (by rw [hq70_, mu_nc (by decide)]) h_) hq64_
          have hq74_ : (mv69 70 10).toInt = (mv59 70 10).toInt := by rw [hq70_, mu_ne (Or.inr (by decide))]
          have hq75_ : (mv69 70 11).toInt = a3.toInt := by rw [hq70_, mu_at]
          refine T_mu gq71_ kq72_ (rn_70_10 _) (nw_70 _) (i := 2) rfl ⟨by decide, by decide, Or.inr ⟨by decide, by decide⟩⟩ ?_
          intro mv76 hq77_ gq78_ kq79_
          have hq80_ := (fun h_ => KS_c (M := mv69) (M' := mv76) (by rw [hq77_, mu_ne (Or.inr (by decide))]) (by rw [hq77_, mu_ne (Or.inr (by decide))]) (by rw [hq77_, mu_nc (by decide)]) (by rw [hq77_, mu_nc (by decide)]) h_) hq73_
          have hq81_ : (mv76 70 11).toInt = (mv69 70 11).toInt := by rw [hq77_, mu_ne (Or.inr (by decide))]
          have hq82_ : (mv76 70 10).toInt = ((mv69 70 10).toInt + 1) := by rw [hq77_, mu_at]; exact (i_add rfl l_1 (by omega) (by omega))
          exact (t_X8_goThrough_110 hn hj ih) n a1 a3 (0 : Int32) mv76 gq78_ kq79_ (i_rng (lo := 0) (hi := 9) rfl (by omega) (by omega)) (i_rng (lo := (-2147483634)) (hi := 255) rfl (by omega) (by omega)) (i_rng (lo := 0) (hi := 4) l_0 (by omega) (by omega)) hq80_ (by omega) (by have e2 : ((0 : Int32)).toInt = _ := l_0; omega)
        · unfold f_X8_goThrough_94
          refine T_mu gq61_ kq63_ (rn_70_11 _) (nw_70 _) (i := 2) rfl ⟨by decide, by decide, Or.inr ⟨by decide, by decide⟩⟩ ?_
          intro mv83 hq84_ gq85_ kq86_
          have hq87_ := (fun h_ => KS_c (M := mv59) (M' := mv83) (by rw [hq84_, mu_ne (Or.inr (by decide))]) (by rw [hq84_, mu_ne (Or.inr (by decide))]) (by rw [hq84_, mu_nc (by decide)]) (by rw [hq84_, mu_nc (by decide)]) h_) hq64_
          have hq88_ : (mv83 70 10).toInt = (mv59 70 10).toInt := by rw [hq84_, mu_ne (Or.inr (by decide))]
          have hq89_ : (mv83 70 11).toInt = (mv59 70 11).toInt := by rw [hq84_, mu_at]
          have hq91_ := i_full (mv83 70 10)
          refine T_mu gq85_ kq86_ (rn_70_10 _) (nw_70 _) (i := 2) rfl ⟨by decide, by decide, Or.inr ⟨by decide, by decide⟩⟩ ?_
          intro mv90 hq92_ gq93_ kq94_
          have hq95_ := (fun h_ => KS_c (M := mv83) (M' := mv90) (by rw [hq92_, mu_ne (Or.inr (by decide))]) (by rw [hq92_, mu_ne (Or.inr (by decide))]) (by rw [hq92_, mu_nc (by decide)]) (by rw [hq92_, mu_nc (by decide)]) h_) hq87_
          have hq96_ : (mv90 70 11).toInt = (mv83 70 11).toInt := by rw [hq92_, mu_ne (Or.inr (by decide))]
          have hq97_ : (mv90 70 10).toInt = ((mv83 70 10) + (1 : Int32)).toInt := by rw [hq92_, mu_at]
          exact (t_X8_goThrough_110 hn hj ih) n a1 a3 (0 : Int32) mv90 gq93_ kq94_ (i_rng (lo := 0) (hi := 9) rfl (by omega) (by omega)) (i_rng (lo := (-2147483634)) (hi := 255) rfl (by omega) (by omega)) (i_rng (lo := 0) (hi := 4) l_0 (by omega) (by omega)) hq95_ (by omega) (by have e2 : ((0 : Int32)).toInt = _ := l_0; omega)
theorem t_X8_goThrough_21 {n : Nat} (hn : 200000 ≤ n) {j : Nat} (hj : q_isLaw j) {oa1 oa2 : Int32} {M0 : qM} : ∀ (m : Nat) (a1 a2 a3 : Int32) (M : qM), G M → Sm l_X8_goThrough M0 M → 0 ≤ a1.toInt ∧ a1.toInt ≤ 9 → 0 ≤ a3.toInt ∧ a3.toInt ≤ 4 → KS  M → 4 - a3.toInt < (m : Int) → qT (f_X8_goThrough_21 n j m a1 a2 a3 M) (po_X8_goThrough oa1 oa2 M0) := by
  intro m
  induction m with
  | zero =>
    intro a1 a2 a3 M hG hS i0 i1 wKS i5
    exfalso; omega
  | succ m ih =>
    intro a1 a2 a3 M hG hS i0 i1 wKS i5
    show qT (b_X8_goThrough_21 n j (f_X8_goThrough_21 n j m) a1 a2 a3 M) _
    unfold b_X8_goThrough_21
    have hq99_ := r_70_8 hG
    refine T_le rfl rfl (fun hq100_ => ?_) (fun hq100_ => ?_)
    · exact (t_X8_goThrough_57 hn hj) n a1 (0 : Int32) M hG hS (i_rng (lo := 0) (hi := 9) rfl (by omega) (by omega)) (i_rng (lo := (-2147483633)) (hi := 256) l_0 (by omega) (by omega)) wKS (by have e1 : ((0 : Int32)).toInt = _ := l_0; omega)
    · refine T_qg rfl (by omega) (by omega) ?_
      have hq103_ := wKS.1 a3.toNatClampNeg (by rw [tnc]; omega)
      have hq104_ := r_71 hG a3.toNatClampNeg
      refine T_qc (t_X1_alikes hn hj (M 71 a3.toNatClampNeg) a2 M hG (i_rng (lo := 0) (hi := 11) rfl (by omega) (by omega))) ?_
      rintro rv101 mv102 ⟨gq105_, kq106_⟩
      have kq107_ := Sm.call hS kq106_ rfl
      have hq108_ := (fun h_ => KS_c (kq106_ 70 8 (by decide)) (kq106_ 70 9 (by decide)) (funext (fun s_ => kq106_ 71 s_ (outc rfl))) (funext (fun s_ => kq106_ 73 s_ (outc rfl))) h_) wKS
      have hq109_ : (mv102 70 8).toInt = (M 70 8).toInt := by rw [kq106_ 70 8 (by decide)]
      refine T_qg rfl (by omega) (by omega) ?_
      refine T_mu gq105_ kq107_ (rn_72 _ _) (nw_72 _) (i := 3) rfl ⟨by decide, by decide, Or.inl rfl⟩ ?_
      intro mv110 hq111_ gq112_ kq113_
      have hq114_ := (fun h_ => KS_c (M := mv102) (M' := mv110) (by rw [hq111_, mu_ne (Or.inl (by decide))]) (by rw [hq111_, mu_ne (Or.inl (by decide))]) (by rw [hq111_, mu_nc (by decide)]) (by rw [hq111_, mu_nc (by decide)]) h_) hq108_
      have hq115_ : (mv110 70 8).toInt = (mv102 70 8).toInt := by rw [hq111_, mu_ne (Or.inl (by decide))]
      have hq116_ : (mv110 72 a3.toNatClampNeg).toInt = rv101.toInt := by rw [hq111_, mu_at]
      refine T_ql (i_add rfl l_1 (by omega) (by omega)) ?_
      intro xv117 hq118_
      exact ih a1 a2 xv117 mv110 gq112_ kq113_ (i_rng (lo := 0) (hi := 9) rfl (by omega) (by omega)) (i_rng (lo := 0) (hi := 4) rfl (by omega) (by omega)) hq114_ (by omega)
theorem t_X8_goThrough {n : Nat} (hn : 200000 ≤ n) {j : Nat} (hj : q_isLaw j) (a1 a2 : Int32) (M : qM) (hG : G M) (pa1 : 0 ≤ a1.toInt ∧ a1.toInt ≤ 9) (wKS : KS  M) : qT (f_X8_goThrough n j a1 a2 M) (po_X8_goThrough a1 a2 M) := by
  have hS : Sm l_X8_goThrough M M := Sm.rf
  unfold f_X8_goThrough
  refine T_mu hG hS (rn_70_10 _) (nw_70 _) (i := 2) rfl ⟨by decide, by decide, Or.inr ⟨by decide, by decide⟩⟩ ?_
  intro mv119 hq120_ gq121_ kq122_
  have hq123_ := (fun h_ => KS_c (M := M) (M' := mv119) (by rw [hq120_, mu_ne (Or.inr (by decide))]) (by rw [hq120_, mu_ne (Or.inr (by decide))]) (by rw [hq120_, mu_nc (by decide)]) (by rw [hq120_, mu_nc (by decide)]) h_) wKS
  have hq124_ : (mv119 70 10).toInt = 0 := by rw [hq120_, mu_at]; exact l_0
  refine T_mu gq121_ kq122_ (rn_70_11 _) (nw_70 _) (i := 2) rfl ⟨by decide, by decide, Or.inr ⟨by decide, by decide⟩⟩ ?_
  intro mv125 hq126_ gq127_ kq128_
  have hq129_ := (fun h_ => KS_c (M := mv119) (M' := mv125) (by rw [hq126_, mu_ne (Or.inr (by decide))]) (by rw [hq126_, mu_ne (Or.inr (by decide))]) (by rw [hq126_, mu_nc (by decide)]) (by rw [hq126_, mu_nc (by decide)]) h_) hq123_
  have hq130_ : (mv125 70 10).toInt = (mv119 70 10).toInt := by rw [hq126_, mu_ne (Or.inr (by decide))]
  have hq131_ : (mv125 70 11).toInt = (-2) := by rw [hq126_, mu_at]; exact l_m2
  refine T_qc (t_J7_fill_53178_c76_4 hn (0 : Int32) mv125 gq127_ (i_rng (lo := 0) (hi := 0) l_0 (by omega) (by omega))) ?_
  rintro rv132 mv133 ⟨hq134_, gq135_, kq136_⟩
  have kq137_ := Sm.call kq128_ kq136_ rfl
  have hq138_ := (fun h_ => KS_c (kq136_ 70 8 (by decide)) (kq136_ 70 9 (by decide)) (funext (fun s_ => kq136_ 71 s_ (outc rfl))) (funext (fun s_ => kq136_ 73 s_ (outc rfl))) h_) hq129_
  have hq139_ : (mv133 70 10).toInt = (mv125 70 10).toInt := by rw [kq136_ 70 10 (by decide)]
  have hq140_ : (mv133 70 11).toInt = (mv125 70 11).toInt := by rw [kq136_ 70 11 (by decide)]
  exact (t_X8_goThrough_21 hn hj) n a1 a2 (0 : Int32) mv133 gq135_ kq137_ (i_rng (lo := 0) (hi := 9) rfl (by omega) (by omega)) (i_rng (lo := 0) (hi := 4) l_0 (by omega) (by omega)) hq138_ (by have e2 : ((0 : Int32)).toInt = _ := l_0; omega)
abbrev l_X8_greaterPart : List Bx := []
abbrev po_X8_greaterPart (a1 : Int32) (M : qM) (v : Int32) (M' : qM) : Prop := G M' ∧ Sm l_X8_greaterPart M M'
theorem t_X8_greaterPart {n : Nat} (hn : 200000 ≤ n) (a1 : Int32) (M : qM) (hG : G M) (pa1 : 0 ≤ a1.toInt ∧ a1.toInt ≤ 3) : qT (f_X8_greaterPart n a1 M) (po_X8_greaterPart a1 M) := by
  have hS : Sm l_X8_greaterPart M M := Sm.rf
  unfold f_X8_greaterPart
  refine T_qg rfl (by omega) (by omega) ?_
  refine T_qg rfl (by omega) (by omega) ?_
  have hq1_ := i_full (M 70 10)
  have hq2_ := i_full (M 76 a1.toNatClampNeg)
  have hq3_ := i_max (a := M 76 a1.toNatClampNeg) (b := (M 70 10) - (M 76 a1.toNatClampNeg)) rfl rfl
  exact T_ret ⟨hG, hS⟩
abbrev l_X8_tellingPlace : List Bx := []
abbrev po_X8_tellingPlace (M : qM) (v : Int32) (M' : qM) : Prop := (0 ≤ v.toInt ∧ v.toInt ≤ 3) ∧ G M' ∧ Sm l_X8_tellingPlace M M'
theorem t_X8_tellingPlace_4 {n : Nat} (hn : 200000 ≤ n) {M0 : qM} : ∀ (m : Nat) (a1 a2 : Int32) (M : qM), G M → Sm l_X8_tellingPlace M0 M → 0 ≤ a1.toInt ∧ a1.toInt ≤ 3 → 1 ≤ a2.toInt ∧ a2.toInt ≤ 4 → 4 - a2.toInt < (m : Int) → qT (f_X8_tellingPlace_4 n m a1 a2 M) (po_X8_tellingPlace  M0) := by
  intro m
  induction m with
  | zero =>
    intro a1 a2 M hG hS i0 i1 i4
    exfalso; omega
  | succ m ih =>
    intro a1 a2 M hG hS i0 i1 i4
    show qT (b_X8_tellingPlace_4 n (f_X8_tellingPlace_4 n m) a1 a2 M) _
    unfold b_X8_tellingPlace_4
    have hq3_ := r_70_8 hG
    refine T_le rfl rfl (fun hq4_ => ?_) (fun hq4_ => ?_)
    · exact T_ret ⟨(i_rng (lo := 0) (hi := 3) rfl (by omega) (by omega)), hG, hS⟩
    · refine T_qc (t_X8_greaterPart hn a2 M hG (i_rng (lo := 0) (hi := 3) rfl (by omega) (by omega))) ?_
      rintro rv5 mv6 ⟨gq7_, kq8_⟩
      have hq9_ := kq8_.nil
      subst hq9_
      refine T_qc (t_X8_greaterPart hn a1 M hG (i_rng (lo := 0) (hi := 3) rfl (by omega) (by omega))) ?_
      rintro rv10 mv11 ⟨gq12_, kq13_⟩
      have hq14_ := kq13_.nil
      subst hq14_
      refine T_le rfl rfl (fun hq15_ => ?_) (fun hq15_ => ?_)
      · refine T_ql (i_add rfl l_1 (by omega) (by omega)) ?_
        intro xv16 hq17_
        exact ih a1 xv16 M hG hS (i_rng (lo := 0) (hi := 3) rfl (by omega) (by omega)) (i_rng (lo := 1) (hi := 4) rfl (by omega) (by omega)) (by omega)
      · refine T_ql (i_add rfl l_1 (by omega) (by omega)) ?_
        intro xv18 hq19_
        exact ih a2 xv18 M hG hS (i_rng (lo := 0) (hi := 3) rfl (by omega) (by omega)) (i_rng (lo := 1) (hi := 4) rfl (by omega) (by omega)) (by omega)
theorem t_X8_tellingPlace {n : Nat} (hn : 200000 ≤ n) (M : qM) (hG : G M) : qT (f_X8_tellingPlace n  M) (po_X8_tellingPlace  M) := by
  have hS : Sm l_X8_tellingPlace M M := Sm.rf
  unfold f_X8_tellingPlace
  exact (t_X8_tellingPlace_4 hn) n (0 : Int32) (1 : Int32) M hG hS (i_rng (lo := 0) (hi := 3) l_0 (by omega) (by omega)) (i_rng (lo := 1) (hi := 4) l_1 (by omega) (by omega)) (by have e0 : ((0 : Int32)).toInt = _ := l_0; have e1 : ((1 : Int32)).toInt = _ := l_1; omega)
abbrev l_X11_histories : List Bx := [(1, 2, 1, 2), (34, 35, 4, 5), (35, 37, 0, 0), (70, 71, 8, 12), (71, 77, 0, 0)]
abbrev po_X11_histories (a1 a2 a3 a4 : Int32) (M : qM) (v : Int32) (M' : qM) : Prop := (((1 ≤ a1.toInt ∧ a1.toInt ≤ 4 ∧ 0 ≤ a2.toInt ∧ a2.toInt ≤ 10 ∧ 0 ≤ a3.toInt ∧ a3.toInt ≤ 9 ∧ 0 ≤ a4.toInt ∧ a4.toInt ≤ 2 ∧ a1.toInt + 2 * a2.toInt ≤ (M 1 1).toInt) ∧ (M' 1 1).toInt = 0) ∨ (¬ (1 ≤ a1.toInt ∧ a1.toInt ≤ 4 ∧ 0 ≤ a2.toInt ∧ a2.toInt ≤ 10 ∧ 0 ≤ a3.toInt ∧ a3.toInt ≤ 9 ∧ 0 ≤ a4.toInt ∧ a4.toInt ≤ 2 ∧ a1.toInt + 2 * a2.toInt ≤ (M 1 1).toInt) ∧ (M' 1 1).toInt = (M 1 1).toInt)) ∧ G M' ∧ Sm l_X11_histories M M'
theorem t_X11_histories {n : Nat} (hn : 200000 ≤ n) {j : Nat} (hj : q_isLaw j) (a1 a2 a3 a4 : Int32) (M : qM) (hG : G M) : qT (f_X11_histories n j a1 a2 a3 a4 M) (po_X11_histories a1 a2 a3 a4 M) := by
  have hS : Sm l_X11_histories M M := Sm.rf
  unfold f_X11_histories
  have hq1_ := r_1_1 hG
  refine T_lt rfl l_1 (fun hq2_ => ?_) (fun hq2_ => ?_)
  · exact T_ret ⟨(by have e9 : ((-1 : Int32)).toInt = _ := l_m1; omega), hG, hS⟩
  · refine T_lt l_4 rfl (fun hq3_ => ?_) (fun hq3_ => ?_)
    · exact T_ret ⟨(by have e9 : ((-1 : Int32)).toInt = _ := l_m1; omega), hG, hS⟩
    · refine T_lt rfl l_0 (fun hq4_ => ?_) (fun hq4_ => ?_)
      · exact T_ret ⟨(by have e9 : ((-1 : Int32)).toInt = _ := l_m1; omega), hG, hS⟩
      · refine T_lt l_10 rfl (fun hq5_ => ?_) (fun hq5_ => ?_)
        · exact T_ret ⟨(by have e9 : ((-1 : Int32)).toInt = _ := l_m1; omega), hG, hS⟩
        · refine T_lt rfl l_0 (fun hq6_ => ?_) (fun hq6_ => ?_)
          · exact T_ret ⟨(by have e9 : ((-1 : Int32)).toInt = _ := l_m1; omega), hG, hS⟩
          · refine T_le rfl l_9 (fun hq7_ => ?_) (fun hq7_ => ?_)
            · refine T_lt rfl l_0 (fun hq8_ => ?_) (fun hq8_ => ?_)
              · exact T_ret ⟨(by have e9 : ((-1 : Int32)).toInt = _ := l_m1; omega), hG, hS⟩
              · refine T_lt l_2 rfl (fun hq9_ => ?_) (fun hq9_ => ?_)
                · exact T_ret ⟨(by have e9 : ((-1 : Int32)).toInt = _ := l_m1; omega), hG, hS⟩
                · refine T_le (i_add rfl (i_mul l_2 rfl (by omega) (by omega)) (by omega) (by omega)) rfl (fun hq10_ => ?_) (fun hq10_ => ?_)
                  · refine T_qc (t_X8_read hn a1 a2 M hG (i_rng (lo := 1) (hi := 4) rfl (by omega) (by omega)) (i_rng (lo := 0) (hi := 10) rfl (by omega) (by omega))) ?_
                    rintro rv11 mv12 ⟨hq13_, hq14_, gq15_, kq16_⟩
                    have kq17_ := Sm.call hS kq16_ rfl
                    have hq18_ : (mv12 1 1).toInt = (M 1 1).toInt := by rw [kq16_ 1 1 (by decide)]
                    refine T_qc (t_X9_clear hn  mv12 gq15_ ) ?_
                    rintro rv19 mv20 ⟨hq21_, hq22_, gq23_, kq24_⟩
                    have kq25_ := Sm.call kq17_ kq24_ rfl
                    have hq26_ := Or.imp_right (fun h_ => KS_c (kq24_ 70 8 (by decide)) (kq24_ 70 9 (by decide)) (funext (fun s_ => kq24_ 71 s_ (outc rfl))) (funext (fun s_ => kq24_ 73 s_ (outc rfl))) h_) hq14_
                    have hq27_ := r_1_1 gq23_
                    refine T_eq rfl l_0 (fun hq28_ => ?_) (fun hq28_ => ?_)
                    · exact T_ret ⟨(by have e9 : ((-3 : Int32)).toInt = _ := l_m3; omega), gq23_, kq25_⟩
                    · refine T_qc (t_X8_goThrough hn hj a3 (mv20 7 9) mv20 gq23_ (i_rng (lo := 0) (hi := 9) rfl (by omega) (by omega)) (hq26_.resolve_left (by omega))) ?_
                      rintro rv29 mv30 ⟨hq31_, gq32_, kq33_⟩
                      have kq34_ := Sm.call kq25_ kq33_ rfl
                      have hq35_ := Or.imp_right (fun h_ => KS_c (kq33_ 70 8 (by decide)) (kq33_ 70 9 (by decide)) (funext (fun s_ => kq33_ 71 s_ (outc rfl))) (funext (fun s_ => kq33_ 73 s_ (outc rfl))) h_) hq26_
                      have hq36_ : (mv30 1 1).toInt = (mv20 1 1).toInt := by rw [kq33_ 1 1 (by decide)]
                      refine T_eq rfl l_0 (fun hq37_ => ?_) (fun hq37_ => ?_)
                      · exact T_ret ⟨(by have e9 : (mv30 70 10).toInt = _ := rfl; omega), gq32_, kq34_⟩
                      · refine T_eq rfl l_1 (fun hq38_ => ?_) (fun hq38_ => ?_)
                        · exact T_ret ⟨(by have e9 : (mv30 70 11).toInt = _ := rfl; omega), gq32_, kq34_⟩
                        · refine T_qc (t_X8_tellingPlace hn  mv30 gq32_ ) ?_
                          rintro rv39 mv40 ⟨hq41_, gq42_, kq43_⟩
                          have hq44_ := kq43_.nil
                          subst hq44_
                          exact T_ret ⟨(by have e9 : (rv39).toInt = _ := rfl; omega), gq32_, kq34_⟩
                  · exact T_ret ⟨(by have e9 : ((-1 : Int32)).toInt = _ := l_m1; omega), hG, hS⟩
            · exact T_ret ⟨(by have e9 : ((-1 : Int32)).toInt = _ := l_m1; omega), hG, hS⟩
