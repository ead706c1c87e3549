abbrev l_X12_greaterBy : List Bx := [(118, 119, 0, 0)]
abbrev po_X12_greaterBy (a1 a2 a3 a4 : Int32) (M : qM) (v : Int32) (M' : qM) : Prop := G M' ∧ Sm l_X12_greaterBy M M'
theorem t_X12_greaterBy_9 {n : Nat} (hn : 200000 ≤ n) {oa1 oa2 oa3 oa4 : Int32} {M0 : qM} : ∀ (m : Nat) (a1 a2 a3 a4 a5 a6 a7 : Int32) (M : qM), G M → Sm l_X12_greaterBy M0 M → 0 ≤ a1.toInt ∧ a1.toInt ≤ 3 → 1 ≤ a2.toInt ∧ a2.toInt ≤ 256 → 0 ≤ a3.toInt ∧ a3.toInt ≤ 10 → 0 ≤ a4.toInt ∧ a4.toInt ≤ 9 → 0 ≤ a7.toInt ∧ a7.toInt ≤ 256 → KP a3 M → 256 - a7.toInt < (m : Int) → qT (f_X12_greaterBy_9 n m a1 a2 a3 a4 a5 a6 a7 M) (po_X12_greaterBy oa1 oa2 oa3 oa4 M0) := by
  intro m
  induction m with
  | zero =>
    intro a1 a2 a3 a4 a5 a6 a7 M hG hS i0 i1 i2 i3 i4 wKP i8
    exfalso; omega
  | succ m ih =>
    intro a1 a2 a3 a4 a5 a6 a7 M hG hS i0 i1 i2 i3 i4 wKP i8
    show qT (b_X12_greaterBy_9 n (f_X12_greaterBy_9 n m) a1 a2 a3 a4 a5 a6 a7 M) _
    unfold b_X12_greaterBy_9
    refine T_le rfl rfl (fun hq7_ => ?_) (fun hq7_ => ?_)
    · have hq10_ := i_full (a6)
      have hq11_ := i_full (a5)
      refine T_qc (t_X12_max hn a5 (a6 - a5) M hG ) ?_
      rintro rv8 mv9 ⟨gq12_, kq13_⟩
      have hq14_ := kq13_.nil
      subst hq14_
      exact T_ret ⟨hG, hS⟩
    · refine T_qg rfl (by omega) (by omega) ?_
      have hq15_ := r_119 hG a7.toNatClampNeg
      refine T_eq rfl l_0 (fun hq16_ => ?_) (fun hq16_ => ?_)
      · refine T_ql (i_add rfl l_1 (by omega) (by omega)) ?_
        intro xv17 hq18_
        exact ih a1 a2 a3 a4 a5 a6 xv17 M hG hS (i_rng (lo := 0) (hi := 3) rfl (by omega) (by omega)) (i_rng (lo := 1) (hi := 256) rfl (by omega) (by omega)) (i_rng (lo := 0) (hi := 10) rfl (by omega) (by omega)) (i_rng (lo := 0) (hi := 9) rfl (by omega) (by omega)) (i_rng (lo := 0) (hi := 256) rfl (by omega) (by omega)) wKP (by omega)
      · refine T_qc (t_X12_goesWith hn a7 a3 a4 M hG (i_rng (lo := 0) (hi := 255) rfl (by omega) (by omega)) (i_rng (lo := 0) (hi := 10) rfl (by omega) (by omega)) (i_rng (lo := 0) (hi := 9) rfl (by omega) (by omega)) wKP) ?_
        rintro rv19 mv20 ⟨hq21_, gq22_, kq23_⟩
        have kq24_ := Sm.call hS kq23_ rfl
        have hq25_ := (fun h_ => KP_c (kq23_ 77 61 (by decide)) (funext (fun s_ => kq23_ 84 s_ (outc rfl))) h_) wKP
        have hq26_ : (mv20 119 a7.toNatClampNeg).toInt = (M 119 a7.toNatClampNeg).toInt := by rw [kq23_ 119 _ (outc rfl)]
        have hq27_ := i_full (a6)
        refine T_ql rfl ?_
        intro xv28 hq29_
        refine T_qc (t_X12_pastCounts hn a1 a4 mv20 gq22_ (i_rng (lo := 0) (hi := 3) rfl (by omega) (by omega)) (i_rng (lo := 0) (hi := 9) rfl (by omega) (by omega))) ?_
        rintro rv30 mv31 ⟨hq32_, gq33_, kq34_⟩
        have hq35_ := kq34_.nil
        subst hq35_
        refine T_eq rfl l_0 (fun hq36_ => ?_) (fun hq36_ => ?_)
        · unfold f_X12_greaterBy_61
          have hq37_ := i_full (a5)
          refine T_ql (i_add rfl l_0 (by omega) (by omega)) ?_
          intro xv38 hq39_
          refine T_ql (i_add rfl l_1 (by omega) (by omega)) ?_
          intro xv40 hq41_
          exact ih a1 a2 a3 a4 xv38 xv28 xv40 mv20 gq22_ kq24_ (i_rng (lo := 0) (hi := 3) rfl (by omega) (by omega)) (i_rng (lo := 1) (hi := 256) rfl (by omega) (by omega)) (i_rng (lo := 0) (hi := 10) rfl (by omega) (by omega)) (i_rng (lo := 0) (hi := 9) rfl (by omega) (by omega)) (i_rng (lo := 0) (hi := 256) rfl (by omega) (by omega)) hq25_ (by omega)
        · unfold f_X12_greaterBy_61
          have hq42_ := i_full (a5)
          refine T_ql rfl ?_
          intro xv43 hq44_
          refine T_ql (i_add rfl l_1 (by omega) (by omega)) ?_
          intro xv45 hq46_
          exact ih a1 a2 a3 a4 xv43 xv28 xv45 mv20 gq22_ kq24_ (i_rng (lo := 0) (hi := 3) rfl (by omega) (by omega)) (i_rng (lo := 1) (hi := 256) rfl (by omega) (by omega)) (i_rng (lo := 0) (hi := 10) rfl (by omega) (by omega)) (i_rng (lo := 0) (hi := 9) rfl (by omega) (by omega)) (i_rng (lo := 0) (hi := 256) rfl (by omega) (by omega)) hq25_ (by omega)
theorem t_X12_greaterBy {n : Nat} (hn : 200000 ≤ n) (a1 a2 a3 a4 : Int32) (M : qM) (hG : G M) (pa1 : 0 ≤ a1.toInt ∧ a1.toInt ≤ 3) (pa2 : 1 ≤ a2.toInt ∧ a2.toInt ≤ 256) (pa3 : 0 ≤ a3.toInt ∧ a3.toInt ≤ 10) (pa4 : 0 ≤ a4.toInt ∧ a4.toInt ≤ 9) (wKP : KP a3 M) : qT (f_X12_greaterBy n a1 a2 a3 a4 M) (po_X12_greaterBy a1 a2 a3 a4 M) := by
  have hS : Sm l_X12_greaterBy M M := Sm.rf
  unfold f_X12_greaterBy
  exact (t_X12_greaterBy_9 hn) n a1 a2 a3 a4 (0 : Int32) (0 : Int32) (0 : Int32) M hG hS (i_rng (lo := 0) (hi := 3) rfl (by omega) (by omega)) (i_rng (lo := 1) (hi := 256) rfl (by omega) (by omega)) (i_rng (lo := 0) (hi := 10) rfl (by omega) (by omega)) (i_rng (lo := 0) (hi := 9) rfl (by omega) (by omega)) (i_rng (lo := 0) (hi := 256) l_0 (by omega) (by omega)) wKP (by have e4 : ((0 : Int32)).toInt = _ := l_0; have e5 : ((0 : Int32)).toInt = _ := l_0; have e6 : ((0 : Int32)).toInt = _ := l_0; omega)
abbrev l_X12_histories : List Bx := [(77, 78, 8, 9), (77, 78, 61, 62), (96, 98, 0, 0), (116, 120, 0, 0)]
abbrev po_X12_histories (a1 a2 a3 a4 : Int32) (M : qM) (v : Int32) (M' : qM) : Prop := (((1 ≤ a1.toInt ∧ a1.toInt ≤ 4 ∧ 0 ≤ a2.toInt ∧ a2.toInt ≤ 10 ∧ 0 ≤ a3.toInt ∧ a3.toInt ≤ 9 ∧ 0 ≤ a4.toInt ∧ a4.toInt ≤ 2 ∧ a1.toInt + 2 * a2.toInt ≤ (M 77 8).toInt) ∧ (M' 77 8).toInt = 0) ∨ (¬ (1 ≤ a1.toInt ∧ a1.toInt ≤ 4 ∧ 0 ≤ a2.toInt ∧ a2.toInt ≤ 10 ∧ 0 ≤ a3.toInt ∧ a3.toInt ≤ 9 ∧ 0 ≤ a4.toInt ∧ a4.toInt ≤ 2 ∧ a1.toInt + 2 * a2.toInt ≤ (M 77 8).toInt) ∧ (M' 77 8).toInt = (M 77 8).toInt)) ∧ G M' ∧ Sm l_X12_histories M M'
theorem t_X12_histories_184 {n : Nat} (hn : 200000 ≤ n) {oa1 oa2 oa3 oa4 : Int32} {M0 : qM} : ∀ (m : Nat) (a1 a2 a3 a5 a8 a9 : Int32) (M : qM), G M → Sm l_X12_histories M0 M → 1 ≤ a1.toInt ∧ a1.toInt ≤ 4 → 0 ≤ a2.toInt ∧ a2.toInt ≤ 10 → 0 ≤ a3.toInt ∧ a3.toInt ≤ 9 → 1 ≤ a5.toInt ∧ a5.toInt ≤ 256 → 0 ≤ a8.toInt ∧ a8.toInt ≤ 3 → 1 ≤ a9.toInt ∧ a9.toInt ≤ 4 → ((1 ≤ oa1.toInt ∧ oa1.toInt ≤ 4 ∧ 0 ≤ oa2.toInt ∧ oa2.toInt ≤ 10 ∧ 0 ≤ oa3.toInt ∧ oa3.toInt ≤ 9 ∧ 0 ≤ oa4.toInt ∧ oa4.toInt ≤ 2 ∧ oa1.toInt + 2 * oa2.toInt ≤ (M0 77 8).toInt) ∧ (M 77 8).toInt = 0) → KP a2 M → 4 - a9.toInt < (m : Int) → qT (f_X12_histories_184 n m a1 a2 a3 a5 a8 a9 M) (po_X12_histories oa1 oa2 oa3 oa4 M0) := by
  intro m
  induction m with
  | zero =>
    intro a1 a2 a3 a5 a8 a9 M hG hS i0 i1 i2 i3 i4 i5 hE wKP i10
    have hq3_ := r_77_8 hG
    exfalso; omega
  | succ m ih =>
    intro a1 a2 a3 a5 a8 a9 M hG hS i0 i1 i2 i3 i4 i5 hE wKP i10
    show qT (b_X12_histories_184 n (f_X12_histories_184 n m) a1 a2 a3 a5 a8 a9 M) _
    unfold b_X12_histories_184
    have hq3_ := r_77_8 hG
    refine T_le rfl rfl (fun hq4_ => ?_) (fun hq4_ => ?_)
    · exact T_ret ⟨(by have e9 : (a8).toInt = _ := rfl; omega), hG, hS⟩
    · refine T_qc (t_X12_greaterBy hn a9 a5 a2 a3 M hG (i_rng (lo := 0) (hi := 3) rfl (by omega) (by omega)) (i_rng (lo := 1) (hi := 256) rfl (by omega) (by omega)) (i_rng (lo := 0) (hi := 10) rfl (by omega) (by omega)) (i_rng (lo := 0) (hi := 9) rfl (by omega) (by omega)) wKP) ?_
      rintro rv5 mv6 ⟨gq7_, kq8_⟩
      have kq9_ := Sm.call hS kq8_ rfl
      have hq10_ := (fun h_ => KP_c (kq8_ 77 61 (by decide)) (funext (fun s_ => kq8_ 84 s_ (outc rfl))) h_) wKP
      have hq11_ : (mv6 77 8).toInt = (M 77 8).toInt := by rw [kq8_ 77 8 (by decide)]
      refine T_qc (t_X12_greaterBy hn a8 a5 a2 a3 mv6 gq7_ (i_rng (lo := 0) (hi := 3) rfl (by omega) (by omega)) (i_rng (lo := 1) (hi := 256) rfl (by omega) (by omega)) (i_rng (lo := 0) (hi := 10) rfl (by omega) (by omega)) (i_rng (lo := 0) (hi := 9) rfl (by omega) (by omega)) hq10_) ?_
      rintro rv12 mv13 ⟨gq14_, kq15_⟩
      have kq16_ := Sm.call kq9_ kq15_ rfl
      have hq17_ := (fun h_ => KP_c (kq15_ 77 61 (by decide)) (funext (fun s_ => kq15_ 84 s_ (outc rfl))) h_) hq10_
      have hq18_ : (mv13 77 8).toInt = (mv6 77 8).toInt := by rw [kq15_ 77 8 (by decide)]
      refine T_le rfl rfl (fun hq19_ => ?_) (fun hq19_ => ?_)
      · refine T_ql (i_add rfl l_1 (by omega) (by omega)) ?_
        intro xv20 hq21_
        have hq22_ := r_77_8 gq14_
        exact ih a1 a2 a3 a5 a8 xv20 mv13 gq14_ kq16_ (i_rng (lo := 1) (hi := 4) rfl (by omega) (by omega)) (i_rng (lo := 0) (hi := 10) rfl (by omega) (by omega)) (i_rng (lo := 0) (hi := 9) rfl (by omega) (by omega)) (i_rng (lo := 1) (hi := 256) rfl (by omega) (by omega)) (i_rng (lo := 0) (hi := 3) rfl (by omega) (by omega)) (i_rng (lo := 1) (hi := 4) rfl (by omega) (by omega)) (by omega) hq17_ (by omega)
      · refine T_ql (i_add rfl l_1 (by omega) (by omega)) ?_
        intro xv23 hq24_
        have hq25_ := r_77_8 gq14_
        exact ih a1 a2 a3 a5 a9 xv23 mv13 gq14_ kq16_ (i_rng (lo := 1) (hi := 4) rfl (by omega) (by omega)) (i_rng (lo := 0) (hi := 10) rfl (by omega) (by omega)) (i_rng (lo := 0) (hi := 9) rfl (by omega) (by omega)) (i_rng (lo := 1) (hi := 256) rfl (by omega) (by omega)) (i_rng (lo := 0) (hi := 3) rfl (by omega) (by omega)) (i_rng (lo := 1) (hi := 4) rfl (by omega) (by omega)) (by omega) hq17_ (by omega)
theorem t_X12_histories_87 {n : Nat} (hn : 200000 ≤ n) {oa1 oa2 oa3 oa4 : Int32} {M0 : qM} : ∀ (m : Nat) (a1 a2 a3 a4 a5 a6 a7 a8 : Int32) (M : qM), G M → Sm l_X12_histories M0 M → 1 ≤ a1.toInt ∧ a1.toInt ≤ 4 → 0 ≤ a2.toInt ∧ a2.toInt ≤ 10 → 0 ≤ a3.toInt ∧ a3.toInt ≤ 9 → 0 ≤ a4.toInt ∧ a4.toInt ≤ 2 → 1 ≤ a5.toInt ∧ a5.toInt ≤ 256 → (-2) ≤ a7.toInt ∧ a7.toInt ≤ 255 → 0 ≤ a8.toInt ∧ a8.toInt ≤ 256 → ((1 ≤ oa1.toInt ∧ oa1.toInt ≤ 4 ∧ 0 ≤ oa2.toInt ∧ oa2.toInt ≤ 10 ∧ 0 ≤ oa3.toInt ∧ oa3.toInt ≤ 9 ∧ 0 ≤ oa4.toInt ∧ oa4.toInt ≤ 2 ∧ oa1.toInt + 2 * oa2.toInt ≤ (M0 77 8).toInt) ∧ (M 77 8).toInt = 0) → KP a2 M → 256 - a8.toInt < (m : Int) → qT (f_X12_histories_87 n m a1 a2 a3 a4 a5 a6 a7 a8 M) (po_X12_histories oa1 oa2 oa3 oa4 M0) := by
  intro m
  induction m with
  | zero =>
    intro a1 a2 a3 a4 a5 a6 a7 a8 M hG hS i0 i1 i2 i3 i4 i5 i6 hE wKP i11
    have hq38_ := r_77_8 hG
    exfalso; omega
  | succ m ih =>
    intro a1 a2 a3 a4 a5 a6 a7 a8 M hG hS i0 i1 i2 i3 i4 i5 i6 hE wKP i11
    show qT (b_X12_histories_87 n (f_X12_histories_87 n m) a1 a2 a3 a4 a5 a6 a7 a8 M) _
    unfold b_X12_histories_87
    have hq38_ := r_77_8 hG
    refine T_le rfl rfl (fun hq39_ => ?_) (fun hq39_ => ?_)
    · refine T_le l_2 rfl (fun hq40_ => ?_) (fun hq40_ => ?_)
      · exact (t_X12_histories_184 hn) n a1 a2 a3 a5 (0 : Int32) (1 : Int32) M hG hS (i_rng (lo := 1) (hi := 4) rfl (by omega) (by omega)) (i_rng (lo := 0) (hi := 10) rfl (by omega) (by omega)) (i_rng (lo := 0) (hi := 9) rfl (by omega) (by omega)) (i_rng (lo := 1) (hi := 256) rfl (by omega) (by omega)) (i_rng (lo := 0) (hi := 3) l_0 (by omega) (by omega)) (i_rng (lo := 1) (hi := 4) l_1 (by omega) (by omega)) (by have e4 : ((0 : Int32)).toInt = _ := l_0; have e5 : ((1 : Int32)).toInt = _ := l_1; omega) wKP (by have e4 : ((0 : Int32)).toInt = _ := l_0; have e5 : ((1 : Int32)).toInt = _ := l_1; omega)
      · refine T_eq rfl l_0 (fun hq41_ => ?_) (fun hq41_ => ?_)
        · exact T_ret ⟨(by have e9 : (a6).toInt = _ := rfl; omega), hG, hS⟩
        · exact T_ret ⟨(by have e9 : (a7).toInt = _ := rfl; omega), hG, hS⟩
    · refine T_qc (t_X12_goesWith hn a8 a2 a3 M hG (i_rng (lo := 0) (hi := 255) rfl (by omega) (by omega)) (i_rng (lo := 0) (hi := 10) rfl (by omega) (by omega)) (i_rng (lo := 0) (hi := 9) rfl (by omega) (by omega)) wKP) ?_
      rintro rv42 mv43 ⟨hq44_, gq45_, kq46_⟩
      have kq47_ := Sm.call hS kq46_ rfl
      have hq48_ := (fun h_ => KP_c (kq46_ 77 61 (by decide)) (funext (fun s_ => kq46_ 84 s_ (outc rfl))) h_) wKP
      have hq49_ : (mv43 77 8).toInt = (M 77 8).toInt := by rw [kq46_ 77 8 (by decide)]
      refine T_qg rfl (by omega) (by omega) ?_
      have hq51_ := i_bool rv42
      refine T_mu gq45_ kq47_ (i_rng (lo := 0) (hi := 1) rfl (by omega) (by omega)) (nw_119 _) (i := 3) rfl ⟨by decide, by decide, Or.inl rfl⟩ ?_
      intro mv50 hq52_ gq53_ kq54_
      have hq55_ := (fun h_ => KP_c (M := mv43) (M' := mv50) (by rw [hq52_, mu_ne (Or.inl (by decide))]) (by rw [hq52_, mu_nc (by decide)]) h_) hq48_
      have hq56_ : (mv50 77 8).toInt = (mv43 77 8).toInt := by rw [hq52_, mu_ne (Or.inl (by decide))]
      have hq57_ : (mv50 119 a8.toNatClampNeg).toInt = (vp_nar .boolean rv42).toInt := by rw [hq52_, mu_at]
      refine T_qg rfl (by omega) (by omega) ?_
      have hq58_ := r_119 gq53_ a8.toNatClampNeg
      refine T_eq rfl l_0 (fun hq59_ => ?_) (fun hq59_ => ?_)
      · unfold f_X12_histories_129
        unfold f_X12_histories_131
        refine T_qg rfl (by omega) (by omega) ?_
        refine T_eq rfl l_0 (fun hq60_ => ?_) (fun hq60_ => ?_)
        · unfold f_X12_histories_150
          have hq61_ := i_full (a6)
          refine T_ql (i_add rfl l_0 (by omega) (by omega)) ?_
          intro xv62 hq63_
          refine T_ql (i_add rfl l_1 (by omega) (by omega)) ?_
          intro xv64 hq65_
          have hq66_ := r_77_8 gq53_
          exact ih a1 a2 a3 a4 a5 xv62 a7 xv64 mv50 gq53_ kq54_ (i_rng (lo := 1) (hi := 4) rfl (by omega) (by omega)) (i_rng (lo := 0) (hi := 10) rfl (by omega) (by omega)) (i_rng (lo := 0) (hi := 9) rfl (by omega) (by omega)) (i_rng (lo := 0) (hi := 2) rfl (by omega) (by omega)) (i_rng (lo := 1) (hi := 256) rfl (by omega) (by omega)) (i_rng (lo := (-2)) (hi := 255) rfl (by omega) (by omega)) (i_rng (lo := 0) (hi := 256) rfl (by omega) (by omega)) (by omega) hq55_ (by omega)
        · exfalso; omega
      · refine T_eq rfl l_0 (fun hq67_ => ?_) (fun hq67_ => ?_)
        · unfold f_X12_histories_131
          refine T_qg rfl (by omega) (by omega) ?_
          refine T_eq rfl l_0 (fun hq68_ => ?_) (fun hq68_ => ?_)
          · exfalso; omega
          · unfold f_X12_histories_150
            refine T_ql (i_add rfl l_1 (by omega) (by omega)) ?_
            intro xv69 hq70_
            refine T_ql (i_add rfl l_1 (by omega) (by omega)) ?_
            intro xv71 hq72_
            have hq73_ := r_77_8 gq53_
            exact ih a1 a2 a3 a4 a5 xv69 a8 xv71 mv50 gq53_ kq54_ (i_rng (lo := 1) (hi := 4) rfl (by omega) (by omega)) (i_rng (lo := 0) (hi := 10) rfl (by omega) (by omega)) (i_rng (lo := 0) (hi := 9) rfl (by omega) (by omega)) (i_rng (lo := 0) (hi := 2) rfl (by omega) (by omega)) (i_rng (lo := 1) (hi := 256) rfl (by omega) (by omega)) (i_rng (lo := (-2)) (hi := 255) rfl (by omega) (by omega)) (i_rng (lo := 0) (hi := 256) rfl (by omega) (by omega)) (by omega) hq55_ (by omega)
        · unfold f_X12_histories_129
          unfold f_X12_histories_131
          refine T_qg rfl (by omega) (by omega) ?_
          refine T_eq rfl l_0 (fun hq74_ => ?_) (fun hq74_ => ?_)
          · exfalso; omega
          · unfold f_X12_histories_150
            have hq75_ := i_full (a6)
            refine T_ql rfl ?_
            intro xv76 hq77_
            refine T_ql (i_add rfl l_1 (by omega) (by omega)) ?_
            intro xv78 hq79_
            have hq80_ := r_77_8 gq53_
            exact ih a1 a2 a3 a4 a5 xv76 a7 xv78 mv50 gq53_ kq54_ (i_rng (lo := 1) (hi := 4) rfl (by omega) (by omega)) (i_rng (lo := 0) (hi := 10) rfl (by omega) (by omega)) (i_rng (lo := 0) (hi := 9) rfl (by omega) (by omega)) (i_rng (lo := 0) (hi := 2) rfl (by omega) (by omega)) (i_rng (lo := 1) (hi := 256) rfl (by omega) (by omega)) (i_rng (lo := (-2)) (hi := 255) rfl (by omega) (by omega)) (i_rng (lo := 0) (hi := 256) rfl (by omega) (by omega)) (by omega) hq55_ (by omega)
theorem t_X12_histories {n : Nat} (hn : 200000 ≤ n) (a1 a2 a3 a4 : Int32) (M : qM) (hG : G M) : qT (f_X12_histories n a1 a2 a3 a4 M) (po_X12_histories a1 a2 a3 a4 M) := by
  have hS : Sm l_X12_histories M M := Sm.rf
  unfold f_X12_histories
  have hq81_ := r_77_8 hG
  have hq84_ := (show ((1 : Int32)).toInt = _ from l_1)
  have hq85_ := (show ((4 : Int32)).toInt = _ from l_4)
  refine T_qc (t_X12_in hn a1 (1 : Int32) (4 : Int32) M hG (i_rng (lo := 0) (hi := 70) l_1 (by omega) (by omega)) (i_rng (lo := 0) (hi := 99999) l_4 (by omega) (by omega))) ?_
  rintro rv82 mv83 ⟨hq86_, hq87_, gq88_, kq89_⟩
  have hq90_ := kq89_.nil
  subst hq90_
  refine T_eq rfl l_0 (fun hq91_ => ?_) (fun hq91_ => ?_)
  · exact T_ret ⟨(by have e9 : ((-1 : Int32)).toInt = _ := l_m1; omega), hG, hS⟩
  · have hq94_ := (show ((0 : Int32)).toInt = _ from l_0)
    have hq95_ := (show ((10 : Int32)).toInt = _ from l_10)
    refine T_qc (t_X12_in hn a2 (0 : Int32) (10 : Int32) M hG (i_rng (lo := 0) (hi := 70) l_0 (by omega) (by omega)) (i_rng (lo := 0) (hi := 99999) l_10 (by omega) (by omega))) ?_
    rintro rv92 mv93 ⟨hq96_, hq97_, gq98_, kq99_⟩
    have hq100_ := kq99_.nil
    subst hq100_
    refine T_eq rfl l_0 (fun hq101_ => ?_) (fun hq101_ => ?_)
    · exact T_ret ⟨(by have e9 : ((-1 : Int32)).toInt = _ := l_m1; omega), hG, hS⟩
    · have hq104_ := (show ((9 : Int32)).toInt = _ from l_9)
      refine T_qc (t_X12_in hn a3 (0 : Int32) (9 : Int32) M hG (i_rng (lo := 0) (hi := 70) l_0 (by omega) (by omega)) (i_rng (lo := 0) (hi := 99999) l_9 (by omega) (by omega))) ?_
      rintro rv102 mv103 ⟨hq105_, hq106_, gq107_, kq108_⟩
      have hq109_ := kq108_.nil
      subst hq109_
      refine T_eq rfl l_0 (fun hq110_ => ?_) (fun hq110_ => ?_)
      · exact T_ret ⟨(by have e9 : ((-1 : Int32)).toInt = _ := l_m1; omega), hG, hS⟩
      · have hq113_ := (show ((2 : Int32)).toInt = _ from l_2)
        refine T_qc (t_X12_in hn a4 (0 : Int32) (2 : Int32) M hG (i_rng (lo := 0) (hi := 70) l_0 (by omega) (by omega)) (i_rng (lo := 0) (hi := 99999) l_2 (by omega) (by omega))) ?_
        rintro rv111 mv112 ⟨hq114_, hq115_, gq116_, kq117_⟩
        have hq118_ := kq117_.nil
        subst hq118_
        refine T_eq rfl l_0 (fun hq119_ => ?_) (fun hq119_ => ?_)
        · exact T_ret ⟨(by have e9 : ((-1 : Int32)).toInt = _ := l_m1; omega), hG, hS⟩
        · refine T_le (i_add rfl (i_mul l_2 rfl (by omega) (by omega)) (by omega) (by omega)) rfl (fun hq120_ => ?_) (fun hq120_ => ?_)
          · refine T_mu hG hS (i_rng (lo := 0) (hi := 260) l_0 (by omega) (by omega)) nw_77_8 (i := 0) rfl ⟨by decide, by decide, Or.inr ⟨by decide, by decide⟩⟩ ?_
            intro mv121 hq122_ gq123_ kq124_
            have hq125_ : (mv121 77 8).toInt = 0 := by rw [hq122_, mu_at]; exact l_0
            refine T_qc (t_X12_takesPast hn a1 a2 mv121 gq123_ (i_rng (lo := 1) (hi := 4) rfl (by omega) (by omega)) (i_rng (lo := 0) (hi := 10) rfl (by omega) (by omega))) ?_
            rintro rv126 mv127 ⟨hq128_, hq129_, gq130_, kq131_⟩
            have kq132_ := Sm.call kq124_ kq131_ rfl
            have hq133_ : (mv127 77 8).toInt = (mv121 77 8).toInt := by rw [kq131_ 77 8 (by decide)]
            refine T_eq rfl l_0 (fun hq134_ => ?_) (fun hq134_ => ?_)
            · exact T_ret ⟨(by have e9 : ((-3 : Int32)).toInt = _ := l_m3; omega), gq130_, kq132_⟩
            · have hq135_ := i_shl1 (c := 8) (k := (2 : Int32) * a1) (by decide) (i_mul l_2 rfl (by omega) (by omega)) (by omega) (by omega)
              refine T_ql rfl ?_
              intro xv136 hq137_
              have hq138_ := r_77_8 gq130_
              exact (t_X12_histories_87 hn) n a1 a2 a3 a4 xv136 (0 : Int32) (-2 : Int32) (0 : Int32) mv127 gq130_ kq132_ (i_rng (lo := 1) (hi := 4) rfl (by omega) (by omega)) (i_rng (lo := 0) (hi := 10) rfl (by omega) (by omega)) (i_rng (lo := 0) (hi := 9) rfl (by omega) (by omega)) (i_rng (lo := 0) (hi := 2) rfl (by omega) (by omega)) (i_rng (lo := 1) (hi := 256) rfl (by omega) (by omega)) (i_rng (lo := (-2)) (hi := 255) l_m2 (by omega) (by omega)) (i_rng (lo := 0) (hi := 256) l_0 (by omega) (by omega)) (by have e5 : ((0 : Int32)).toInt = _ := l_0; have e6 : ((-2 : Int32)).toInt = _ := l_m2; have e7 : ((0 : Int32)).toInt = _ := l_0; omega) (hq129_.resolve_left (by omega)) (by have e5 : ((0 : Int32)).toInt = _ := l_0; have e6 : ((-2 : Int32)).toInt = _ := l_m2; have e7 : ((0 : Int32)).toInt = _ := l_0; omega)
          · exact T_ret ⟨(by have e9 : ((-1 : Int32)).toInt = _ := l_m1; omega), hG, hS⟩
abbrev l_X11_isHeap : List Bx := []
abbrev po_X11_isHeap (a0 : Int32) (M : qM) (v : Int32) (M' : qM) : Prop := (0 ≤ v.toInt ∧ v.toInt ≤ 1) ∧ G M' ∧ Sm l_X11_isHeap M M'
theorem t_X11_isHeap {n : Nat} (hn : 200000 ≤ n) (a0 : Int32) (M : qM) (hG : G M) : qT (f_X11_isHeap n a0 M) (po_X11_isHeap a0 M) := by
  have hS : Sm l_X11_isHeap M M := Sm.rf
  unfold f_X11_isHeap
  refine T_lt rfl l_0 (fun hq1_ => ?_) (fun hq1_ => ?_)
  · exact T_ret ⟨(i_rng (lo := 0) (hi := 1) l_0 (by omega) (by omega)), hG, hS⟩
  · refine T_lt l_7 rfl (fun hq2_ => ?_) (fun hq2_ => ?_)
    · exact T_ret ⟨(i_rng (lo := 0) (hi := 1) l_0 (by omega) (by omega)), hG, hS⟩
    · exact T_ret ⟨(i_rng (lo := 0) (hi := 1) l_1 (by omega) (by omega)), hG, hS⟩
abbrev l_X11_nextOneWins : List Bx := []
abbrev po_X11_nextOneWins (a0 a1 : Int32) (M : qM) (v : Int32) (M' : qM) : Prop := (0 ≤ v.toInt ∧ v.toInt ≤ 1) ∧ G M' ∧ Sm l_X11_nextOneWins M M'
theorem t_X11_nextOneWins {n : Nat} (hn : 200000 ≤ n) (a0 a1 : Int32) (M : qM) (hG : G M) (pa1 : 0 ≤ a1.toInt ∧ a1.toInt ≤ 1) : qT (f_X11_nextOneWins n a0 a1 M) (po_X11_nextOneWins a0 a1 M) := by
  have hS : Sm l_X11_nextOneWins M M := Sm.rf
  unfold f_X11_nextOneWins
  have hq1_ := i_and (a := (a0 ^^^ (a0 >>> ((3 : Int32) &&& 31))) ^^^ (a0 >>> ((6 : Int32) &&& 31))) (b := (3 : Int32)) l_3 (by omega)
  refine T_eq rfl l_0 (fun hq2_ => ?_) (fun hq2_ => ?_)
  · unfold f_X11_nextOneWins_20
    refine T_eq rfl l_0 (fun hq3_ => ?_) (fun hq3_ => ?_)
    · refine T_eq rfl l_0 (fun hq4_ => ?_) (fun hq4_ => ?_)
      · exact T_ret ⟨(i_rng (lo := 0) (hi := 1) l_0 (by omega) (by omega)), hG, hS⟩
      · refine T_eq l_0 l_0 (fun hq5_ => ?_) (fun hq5_ => ?_)
        · exact T_ret ⟨(i_rng (lo := 0) (hi := 1) l_1 (by omega) (by omega)), hG, hS⟩
        · exfalso; omega
    · refine T_qb l_0 (by omega) (by omega) ?_
      exact T_ret ⟨(i_rng (lo := 0) (hi := 1) l_0 (by omega) (by omega)), hG, hS⟩
  · unfold f_X11_nextOneWins_20
    refine T_eq rfl l_0 (fun hq6_ => ?_) (fun hq6_ => ?_)
    · refine T_eq rfl l_0 (fun hq7_ => ?_) (fun hq7_ => ?_)
      · exact T_ret ⟨(i_rng (lo := 0) (hi := 1) l_0 (by omega) (by omega)), hG, hS⟩
      · refine T_eq l_1 l_0 (fun hq8_ => ?_) (fun hq8_ => ?_)
        · exfalso; omega
        · exact T_ret ⟨(i_rng (lo := 0) (hi := 1) l_0 (by omega) (by omega)), hG, hS⟩
    · refine T_qb l_1 (by omega) (by omega) ?_
      exact T_ret ⟨(i_rng (lo := 0) (hi := 1) l_1 (by omega) (by omega)), hG, hS⟩
abbrev l_X11_bestMove : List Bx := []
abbrev po_X11_bestMove (a0 a1 a2 : Int32) (M : qM) (v : Int32) (M' : qM) : Prop := ((-2) ≤ v.toInt ∧ v.toInt ≤ 23) ∧ G M' ∧ Sm l_X11_bestMove M M'
theorem t_X11_bestMove_20 {n : Nat} (hn : 200000 ≤ n) {oa0 oa1 oa2 : Int32} {M0 : qM} {K2 : Int32 → Int32 → Int32 → Int32 → qM → qR} {BK2 : Nat} (hK2 : ∀ (a0 a1 a2 a3 : Int32) (M : qM), G M → Sm l_X11_bestMove M0 M → 0 ≤ a1.toInt ∧ a1.toInt ≤ 1 → 0 ≤ a2.toInt ∧ a2.toInt ≤ 1 → 0 ≤ a3.toInt ∧ a3.toInt ≤ 3 → 3 - a3.toInt < (BK2 : Int) → qT (K2 a0 a1 a2 a3 M) (po_X11_bestMove oa0 oa1 oa2 M0)) : ∀ (m : Nat) (a0 a1 a2 a3 a4 a5 : Int32) (M : qM), G M → Sm l_X11_bestMove M0 M → 0 ≤ a1.toInt ∧ a1.toInt ≤ 1 → 0 ≤ a2.toInt ∧ a2.toInt ≤ 1 → 0 ≤ a3.toInt ∧ a3.toInt ≤ 2 → 0 ≤ a4.toInt ∧ a4.toInt ≤ 7 → 1 ≤ a5.toInt ∧ a5.toInt ≤ 4 → 3 - a3.toInt < (BK2 : Int) + 1 → 4 - a5.toInt < (m : Int) → qT (f_X11_bestMove_20 n K2 m a0 a1 a2 a3 a4 a5 M) (po_X11_bestMove oa0 oa1 oa2 M0) := by
  intro m
  induction m with
  | zero =>
    intro a0 a1 a2 a3 a4 a5 M hG hS i0 i1 i2 i3 i4 i7 i8
    exfalso; omega
  | succ m ih =>
    intro a0 a1 a2 a3 a4 a5 M hG hS i0 i1 i2 i3 i4 i7 i8
    show qT (b_X11_bestMove_20 n K2 (f_X11_bestMove_20 n K2 m) a0 a1 a2 a3 a4 a5 M) _
    unfold b_X11_bestMove_20
    refine T_lt l_3 rfl (fun hq15_ => ?_) (fun hq15_ => ?_)
    · refine T_ql (i_add rfl l_1 (by omega) (by omega)) ?_
      intro xv16 hq17_
      exact hK2 a0 a1 a2 xv16 M hG hS (i_rng (lo := 0) (hi := 1) rfl (by omega) (by omega)) (i_rng (lo := 0) (hi := 1) rfl (by omega) (by omega)) (i_rng (lo := 0) (hi := 3) rfl (by omega) (by omega)) (by omega)
    · refine T_lt rfl rfl (fun hq18_ => ?_) (fun hq18_ => ?_)
      · refine T_ql (i_add rfl l_1 (by omega) (by omega)) ?_
        intro xv19 hq20_
        exact hK2 a0 a1 a2 xv19 M hG hS (i_rng (lo := 0) (hi := 1) rfl (by omega) (by omega)) (i_rng (lo := 0) (hi := 1) rfl (by omega) (by omega)) (i_rng (lo := 0) (hi := 3) rfl (by omega) (by omega)) (by omega)
      · refine T_eq rfl l_0 (fun hq21_ => ?_) (fun hq21_ => ?_)
        · unfold f_X11_bestMove_49
          refine T_qc (t_X11_nextOneWins hn a0 a2 M hG (i_rng (lo := 0) (hi := 1) rfl (by omega) (by omega))) ?_
          rintro rv22 mv23 ⟨hq24_, gq25_, kq26_⟩
          have hq27_ := kq26_.nil
          subst hq27_
          refine T_eq rfl l_0 (fun hq28_ => ?_) (fun hq28_ => ?_)
          · exact T_ret ⟨(i_rng (lo := (-2)) (hi := 23) (i_add (i_mul l_10 rfl (by omega) (by omega)) rfl (by omega) (by omega)) (by omega) (by omega)), hG, hS⟩
          · refine T_ql (i_add rfl l_1 (by omega) (by omega)) ?_
            intro xv29 hq30_
            exact ih a0 a1 a2 a3 a4 xv29 M hG hS (i_rng (lo := 0) (hi := 1) rfl (by omega) (by omega)) (i_rng (lo := 0) (hi := 1) rfl (by omega) (by omega)) (i_rng (lo := 0) (hi := 2) rfl (by omega) (by omega)) (i_rng (lo := 0) (hi := 7) rfl (by omega) (by omega)) (i_rng (lo := 1) (hi := 4) rfl (by omega) (by omega)) (by omega) (by omega)
        · unfold f_X11_bestMove_49
          have hq33_ := i_full (a0)
          have hq34_ := i_full (a5 <<< (((3 : Int32) * a3) &&& 31))
          refine T_qc (t_X11_nextOneWins hn (a0 - (a5 <<< (((3 : Int32) * a3) &&& 31))) a2 M hG (i_rng (lo := 0) (hi := 1) rfl (by omega) (by omega))) ?_
          rintro rv31 mv32 ⟨hq35_, gq36_, kq37_⟩
          have hq38_ := kq37_.nil
          subst hq38_
          refine T_eq rfl l_0 (fun hq39_ => ?_) (fun hq39_ => ?_)
          · exact T_ret ⟨(i_rng (lo := (-2)) (hi := 23) (i_add (i_mul l_10 rfl (by omega) (by omega)) rfl (by omega) (by omega)) (by omega) (by omega)), hG, hS⟩
          · refine T_ql (i_add rfl l_1 (by omega) (by omega)) ?_
            intro xv40 hq41_
            exact ih a0 a1 a2 a3 a4 xv40 M hG hS (i_rng (lo := 0) (hi := 1) rfl (by omega) (by omega)) (i_rng (lo := 0) (hi := 1) rfl (by omega) (by omega)) (i_rng (lo := 0) (hi := 2) rfl (by omega) (by omega)) (i_rng (lo := 0) (hi := 7) rfl (by omega) (by omega)) (i_rng (lo := 1) (hi := 4) rfl (by omega) (by omega)) (by omega) (by omega)
theorem t_X11_bestMove_2 {n : Nat} (hn : 200000 ≤ n) {oa0 oa1 oa2 : Int32} {M0 : qM} : ∀ (m : Nat) (a0 a1 a2 a3 : Int32) (M : qM), G M → Sm l_X11_bestMove M0 M → 0 ≤ a1.toInt ∧ a1.toInt ≤ 1 → 0 ≤ a2.toInt ∧ a2.toInt ≤ 1 → 0 ≤ a3.toInt ∧ a3.toInt ≤ 3 → 3 - a3.toInt < (m : Int) → qT (f_X11_bestMove_2 n m a0 a1 a2 a3 M) (po_X11_bestMove oa0 oa1 oa2 M0) := by
  intro m
  induction m with
  | zero =>
    intro a0 a1 a2 a3 M hG hS i0 i1 i2 i5
    exfalso; omega
  | succ m ih =>
    intro a0 a1 a2 a3 M hG hS i0 i1 i2 i5
    show qT (b_X11_bestMove_2 n (f_X11_bestMove_2 n m) a0 a1 a2 a3 M) _
    unfold b_X11_bestMove_2
    refine T_le l_3 rfl (fun hq47_ => ?_) (fun hq47_ => ?_)
    · exact T_ret ⟨(i_rng (lo := (-2)) (hi := 23) l_m2 (by omega) (by omega)), hG, hS⟩
    · have hq48_ := i_and (a := a0 >>> (((3 : Int32) * a3) &&& 31)) (b := (7 : Int32)) l_7 (by omega)
      refine T_ql rfl ?_
      intro xv49 hq50_
      exact (t_X11_bestMove_20 hn ih) n a0 a1 a2 a3 xv49 (1 : Int32) M hG hS (i_rng (lo := 0) (hi := 1) rfl (by omega) (by omega)) (i_rng (lo := 0) (hi := 1) rfl (by omega) (by omega)) (i_rng (lo := 0) (hi := 2) rfl (by omega) (by omega)) (i_rng (lo := 0) (hi := 7) rfl (by omega) (by omega)) (i_rng (lo := 1) (hi := 4) l_1 (by omega) (by omega)) (by omega) (by have e5 : ((1 : Int32)).toInt = _ := l_1; omega)
theorem t_X11_bestMove {n : Nat} (hn : 200000 ≤ n) (a0 a1 a2 : Int32) (M : qM) (hG : G M) (pa1 : 0 ≤ a1.toInt ∧ a1.toInt ≤ 1) (pa2 : 0 ≤ a2.toInt ∧ a2.toInt ≤ 1) : qT (f_X11_bestMove n a0 a1 a2 M) (po_X11_bestMove a0 a1 a2 M) := by
  have hS : Sm l_X11_bestMove M M := Sm.rf
  unfold f_X11_bestMove
  exact (t_X11_bestMove_2 hn) n a0 a1 a2 (0 : Int32) M hG hS (i_rng (lo := 0) (hi := 1) rfl (by omega) (by omega)) (i_rng (lo := 0) (hi := 1) rfl (by omega) (by omega)) (i_rng (lo := 0) (hi := 3) l_0 (by omega) (by omega)) (by have e3 : ((0 : Int32)).toInt = _ := l_0; omega)
