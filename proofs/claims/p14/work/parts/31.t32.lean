abbrev l_X12_takesJobs : List Bx := [(77, 78, 59, 60), (111, 112, 0, 0)]
abbrev po_X12_takesJobs (a1 : Int32) (M : qM) (v : Int32) (M' : qM) : Prop := (0 ≤ v.toInt ∧ v.toInt ≤ 1) ∧ (v.toInt = 0 ∨ KM  M') ∧ G M' ∧ Sm l_X12_takesJobs M M'
theorem t_X12_takesJobs_7 {n : Nat} (hn : 200000 ≤ n) {oa1 : Int32} {M0 : qM} : ∀ (m : Nat) (a1 a2 : Int32) (M : qM), G M → Sm l_X12_takesJobs M0 M → 1 ≤ a1.toInt ∧ a1.toInt ≤ 8 → 0 ≤ a2.toInt ∧ a2.toInt ≤ 8 → ((M 77 59).toInt = a1.toInt ∧ ∀ i : Nat, (i : Int) < a2.toInt → 0 ≤ (M 111 i).toInt ∧ (M 111 i).toInt ≤ 11) → 8 - a2.toInt < (m : Int) → qT (f_X12_takesJobs_7 n m a1 a2 M) (po_X12_takesJobs oa1 M0) := by
  intro m
  induction m with
  | zero =>
    intro a1 a2 M hG hS i0 i1 hE i5
    have hq2_ := r_77_59 hG
    exfalso; omega
  | succ m ih =>
    intro a1 a2 M hG hS i0 i1 hE i5
    show qT (b_X12_takesJobs_7 n (f_X12_takesJobs_7 n m) a1 a2 M) _
    unfold b_X12_takesJobs_7
    have hq2_ := r_77_59 hG
    refine T_le rfl rfl (fun hq3_ => ?_) (fun hq3_ => ?_)
    · exact T_ret ⟨(i_rng (lo := 0) (hi := 1) l_1 (by omega) (by omega)), (Or.inr (fun i hi => hE.2 i (by have := hE.1; omega))), hG, hS⟩
    · refine T_qg rfl (by omega) (by omega) ?_
      refine T_qg rfl (by omega) (by omega) ?_
      have hq5_ := r_84 hG a2.toNatClampNeg
      refine T_mu hG hS (i_rng (lo := (-128)) (hi := 127) rfl (by omega) (by omega)) (nw_111 _) (i := 1) rfl ⟨by decide, by decide, Or.inl rfl⟩ ?_
      intro mv4 hq6_ gq7_ kq8_
      have hq9_ : (mv4 77 59).toInt = (M 77 59).toInt := by rw [hq6_, mu_ne (Or.inl (by decide))]
      have hq10_ : (mv4 111 a2.toNatClampNeg).toInt = (M 84 a2.toNatClampNeg).toInt := by rw [hq6_, mu_at]
      refine T_qg rfl (by omega) (by omega) ?_
      have hq13_ := r_111 gq7_ a2.toNatClampNeg
      refine T_qc (t_X12_isKind hn (mv4 111 a2.toNatClampNeg) mv4 gq7_ ) ?_
      rintro rv11 mv12 ⟨hq14_, hq15_, gq16_, kq17_⟩
      have hq18_ := kq17_.nil
      subst hq18_
      refine T_eq rfl l_0 (fun hq19_ => ?_) (fun hq19_ => ?_)
      · exact T_ret ⟨(i_rng (lo := 0) (hi := 1) l_0 (by omega) (by omega)), (Or.inl (by first | exact l_0 | omega)), gq7_, kq8_⟩
      · refine T_ql (i_add rfl l_1 (by omega) (by omega)) ?_
        intro xv20 hq21_
        have hq22_ := r_77_59 gq7_
        exact ih a1 xv20 mv4 gq7_ kq8_ (i_rng (lo := 1) (hi := 8) rfl (by omega) (by omega)) (i_rng (lo := 0) (hi := 8) rfl (by omega) (by omega)) (by first | exact ⟨by omega, fun i hi => absurd hi (by omega)⟩ | exact ⟨by omega, kAll_step (M := M) (a := a2) (fun s_ hs_ => by rw [hq6_, mu_ne (Or.inr hs_)]) hE.2 (by omega) (by omega) (by omega) (by omega)⟩) (by omega)
theorem t_X12_takesJobs {n : Nat} (hn : 200000 ≤ n) (a1 : Int32) (M : qM) (hG : G M) (pa1 : 1 ≤ a1.toInt ∧ a1.toInt ≤ 8) : qT (f_X12_takesJobs n a1 M) (po_X12_takesJobs a1 M) := by
  have hS : Sm l_X12_takesJobs M M := Sm.rf
  unfold f_X12_takesJobs
  refine T_mu hG hS (i_rng (lo := 0) (hi := 8) rfl (by omega) (by omega)) nw_77_59 (i := 0) rfl ⟨by decide, by decide, Or.inr ⟨by decide, by decide⟩⟩ ?_
  intro mv23 hq24_ gq25_ kq26_
  have hq27_ : (mv23 77 59).toInt = a1.toInt := by rw [hq24_, mu_at]
  have hq28_ := r_77_59 gq25_
  exact (t_X12_takesJobs_7 hn) n a1 (0 : Int32) mv23 gq25_ kq26_ (i_rng (lo := 1) (hi := 8) rfl (by omega) (by omega)) (i_rng (lo := 0) (hi := 8) l_0 (by omega) (by omega)) (by have e1 : ((0 : Int32)).toInt = _ := l_0; first | exact ⟨by omega, fun i hi => absurd hi (by omega)⟩ | exact ⟨by omega, kAll_step (M := M) (a := a2) (fun s_ hs_ => by rw [hq24_, mu_ne (Or.inl (by decide))]) hE.2 (by omega) (by omega) (by omega) (by omega)⟩) (by have e1 : ((0 : Int32)).toInt = _ := l_0; omega)
abbrev l_X12_whoDoes : List Bx := []
abbrev po_X12_whoDoes (a1 a2 : Int32) (M : qM) (v : Int32) (M' : qM) : Prop := (0 ≤ v.toInt ∧ v.toInt ≤ 2) ∧ G M' ∧ Sm l_X12_whoDoes M M'
theorem t_X12_whoDoes_10 {n : Nat} (hn : 200000 ≤ n) {oa1 oa2 : Int32} {M0 : qM} : ∀ (m : Nat) (a2 a3 a4 : Int32) (M : qM), G M → Sm l_X12_whoDoes M0 M → 0 ≤ a2.toInt ∧ a2.toInt ≤ 10 → 0 ≤ a3.toInt ∧ a3.toInt ≤ 6560 → (-1) ≤ a4.toInt ∧ a4.toInt ≤ 7 → 1 ≤ (M 77 60).toInt → a4.toInt - (-1) < (m : Int) → qT (f_X12_whoDoes_10 n m a2 a3 a4 M) (po_X12_whoDoes oa1 oa2 M0) := by
  intro m
  induction m with
  | zero =>
    intro a2 a3 a4 M hG hS i0 i1 i2 hE i6
    have hq3_ := r_77_60 hG
    exfalso; omega
  | succ m ih =>
    intro a2 a3 a4 M hG hS i0 i1 i2 hE i6
    show qT (b_X12_whoDoes_10 n (f_X12_whoDoes_10 n m) a2 a3 a4 M) _
    unfold b_X12_whoDoes_10
    have hq3_ := r_77_60 hG
    refine T_le rfl rfl (fun hq4_ => ?_) (fun hq4_ => ?_)
    · refine T_qd rfl (by omega) ?_
      have hq5_ := i_remb (a := a3) (b := M 77 60) rfl rfl (by omega) (by omega)
      exact T_ret ⟨(i_rng (lo := 0) (hi := 2) rfl (by omega) (by omega)), hG, hS⟩
    · refine T_qd rfl (by omega) ?_
      have hq6_ := i_divb (a := a3) (b := M 77 60) rfl rfl (by omega) (by omega)
      refine T_ql rfl ?_
      intro xv7 hq8_
      refine T_ql (i_add rfl l_m1 (by omega) (by omega)) ?_
      intro xv9 hq10_
      exact ih a2 xv7 xv9 M hG hS (i_rng (lo := 0) (hi := 10) rfl (by omega) (by omega)) (i_rng (lo := 0) (hi := 6560) rfl (by omega) (by omega)) (i_rng (lo := (-1)) (hi := 7) rfl (by omega) (by omega)) (by omega) (by omega)
theorem t_X12_whoDoes {n : Nat} (hn : 200000 ≤ n) (a1 a2 : Int32) (M : qM) (hG : G M) (pa1 : 0 ≤ a1.toInt ∧ a1.toInt ≤ 6560) (pa2 : 0 ≤ a2.toInt ∧ a2.toInt ≤ 10) (pe : 1 ≤ (M 77 60).toInt) : qT (f_X12_whoDoes n a1 a2 M) (po_X12_whoDoes a1 a2 M) := by
  have hS : Sm l_X12_whoDoes M M := Sm.rf
  unfold f_X12_whoDoes
  have hq11_ := r_77_60 hG
  have hq12_ := r_77_59 hG
  refine T_ql (i_sub rfl l_1 (by omega) (by omega)) ?_
  intro xv13 hq14_
  exact (t_X12_whoDoes_10 hn) n a2 a1 xv13 M hG hS (i_rng (lo := 0) (hi := 10) rfl (by omega) (by omega)) (i_rng (lo := 0) (hi := 6560) rfl (by omega) (by omega)) (i_rng (lo := (-1)) (hi := 7) rfl (by omega) (by omega)) (by omega) (by omega)
abbrev l_X12_jobNeeds : List Bx := []
abbrev po_X12_jobNeeds (a1 a2 : Int32) (M : qM) (v : Int32) (M' : qM) : Prop := (0 ≤ v.toInt ∧ v.toInt ≤ 1) ∧ G M' ∧ Sm l_X12_jobNeeds M M'
theorem t_X12_jobNeeds_2 {n : Nat} (hn : 200000 ≤ n) {oa1 oa2 : Int32} {M0 : qM} : ∀ (m : Nat) (a1 a2 a3 : Int32) (M : qM), G M → Sm l_X12_jobNeeds M0 M → 0 ≤ a1.toInt ∧ a1.toInt ≤ 7 → 0 ≤ a2.toInt ∧ a2.toInt ≤ 11 → 0 ≤ a3.toInt ∧ a3.toInt ≤ 12 → 12 - a3.toInt < (m : Int) → qT (f_X12_jobNeeds_2 n m a1 a2 a3 M) (po_X12_jobNeeds oa1 oa2 M0) := by
  intro m
  induction m with
  | zero =>
    intro a1 a2 a3 M hG hS i0 i1 i2 i5
    exfalso; omega
  | succ m ih =>
    intro a1 a2 a3 M hG hS i0 i1 i2 i5
    show qT (b_X12_jobNeeds_2 n (f_X12_jobNeeds_2 n m) a1 a2 a3 M) _
    unfold b_X12_jobNeeds_2
    refine T_le l_12 rfl (fun hq3_ => ?_) (fun hq3_ => ?_)
    · exact T_ret ⟨(i_rng (lo := 0) (hi := 1) l_1 (by omega) (by omega)), hG, hS⟩
    · refine T_qg rfl (by omega) (by omega) ?_
      refine T_qc (t_X12_has0 hn (M 83 a2.toNatClampNeg) a3 M hG (i_rng (lo := 0) (hi := 11) rfl (by omega) (by omega))) ?_
      rintro rv4 mv5 ⟨hq6_, hq7_, gq8_, kq9_⟩
      have hq10_ := kq9_.nil
      subst hq10_
      refine T_eq rfl l_0 (fun hq11_ => ?_) (fun hq11_ => ?_)
      · refine T_ql (i_add rfl l_1 (by omega) (by omega)) ?_
        intro xv12 hq13_
        exact ih a1 a2 xv12 M hG hS (i_rng (lo := 0) (hi := 7) rfl (by omega) (by omega)) (i_rng (lo := 0) (hi := 11) rfl (by omega) (by omega)) (i_rng (lo := 0) (hi := 12) rfl (by omega) (by omega)) (by omega)
      · refine T_qc (t_X12_at hn a1 a3 M hG (i_rng (lo := 0) (hi := 7) rfl (by omega) (by omega)) (i_rng (lo := 0) (hi := 11) rfl (by omega) (by omega))) ?_
        rintro rv14 mv15 ⟨hq16_, hq17_, gq18_, kq19_⟩
        have hq20_ := kq19_.nil
        subst hq20_
        refine T_qg (i_add l_192 rfl (by omega) (by omega)) (by omega) (by omega) ?_
        refine T_qg rfl (by omega) (by omega) ?_
        have hq21_ := i_full (M 78 (((192 : Int32) + rv14).toNatClampNeg))
        have hq22_ := i_full (M 115 a3.toNatClampNeg)
        refine T_eq rfl l_0 (fun hq23_ => ?_) (fun hq23_ => ?_)
        · exact T_ret ⟨(i_rng (lo := 0) (hi := 1) l_0 (by omega) (by omega)), hG, hS⟩
        · refine T_ql (i_add rfl l_1 (by omega) (by omega)) ?_
          intro xv24 hq25_
          exact ih a1 a2 xv24 M hG hS (i_rng (lo := 0) (hi := 7) rfl (by omega) (by omega)) (i_rng (lo := 0) (hi := 11) rfl (by omega) (by omega)) (i_rng (lo := 0) (hi := 12) rfl (by omega) (by omega)) (by omega)
theorem t_X12_jobNeeds {n : Nat} (hn : 200000 ≤ n) (a1 a2 : Int32) (M : qM) (hG : G M) (pa1 : 0 ≤ a1.toInt ∧ a1.toInt ≤ 7) (pa2 : 0 ≤ a2.toInt ∧ a2.toInt ≤ 11) : qT (f_X12_jobNeeds n a1 a2 M) (po_X12_jobNeeds a1 a2 M) := by
  have hS : Sm l_X12_jobNeeds M M := Sm.rf
  unfold f_X12_jobNeeds
  exact (t_X12_jobNeeds_2 hn) n a1 a2 (0 : Int32) M hG hS (i_rng (lo := 0) (hi := 7) rfl (by omega) (by omega)) (i_rng (lo := 0) (hi := 11) rfl (by omega) (by omega)) (i_rng (lo := 0) (hi := 12) l_0 (by omega) (by omega)) (by have e2 : ((0 : Int32)).toInt = _ := l_0; omega)
abbrev l_X12_jobCounts : List Bx := [(96, 98, 0, 0), (114, 115, 0, 0)]
abbrev po_X12_jobCounts (a1 a2 : Int32) (M : qM) (v : Int32) (M' : qM) : Prop := (0 ≤ v.toInt ∧ v.toInt ≤ 1) ∧ G M' ∧ Sm l_X12_jobCounts M M'
theorem t_X12_jobCounts_5 {n : Nat} (hn : 200000 ≤ n) {oa1 oa2 : Int32} {M0 : qM} : ∀ (m : Nat) (a1 a2 a3 a4 : Int32) (M : qM), G M → Sm l_X12_jobCounts M0 M → 0 ≤ a1.toInt ∧ a1.toInt ≤ 7 → 0 ≤ a2.toInt ∧ a2.toInt ≤ 11 → 0 ≤ a4.toInt ∧ a4.toInt ≤ 12 → 12 - a4.toInt < (m : Int) → qT (f_X12_jobCounts_5 n m a1 a2 a3 a4 M) (po_X12_jobCounts oa1 oa2 M0) := by
  intro m
  induction m with
  | zero =>
    intro a1 a2 a3 a4 M hG hS i0 i1 i2 i5
    exfalso; omega
  | succ m ih =>
    intro a1 a2 a3 a4 M hG hS i0 i1 i2 i5
    show qT (b_X12_jobCounts_5 n (f_X12_jobCounts_5 n m) a1 a2 a3 a4 M) _
    unfold b_X12_jobCounts_5
    refine T_le l_12 rfl (fun hq4_ => ?_) (fun hq4_ => ?_)
    · refine T_qc (t_X12_feels hn a1 a2 (8 : Int32) M hG (i_rng (lo := 0) (hi := 7) rfl (by omega) (by omega)) (i_rng (lo := 0) (hi := 11) rfl (by omega) (by omega)) (i_rng (lo := 0) (hi := 8) l_8 (by omega) (by omega))) ?_
      rintro rv5 mv6 ⟨hq7_, gq8_, kq9_⟩
      have kq10_ := Sm.call hS kq9_ rfl
      refine T_qg rfl (by omega) (by omega) ?_
      have hq12_ := i_full (mv6 97 9)
      have hq13_ := i_full (mv6 114 a2.toNatClampNeg)
      refine T_mu gq8_ kq10_ (rn_97 _ _) (nw_97 _) (i := 0) rfl ⟨by decide, by decide, Or.inl rfl⟩ ?_
      intro mv11 hq14_ gq15_ kq16_
      have hq17_ : (mv11 97 9).toInt = ((mv6 97 9) + (mv6 114 a2.toNatClampNeg)).toInt := by rw [hq14_, mu_at]
      refine T_qg rfl (by omega) (by omega) ?_
      have hq19_ := i_full (mv11 97 10)
      have hq20_ := i_full (mv11 114 a2.toNatClampNeg)
      refine T_mu gq15_ kq16_ (rn_97 _ _) (nw_97 _) (i := 0) rfl ⟨by decide, by decide, Or.inl rfl⟩ ?_
      intro mv18 hq21_ gq22_ kq23_
      have hq24_ : (mv18 97 9).toInt = (mv11 97 9).toInt := by rw [hq21_, mu_ne (Or.inr (by decide))]
      have hq25_ : (mv18 97 10).toInt = ((mv11 97 10) + (mv11 114 a2.toNatClampNeg)).toInt := by rw [hq21_, mu_at]
      refine T_qg rfl (by omega) (by omega) ?_
      have hq27_ := i_full (mv18 97 11)
      have hq28_ := i_full (mv18 115 a2.toNatClampNeg)
      refine T_mu gq22_ kq23_ (rn_97 _ _) (nw_97 _) (i := 0) rfl ⟨by decide, by decide, Or.inl rfl⟩ ?_
      intro mv26 hq29_ gq30_ kq31_
      have hq32_ : (mv26 97 9).toInt = (mv18 97 9).toInt := by rw [hq29_, mu_ne (Or.inr (by decide))]
      have hq33_ : (mv26 97 10).toInt = (mv18 97 10).toInt := by rw [hq29_, mu_ne (Or.inr (by decide))]
      have hq34_ : (mv26 97 11).toInt = ((mv18 97 11) + (mv18 115 a2.toNatClampNeg)).toInt := by rw [hq29_, mu_at]
      refine T_qg rfl (by omega) (by omega) ?_
      refine T_qg rfl (by omega) (by omega) ?_
      have hq36_ := i_full (mv26 114 a2.toNatClampNeg)
      refine T_mu gq30_ kq31_ (rn_114 _ _) (nw_114 _) (i := 1) rfl ⟨by decide, by decide, Or.inl rfl⟩ ?_
      intro mv35 hq37_ gq38_ kq39_
      have hq40_ : (mv35 97 9).toInt = (mv26 97 9).toInt := by rw [hq37_, mu_ne (Or.inl (by decide))]
      have hq41_ : (mv35 97 10).toInt = (mv26 97 10).toInt := by rw [hq37_, mu_ne (Or.inl (by decide))]
      have hq42_ : (mv35 97 11).toInt = (mv26 97 11).toInt := by rw [hq37_, mu_ne (Or.inl (by decide))]
      have hq43_ : (mv35 114 a2.toNatClampNeg).toInt = ((mv26 114 a2.toNatClampNeg) + (1 : Int32)).toInt := by rw [hq37_, mu_at]
      refine T_qc (t_X12_byLaw hn (118 : Int32) (99 : Int32) (1 : Int32) mv35 gq38_ (i_rng (lo := 99) (hi := 118) l_118 (by omega) (by omega)) (i_rng (lo := 99) (hi := 999) l_99 (by omega) (by omega)) (i_rng (lo := 0) (hi := 1) l_1 (by omega) (by omega))) ?_
      rintro rv44 mv45 ⟨hq46_, gq47_, kq48_⟩
      have kq49_ := Sm.call kq39_ kq48_ rfl
      have hq50_ : (mv45 97 9).toInt = (mv35 97 9).toInt := by rw [kq48_ 97 9 (by decide)]
      have hq51_ : (mv45 97 10).toInt = (mv35 97 10).toInt := by rw [kq48_ 97 10 (by decide)]
      have hq52_ : (mv45 97 11).toInt = (mv35 97 11).toInt := by rw [kq48_ 97 11 (by decide)]
      have hq53_ : (mv45 114 a2.toNatClampNeg).toInt = (mv35 114 a2.toNatClampNeg).toInt := by rw [kq48_ 114 _ (outc rfl)]
      refine T_lt rfl rfl (fun hq54_ => ?_) (fun hq54_ => ?_)
      · exact T_ret ⟨(i_rng (lo := 0) (hi := 1) l_0 (by omega) (by omega)), gq47_, kq49_⟩
      · exact T_ret ⟨(i_rng (lo := 0) (hi := 1) l_1 (by omega) (by omega)), gq47_, kq49_⟩
    · refine T_qg rfl (by omega) (by omega) ?_
      refine T_qc (t_X12_has0 hn (M 113 a2.toNatClampNeg) a4 M hG (i_rng (lo := 0) (hi := 11) rfl (by omega) (by omega))) ?_
      rintro rv55 mv56 ⟨hq57_, hq58_, gq59_, kq60_⟩
      have hq61_ := kq60_.nil
      subst hq61_
      refine T_eq rfl l_0 (fun hq62_ => ?_) (fun hq62_ => ?_)
      · refine T_ql (i_add rfl l_1 (by omega) (by omega)) ?_
        intro xv63 hq64_
        exact ih a1 a2 a3 xv63 M hG hS (i_rng (lo := 0) (hi := 7) rfl (by omega) (by omega)) (i_rng (lo := 0) (hi := 11) rfl (by omega) (by omega)) (i_rng (lo := 0) (hi := 12) rfl (by omega) (by omega)) (by omega)
      · refine T_qc (t_X12_at hn a1 a4 M hG (i_rng (lo := 0) (hi := 7) rfl (by omega) (by omega)) (i_rng (lo := 0) (hi := 11) rfl (by omega) (by omega))) ?_
        rintro rv65 mv66 ⟨hq67_, hq68_, gq69_, kq70_⟩
        have hq71_ := kq70_.nil
        subst hq71_
        refine T_qg (i_add l_0 rfl (by omega) (by omega)) (by omega) (by omega) ?_
        refine T_qg rfl (by omega) (by omega) ?_
        have hq72_ := i_full (a3)
        have hq73_ := i_full (M 78 (((0 : Int32) + rv65).toNatClampNeg))
        have hq74_ := i_full (a3 + (M 78 (((0 : Int32) + rv65).toNatClampNeg)))
        have hq75_ := i_full (M 114 a4.toNatClampNeg)
        refine T_ql rfl ?_
        intro xv76 hq77_
        refine T_ql (i_add rfl l_1 (by omega) (by omega)) ?_
        intro xv78 hq79_
        exact ih a1 a2 xv76 xv78 M hG hS (i_rng (lo := 0) (hi := 7) rfl (by omega) (by omega)) (i_rng (lo := 0) (hi := 11) rfl (by omega) (by omega)) (i_rng (lo := 0) (hi := 12) rfl (by omega) (by omega)) (by omega)
theorem t_X12_jobCounts {n : Nat} (hn : 200000 ≤ n) (a1 a2 : Int32) (M : qM) (hG : G M) (pa1 : 0 ≤ a1.toInt ∧ a1.toInt ≤ 7) (pa2 : 0 ≤ a2.toInt ∧ a2.toInt ≤ 11) : qT (f_X12_jobCounts n a1 a2 M) (po_X12_jobCounts a1 a2 M) := by
  have hS : Sm l_X12_jobCounts M M := Sm.rf
  unfold f_X12_jobCounts
  exact (t_X12_jobCounts_5 hn) n a1 a2 (0 : Int32) (0 : Int32) M hG hS (i_rng (lo := 0) (hi := 7) rfl (by omega) (by omega)) (i_rng (lo := 0) (hi := 11) rfl (by omega) (by omega)) (i_rng (lo := 0) (hi := 12) l_0 (by omega) (by omega)) (by have e2 : ((0 : Int32)).toInt = _ := l_0; have e3 : ((0 : Int32)).toInt = _ := l_0; omega)
abbrev l_X12_hoursBy : List Bx := [(96, 98, 0, 0), (114, 116, 0, 0)]
abbrev po_X12_hoursBy (a1 a2 : Int32) (M : qM) (v : Int32) (M' : qM) : Prop := G M' ∧ Sm l_X12_hoursBy M M'
theorem t_X12_hoursBy_94 {n : Nat} (hn : 200000 ≤ n) {oa1 oa2 : Int32} {M0 : qM} {K45 : Int32 → Int32 → Int32 → Int32 → Int32 → qM → qR} {BK45 : Nat} (hK45 : ∀ (a1 a2 a3 a4 a5 : Int32) (M : qM), G M → Sm l_X12_hoursBy M0 M → 0 ≤ a1.toInt ∧ a1.toInt ≤ 2 → 0 ≤ a2.toInt ∧ a2.toInt ≤ 6560 → 0 ≤ a3.toInt ∧ a3.toInt ≤ 7 → 0 ≤ a5.toInt ∧ a5.toInt ≤ 8 → 1 ≤ (M 77 60).toInt → KM  M → 8 - a5.toInt < (BK45 : Int) → qT (K45 a1 a2 a3 a4 a5 M) (po_X12_hoursBy oa1 oa2 M0)) : ∀ (m : Nat) (a1 a2 a3 a4 a5 a6 a7 : Int32) (M : qM), G M → Sm l_X12_hoursBy M0 M → 0 ≤ a1.toInt ∧ a1.toInt ≤ 2 → 0 ≤ a2.toInt ∧ a2.toInt ≤ 6560 → 0 ≤ a3.toInt ∧ a3.toInt ≤ 7 → 0 ≤ a5.toInt ∧ a5.toInt ≤ 7 → 0 ≤ a6.toInt ∧ a6.toInt ≤ 11 → 1 ≤ a7.toInt ∧ a7.toInt ≤ 21 → 1 ≤ (M 77 60).toInt → KM  M → 8 - a5.toInt < (BK45 : Int) + 1 → 21 - a7.toInt < (m : Int) → qT (f_X12_hoursBy_94 n K45 m a1 a2 a3 a4 a5 a6 a7 M) (po_X12_hoursBy oa1 oa2 M0) := by
  intro m
  induction m with
  | zero =>
    intro a1 a2 a3 a4 a5 a6 a7 M hG hS i0 i1 i2 i3 i4 i5 hE wKM i10 i11
    have hq16_ := r_77_60 hG
    exfalso; omega
  | succ m ih =>
    intro a1 a2 a3 a4 a5 a6 a7 M hG hS i0 i1 i2 i3 i4 i5 hE wKM i10 i11
    show qT (b_X12_hoursBy_94 n K45 (f_X12_hoursBy_94 n K45 m) a1 a2 a3 a4 a5 a6 a7 M) _
    unfold b_X12_hoursBy_94
    have hq16_ := r_77_60 hG
    refine T_lt l_20 rfl (fun hq17_ => ?_) (fun hq17_ => ?_)
    · unfold f_X12_hoursBy_120
      refine T_le rfl l_20 (fun hq18_ => ?_) (fun hq18_ => ?_)
      · exfalso; omega
      · exact T_ret ⟨hG, hS⟩
    · refine T_qc (t_X12_jobCounts hn a3 a6 M hG (i_rng (lo := 0) (hi := 7) rfl (by omega) (by omega)) (i_rng (lo := 0) (hi := 11) rfl (by omega) (by omega))) ?_
      rintro rv19 mv20 ⟨hq21_, gq22_, kq23_⟩
      have kq24_ := Sm.call hS kq23_ rfl
      have hq25_ := (fun h_ => KM_c (kq23_ 77 59 (by decide)) (funext (fun s_ => kq23_ 111 s_ (outc rfl))) h_) wKM
      have hq26_ : (mv20 77 60).toInt = (M 77 60).toInt := by rw [kq23_ 77 60 (by decide)]
      refine T_eq rfl l_0 (fun hq27_ => ?_) (fun hq27_ => ?_)
      · refine T_ql (i_add rfl l_1 (by omega) (by omega)) ?_
        intro xv28 hq29_
        have hq30_ := r_77_60 gq22_
        exact ih a1 a2 a3 a4 a5 a6 xv28 mv20 gq22_ kq24_ (i_rng (lo := 0) (hi := 2) rfl (by omega) (by omega)) (i_rng (lo := 0) (hi := 6560) rfl (by omega) (by omega)) (i_rng (lo := 0) (hi := 7) rfl (by omega) (by omega)) (i_rng (lo := 0) (hi := 7) rfl (by omega) (by omega)) (i_rng (lo := 0) (hi := 11) rfl (by omega) (by omega)) (i_rng (lo := 1) (hi := 21) rfl (by omega) (by omega)) (by omega) hq25_ (by omega) (by omega)
      · unfold f_X12_hoursBy_120
        refine T_le rfl l_20 (fun hq31_ => ?_) (fun hq31_ => ?_)
        · refine T_qg rfl (by omega) (by omega) ?_
          refine T_qg rfl (by omega) (by omega) ?_
          have hq33_ := i_full (mv20 115 a6.toNatClampNeg)
          refine T_mu gq22_ kq24_ (rn_115 _ _) (nw_115 _) (i := 1) rfl ⟨by decide, by decide, Or.inl rfl⟩ ?_
          intro mv32 hq34_ gq35_ kq36_
          have hq37_ := (fun h_ => KM_c (M := mv20) (M' := mv32) (by rw [hq34_, mu_ne (Or.inl (by decide))]) (by rw [hq34_, mu_nc (by decide)]) h_) hq25_
          have hq38_ : (mv32 77 60).toInt = (mv20 77 60).toInt := by rw [hq34_, mu_ne (Or.inl (by decide))]
          have hq39_ : (mv32 115 a6.toNatClampNeg).toInt = ((mv20 115 a6.toNatClampNeg) + (1 : Int32)).toInt := by rw [hq34_, mu_at]
          refine T_qg rfl (by omega) (by omega) ?_
          have hq40_ := i_full (mv32 81 a6.toNatClampNeg)
          have hq41_ := i_full (a4)
          have hq42_ := i_full (a7 * (mv32 81 a6.toNatClampNeg))
          refine T_ql rfl ?_
          intro xv43 hq44_
          refine T_ql (i_add rfl l_1 (by omega) (by omega)) ?_
          intro xv45 hq46_
          have hq47_ := r_77_60 gq35_
          exact hK45 a1 a2 a3 xv43 xv45 mv32 gq35_ kq36_ (i_rng (lo := 0) (hi := 2) rfl (by omega) (by omega)) (i_rng (lo := 0) (hi := 6560) rfl (by omega) (by omega)) (i_rng (lo := 0) (hi := 7) rfl (by omega) (by omega)) (i_rng (lo := 0) (hi := 8) rfl (by omega) (by omega)) (by omega) hq37_ (by omega)
        · exfalso; omega
theorem t_X12_hoursBy_45 {n : Nat} (hn : 200000 ≤ n) {oa1 oa2 : Int32} {M0 : qM} : ∀ (m : Nat) (a1 a2 a3 a4 a5 : Int32) (M : qM), G M → Sm l_X12_hoursBy M0 M → 0 ≤ a1.toInt ∧ a1.toInt ≤ 2 → 0 ≤ a2.toInt ∧ a2.toInt ≤ 6560 → 0 ≤ a3.toInt ∧ a3.toInt ≤ 7 → 0 ≤ a5.toInt ∧ a5.toInt ≤ 8 → 1 ≤ (M 77 60).toInt → KM  M → 8 - a5.toInt < (m : Int) → qT (f_X12_hoursBy_45 n m a1 a2 a3 a4 a5 M) (po_X12_hoursBy oa1 oa2 M0) := by
  intro m
  induction m with
  | zero =>
    intro a1 a2 a3 a4 a5 M hG hS i0 i1 i2 i3 hE wKM i8
    have hq55_ := r_77_60 hG
    exfalso; omega
  | succ m ih =>
    intro a1 a2 a3 a4 a5 M hG hS i0 i1 i2 i3 hE wKM i8
    show qT (b_X12_hoursBy_45 n (f_X12_hoursBy_45 n m) a1 a2 a3 a4 a5 M) _
    unfold b_X12_hoursBy_45
    have hq55_ := r_77_60 hG
    have hq56_ := r_77_59 hG
    refine T_le rfl rfl (fun hq57_ => ?_) (fun hq57_ => ?_)
    · exact T_ret ⟨hG, hS⟩
    · refine T_qc (t_X12_whoDoes hn a2 a5 M hG (i_rng (lo := 0) (hi := 6560) rfl (by omega) (by omega)) (i_rng (lo := 0) (hi := 10) rfl (by omega) (by omega)) (by omega)) ?_
      rintro rv58 mv59 ⟨hq60_, gq61_, kq62_⟩
      have hq63_ := kq62_.nil
      subst hq63_
      refine T_eq rfl rfl (fun hq64_ => ?_) (fun hq64_ => ?_)
      · refine T_qg rfl (by omega) (by omega) ?_
        have hq65_ := wKM a5.toNatClampNeg (by rw [tnc]; omega)
        have hq66_ := r_111 hG a5.toNatClampNeg
        refine T_ql rfl ?_
        intro xv67 hq68_
        refine T_qc (t_X12_jobNeeds hn a3 xv67 M hG (i_rng (lo := 0) (hi := 7) rfl (by omega) (by omega)) (i_rng (lo := 0) (hi := 11) rfl (by omega) (by omega))) ?_
        rintro rv69 mv70 ⟨hq71_, gq72_, kq73_⟩
        have hq74_ := kq73_.nil
        subst hq74_
        refine T_eq rfl l_0 (fun hq75_ => ?_) (fun hq75_ => ?_)
        · exact T_ret ⟨hG, hS⟩
        · exact (t_X12_hoursBy_94 hn ih) n a1 a2 a3 a4 a5 xv67 (1 : Int32) M hG hS (i_rng (lo := 0) (hi := 2) rfl (by omega) (by omega)) (i_rng (lo := 0) (hi := 6560) rfl (by omega) (by omega)) (i_rng (lo := 0) (hi := 7) rfl (by omega) (by omega)) (i_rng (lo := 0) (hi := 7) rfl (by omega) (by omega)) (i_rng (lo := 0) (hi := 11) rfl (by omega) (by omega)) (i_rng (lo := 1) (hi := 21) l_1 (by omega) (by omega)) (by have e6 : ((1 : Int32)).toInt = _ := l_1; omega) wKM (by omega) (by have e6 : ((1 : Int32)).toInt = _ := l_1; omega)
      · refine T_ql (i_add rfl l_1 (by omega) (by omega)) ?_
        intro xv76 hq77_
        exact ih a1 a2 a3 a4 xv76 M hG hS (i_rng (lo := 0) (hi := 2) rfl (by omega) (by omega)) (i_rng (lo := 0) (hi := 6560) rfl (by omega) (by omega)) (i_rng (lo := 0) (hi := 7) rfl (by omega) (by omega)) (i_rng (lo := 0) (hi := 8) rfl (by omega) (by omega)) (by omega) wKM (by omega)
theorem t_X12_hoursBy_13 {n : Nat} (hn : 200000 ≤ n) {oa1 oa2 : Int32} {M0 : qM} : ∀ (m : Nat) (a1 a2 a3 a4 a5 : Int32) (M : qM), G M → Sm l_X12_hoursBy M0 M → 0 ≤ a1.toInt ∧ a1.toInt ≤ 2 → 0 ≤ a2.toInt ∧ a2.toInt ≤ 6560 → 0 ≤ a3.toInt ∧ a3.toInt ≤ 7 → 0 ≤ a4.toInt ∧ a4.toInt ≤ 0 → 0 ≤ a5.toInt ∧ a5.toInt ≤ 12 → 1 ≤ (M 77 60).toInt → KM  M → 12 - a5.toInt < (m : Int) → qT (f_X12_hoursBy_13 n m a1 a2 a3 a4 a5 M) (po_X12_hoursBy oa1 oa2 M0) := by
  intro m
  induction m with
  | zero =>
    intro a1 a2 a3 a4 a5 M hG hS i0 i1 i2 i3 i4 hE wKM i9
    have hq79_ := r_77_60 hG
    exfalso; omega
  | succ m ih =>
    intro a1 a2 a3 a4 a5 M hG hS i0 i1 i2 i3 i4 hE wKM i9
    show qT (b_X12_hoursBy_13 n (f_X12_hoursBy_13 n m) a1 a2 a3 a4 a5 M) _
    unfold b_X12_hoursBy_13
    have hq79_ := r_77_60 hG
    refine T_le l_12 rfl (fun hq80_ => ?_) (fun hq80_ => ?_)
    · exact (t_X12_hoursBy_45 hn) n a1 a2 a3 a4 (0 : Int32) M hG hS (i_rng (lo := 0) (hi := 2) rfl (by omega) (by omega)) (i_rng (lo := 0) (hi := 6560) rfl (by omega) (by omega)) (i_rng (lo := 0) (hi := 7) rfl (by omega) (by omega)) (i_rng (lo := 0) (hi := 8) l_0 (by omega) (by omega)) (by have e4 : ((0 : Int32)).toInt = _ := l_0; omega) wKM (by have e4 : ((0 : Int32)).toInt = _ := l_0; omega)
    · refine T_qg rfl (by omega) (by omega) ?_
      refine T_mu hG hS (rn_114 _ _) (nw_114 _) (i := 1) rfl ⟨by decide, by decide, Or.inl rfl⟩ ?_
      intro mv81 hq82_ gq83_ kq84_
      have hq85_ := (fun h_ => KM_c (M := M) (M' := mv81) (by rw [hq82_, mu_ne (Or.inl (by decide))]) (by rw [hq82_, mu_nc (by decide)]) h_) wKM
      have hq86_ : (mv81 77 60).toInt = (M 77 60).toInt := by rw [hq82_, mu_ne (Or.inl (by decide))]
      have hq87_ : (mv81 114 a5.toNatClampNeg).toInt = 0 := by rw [hq82_, mu_at]; exact l_0
      refine T_qg rfl (by omega) (by omega) ?_
      refine T_mu gq83_ kq84_ (rn_115 _ _) (nw_115 _) (i := 1) rfl ⟨by decide, by decide, Or.inl rfl⟩ ?_
      intro mv88 hq89_ gq90_ kq91_
      have hq92_ := (fun h_ => KM_c (M := mv81) (M' := mv88) (by rw [hq89_, mu_ne (Or.inl (by decide))]) (by rw [hq89_, mu_nc (by decide)]) h_) hq85_
      have hq93_ : (mv88 77 60).toInt = (mv81 77 60).toInt := by rw [hq89_, mu_ne (Or.inl (by decide))]
      have hq94_ : (mv88 114 a5.toNatClampNeg).toInt = (mv81 114 a5.toNatClampNeg).toInt := by rw [hq89_, mu_ne (Or.inl (by decide))]
      have hq95_ : (mv88 115 a5.toNatClampNeg).toInt = 0 := by rw [hq89_, mu_at]; exact l_0
      refine T_ql (i_add rfl l_1 (by omega) (by omega)) ?_
      intro xv96 hq97_
      have hq98_ := r_77_60 gq90_
      exact ih a1 a2 a3 a4 xv96 mv88 gq90_ kq91_ (i_rng (lo := 0) (hi := 2) rfl (by omega) (by omega)) (i_rng (lo := 0) (hi := 6560) rfl (by omega) (by omega)) (i_rng (lo := 0) (hi := 7) rfl (by omega) (by omega)) (i_rng (lo := 0) (hi := 0) rfl (by omega) (by omega)) (i_rng (lo := 0) (hi := 12) rfl (by omega) (by omega)) (by omega) hq92_ (by omega)
theorem t_X12_hoursBy {n : Nat} (hn : 200000 ≤ n) (a1 a2 : Int32) (M : qM) (hG : G M) (pa1 : 0 ≤ a1.toInt ∧ a1.toInt ≤ 2) (pa2 : 0 ≤ a2.toInt ∧ a2.toInt ≤ 6560) (pe : 1 ≤ (M 77 60).toInt) (wKM : KM  M) : qT (f_X12_hoursBy n a1 a2 M) (po_X12_hoursBy a1 a2 M) := by
  have hS : Sm l_X12_hoursBy M M := Sm.rf
  unfold f_X12_hoursBy
  have hq99_ := r_77_60 hG
  refine T_qg rfl (by omega) (by omega) ?_
  have hq100_ := r_112 hG a1.toNatClampNeg
  refine T_ql rfl ?_
  intro xv101 hq102_
  exact (t_X12_hoursBy_13 hn) n a1 a2 xv101 (0 : Int32) (0 : Int32) M hG hS (i_rng (lo := 0) (hi := 2) rfl (by omega) (by omega)) (i_rng (lo := 0) (hi := 6560) rfl (by omega) (by omega)) (i_rng (lo := 0) (hi := 7) rfl (by omega) (by omega)) (i_rng (lo := 0) (hi := 0) l_0 (by omega) (by omega)) (i_rng (lo := 0) (hi := 12) l_0 (by omega) (by omega)) (by have e3 : ((0 : Int32)).toInt = _ := l_0; have e4 : ((0 : Int32)).toInt = _ := l_0; omega) wKM (by have e3 : ((0 : Int32)).toInt = _ := l_0; have e4 : ((0 : Int32)).toInt = _ := l_0; omega)
abbrev l_X12_max : List Bx := []
abbrev po_X12_max (a0 a1 : Int32) (M : qM) (v : Int32) (M' : qM) : Prop := G M' ∧ Sm l_X12_max M M'
theorem t_X12_max {n : Nat} (hn : 200000 ≤ n) (a0 a1 : Int32) (M : qM) (hG : G M) : qT (f_X12_max n a0 a1 M) (po_X12_max a0 a1 M) := by
  have hS : Sm l_X12_max M M := Sm.rf
  unfold f_X12_max
  refine T_le rfl rfl (fun hq1_ => ?_) (fun hq1_ => ?_)
  · exact T_ret ⟨hG, hS⟩
  · exact T_ret ⟨hG, hS⟩
abbrev l_X12_longestBy : List Bx := [(96, 98, 0, 0), (114, 116, 0, 0)]
abbrev po_X12_longestBy (a1 : Int32) (M : qM) (v : Int32) (M' : qM) : Prop := G M' ∧ Sm l_X12_longestBy M M'
theorem t_X12_longestBy_4 {n : Nat} (hn : 200000 ≤ n) {oa1 : Int32} {M0 : qM} : ∀ (m : Nat) (a1 a2 a3 : Int32) (M : qM), G M → Sm l_X12_longestBy M0 M → 0 ≤ a1.toInt ∧ a1.toInt ≤ 6560 → 0 ≤ a3.toInt ∧ a3.toInt ≤ 3 → 1 ≤ (M 77 60).toInt → KM  M → 3 - a3.toInt < (m : Int) → qT (f_X12_longestBy_4 n m a1 a2 a3 M) (po_X12_longestBy oa1 M0) := by
  intro m
  induction m with
  | zero =>
    intro a1 a2 a3 M hG hS i0 i1 hE wKM i6
    have hq2_ := r_77_60 hG
    exfalso; omega
  | succ m ih =>
    intro a1 a2 a3 M hG hS i0 i1 hE wKM i6
    show qT (b_X12_longestBy_4 n (f_X12_longestBy_4 n m) a1 a2 a3 M) _
    unfold b_X12_longestBy_4
    have hq2_ := r_77_60 hG
    refine T_le rfl rfl (fun hq3_ => ?_) (fun hq3_ => ?_)
    · exact T_ret ⟨hG, hS⟩
    · refine T_qc (t_X12_hoursBy hn a3 a1 M hG (i_rng (lo := 0) (hi := 2) rfl (by omega) (by omega)) (i_rng (lo := 0) (hi := 6560) rfl (by omega) (by omega)) (by omega) wKM) ?_
      rintro rv4 mv5 ⟨gq6_, kq7_⟩
      have kq8_ := Sm.call hS kq7_ rfl
      have hq9_ := (fun h_ => KM_c (kq7_ 77 59 (by decide)) (funext (fun s_ => kq7_ 111 s_ (outc rfl))) h_) wKM
      have hq10_ : (mv5 77 60).toInt = (M 77 60).toInt := by rw [kq7_ 77 60 (by decide)]
      refine T_qc (t_X12_max hn a2 rv4 mv5 gq6_ ) ?_
      rintro rv11 mv12 ⟨gq13_, kq14_⟩
      have hq15_ := kq14_.nil
      subst hq15_
      refine T_ql (i_add rfl l_1 (by omega) (by omega)) ?_
      intro xv16 hq17_
      have hq18_ := r_77_60 gq6_
      exact ih a1 rv11 xv16 mv5 gq6_ kq8_ (i_rng (lo := 0) (hi := 6560) rfl (by omega) (by omega)) (i_rng (lo := 0) (hi := 3) rfl (by omega) (by omega)) (by omega) hq9_ (by omega)
theorem t_X12_longestBy {n : Nat} (hn : 200000 ≤ n) (a1 : Int32) (M : qM) (hG : G M) (pa1 : 0 ≤ a1.toInt ∧ a1.toInt ≤ 6560) (pe : 1 ≤ (M 77 60).toInt) (wKM : KM  M) : qT (f_X12_longestBy n a1 M) (po_X12_longestBy a1 M) := by
  have hS : Sm l_X12_longestBy M M := Sm.rf
  unfold f_X12_longestBy
  have hq19_ := r_77_60 hG
  exact (t_X12_longestBy_4 hn) n a1 (0 : Int32) (0 : Int32) M hG hS (i_rng (lo := 0) (hi := 6560) rfl (by omega) (by omega)) (i_rng (lo := 0) (hi := 3) l_0 (by omega) (by omega)) (by have e1 : ((0 : Int32)).toInt = _ := l_0; have e2 : ((0 : Int32)).toInt = _ := l_0; omega) wKM (by have e1 : ((0 : Int32)).toInt = _ := l_0; have e2 : ((0 : Int32)).toInt = _ := l_0; omega)

abbrev l_X12_jobs : List Bx := [(77, 78, 8, 9), (77, 78, 59, 61), (96, 98, 0, 0), (111, 116, 0, 0)]
abbrev po_X12_jobs (a1 a2 a3 : Int32) (M : qM) (v : Int32) (M' : qM) : Prop := (((1 ≤ a1.toInt ∧ a1.toInt ≤ 8 ∧ a1.toInt ≤ (M 77 8).toInt) ∧ (M' 77 8).toInt = 0) ∨ (¬ (1 ≤ a1.toInt ∧ a1.toInt ≤ 8 ∧ a1.toInt ≤ (M 77 8).toInt) ∧ (M' 77 8).toInt = (M 77 8).toInt)) ∧ G M' ∧ Sm l_X12_jobs M M'
theorem t_X12_jobs_165 {n : Nat} (hn : 200000 ≤ n) {oa1 oa2 oa3 : Int32} {M0 : qM} {K147 : Int32 → Int32 → Int32 → qM → qR} {BK147 : Nat} (hK147 : ∀ (a1 a3 a4 : Int32) (M : qM), G M → Sm l_X12_jobs M0 M → 1 ≤ a1.toInt ∧ a1.toInt ≤ 8 → 0 ≤ a3.toInt ∧ a3.toInt ≤ 10 → 0 ≤ a4.toInt ∧ a4.toInt ≤ 12 → (1 ≤ (M 77 60).toInt ∧ (1 ≤ oa1.toInt ∧ oa1.toInt ≤ 8 ∧ oa1.toInt ≤ (M0 77 8).toInt) ∧ (M 77 8).toInt = 0) → KM  M → 12 - a4.toInt < (BK147 : Int) → qT (K147 a1 a3 a4 M) (po_X12_jobs oa1 oa2 oa3 M0)) : ∀ (m : Nat) (a1 a3 a4 a5 : Int32) (M : qM), G M → Sm l_X12_jobs M0 M → 1 ≤ a1.toInt ∧ a1.toInt ≤ 8 → 0 ≤ a3.toInt ∧ a3.toInt ≤ 10 → 0 ≤ a4.toInt ∧ a4.toInt ≤ 11 → 0 ≤ a5.toInt ∧ a5.toInt ≤ 12 → (1 ≤ (M 77 60).toInt ∧ (1 ≤ oa1.toInt ∧ oa1.toInt ≤ 8 ∧ oa1.toInt ≤ (M0 77 8).toInt) ∧ (M 77 8).toInt = 0) → KM  M → 12 - a4.toInt < (BK147 : Int) + 1 → 12 - a5.toInt < (m : Int) → qT (f_X12_jobs_165 n K147 m a1 a3 a4 a5 M) (po_X12_jobs oa1 oa2 oa3 M0) := by
  intro m
  induction m with
  | zero =>
    intro a1 a3 a4 a5 M hG hS i0 i1 i2 i3 hE wKM i8 i9
    have hq16_ := r_77_60 hG
    have hq17_ := r_77_8 hG
    exfalso; omega
  | succ m ih =>
    intro a1 a3 a4 a5 M hG hS i0 i1 i2 i3 hE wKM i8 i9
    show qT (b_X12_jobs_165 n K147 (f_X12_jobs_165 n K147 m) a1 a3 a4 a5 M) _
    unfold b_X12_jobs_165
    have hq16_ := r_77_60 hG
    have hq17_ := r_77_8 hG
    refine T_le l_12 rfl (fun hq18_ => ?_) (fun hq18_ => ?_)
    · refine T_ql (i_add rfl l_1 (by omega) (by omega)) ?_
      intro xv19 hq20_
      exact hK147 a1 a3 xv19 M hG hS (i_rng (lo := 1) (hi := 8) rfl (by omega) (by omega)) (i_rng (lo := 0) (hi := 10) rfl (by omega) (by omega)) (i_rng (lo := 0) (hi := 12) rfl (by omega) (by omega)) (by omega) wKM (by omega)
    · refine T_qc (t_X12_isKind hn a4 M hG ) ?_
      rintro rv21 mv22 ⟨hq23_, hq24_, gq25_, kq26_⟩
      have hq27_ := kq26_.nil
      subst hq27_
      refine T_eq rfl l_0 (fun hq28_ => ?_) (fun hq28_ => ?_)
      · refine T_ql (i_add rfl l_1 (by omega) (by omega)) ?_
        intro xv29 hq30_
        exact ih a1 a3 a4 xv29 M hG hS (i_rng (lo := 1) (hi := 8) rfl (by omega) (by omega)) (i_rng (lo := 0) (hi := 10) rfl (by omega) (by omega)) (i_rng (lo := 0) (hi := 11) rfl (by omega) (by omega)) (i_rng (lo := 0) (hi := 12) rfl (by omega) (by omega)) (by omega) wKM (by omega) (by omega)
      · refine T_qc (t_X12_isKind hn a5 M hG ) ?_
        rintro rv31 mv32 ⟨hq33_, hq34_, gq35_, kq36_⟩
        have hq37_ := kq36_.nil
        subst hq37_
        refine T_eq rfl l_0 (fun hq38_ => ?_) (fun hq38_ => ?_)
        · refine T_ql (i_add rfl l_1 (by omega) (by omega)) ?_
          intro xv39 hq40_
          exact ih a1 a3 a4 xv39 M hG hS (i_rng (lo := 1) (hi := 8) rfl (by omega) (by omega)) (i_rng (lo := 0) (hi := 10) rfl (by omega) (by omega)) (i_rng (lo := 0) (hi := 11) rfl (by omega) (by omega)) (i_rng (lo := 0) (hi := 12) rfl (by omega) (by omega)) (by omega) wKM (by omega) (by omega)
        · refine T_qc (t_X12_isLike hn a4 a5 M hG (i_rng (lo := 0) (hi := 12) rfl (by omega) (by omega)) (i_rng (lo := 0) (hi := 11) rfl (by omega) (by omega))) ?_
          rintro rv41 mv42 ⟨hq43_, gq44_, kq45_⟩
          have kq46_ := Sm.call hS kq45_ rfl
          have hq47_ := (fun h_ => KM_c (kq45_ 77 59 (by decide)) (funext (fun s_ => kq45_ 111 s_ (outc rfl))) h_) wKM
          have hq48_ : (mv42 77 60).toInt = (M 77 60).toInt := by rw [kq45_ 77 60 (by decide)]
          have hq49_ : (mv42 77 8).toInt = (M 77 8).toInt := by rw [kq45_ 77 8 (by decide)]
          refine T_eq rfl l_0 (fun hq50_ => ?_) (fun hq50_ => ?_)
          · refine T_ql (i_add rfl l_1 (by omega) (by omega)) ?_
            intro xv51 hq52_
            have hq53_ := r_77_60 gq44_
            have hq54_ := r_77_8 gq44_
            exact ih a1 a3 a4 xv51 mv42 gq44_ kq46_ (i_rng (lo := 1) (hi := 8) rfl (by omega) (by omega)) (i_rng (lo := 0) (hi := 10) rfl (by omega) (by omega)) (i_rng (lo := 0) (hi := 11) rfl (by omega) (by omega)) (i_rng (lo := 0) (hi := 12) rfl (by omega) (by omega)) (by omega) hq47_ (by omega) (by omega)
          · refine T_qg rfl (by omega) (by omega) ?_
            refine T_qg rfl (by omega) (by omega) ?_
            have hq56_ := i_shl1 (c := 11) (k := a5) (by decide) rfl (by omega) (by omega)
            refine T_mu gq44_ kq46_ (rn_113 _ _) (nw_113 _) (i := 3) rfl ⟨by decide, by decide, Or.inl rfl⟩ ?_
            intro mv55 hq57_ gq58_ kq59_
            have hq60_ := (fun h_ => KM_c (M := mv42) (M' := mv55) (by rw [hq57_, mu_ne (Or.inl (by decide))]) (by rw [hq57_, mu_nc (by decide)]) h_) hq47_
            have hq61_ : (mv55 77 60).toInt = (mv42 77 60).toInt := by rw [hq57_, mu_ne (Or.inl (by decide))]
            have hq62_ : (mv55 77 8).toInt = (mv42 77 8).toInt := by rw [hq57_, mu_ne (Or.inl (by decide))]
            have hq63_ : (mv55 113 a4.toNatClampNeg).toInt = ((mv42 113 a4.toNatClampNeg) ||| ((1 : Int32) <<< (a5 &&& 31))).toInt := by rw [hq57_, mu_at]
            refine T_ql (i_add rfl l_1 (by omega) (by omega)) ?_
            intro xv64 hq65_
            have hq66_ := r_77_60 gq58_
            have hq67_ := r_77_8 gq58_
            exact ih a1 a3 a4 xv64 mv55 gq58_ kq59_ (i_rng (lo := 1) (hi := 8) rfl (by omega) (by omega)) (i_rng (lo := 0) (hi := 10) rfl (by omega) (by omega)) (i_rng (lo := 0) (hi := 11) rfl (by omega) (by omega)) (i_rng (lo := 0) (hi := 12) rfl (by omega) (by omega)) (by omega) hq60_ (by omega) (by omega)
theorem t_X12_jobs_270 {n : Nat} (hn : 200000 ≤ n) {oa1 oa2 oa3 : Int32} {M0 : qM} : ∀ (m : Nat) (a3 a4 a5 a6 a7 : Int32) (M : qM), G M → Sm l_X12_jobs M0 M → 0 ≤ a3.toInt ∧ a3.toInt ≤ 10 → 1 ≤ a4.toInt ∧ a4.toInt ≤ 6561 → (-1) ≤ a5.toInt ∧ a5.toInt ≤ 6560 → 0 ≤ a7.toInt ∧ a7.toInt ≤ 6561 → (1 ≤ (M 77 60).toInt ∧ (1 ≤ oa1.toInt ∧ oa1.toInt ≤ 8 ∧ oa1.toInt ≤ (M0 77 8).toInt) ∧ (M 77 8).toInt = 0) → KM  M → 6561 - a7.toInt < (m : Int) → qT (f_X12_jobs_270 n m a3 a4 a5 a6 a7 M) (po_X12_jobs oa1 oa2 oa3 M0) := by
  intro m
  induction m with
  | zero =>
    intro a3 a4 a5 a6 a7 M hG hS i0 i1 i2 i3 hE wKM i8
    have hq70_ := r_77_60 hG
    have hq71_ := r_77_8 hG
    exfalso; omega
  | succ m ih =>
    intro a3 a4 a5 a6 a7 M hG hS i0 i1 i2 i3 hE wKM i8
    show qT (b_X12_jobs_270 n (f_X12_jobs_270 n m) a3 a4 a5 a6 a7 M) _
    unfold b_X12_jobs_270
    have hq70_ := r_77_60 hG
    have hq71_ := r_77_8 hG
    refine T_le rfl rfl (fun hq72_ => ?_) (fun hq72_ => ?_)
    · refine T_eq rfl l_m1 (fun hq73_ => ?_) (fun hq73_ => ?_)
      · exact T_ret ⟨(by have e9 : ((-3 : Int32)).toInt = _ := l_m3; omega), hG, hS⟩
      · refine T_eq rfl l_10 (fun hq74_ => ?_) (fun hq74_ => ?_)
        · exact T_ret ⟨(by have e9 : (a6).toInt = _ := rfl; omega), hG, hS⟩
        · refine T_qc (t_X12_whoDoes hn a5 a3 M hG (i_rng (lo := 0) (hi := 6560) rfl (by omega) (by omega)) (i_rng (lo := 0) (hi := 10) rfl (by omega) (by omega)) (by omega)) ?_
          rintro rv75 mv76 ⟨hq77_, gq78_, kq79_⟩
          have hq80_ := kq79_.nil
          subst hq80_
          refine T_qg rfl (by omega) (by omega) ?_
          have hq81_ := r_112 hG rv75.toNatClampNeg
          exact T_ret ⟨(by have e9 : (M 112 rv75.toNatClampNeg).toInt = _ := rfl; omega), hG, hS⟩
    · refine T_qc (t_X12_longestBy hn a7 M hG (i_rng (lo := 0) (hi := 6560) rfl (by omega) (by omega)) (by omega) wKM) ?_
      rintro rv82 mv83 ⟨gq84_, kq85_⟩
      have kq86_ := Sm.call hS kq85_ rfl
      have hq87_ := (fun h_ => KM_c (kq85_ 77 59 (by decide)) (funext (fun s_ => kq85_ 111 s_ (outc rfl))) h_) wKM
      have hq88_ : (mv83 77 60).toInt = (M 77 60).toInt := by rw [kq85_ 77 60 (by decide)]
      have hq89_ : (mv83 77 8).toInt = (M 77 8).toInt := by rw [kq85_ 77 8 (by decide)]
      refine T_lt rfl rfl (fun hq90_ => ?_) (fun hq90_ => ?_)
      · refine T_ql (i_add rfl l_1 (by omega) (by omega)) ?_
        intro xv91 hq92_
        have hq93_ := r_77_60 gq84_
        have hq94_ := r_77_8 gq84_
        exact ih a3 a4 a7 rv82 xv91 mv83 gq84_ kq86_ (i_rng (lo := 0) (hi := 10) rfl (by omega) (by omega)) (i_rng (lo := 1) (hi := 6561) rfl (by omega) (by omega)) (i_rng (lo := (-1)) (hi := 6560) rfl (by omega) (by omega)) (i_rng (lo := 0) (hi := 6561) rfl (by omega) (by omega)) (by omega) hq87_ (by omega)
      · refine T_ql (i_add rfl l_1 (by omega) (by omega)) ?_
        intro xv95 hq96_
        have hq97_ := r_77_60 gq84_
        have hq98_ := r_77_8 gq84_
        exact ih a3 a4 a5 a6 xv95 mv83 gq84_ kq86_ (i_rng (lo := 0) (hi := 10) rfl (by omega) (by omega)) (i_rng (lo := 1) (hi := 6561) rfl (by omega) (by omega)) (i_rng (lo := (-1)) (hi := 6560) rfl (by omega) (by omega)) (i_rng (lo := 0) (hi := 6561) rfl (by omega) (by omega)) (by omega) hq87_ (by omega)
theorem t_X12_jobs_238 {n : Nat} (hn : 200000 ≤ n) {oa1 oa2 oa3 : Int32} {M0 : qM} : ∀ (m : Nat) (a1 a3 a4 a5 : Int32) (M : qM), G M → Sm l_X12_jobs M0 M → 1 ≤ a1.toInt ∧ a1.toInt ≤ 8 → 0 ≤ a3.toInt ∧ a3.toInt ≤ 10 → 1 ≤ a4.toInt ∧ a4.toInt ≤ 6561 → 0 ≤ a5.toInt ∧ a5.toInt ≤ 8 → ((1 ≤ (M 77 60).toInt ∧ ((a5.toInt = 0 ∧ a4.toInt ≤ 1) ∨ (a5.toInt = 1 ∧ a4.toInt ≤ 3) ∨ (a5.toInt = 2 ∧ a4.toInt ≤ 9) ∨ (a5.toInt = 3 ∧ a4.toInt ≤ 27) ∨ (a5.toInt = 4 ∧ a4.toInt ≤ 81) ∨ (a5.toInt = 5 ∧ a4.toInt ≤ 243) ∨ (a5.toInt = 6 ∧ a4.toInt ≤ 729) ∨ (a5.toInt = 7 ∧ a4.toInt ≤ 2187) ∨ (a5.toInt = 8 ∧ a4.toInt ≤ 6561))) ∧ (1 ≤ oa1.toInt ∧ oa1.toInt ≤ 8 ∧ oa1.toInt ≤ (M0 77 8).toInt) ∧ (M 77 8).toInt = 0) → KM  M → 8 - a5.toInt < (m : Int) → qT (f_X12_jobs_238 n m a1 a3 a4 a5 M) (po_X12_jobs oa1 oa2 oa3 M0) := by
  intro m
  induction m with
  | zero =>
    intro a1 a3 a4 a5 M hG hS i0 i1 i2 i3 hE wKM i8
    have hq101_ := r_77_60 hG
    have hq102_ := r_77_8 hG
    exfalso; omega
  | succ m ih =>
    intro a1 a3 a4 a5 M hG hS i0 i1 i2 i3 hE wKM i8
    show qT (b_X12_jobs_238 n (f_X12_jobs_238 n m) a1 a3 a4 a5 M) _
    unfold b_X12_jobs_238
    have hq101_ := r_77_60 hG
    have hq102_ := r_77_8 hG
    refine T_le rfl rfl (fun hq103_ => ?_) (fun hq103_ => ?_)
    · exact (t_X12_jobs_270 hn) n a3 a4 (-1 : Int32) (1000000000 : Int32) (0 : Int32) M hG hS (i_rng (lo := 0) (hi := 10) rfl (by omega) (by omega)) (i_rng (lo := 1) (hi := 6561) rfl (by omega) (by omega)) (i_rng (lo := (-1)) (hi := 6560) l_m1 (by omega) (by omega)) (i_rng (lo := 0) (hi := 6561) l_0 (by omega) (by omega)) (by have e2 : ((-1 : Int32)).toInt = _ := l_m1; have e3 : ((1000000000 : Int32)).toInt = _ := l_1000000000; have e4 : ((0 : Int32)).toInt = _ := l_0; omega) wKM (by have e2 : ((-1 : Int32)).toInt = _ := l_m1; have e3 : ((1000000000 : Int32)).toInt = _ := l_1000000000; have e4 : ((0 : Int32)).toInt = _ := l_0; omega)
    · have hq104_ := i_mulk 3 (a := a4) (b := M 77 60) rfl rfl (by omega) (by omega) (by omega) (by omega)
      refine T_ql rfl ?_
      intro xv105 hq106_
      refine T_ql (i_add rfl l_1 (by omega) (by omega)) ?_
      intro xv107 hq108_
      exact ih a1 a3 xv105 xv107 M hG hS (i_rng (lo := 1) (hi := 8) rfl (by omega) (by omega)) (i_rng (lo := 0) (hi := 10) rfl (by omega) (by omega)) (i_rng (lo := 1) (hi := 6561) rfl (by omega) (by omega)) (i_rng (lo := 0) (hi := 8) rfl (by omega) (by omega)) (by omega) wKM (by omega)
theorem t_X12_jobs_147 {n : Nat} (hn : 200000 ≤ n) {oa1 oa2 oa3 : Int32} {M0 : qM} : ∀ (m : Nat) (a1 a3 a4 : Int32) (M : qM), G M → Sm l_X12_jobs M0 M → 1 ≤ a1.toInt ∧ a1.toInt ≤ 8 → 0 ≤ a3.toInt ∧ a3.toInt ≤ 10 → 0 ≤ a4.toInt ∧ a4.toInt ≤ 12 → (1 ≤ (M 77 60).toInt ∧ (1 ≤ oa1.toInt ∧ oa1.toInt ≤ 8 ∧ oa1.toInt ≤ (M0 77 8).toInt) ∧ (M 77 8).toInt = 0) → KM  M → 12 - a4.toInt < (m : Int) → qT (f_X12_jobs_147 n m a1 a3 a4 M) (po_X12_jobs oa1 oa2 oa3 M0) := by
  intro m
  induction m with
  | zero =>
    intro a1 a3 a4 M hG hS i0 i1 i2 hE wKM i7
    have hq114_ := r_77_60 hG
    have hq115_ := r_77_8 hG
    exfalso; omega
  | succ m ih =>
    intro a1 a3 a4 M hG hS i0 i1 i2 hE wKM i7
    show qT (b_X12_jobs_147 n (f_X12_jobs_147 n m) a1 a3 a4 M) _
    unfold b_X12_jobs_147
    have hq114_ := r_77_60 hG
    have hq115_ := r_77_8 hG
    refine T_le l_12 rfl (fun hq116_ => ?_) (fun hq116_ => ?_)
    · exact (t_X12_jobs_238 hn) n a1 a3 (1 : Int32) (0 : Int32) M hG hS (i_rng (lo := 1) (hi := 8) rfl (by omega) (by omega)) (i_rng (lo := 0) (hi := 10) rfl (by omega) (by omega)) (i_rng (lo := 1) (hi := 6561) l_1 (by omega) (by omega)) (i_rng (lo := 0) (hi := 8) l_0 (by omega) (by omega)) (by have e2 : ((1 : Int32)).toInt = _ := l_1; have e3 : ((0 : Int32)).toInt = _ := l_0; omega) wKM (by have e2 : ((1 : Int32)).toInt = _ := l_1; have e3 : ((0 : Int32)).toInt = _ := l_0; omega)
    · refine T_qg rfl (by omega) (by omega) ?_
      refine T_mu hG hS (rn_113 _ _) (nw_113 _) (i := 3) rfl ⟨by decide, by decide, Or.inl rfl⟩ ?_
      intro mv117 hq118_ gq119_ kq120_
      have hq121_ := (fun h_ => KM_c (M := M) (M' := mv117) (by rw [hq118_, mu_ne (Or.inl (by decide))]) (by rw [hq118_, mu_nc (by decide)]) h_) wKM
      have hq122_ : (mv117 77 60).toInt = (M 77 60).toInt := by rw [hq118_, mu_ne (Or.inl (by decide))]
      have hq123_ : (mv117 77 8).toInt = (M 77 8).toInt := by rw [hq118_, mu_ne (Or.inl (by decide))]
      have hq124_ : (mv117 113 a4.toNatClampNeg).toInt = 0 := by rw [hq118_, mu_at]; exact l_0
      have hq125_ := r_77_60 gq119_
      have hq126_ := r_77_8 gq119_
      exact (t_X12_jobs_165 hn ih) n a1 a3 a4 (0 : Int32) mv117 gq119_ kq120_ (i_rng (lo := 1) (hi := 8) rfl (by omega) (by omega)) (i_rng (lo := 0) (hi := 10) rfl (by omega) (by omega)) (i_rng (lo := 0) (hi := 11) rfl (by omega) (by omega)) (i_rng (lo := 0) (hi := 12) l_0 (by omega) (by omega)) (by have e3 : ((0 : Int32)).toInt = _ := l_0; omega) hq121_ (by omega) (by have e3 : ((0 : Int32)).toInt = _ := l_0; omega)
theorem t_X12_jobs_98 {n : Nat} (hn : 200000 ≤ n) {oa1 oa2 oa3 : Int32} {M0 : qM} : ∀ (m : Nat) (a1 a2 a3 a4 : Int32) (M : qM), G M → Sm l_X12_jobs M0 M → 1 ≤ a1.toInt ∧ a1.toInt ≤ 8 → 1 ≤ a2.toInt ∧ a2.toInt ≤ 255 → 0 ≤ a3.toInt ∧ a3.toInt ≤ 10 → 0 ≤ a4.toInt ∧ a4.toInt ≤ 8 → (((M 77 60).toInt = bS a2 a4.toInt.toNat ∧ bS a2 12 ≤ 3 ∧ 1 ≤ bS a2 8) ∧ (1 ≤ oa1.toInt ∧ oa1.toInt ≤ 8 ∧ oa1.toInt ≤ (M0 77 8).toInt) ∧ (M 77 8).toInt = 0) → KM  M → 8 - a4.toInt < (m : Int) → qT (f_X12_jobs_98 n m a1 a2 a3 a4 M) (po_X12_jobs oa1 oa2 oa3 M0) := by
  intro m
  induction m with
  | zero =>
    intro a1 a2 a3 a4 M hG hS i0 i1 i2 i3 hE wKM i8
    have hq129_ := r_77_60 hG
    have hq130_ := r_77_8 hG
    have hb1 : a4.toInt < 12 → bS a2 (a4.toInt.toNat + 1) ≤ bS a2 12 := fun h_ => bS_m _ (by omega)
    have hb2 := bS_s (x := a2) (a := a4) (by omega)
    have hb3 : a4.toInt = 8 → bS a2 8 = bS a2 a4.toInt.toNat := fun h_ => by rw [show a4.toInt.toNat = 8 by omega]
    exfalso; omega
  | succ m ih =>
    intro a1 a2 a3 a4 M hG hS i0 i1 i2 i3 hE wKM i8
    show qT (b_X12_jobs_98 n (f_X12_jobs_98 n m) a1 a2 a3 a4 M) _
    unfold b_X12_jobs_98
    have hq129_ := r_77_60 hG
    have hq130_ := r_77_8 hG
    have hb1 : a4.toInt < 12 → bS a2 (a4.toInt.toNat + 1) ≤ bS a2 12 := fun h_ => bS_m _ (by omega)
    have hb2 := bS_s (x := a2) (a := a4) (by omega)
    have hb3 : a4.toInt = 8 → bS a2 8 = bS a2 a4.toInt.toNat := fun h_ => by rw [show a4.toInt.toNat = 8 by omega]
    refine T_le l_8 rfl (fun hq131_ => ?_) (fun hq131_ => ?_)
    · exact (t_X12_jobs_147 hn) n a1 a3 (0 : Int32) M hG hS (i_rng (lo := 1) (hi := 8) rfl (by omega) (by omega)) (i_rng (lo := 0) (hi := 10) rfl (by omega) (by omega)) (i_rng (lo := 0) (hi := 12) l_0 (by omega) (by omega)) (by have e2 : ((0 : Int32)).toInt = _ := l_0; omega) wKM (by have e2 : ((0 : Int32)).toInt = _ := l_0; omega)
    · refine T_qc (t_X12_has0 hn a2 a4 M hG (i_rng (lo := 0) (hi := 11) rfl (by omega) (by omega))) ?_
      rintro rv132 mv133 ⟨hq134_, hq135_, gq136_, kq137_⟩
      have hq138_ := kq137_.nil
      subst hq138_
      refine T_eq rfl l_0 (fun hq139_ => ?_) (fun hq139_ => ?_)
      · refine T_ql (i_add rfl l_1 (by omega) (by omega)) ?_
        intro xv140 hq141_
        exact ih a1 a2 a3 xv140 M hG hS (i_rng (lo := 1) (hi := 8) rfl (by omega) (by omega)) (i_rng (lo := 1) (hi := 255) rfl (by omega) (by omega)) (i_rng (lo := 0) (hi := 10) rfl (by omega) (by omega)) (i_rng (lo := 0) (hi := 8) rfl (by omega) (by omega)) (by first | (have h8_ := bS_ge (x := a2) (by omega) (by omega); refine ⟨⟨?_, by omega, by omega⟩, by omega, by omega⟩; rw [show ((0 : Int32).toInt.toNat) = 0 from rfl]; show _ = (0 : Int); omega) | (rw [show (xv140).toInt.toNat = a4.toInt.toNat + 1 by omega]; omega)) wKM (by omega)
      · refine T_qg rfl (by omega) (by omega) ?_
        refine T_mu hG hS (i_rng (lo := 0) (hi := 7) rfl (by omega) (by omega)) (nw_112 _) (i := 3) rfl ⟨by decide, by decide, Or.inl rfl⟩ ?_
        intro mv142 hq143_ gq144_ kq145_
        have hq146_ := (fun h_ => KM_c (M := M) (M' := mv142) (by rw [hq143_, mu_ne (Or.inl (by decide))]) (by rw [hq143_, mu_nc (by decide)]) h_) wKM
        have hq147_ : (mv142 77 60).toInt = (M 77 60).toInt := by rw [hq143_, mu_ne (Or.inl (by decide))]
        have hq148_ : (mv142 77 8).toInt = (M 77 8).toInt := by rw [hq143_, mu_ne (Or.inl (by decide))]
        have hq149_ : (mv142 112 ((M 77 60).toNatClampNeg)).toInt = a4.toInt := by rw [hq143_, mu_at]
        have hq151_ := r_77_60 gq144_
        refine T_mu gq144_ kq145_ (i_rng (lo := 0) (hi := 3) (i_add rfl l_1 (by omega) (by omega)) (by omega) (by omega)) nw_77_60 (i := 1) rfl ⟨by decide, by decide, Or.inr ⟨by decide, by decide⟩⟩ ?_
        intro mv150 hq152_ gq153_ kq154_
        have hq155_ := (fun h_ => KM_c (M := mv142) (M' := mv150) (by rw [hq152_, mu_ne (Or.inr (by decide))]) (by rw [hq152_, mu_nc (by decide)]) h_) hq146_
        have hq156_ : (mv150 77 8).toInt = (mv142 77 8).toInt := by rw [hq152_, mu_ne (Or.inr (by decide))]
        have hq157_ : (mv150 112 ((M 77 60).toNatClampNeg)).toInt = (mv142 112 ((M 77 60).toNatClampNeg)).toInt := by rw [hq152_, mu_ne (Or.inl (by decide))]
        have hq158_ : (mv150 77 60).toInt = ((mv142 77 60).toInt + 1) := by rw [hq152_, mu_at]; exact (i_add rfl l_1 (by omega) (by omega))
        refine T_ql (i_add rfl l_1 (by omega) (by omega)) ?_
        intro xv159 hq160_
        have hq161_ := r_77_60 gq153_
        have hq162_ := r_77_8 gq153_
        exact ih a1 a2 a3 xv159 mv150 gq153_ kq154_ (i_rng (lo := 1) (hi := 8) rfl (by omega) (by omega)) (i_rng (lo := 1) (hi := 255) rfl (by omega) (by omega)) (i_rng (lo := 0) (hi := 10) rfl (by omega) (by omega)) (i_rng (lo := 0) (hi := 8) rfl (by omega) (by omega)) (by first | (have h8_ := bS_ge (x := a2) (by omega) (by omega); refine ⟨⟨?_, by omega, by omega⟩, by omega, by omega⟩; rw [show ((0 : Int32).toInt.toNat) = 0 from rfl]; show _ = (0 : Int); omega) | (rw [show (xv159).toInt.toNat = a4.toInt.toNat + 1 by omega]; omega)) hq155_ (by omega)
theorem t_X12_jobs {n : Nat} (hn : 200000 ≤ n) (a1 a2 a3 : Int32) (M : qM) (hG : G M) : qT (f_X12_jobs n a1 a2 a3 M) (po_X12_jobs a1 a2 a3 M) := by
  have hS : Sm l_X12_jobs M M := Sm.rf
  unfold f_X12_jobs
  have hq163_ := r_77_8 hG
  have hq166_ := (show ((1 : Int32)).toInt = _ from l_1)
  have hq167_ := (show ((8 : Int32)).toInt = _ from l_8)
  refine T_qc (t_X12_in hn a1 (1 : Int32) (8 : Int32) M hG (i_rng (lo := 0) (hi := 70) l_1 (by omega) (by omega)) (i_rng (lo := 0) (hi := 99999) l_8 (by omega) (by omega))) ?_
  rintro rv164 mv165 ⟨hq168_, hq169_, gq170_, kq171_⟩
  have hq172_ := kq171_.nil
  subst hq172_
  refine T_eq rfl l_0 (fun hq173_ => ?_) (fun hq173_ => ?_)
  · exact T_ret ⟨(by have e9 : ((-1 : Int32)).toInt = _ := l_m1; omega), hG, hS⟩
  · refine T_le rfl rfl (fun hq174_ => ?_) (fun hq174_ => ?_)
    · refine T_mu hG hS (i_rng (lo := 0) (hi := 260) l_0 (by omega) (by omega)) nw_77_8 (i := 0) rfl ⟨by decide, by decide, Or.inr ⟨by decide, by decide⟩⟩ ?_
      intro mv175 hq176_ gq177_ kq178_
      have hq179_ : (mv175 77 8).toInt = 0 := by rw [hq176_, mu_at]; exact l_0
      refine T_qc (t_X12_takesJobs hn a1 mv175 gq177_ (i_rng (lo := 1) (hi := 8) rfl (by omega) (by omega))) ?_
      rintro rv180 mv181 ⟨hq182_, hq183_, gq184_, kq185_⟩
      have kq186_ := Sm.call kq178_ kq185_ rfl
      have hq187_ : (mv181 77 8).toInt = (mv175 77 8).toInt := by rw [kq185_ 77 8 (by decide)]
      refine T_eq rfl l_0 (fun hq188_ => ?_) (fun hq188_ => ?_)
      · exact T_ret ⟨(by have e9 : ((-2 : Int32)).toInt = _ := l_m2; omega), gq184_, kq186_⟩
      · have hq191_ := (show ((255 : Int32)).toInt = _ from l_255)
        refine T_qc (t_X12_in hn a2 (1 : Int32) (255 : Int32) mv181 gq184_ (i_rng (lo := 0) (hi := 70) l_1 (by omega) (by omega)) (i_rng (lo := 0) (hi := 99999) l_255 (by omega) (by omega))) ?_
        rintro rv189 mv190 ⟨hq192_, hq193_, gq194_, kq195_⟩
        have hq196_ := kq195_.nil
        subst hq196_
        refine T_eq rfl l_0 (fun hq197_ => ?_) (fun hq197_ => ?_)
        · exact T_ret ⟨(by have e9 : ((-4 : Int32)).toInt = _ := l_m4; omega), gq184_, kq186_⟩
        · have hq198_ := i_andl (a := a2) (b := (mv181 78 312) ^^^ (-1 : Int32)) rfl (by omega)
          refine T_eq rfl l_0 (fun hq199_ => ?_) (fun hq199_ => ?_)
          · refine T_qc (t_X12_bits hn a2 mv181 gq184_ ) ?_
            rintro rv200 mv201 ⟨hq202_, hq203_, gq204_, kq205_⟩
            have hq206_ := kq205_.nil
            subst hq206_
            refine T_lt l_3 rfl (fun hq207_ => ?_) (fun hq207_ => ?_)
            · exact T_ret ⟨(by have e9 : ((-4 : Int32)).toInt = _ := l_m4; omega), gq184_, kq186_⟩
            · refine T_eq rfl l_10 (fun hq208_ => ?_) (fun hq208_ => ?_)
              · unfold f_X12_jobs_90
                refine T_mu gq184_ kq186_ (i_rng (lo := 0) (hi := 3) l_0 (by omega) (by omega)) nw_77_60 (i := 1) rfl ⟨by decide, by decide, Or.inr ⟨by decide, by decide⟩⟩ ?_
                intro mv209 hq210_ gq211_ kq212_
                have hq213_ := Or.imp_right (fun h_ => KM_c (M := mv181) (M' := mv209) (by rw [hq210_, mu_ne (Or.inr (by decide))]) (by rw [hq210_, mu_nc (by decide)]) h_) hq183_
                have hq214_ : (mv209 77 8).toInt = (mv181 77 8).toInt := by rw [hq210_, mu_ne (Or.inr (by decide))]
                have hq215_ : (mv209 77 60).toInt = 0 := by rw [hq210_, mu_at]; exact l_0
                have hq216_ := r_77_60 gq211_
                have hq217_ := r_77_8 gq211_
                exact (t_X12_jobs_98 hn) n a1 a2 a3 (0 : Int32) mv209 gq211_ kq212_ (i_rng (lo := 1) (hi := 8) rfl (by omega) (by omega)) (i_rng (lo := 1) (hi := 255) rfl (by omega) (by omega)) (i_rng (lo := 0) (hi := 10) rfl (by omega) (by omega)) (i_rng (lo := 0) (hi := 8) l_0 (by omega) (by omega)) (by have e3 : ((0 : Int32)).toInt = _ := l_0; first | (have h8_ := bS_ge (x := a2) (by omega) (by omega); refine ⟨⟨?_, by omega, by omega⟩, by omega, by omega⟩; rw [show ((0 : Int32).toInt.toNat) = 0 from rfl]; show _ = (0 : Int); omega) | (rw [show ((0 : Int32)).toInt.toNat = a4.toInt.toNat + 1 by omega]; omega)) (hq213_.resolve_left (by omega)) (by have e3 : ((0 : Int32)).toInt = _ := l_0; omega)
              · have hq220_ := (show ((0 : Int32)).toInt = _ from l_0)
                have hq221_ := (show (a1 - (1 : Int32)).toInt = _ from (i_sub rfl l_1 (by omega) (by omega)))
                refine T_qc (t_X12_in hn a3 (0 : Int32) (a1 - (1 : Int32)) mv181 gq184_ (i_rng (lo := 0) (hi := 70) l_0 (by omega) (by omega)) (i_rng (lo := 0) (hi := 99999) (i_sub rfl l_1 (by omega) (by omega)) (by omega) (by omega))) ?_
                rintro rv218 mv219 ⟨hq222_, hq223_, gq224_, kq225_⟩
                have hq226_ := kq225_.nil
                subst hq226_
                refine T_eq rfl l_0 (fun hq227_ => ?_) (fun hq227_ => ?_)
                · exact T_ret ⟨(by have e9 : ((-4 : Int32)).toInt = _ := l_m4; omega), gq184_, kq186_⟩
                · unfold f_X12_jobs_90
                  refine T_mu gq184_ kq186_ (i_rng (lo := 0) (hi := 3) l_0 (by omega) (by omega)) nw_77_60 (i := 1) rfl ⟨by decide, by decide, Or.inr ⟨by decide, by decide⟩⟩ ?_
                  intro mv228 hq229_ gq230_ kq231_
                  have hq232_ := Or.imp_right (fun h_ => KM_c (M := mv181) (M' := mv228) (by rw [hq229_, mu_ne (Or.inr (by decide))]) (by rw [hq229_, mu_nc (by decide)]) h_) hq183_
                  have hq233_ : (mv228 77 8).toInt = (mv181 77 8).toInt := by rw [hq229_, mu_ne (Or.inr (by decide))]
                  have hq234_ : (mv228 77 60).toInt = 0 := by rw [hq229_, mu_at]; exact l_0
                  have hq235_ := r_77_60 gq230_
                  have hq236_ := r_77_8 gq230_
                  exact (t_X12_jobs_98 hn) n a1 a2 a3 (0 : Int32) mv228 gq230_ kq231_ (i_rng (lo := 1) (hi := 8) rfl (by omega) (by omega)) (i_rng (lo := 1) (hi := 255) rfl (by omega) (by omega)) (i_rng (lo := 0) (hi := 10) rfl (by omega) (by omega)) (i_rng (lo := 0) (hi := 8) l_0 (by omega) (by omega)) (by have e3 : ((0 : Int32)).toInt = _ := l_0; first | (have h8_ := bS_ge (x := a2) (by omega) (by omega); refine ⟨⟨?_, by omega, by omega⟩, by omega, by omega⟩; rw [show ((0 : Int32).toInt.toNat) = 0 from rfl]; show _ = (0 : Int); omega) | (rw [show ((0 : Int32)).toInt.toNat = a4.toInt.toNat + 1 by omega]; omega)) (hq232_.resolve_left (by omega)) (by have e3 : ((0 : Int32)).toInt = _ := l_0; omega)
          · exact T_ret ⟨(by have e9 : ((-4 : Int32)).toInt = _ := l_m4; omega), gq184_, kq186_⟩
    · exact T_ret ⟨(by have e9 : ((-1 : Int32)).toInt = _ := l_m1; omega), hG, hS⟩
abbrev l_X11_pence : List Bx := []
abbrev po_X11_pence (a0 a1 a2 a3 : Int32) (M : qM) (v : Int32) (M' : qM) : Prop := ((-999) ≤ v.toInt ∧ v.toInt ≤ 999) ∧ G M' ∧ Sm l_X11_pence M M'
theorem t_X11_pence {n : Nat} (hn : 200000 ≤ n) (a0 a1 a2 a3 : Int32) (M : qM) (hG : G M) (pa0 : 0 ≤ a0.toInt ∧ a0.toInt ≤ 1) (pa1 : 0 ≤ a1.toInt ∧ a1.toInt ≤ 1) (pa2 : 0 ≤ a2.toInt ∧ a2.toInt ≤ 999) (pa3 : 0 ≤ a3.toInt ∧ a3.toInt ≤ 999) : qT (f_X11_pence n a0 a1 a2 a3 M) (po_X11_pence a0 a1 a2 a3 M) := by
  have hS : Sm l_X11_pence M M := Sm.rf
  unfold f_X11_pence
  refine T_eq rfl l_1 (fun hq1_ => ?_) (fun hq1_ => ?_)
  · refine T_eq rfl l_1 (fun hq2_ => ?_) (fun hq2_ => ?_)
    · exact T_ret ⟨(i_rng (lo := (-999)) (hi := 999) (i_neg (i_div rfl l_2 (by omega) (by omega)) (by omega) (by omega)) (by omega) (by omega)), hG, hS⟩
    · exact T_ret ⟨(i_rng (lo := (-999)) (hi := 999) (i_neg rfl (by omega) (by omega)) (by omega) (by omega)), hG, hS⟩
  · refine T_eq rfl l_1 (fun hq3_ => ?_) (fun hq3_ => ?_)
    · exact T_ret ⟨(i_rng (lo := (-999)) (hi := 999) rfl (by omega) (by omega)), hG, hS⟩
    · exact T_ret ⟨(i_rng (lo := (-999)) (hi := 999) l_m1 (by omega) (by omega)), hG, hS⟩
abbrev l_X11_isSettled : List Bx := []
abbrev po_X11_isSettled (a0 a1 a2 : Int32) (M : qM) (v : Int32) (M' : qM) : Prop := (0 ≤ v.toInt ∧ v.toInt ≤ 1) ∧ G M' ∧ Sm l_X11_isSettled M M'
theorem t_X11_isSettled {n : Nat} (hn : 200000 ≤ n) (a0 a1 a2 : Int32) (M : qM) (hG : G M) (pa0 : 0 ≤ a0.toInt ∧ a0.toInt ≤ 3) (pa1 : 0 ≤ a1.toInt ∧ a1.toInt ≤ 999) (pa2 : 0 ≤ a2.toInt ∧ a2.toInt ≤ 999) : qT (f_X11_isSettled n a0 a1 a2 M) (po_X11_isSettled a0 a1 a2 M) := by
  have hS : Sm l_X11_isSettled M M := Sm.rf
  unfold f_X11_isSettled
  have hq1_ := i_and (a := a0) (b := (1 : Int32)) l_1 (by omega)
  refine T_ql rfl ?_
  intro xv2 hq3_
  have hq4_ := i_shrc 1 (a := a0) (k := (1 : Int32)) (by decide) rfl (by omega) l_1
  refine T_ql rfl ?_
  intro xv5 hq6_
  refine T_qc (t_X11_pence hn xv2 xv5 a1 a2 M hG (i_rng (lo := 0) (hi := 1) rfl (by omega) (by omega)) (i_rng (lo := 0) (hi := 1) rfl (by omega) (by omega)) (i_rng (lo := 0) (hi := 999) rfl (by omega) (by omega)) (i_rng (lo := 0) (hi := 999) rfl (by omega) (by omega))) ?_
  rintro rv7 mv8 ⟨hq9_, gq10_, kq11_⟩
  have hq12_ := kq11_.nil
  subst hq12_
  refine T_qc (t_X11_pence hn ((1 : Int32) - xv2) xv5 a1 a2 M hG (i_rng (lo := 0) (hi := 1) (i_sub l_1 rfl (by omega) (by omega)) (by omega) (by omega)) (i_rng (lo := 0) (hi := 1) rfl (by omega) (by omega)) (i_rng (lo := 0) (hi := 999) rfl (by omega) (by omega)) (i_rng (lo := 0) (hi := 999) rfl (by omega) (by omega))) ?_
  rintro rv13 mv14 ⟨hq15_, gq16_, kq17_⟩
  have hq18_ := kq17_.nil
  subst hq18_
  refine T_lt rfl rfl (fun hq19_ => ?_) (fun hq19_ => ?_)
  · exact T_ret ⟨(i_rng (lo := 0) (hi := 1) l_0 (by omega) (by omega)), hG, hS⟩
  · refine T_qc (t_X11_pence hn xv5 xv2 a1 a2 M hG (i_rng (lo := 0) (hi := 1) rfl (by omega) (by omega)) (i_rng (lo := 0) (hi := 1) rfl (by omega) (by omega)) (i_rng (lo := 0) (hi := 999) rfl (by omega) (by omega)) (i_rng (lo := 0) (hi := 999) rfl (by omega) (by omega))) ?_
    rintro rv20 mv21 ⟨hq22_, gq23_, kq24_⟩
    have hq25_ := kq24_.nil
    subst hq25_
    refine T_qc (t_X11_pence hn ((1 : Int32) - xv5) xv2 a1 a2 M hG (i_rng (lo := 0) (hi := 1) (i_sub l_1 rfl (by omega) (by omega)) (by omega) (by omega)) (i_rng (lo := 0) (hi := 1) rfl (by omega) (by omega)) (i_rng (lo := 0) (hi := 999) rfl (by omega) (by omega)) (i_rng (lo := 0) (hi := 999) rfl (by omega) (by omega))) ?_
    rintro rv26 mv27 ⟨hq28_, gq29_, kq30_⟩
    have hq31_ := kq30_.nil
    subst hq31_
    refine T_lt rfl rfl (fun hq32_ => ?_) (fun hq32_ => ?_)
    · exact T_ret ⟨(i_rng (lo := 0) (hi := 1) l_0 (by omega) (by omega)), hG, hS⟩
    · exact T_ret ⟨(i_rng (lo := 0) (hi := 1) l_1 (by omega) (by omega)), hG, hS⟩

abbrev l_X11_rivals : List Bx := []
abbrev po_X11_rivals (a1 a2 a3 : Int32) (M : qM) (v : Int32) (M' : qM) : Prop := G M' ∧ Sm l_X11_rivals M M'
theorem t_X11_rivals_43 {n : Nat} (hn : 200000 ≤ n) {oa1 oa2 oa3 : Int32} {M0 : qM} : ∀ (m : Nat) (a1 a2 a3 a4 a5 a6 : Int32) (M : qM), G M → Sm l_X11_rivals M0 M → 0 ≤ a1.toInt ∧ a1.toInt ≤ 999 → 0 ≤ a2.toInt ∧ a2.toInt ≤ 999 → 0 ≤ a3.toInt ∧ a3.toInt ≤ 1 → (-2) ≤ a5.toInt ∧ a5.toInt ≤ 3 → (-1) ≤ a6.toInt ∧ a6.toInt ≤ 3 → a6.toInt - (-1) < (m : Int) → qT (f_X11_rivals_43 n m a1 a2 a3 a4 a5 a6 M) (po_X11_rivals oa1 oa2 oa3 M0) := by
  intro m
  induction m with
  | zero =>
    intro a1 a2 a3 a4 a5 a6 M hG hS i0 i1 i2 i3 i4 i7
    exfalso; omega
  | succ m ih =>
    intro a1 a2 a3 a4 a5 a6 M hG hS i0 i1 i2 i3 i4 i7
    show qT (b_X11_rivals_43 n (f_X11_rivals_43 n m) a1 a2 a3 a4 a5 a6 M) _
    unfold b_X11_rivals_43
    refine T_lt rfl l_0 (fun hq4_ => ?_) (fun hq4_ => ?_)
    · refine T_eq rfl l_0 (fun hq5_ => ?_) (fun hq5_ => ?_)
      · exact T_ret ⟨hG, hS⟩
      · exact T_ret ⟨hG, hS⟩
    · refine T_qc (t_X11_isSettled hn a6 a1 a2 M hG (i_rng (lo := 0) (hi := 3) rfl (by omega) (by omega)) (i_rng (lo := 0) (hi := 999) rfl (by omega) (by omega)) (i_rng (lo := 0) (hi := 999) rfl (by omega) (by omega))) ?_
      rintro rv6 mv7 ⟨hq8_, gq9_, kq10_⟩
      have hq11_ := kq10_.nil
      subst hq11_
      refine T_eq rfl l_0 (fun hq12_ => ?_) (fun hq12_ => ?_)
      · refine T_ql (i_add rfl l_m1 (by omega) (by omega)) ?_
        intro xv13 hq14_
        exact ih a1 a2 a3 a4 a5 xv13 M hG hS (i_rng (lo := 0) (hi := 999) rfl (by omega) (by omega)) (i_rng (lo := 0) (hi := 999) rfl (by omega) (by omega)) (i_rng (lo := 0) (hi := 1) rfl (by omega) (by omega)) (i_rng (lo := (-2)) (hi := 3) rfl (by omega) (by omega)) (i_rng (lo := (-1)) (hi := 3) rfl (by omega) (by omega)) (by omega)
      · have hq15_ := i_full (a4)
        refine T_ql rfl ?_
        intro xv16 hq17_
        refine T_ql (i_add rfl l_m1 (by omega) (by omega)) ?_
        intro xv18 hq19_
        exact ih a1 a2 a3 xv16 a6 xv18 M hG hS (i_rng (lo := 0) (hi := 999) rfl (by omega) (by omega)) (i_rng (lo := 0) (hi := 999) rfl (by omega) (by omega)) (i_rng (lo := 0) (hi := 1) rfl (by omega) (by omega)) (i_rng (lo := (-2)) (hi := 3) rfl (by omega) (by omega)) (i_rng (lo := (-1)) (hi := 3) rfl (by omega) (by omega)) (by omega)
theorem t_X11_rivals {n : Nat} (hn : 200000 ≤ n) (a1 a2 a3 : Int32) (M : qM) (hG : G M) : qT (f_X11_rivals n a1 a2 a3 M) (po_X11_rivals a1 a2 a3 M) := by
  have hS : Sm l_X11_rivals M M := Sm.rf
  unfold f_X11_rivals
  refine T_lt rfl l_0 (fun hq20_ => ?_) (fun hq20_ => ?_)
  · exact T_ret ⟨hG, hS⟩
  · refine T_lt l_999 rfl (fun hq21_ => ?_) (fun hq21_ => ?_)
    · exact T_ret ⟨hG, hS⟩
    · refine T_lt rfl l_0 (fun hq22_ => ?_) (fun hq22_ => ?_)
      · exact T_ret ⟨hG, hS⟩
      · refine T_lt l_999 rfl (fun hq23_ => ?_) (fun hq23_ => ?_)
        · exact T_ret ⟨hG, hS⟩
        · refine T_lt rfl l_0 (fun hq24_ => ?_) (fun hq24_ => ?_)
          · exact T_ret ⟨hG, hS⟩
          · refine T_le rfl l_1 (fun hq25_ => ?_) (fun hq25_ => ?_)
            · exact (t_X11_rivals_43 hn) n a1 a2 a3 (0 : Int32) (-2 : Int32) (3 : Int32) M hG hS (i_rng (lo := 0) (hi := 999) rfl (by omega) (by omega)) (i_rng (lo := 0) (hi := 999) rfl (by omega) (by omega)) (i_rng (lo := 0) (hi := 1) rfl (by omega) (by omega)) (i_rng (lo := (-2)) (hi := 3) l_m2 (by omega) (by omega)) (i_rng (lo := (-1)) (hi := 3) l_3 (by omega) (by omega)) (by have e3 : ((0 : Int32)).toInt = _ := l_0; have e4 : ((-2 : Int32)).toInt = _ := l_m2; have e5 : ((3 : Int32)).toInt = _ := l_3; omega)
            · exact T_ret ⟨hG, hS⟩
abbrev l_X12_gainOf : List Bx := []
abbrev po_X12_gainOf (a0 a1 a2 a3 : Int32) (M : qM) (v : Int32) (M' : qM) : Prop := ((-999) ≤ v.toInt ∧ v.toInt ≤ 999) ∧ G M' ∧ Sm l_X12_gainOf M M'
theorem t_X12_gainOf {n : Nat} (hn : 200000 ≤ n) (a0 a1 a2 a3 : Int32) (M : qM) (hG : G M) (pa1 : 0 ≤ a1.toInt ∧ a1.toInt ≤ 1) (pa2 : 0 ≤ a2.toInt ∧ a2.toInt ≤ 999) (pa3 : 0 ≤ a3.toInt ∧ a3.toInt ≤ 999) : qT (f_X12_gainOf n a0 a1 a2 a3 M) (po_X12_gainOf a0 a1 a2 a3 M) := by
  have hS : Sm l_X12_gainOf M M := Sm.rf
  unfold f_X12_gainOf
  refine T_qc (t_X12_has0 hn a0 a1 M hG (i_rng (lo := 0) (hi := 11) rfl (by omega) (by omega))) ?_
  rintro rv1 mv2 ⟨hq3_, hq4_, gq5_, kq6_⟩
  have hq7_ := kq6_.nil
  subst hq7_
  have hq10_ := (show ((1 : Int32) - a1).toInt = _ from (i_sub l_1 rfl (by omega) (by omega)))
  refine T_qc (t_X12_has0 hn a0 ((1 : Int32) - a1) M hG (i_rng (lo := 0) (hi := 11) (i_sub l_1 rfl (by omega) (by omega)) (by omega) (by omega))) ?_
  rintro rv8 mv9 ⟨hq11_, hq12_, gq13_, kq14_⟩
  have hq15_ := kq14_.nil
  subst hq15_
  refine T_eq rfl l_0 (fun hq16_ => ?_) (fun hq16_ => ?_)
  · refine T_eq rfl l_0 (fun hq17_ => ?_) (fun hq17_ => ?_)
    · exact T_ret ⟨(i_rng (lo := (-999)) (hi := 999) l_m1 (by omega) (by omega)), hG, hS⟩
    · exact T_ret ⟨(i_rng (lo := (-999)) (hi := 999) rfl (by omega) (by omega)), hG, hS⟩
  · refine T_eq rfl l_0 (fun hq18_ => ?_) (fun hq18_ => ?_)
    · exact T_ret ⟨(i_rng (lo := (-999)) (hi := 999) (i_neg rfl (by omega) (by omega)) (by omega) (by omega)), hG, hS⟩
    · exact T_ret ⟨(i_rng (lo := (-999)) (hi := 999) (i_neg (i_div rfl l_2 (by omega) (by omega)) (by omega) (by omega)) (by omega) (by omega)), hG, hS⟩
abbrev l_X12_rivals : List Bx := []
abbrev po_X12_rivals (a1 a2 a3 : Int32) (M : qM) (v : Int32) (M' : qM) : Prop := G M' ∧ Sm l_X12_rivals M M'
theorem t_X12_rivals_43 {n : Nat} (hn : 200000 ≤ n) {oa1 oa2 oa3 : Int32} {M0 : qM} : ∀ (m : Nat) (a1 a2 a3 a4 a5 a6 : Int32) (M : qM), G M → Sm l_X12_rivals M0 M → 0 ≤ a1.toInt ∧ a1.toInt ≤ 999 → 0 ≤ a2.toInt ∧ a2.toInt ≤ 999 → 0 ≤ a3.toInt ∧ a3.toInt ≤ 1 → (-2) ≤ a5.toInt ∧ a5.toInt ≤ 3 → 0 ≤ a6.toInt ∧ a6.toInt ≤ 4 → 4 - a6.toInt < (m : Int) → qT (f_X12_rivals_43 n m a1 a2 a3 a4 a5 a6 M) (po_X12_rivals oa1 oa2 oa3 M0) := by
  intro m
  induction m with
  | zero =>
    intro a1 a2 a3 a4 a5 a6 M hG hS i0 i1 i2 i3 i4 i7
    exfalso; omega
  | succ m ih =>
    intro a1 a2 a3 a4 a5 a6 M hG hS i0 i1 i2 i3 i4 i7
    show qT (b_X12_rivals_43 n (f_X12_rivals_43 n m) a1 a2 a3 a4 a5 a6 M) _
    unfold b_X12_rivals_43
    refine T_le l_4 rfl (fun hq7_ => ?_) (fun hq7_ => ?_)
    · refine T_eq rfl l_0 (fun hq8_ => ?_) (fun hq8_ => ?_)
      · exact T_ret ⟨hG, hS⟩
      · exact T_ret ⟨hG, hS⟩
    · refine T_qc (t_X12_gainOf hn (a6 ^^^ (1 : Int32)) (0 : Int32) a1 a2 M hG (i_rng (lo := 0) (hi := 1) l_0 (by omega) (by omega)) (i_rng (lo := 0) (hi := 999) rfl (by omega) (by omega)) (i_rng (lo := 0) (hi := 999) rfl (by omega) (by omega))) ?_
      rintro rv9 mv10 ⟨hq11_, gq12_, kq13_⟩
      have hq14_ := kq13_.nil
      subst hq14_
      refine T_qc (t_X12_gainOf hn a6 (0 : Int32) a1 a2 M hG (i_rng (lo := 0) (hi := 1) l_0 (by omega) (by omega)) (i_rng (lo := 0) (hi := 999) rfl (by omega) (by omega)) (i_rng (lo := 0) (hi := 999) rfl (by omega) (by omega))) ?_
      rintro rv15 mv16 ⟨hq17_, gq18_, kq19_⟩
      have hq20_ := kq19_.nil
      subst hq20_
      refine T_lt rfl rfl (fun hq21_ => ?_) (fun hq21_ => ?_)
      · refine T_ql (i_add rfl l_1 (by omega) (by omega)) ?_
        intro xv22 hq23_
        exact ih a1 a2 a3 a4 a5 xv22 M hG hS (i_rng (lo := 0) (hi := 999) rfl (by omega) (by omega)) (i_rng (lo := 0) (hi := 999) rfl (by omega) (by omega)) (i_rng (lo := 0) (hi := 1) rfl (by omega) (by omega)) (i_rng (lo := (-2)) (hi := 3) rfl (by omega) (by omega)) (i_rng (lo := 0) (hi := 4) rfl (by omega) (by omega)) (by omega)
      · refine T_qc (t_X12_gainOf hn (a6 ^^^ (2 : Int32)) (1 : Int32) a1 a2 M hG (i_rng (lo := 0) (hi := 1) l_1 (by omega) (by omega)) (i_rng (lo := 0) (hi := 999) rfl (by omega) (by omega)) (i_rng (lo := 0) (hi := 999) rfl (by omega) (by omega))) ?_
        rintro rv24 mv25 ⟨hq26_, gq27_, kq28_⟩
        have hq29_ := kq28_.nil
        subst hq29_
        refine T_qc (t_X12_gainOf hn a6 (1 : Int32) a1 a2 M hG (i_rng (lo := 0) (hi := 1) l_1 (by omega) (by omega)) (i_rng (lo := 0) (hi := 999) rfl (by omega) (by omega)) (i_rng (lo := 0) (hi := 999) rfl (by omega) (by omega))) ?_
        rintro rv30 mv31 ⟨hq32_, gq33_, kq34_⟩
        have hq35_ := kq34_.nil
        subst hq35_
        refine T_le rfl rfl (fun hq36_ => ?_) (fun hq36_ => ?_)
        · refine T_eq rfl l_0 (fun hq37_ => ?_) (fun hq37_ => ?_)
          · unfold f_X12_rivals_106
            refine T_ql (i_add rfl l_1 (by omega) (by omega)) ?_
            intro xv38 hq39_
            refine T_ql (i_add rfl l_1 (by omega) (by omega)) ?_
            intro xv40 hq41_
            exact ih a1 a2 a3 xv38 a6 xv40 M hG hS (i_rng (lo := 0) (hi := 999) rfl (by omega) (by omega)) (i_rng (lo := 0) (hi := 999) rfl (by omega) (by omega)) (i_rng (lo := 0) (hi := 1) rfl (by omega) (by omega)) (i_rng (lo := (-2)) (hi := 3) rfl (by omega) (by omega)) (i_rng (lo := 0) (hi := 4) rfl (by omega) (by omega)) (by omega)
          · unfold f_X12_rivals_106
            have hq42_ := i_full (a4)
            refine T_ql rfl ?_
            intro xv43 hq44_
            refine T_ql (i_add rfl l_1 (by omega) (by omega)) ?_
            intro xv45 hq46_
            exact ih a1 a2 a3 xv43 a5 xv45 M hG hS (i_rng (lo := 0) (hi := 999) rfl (by omega) (by omega)) (i_rng (lo := 0) (hi := 999) rfl (by omega) (by omega)) (i_rng (lo := 0) (hi := 1) rfl (by omega) (by omega)) (i_rng (lo := (-2)) (hi := 3) rfl (by omega) (by omega)) (i_rng (lo := 0) (hi := 4) rfl (by omega) (by omega)) (by omega)
        · refine T_ql (i_add rfl l_1 (by omega) (by omega)) ?_
          intro xv47 hq48_
          exact ih a1 a2 a3 a4 a5 xv47 M hG hS (i_rng (lo := 0) (hi := 999) rfl (by omega) (by omega)) (i_rng (lo := 0) (hi := 999) rfl (by omega) (by omega)) (i_rng (lo := 0) (hi := 1) rfl (by omega) (by omega)) (i_rng (lo := (-2)) (hi := 3) rfl (by omega) (by omega)) (i_rng (lo := 0) (hi := 4) rfl (by omega) (by omega)) (by omega)
theorem t_X12_rivals {n : Nat} (hn : 200000 ≤ n) (a1 a2 a3 : Int32) (M : qM) (hG : G M) : qT (f_X12_rivals n a1 a2 a3 M) (po_X12_rivals a1 a2 a3 M) := by
  have hS : Sm l_X12_rivals M M := Sm.rf
  unfold f_X12_rivals
  have hq51_ := (show ((0 : Int32)).toInt = _ from l_0)
  have hq52_ := (show ((999 : Int32)).toInt = _ from l_999)
  refine T_qc (t_X12_in hn a1 (0 : Int32) (999 : Int32) M hG (i_rng (lo := 0) (hi := 70) l_0 (by omega) (by omega)) (i_rng (lo := 0) (hi := 99999) l_999 (by omega) (by omega))) ?_
  rintro rv49 mv50 ⟨hq53_, hq54_, gq55_, kq56_⟩
  have hq57_ := kq56_.nil
  subst hq57_
  refine T_eq rfl l_0 (fun hq58_ => ?_) (fun hq58_ => ?_)
  · exact T_ret ⟨hG, hS⟩
  · refine T_qc (t_X12_in hn a2 (0 : Int32) (999 : Int32) M hG (i_rng (lo := 0) (hi := 70) l_0 (by omega) (by omega)) (i_rng (lo := 0) (hi := 99999) l_999 (by omega) (by omega))) ?_
    rintro rv59 mv60 ⟨hq61_, hq62_, gq63_, kq64_⟩
    have hq65_ := kq64_.nil
    subst hq65_
    refine T_eq rfl l_0 (fun hq66_ => ?_) (fun hq66_ => ?_)
    · exact T_ret ⟨hG, hS⟩
    · have hq69_ := (show ((1 : Int32)).toInt = _ from l_1)
      refine T_qc (t_X12_in hn a3 (0 : Int32) (1 : Int32) M hG (i_rng (lo := 0) (hi := 70) l_0 (by omega) (by omega)) (i_rng (lo := 0) (hi := 99999) l_1 (by omega) (by omega))) ?_
      rintro rv67 mv68 ⟨hq70_, hq71_, gq72_, kq73_⟩
      have hq74_ := kq73_.nil
      subst hq74_
      refine T_eq rfl l_0 (fun hq75_ => ?_) (fun hq75_ => ?_)
      · exact T_ret ⟨hG, hS⟩
      · exact (t_X12_rivals_43 hn) n a1 a2 a3 (0 : Int32) (-2 : Int32) (0 : Int32) M hG hS (i_rng (lo := 0) (hi := 999) rfl (by omega) (by omega)) (i_rng (lo := 0) (hi := 999) rfl (by omega) (by omega)) (i_rng (lo := 0) (hi := 1) rfl (by omega) (by omega)) (i_rng (lo := (-2)) (hi := 3) l_m2 (by omega) (by omega)) (i_rng (lo := 0) (hi := 4) l_0 (by omega) (by omega)) (by have e3 : ((0 : Int32)).toInt = _ := l_0; have e4 : ((-2 : Int32)).toInt = _ := l_m2; have e5 : ((0 : Int32)).toInt = _ := l_0; omega)
abbrev l_X8_read : List Bx := [(70, 71, 8, 10), (71, 72, 0, 0), (73, 75, 0, 0)]
abbrev po_X8_read (a2 a3 : Int32) (M : qM) (v : Int32) (M' : qM) : Prop := (0 ≤ v.toInt ∧ v.toInt ≤ 1) ∧ (v.toInt = 0 ∨ KS  M') ∧ G M' ∧ Sm l_X8_read M M'
theorem t_X8_read_105 {n : Nat} (hn : 200000 ≤ n) {oa2 oa3 : Int32} {M0 : qM} : ∀ (m : Nat) (a5 : Int32) (M : qM), G M → Sm l_X8_read M0 M → 0 ≤ a5.toInt ∧ a5.toInt ≤ 10 → ((∀ i : Nat, (i : Int) < (M 70 8).toInt → 0 ≤ (M 71 i).toInt ∧ (M 71 i).toInt ≤ 11) ∧ ∀ i : Nat, (i : Int) < a5.toInt → 0 ≤ (M 73 i).toInt ∧ (M 73 i).toInt ≤ (M 70 8).toInt - 1) → 10 - a5.toInt < (m : Int) → qT (f_X8_read_105 n m a5 M) (po_X8_read oa2 oa3 M0) := by
  intro m
  induction m with
  | zero =>
    intro a5 M hG hS i0 hE i4
    have hq2_ := r_70_8 hG
    have hq3_ := r_70_9 hG
    exfalso; omega
  | succ m ih =>
    intro a5 M hG hS i0 hE i4
    show qT (b_X8_read_105 n (f_X8_read_105 n m) a5 M) _
    unfold b_X8_read_105
    have hq2_ := r_70_8 hG
    have hq3_ := r_70_9 hG
    refine T_le rfl rfl (fun hq4_ => ?_) (fun hq4_ => ?_)
    · exact T_ret ⟨(i_rng (lo := 0) (hi := 1) l_1 (by omega) (by omega)), (Or.inr ⟨hE.1, fun i hi => hE.2 i (by omega)⟩), hG, hS⟩
    · refine T_qc (t_X9_at hn ((M 70 8) + ((2 : Int32) * a5)) M hG (i_rng (lo := 0) (hi := 47) (i_add rfl (i_mul l_2 rfl (by omega) (by omega)) (by omega) (by omega)) (by omega) (by omega))) ?_
      rintro rv5 mv6 ⟨hq7_, gq8_, kq9_⟩
      have hq10_ := kq9_.nil
      subst hq10_
      refine T_qg rfl (by omega) (by omega) ?_
      refine T_mu hG hS (i_rng (lo := (-1)) (hi := 255) rfl (by omega) (by omega)) (nw_73 _) (i := 2) rfl ⟨by decide, by decide, Or.inl rfl⟩ ?_
      intro mv11 hq12_ gq13_ kq14_
      have hq15_ : (mv11 70 8).toInt = (M 70 8).toInt := by rw [hq12_, mu_ne (Or.inl (by decide))]
      have hq16_ : (mv11 70 9).toInt = (M 70 9).toInt := by rw [hq12_, mu_ne (Or.inl (by decide))]
      have hq17_ : (mv11 73 a5.toNatClampNeg).toInt = rv5.toInt := by rw [hq12_, mu_at]
      have hq20_ := r_70_8 gq13_
      refine T_qc (t_X9_at hn (((mv11 70 8) + ((2 : Int32) * a5)) + (1 : Int32)) mv11 gq13_ (i_rng (lo := 0) (hi := 47) (i_add (i_add rfl (i_mul l_2 rfl (by omega) (by omega)) (by omega) (by omega)) l_1 (by omega) (by omega)) (by omega) (by omega))) ?_
      rintro rv18 mv19 ⟨hq21_, gq22_, kq23_⟩
      have hq24_ := kq23_.nil
      subst hq24_
      refine T_qg rfl (by omega) (by omega) ?_
      refine T_mu gq13_ kq14_ (rn_74 _ _) (nw_74 _) (i := 2) rfl ⟨by decide, by decide, Or.inl rfl⟩ ?_
      intro mv25 hq26_ gq27_ kq28_
      have hq29_ : (mv25 70 8).toInt = (mv11 70 8).toInt := by rw [hq26_, mu_ne (Or.inl (by decide))]
      have hq30_ : (mv25 70 9).toInt = (mv11 70 9).toInt := by rw [hq26_, mu_ne (Or.inl (by decide))]
      have hq31_ : (mv25 73 a5.toNatClampNeg).toInt = (mv11 73 a5.toNatClampNeg).toInt := by rw [hq26_, mu_ne (Or.inl (by decide))]
      have hq32_ : (mv25 74 a5.toNatClampNeg).toInt = rv18.toInt := by rw [hq26_, mu_at]
      refine T_qg rfl (by omega) (by omega) ?_
      have hq33_ := r_73 gq27_ a5.toNatClampNeg
      refine T_lt rfl l_0 (fun hq34_ => ?_) (fun hq34_ => ?_)
      · exact T_ret ⟨(i_rng (lo := 0) (hi := 1) l_0 (by omega) (by omega)), (Or.inl (by first | exact l_0 | omega)), gq27_, kq28_⟩
      · refine T_qg rfl (by omega) (by omega) ?_
        have hq35_ := r_70_8 gq27_
        refine T_le rfl rfl (fun hq36_ => ?_) (fun hq36_ => ?_)
        · exact T_ret ⟨(i_rng (lo := 0) (hi := 1) l_0 (by omega) (by omega)), (Or.inl (by first | exact l_0 | omega)), gq27_, kq28_⟩
        · refine T_qg rfl (by omega) (by omega) ?_
          refine T_lt rfl l_0 (fun hq37_ => ?_) (fun hq37_ => ?_)
          · exact T_ret ⟨(i_rng (lo := 0) (hi := 1) l_0 (by omega) (by omega)), (Or.inl (by first | exact l_0 | omega)), gq27_, kq28_⟩
          · refine T_qg rfl (by omega) (by omega) ?_
            refine T_le rfl l_1 (fun hq38_ => ?_) (fun hq38_ => ?_)
            · refine T_ql (i_add rfl l_1 (by omega) (by omega)) ?_
              intro xv39 hq40_
              have hq41_ := r_70_9 gq27_
              exact ih xv39 mv25 gq27_ kq28_ (i_rng (lo := 0) (hi := 10) rfl (by omega) (by omega)) (by first | exact ⟨fun i hi => hE i (by omega), fun i hi => absurd hi (by omega)⟩ | exact ⟨fun i hi => by have e_ : mv25 71 i = M 71 i := (by rw [hq26_, mu_ne (Or.inl (by decide))]; rw [hq12_, mu_ne (Or.inl (by decide))]); rw [e_]; exact hE.1 i (by omega), kAll_step (M := M) (a := a5) (fun s_ hs_ => by rw [hq26_, mu_ne (Or.inl (by decide))]; rw [hq12_, mu_ne (Or.inr hs_)]) (fun i hi => by have := hE.2 i hi; omega) (by omega) (by omega) (by omega) (by omega)⟩) (by omega)
            · exact T_ret ⟨(i_rng (lo := 0) (hi := 1) l_0 (by omega) (by omega)), (Or.inl (by first | exact l_0 | omega)), gq27_, kq28_⟩
theorem t_X8_read_25 {n : Nat} (hn : 200000 ≤ n) {oa2 oa3 : Int32} {M0 : qM} : ∀ (m : Nat) (a4 a5 : Int32) (M : qM), G M → Sm l_X8_read M0 M → 0 ≤ a5.toInt ∧ a5.toInt ≤ 4 → (∀ i : Nat, (i : Int) < a5.toInt → 0 ≤ (M 71 i).toInt ∧ (M 71 i).toInt ≤ 11) → 4 - a5.toInt < (m : Int) → qT (f_X8_read_25 n m a4 a5 M) (po_X8_read oa2 oa3 M0) := by
  intro m
  induction m with
  | zero =>
    intro a4 a5 M hG hS i0 hE i4
    have hq44_ := r_70_8 hG
    exfalso; omega
  | succ m ih =>
    intro a4 a5 M hG hS i0 hE i4
    show qT (b_X8_read_25 n (f_X8_read_25 n m) a4 a5 M) _
    unfold b_X8_read_25
    have hq44_ := r_70_8 hG
    refine T_le rfl rfl (fun hq45_ => ?_) (fun hq45_ => ?_)
    · have hq46_ := r_70_9 hG
      exact (t_X8_read_105 hn) n (0 : Int32) M hG hS (i_rng (lo := 0) (hi := 10) l_0 (by omega) (by omega)) (by have e0 : ((0 : Int32)).toInt = _ := l_0; first | exact ⟨fun i hi => hE i (by omega), fun i hi => absurd hi (by omega)⟩ | exact ⟨fun i hi => by have e_ : M 71 i = M 71 i := (by rfl); rw [e_]; exact hE.1 i (by omega), kAll_step (M := M) (a := a5) (fun s_ hs_ => by rfl) (fun i hi => by have := hE.2 i hi; omega) (by omega) (by omega) (by omega) (by omega)⟩) (by have e0 : ((0 : Int32)).toInt = _ := l_0; omega)
    · refine T_qc (t_X9_at hn a5 M hG (i_rng (lo := 0) (hi := 47) rfl (by omega) (by omega))) ?_
      rintro rv47 mv48 ⟨hq49_, gq50_, kq51_⟩
      have hq52_ := kq51_.nil
      subst hq52_
      refine T_qg rfl (by omega) (by omega) ?_
      refine T_mu hG hS (i_rng (lo := (-1)) (hi := 255) rfl (by omega) (by omega)) (nw_71 _) (i := 1) rfl ⟨by decide, by decide, Or.inl rfl⟩ ?_
      intro mv53 hq54_ gq55_ kq56_
      have hq57_ : (mv53 70 8).toInt = (M 70 8).toInt := by rw [hq54_, mu_ne (Or.inl (by decide))]
      have hq58_ : (mv53 71 a5.toNatClampNeg).toInt = rv47.toInt := by rw [hq54_, mu_at]
      refine T_qg rfl (by omega) (by omega) ?_
      have hq61_ := r_71 gq55_ a5.toNatClampNeg
      refine T_qc (t_X2_knows hn (mv53 71 a5.toNatClampNeg) mv53 gq55_ ) ?_
      rintro rv59 mv60 ⟨hq62_, hq63_, gq64_, kq65_⟩
      have hq66_ := kq65_.nil
      subst hq66_
      refine T_eq rfl l_0 (fun hq67_ => ?_) (fun hq67_ => ?_)
      · exact T_ret ⟨(i_rng (lo := 0) (hi := 1) l_0 (by omega) (by omega)), (Or.inl (by first | exact l_0 | omega)), gq55_, kq56_⟩
      · refine T_qg rfl (by omega) (by omega) ?_
        have hq68_ := i_and (a := a4 >>> ((mv53 71 a5.toNatClampNeg) &&& 31)) (b := (1 : Int32)) l_1 (by omega)
        refine T_eq rfl l_1 (fun hq69_ => ?_) (fun hq69_ => ?_)
        · exact T_ret ⟨(i_rng (lo := 0) (hi := 1) l_0 (by omega) (by omega)), (Or.inl (by first | exact l_0 | omega)), gq55_, kq56_⟩
        · refine T_qg rfl (by omega) (by omega) ?_
          have hq70_ := i_shl1 (c := 11) (k := mv53 71 a5.toNatClampNeg) (by decide) rfl (by omega) (by omega)
          refine T_ql rfl ?_
          intro xv71 hq72_
          refine T_ql (i_add rfl l_1 (by omega) (by omega)) ?_
          intro xv73 hq74_
          have hq75_ := r_70_8 gq55_
          exact ih xv71 xv73 mv53 gq55_ kq56_ (i_rng (lo := 0) (hi := 4) rfl (by omega) (by omega)) (by first | exact (fun i hi => absurd hi (by omega)) | exact kAll_step (M := M) (a := a5) (fun s_ hs_ => by rw [hq54_, mu_ne (Or.inr hs_)]) hE (by omega) (by omega) (by omega) (by omega)) (by omega)
theorem t_X8_read {n : Nat} (hn : 200000 ≤ n) (a2 a3 : Int32) (M : qM) (hG : G M) (pa2 : 1 ≤ a2.toInt ∧ a2.toInt ≤ 4) (pa3 : 0 ≤ a3.toInt ∧ a3.toInt ≤ 10) : qT (f_X8_read n a2 a3 M) (po_X8_read a2 a3 M) := by
  have hS : Sm l_X8_read M M := Sm.rf
  unfold f_X8_read
  have hq77_ := i_min (a := a2) (b := (4 : Int32)) rfl l_4
  refine T_mu hG hS (i_rng (lo := 0) (hi := 4) rfl (by omega) (by omega)) (nw_70 _) (i := 0) rfl ⟨by decide, by decide, Or.inr ⟨by decide, by decide⟩⟩ ?_
  intro mv76 hq78_ gq79_ kq80_
  have hq81_ : (mv76 70 8).toInt = (qmin a2 (4 : Int32)).toInt := by rw [hq78_, mu_at]
  have hq83_ := i_min (a := a3) (b := (10 : Int32)) rfl l_10
  refine T_mu gq79_ kq80_ (i_rng (lo := 0) (hi := 10) rfl (by omega) (by omega)) (nw_70 _) (i := 0) rfl ⟨by decide, by decide, Or.inr ⟨by decide, by decide⟩⟩ ?_
  intro mv82 hq84_ gq85_ kq86_
  have hq87_ : (mv82 70 8).toInt = (mv76 70 8).toInt := by rw [hq84_, mu_ne (Or.inr (by decide))]
  have hq88_ : (mv82 70 9).toInt = (qmin a3 (10 : Int32)).toInt := by rw [hq84_, mu_at]
  have hq89_ := r_70_8 gq85_
  exact (t_X8_read_25 hn) n (0 : Int32) (0 : Int32) mv82 gq85_ kq86_ (i_rng (lo := 0) (hi := 4) l_0 (by omega) (by omega)) (by have e0 : ((0 : Int32)).toInt = _ := l_0; have e1 : ((0 : Int32)).toInt = _ := l_0; first | exact (fun i hi => absurd hi (by omega)) | exact kAll_step (M := M) (a := a5) (fun s_ hs_ => by rw [hq84_, mu_ne (Or.inl (by decide))]; rw [hq78_, mu_ne (Or.inl (by decide))]) hE (by omega) (by omega) (by omega) (by omega)) (by have e0 : ((0 : Int32)).toInt = _ := l_0; have e1 : ((0 : Int32)).toInt = _ := l_0; omega)
abbrev l_J7_fill_53178_c76_4 : List Bx := [(76, 77, 0, 0)]
abbrev po_J7_fill_53178_c76_4 (a1 : Int32) (M : qM) (v : Int32) (M' : qM) : Prop := (0 ≤ v.toInt ∧ v.toInt ≤ 0) ∧ G M' ∧ Sm l_J7_fill_53178_c76_4 M M'
theorem t_J7_fill_53178_c76_4_5 {n : Nat} (hn : 200000 ≤ n) {oa1 : Int32} {M0 : qM} : ∀ (m : Nat) (a1 a2 a3 : Int32) (M : qM), G M → Sm l_J7_fill_53178_c76_4 M0 M → 0 ≤ a1.toInt ∧ a1.toInt ≤ 0 → 0 ≤ a2.toInt ∧ a2.toInt ≤ 4 → 4 ≤ a3.toInt ∧ a3.toInt ≤ 4 → 4 - a2.toInt < (m : Int) → qT (f_J7_fill_53178_5 n 76 4 m a1 a2 a3 M) (po_J7_fill_53178_c76_4 oa1 M0) := by
  intro m
  induction m with
  | zero =>
    intro a1 a2 a3 M hG hS i0 i1 i2 i5
    exfalso; omega
  | succ m ih =>
    intro a1 a2 a3 M hG hS i0 i1 i2 i5
    show qT (b_J7_fill_53178_5 n 76 4 (f_J7_fill_53178_5 n 76 4 m) a1 a2 a3 M) _
    unfold b_J7_fill_53178_5
    try simp only [Nat.reduceAdd]
    refine T_le rfl rfl (fun hq2_ => ?_) (fun hq2_ => ?_)
    · exact T_ret ⟨(i_rng (lo := 0) (hi := 0) l_0 (by omega) (by omega)), hG, hS⟩
    · refine T_qg rfl (by omega) (by omega) ?_
      refine T_mu hG hS (rn_76 _ _) (nw_76 _) (i := 0) rfl ⟨by decide, by decide, Or.inl rfl⟩ ?_
      intro mv3 hq4_ gq5_ kq6_
      have hq7_ : (mv3 76 a2.toNatClampNeg).toInt = a1.toInt := by rw [hq4_, mu_at]
      refine T_ql (i_add rfl l_1 (by omega) (by omega)) ?_
      intro xv8 hq9_
      exact ih a1 xv8 a3 mv3 gq5_ kq6_ (i_rng (lo := 0) (hi := 0) rfl (by omega) (by omega)) (i_rng (lo := 0) (hi := 4) rfl (by omega) (by omega)) (i_rng (lo := 4) (hi := 4) rfl (by omega) (by omega)) (by omega)
theorem t_J7_fill_53178_c76_4 {n : Nat} (hn : 200000 ≤ n) (a1 : Int32) (M : qM) (hG : G M) (pa1 : 0 ≤ a1.toInt ∧ a1.toInt ≤ 0) : qT (f_J7_fill_53178 n 76 4 a1 M) (po_J7_fill_53178_c76_4 a1 M) := by
  have hS : Sm l_J7_fill_53178_c76_4 M M := Sm.rf
  unfold f_J7_fill_53178
  try simp only [Nat.reduceAdd]
  refine T_ql (show (Int32.ofNat 4).toInt = 4 from by decide) ?_
  intro xv10 hq11_
  exact (t_J7_fill_53178_c76_4_5 hn) n a1 (0 : Int32) xv10 M hG hS (i_rng (lo := 0) (hi := 0) rfl (by omega) (by omega)) (i_rng (lo := 0) (hi := 4) l_0 (by omega) (by omega)) (i_rng (lo := 4) (hi := 4) rfl (by omega) (by omega)) (by have e1 : ((0 : Int32)).toInt = _ := l_0; omega)
abbrev l_X8_old : List Bx := []
abbrev po_X8_old (a1 : Int32) (M : qM) (v : Int32) (M' : qM) : Prop := G M' ∧ Sm l_X8_old M M'
theorem t_X8_old_4 {n : Nat} (hn : 200000 ≤ n) {oa1 : Int32} {M0 : qM} : ∀ (m : Nat) (a1 a2 a3 : Int32) (M : qM), G M → Sm l_X8_old M0 M → 0 ≤ a1.toInt ∧ a1.toInt ≤ 3 → 0 ≤ a3.toInt ∧ a3.toInt ≤ 4 → 4 - a3.toInt < (m : Int) → qT (f_X8_old_4 n m a1 a2 a3 M) (po_X8_old oa1 M0) := by
  intro m
  induction m with
  | zero =>
    intro a1 a2 a3 M hG hS i0 i1 i4
    exfalso; omega
  | succ m ih =>
    intro a1 a2 a3 M hG hS i0 i1 i4
    show qT (b_X8_old_4 n (f_X8_old_4 n m) a1 a2 a3 M) _
    unfold b_X8_old_4
    have hq5_ := r_70_8 hG
    refine T_le rfl rfl (fun hq6_ => ?_) (fun hq6_ => ?_)
    · exact T_ret ⟨hG, hS⟩
    · refine T_qg rfl (by omega) (by omega) ?_
      refine T_qg rfl (by omega) (by omega) ?_
      have hq7_ := i_and (a := (M 72 a1.toNatClampNeg) >>> ((M 71 a3.toNatClampNeg) &&& 31)) (b := (1 : Int32)) l_1 (by omega)
      refine T_eq rfl l_1 (fun hq8_ => ?_) (fun hq8_ => ?_)
      · refine T_qg rfl (by omega) (by omega) ?_
        unfold f_X8_old_42
        have hq9_ := i_full (a2)
        have hq10_ := i_full (M 75 a3.toNatClampNeg)
        refine T_ql rfl ?_
        intro xv11 hq12_
        refine T_ql (i_add rfl l_1 (by omega) (by omega)) ?_
        intro xv13 hq14_
        exact ih a1 xv11 xv13 M hG hS (i_rng (lo := 0) (hi := 3) rfl (by omega) (by omega)) (i_rng (lo := 0) (hi := 4) rfl (by omega) (by omega)) (by omega)
      · unfold f_X8_old_42
        have hq15_ := i_full (a2)
        refine T_ql (i_add rfl l_0 (by omega) (by omega)) ?_
        intro xv16 hq17_
        refine T_ql (i_add rfl l_1 (by omega) (by omega)) ?_
        intro xv18 hq19_
        exact ih a1 xv16 xv18 M hG hS (i_rng (lo := 0) (hi := 3) rfl (by omega) (by omega)) (i_rng (lo := 0) (hi := 4) rfl (by omega) (by omega)) (by omega)
theorem t_X8_old {n : Nat} (hn : 200000 ≤ n) (a1 : Int32) (M : qM) (hG : G M) (pa1 : 0 ≤ a1.toInt ∧ a1.toInt ≤ 3) : qT (f_X8_old n a1 M) (po_X8_old a1 M) := by
  have hS : Sm l_X8_old M M := Sm.rf
  unfold f_X8_old
  exact (t_X8_old_4 hn) n a1 (0 : Int32) (0 : Int32) M hG hS (i_rng (lo := 0) (hi := 3) rfl (by omega) (by omega)) (i_rng (lo := 0) (hi := 4) l_0 (by omega) (by omega)) (by have e1 : ((0 : Int32)).toInt = _ := l_0; have e2 : ((0 : Int32)).toInt = _ := l_0; omega)

abbrev l_X8_fits : List Bx := [(75, 76, 0, 0)]
abbrev po_X8_fits (a1 a2 : Int32) (M : qM) (v : Int32) (M' : qM) : Prop := (0 ≤ v.toInt ∧ v.toInt ≤ 1) ∧ G M' ∧ Sm l_X8_fits M M'
theorem t_X8_fits_38 {n : Nat} (hn : 200000 ≤ n) {oa1 oa2 : Int32} {M0 : qM} : ∀ (m : Nat) (a2 a3 : Int32) (M : qM), G M → Sm l_X8_fits M0 M → 0 ≤ a2.toInt ∧ a2.toInt ≤ 9 → 0 ≤ a3.toInt ∧ a3.toInt ≤ 10 → KS  M → 10 - a3.toInt < (m : Int) → qT (f_X8_fits_38 n m a2 a3 M) (po_X8_fits oa1 oa2 M0) := by
  intro m
  induction m with
  | zero =>
    intro a2 a3 M hG hS i0 i1 wKS i5
    have hq5_ := r_70_8 hG
    exfalso; omega
  | succ m ih =>
    intro a2 a3 M hG hS i0 i1 wKS i5
    show qT (b_X8_fits_38 n (f_X8_fits_38 n m) a2 a3 M) _
    unfold b_X8_fits_38
    have hq5_ := r_70_8 hG
    have hq6_ := r_70_9 hG
    refine T_le rfl rfl (fun hq7_ => ?_) (fun hq7_ => ?_)
    · exact T_ret ⟨(i_rng (lo := 0) (hi := 1) l_1 (by omega) (by omega)), hG, hS⟩
    · refine T_qg rfl (by omega) (by omega) ?_
      have hq10_ := wKS.2 a3.toNatClampNeg (by rw [tnc]; omega)
      have hq11_ := r_73 hG a3.toNatClampNeg
      refine T_qc (t_X8_old hn (M 73 a3.toNatClampNeg) M hG (i_rng (lo := 0) (hi := 3) rfl (by omega) (by omega))) ?_
      rintro rv8 mv9 ⟨gq12_, kq13_⟩
      have hq14_ := kq13_.nil
      subst hq14_
      refine T_lt rfl rfl (fun hq15_ => ?_) (fun hq15_ => ?_)
      · unfold f_X8_fits_65
        refine T_qg rfl (by omega) (by omega) ?_
        refine T_eq l_0 rfl (fun hq16_ => ?_) (fun hq16_ => ?_)
        · refine T_qg rfl (by omega) (by omega) ?_
          refine T_ql rfl ?_
          intro xv17 hq18_
          refine T_qg rfl (by omega) (by omega) ?_
          refine T_qg rfl (by omega) (by omega) ?_
          have hq20_ := i_full (M 75 xv17.toNatClampNeg)
          refine T_mu hG hS (rn_75 _ _) (nw_75 _) (i := 0) rfl ⟨by decide, by decide, Or.inl rfl⟩ ?_
          intro mv19 hq21_ gq22_ kq23_
          have hq24_ := (fun h_ => KS_c (M := M) (M' := mv19) (by rw [hq21_, mu_ne (Or.inl (by decide))]) (by rw [hq21_, mu_ne (Or.inl (by decide))]) (by rw [hq21_, mu_nc (by decide)]) (by rw [hq21_, mu_nc (by decide)]) h_) wKS
          have hq25_ : (mv19 70 8).toInt = (M 70 8).toInt := by rw [hq21_, mu_ne (Or.inl (by decide))]
          have hq26_ : (mv19 70 9).toInt = (M 70 9).toInt := by rw [hq21_, mu_ne (Or.inl (by decide))]
          have hq27_ : (mv19 74 a3.toNatClampNeg).toInt = (M 74 a3.toNatClampNeg).toInt := by rw [hq21_, mu_ne (Or.inl (by decide))]
          have hq28_ : (mv19 75 xv17.toNatClampNeg).toInt = ((M 75 xv17.toNatClampNeg) + (1 : Int32)).toInt := by rw [hq21_, mu_at]
          refine T_ql (i_add rfl l_1 (by omega) (by omega)) ?_
          intro xv29 hq30_
          have hq31_ := r_70_8 gq22_
          exact ih a2 xv29 mv19 gq22_ kq23_ (i_rng (lo := 0) (hi := 9) rfl (by omega) (by omega)) (i_rng (lo := 0) (hi := 10) rfl (by omega) (by omega)) hq24_ (by omega)
        · exact T_ret ⟨(i_rng (lo := 0) (hi := 1) l_0 (by omega) (by omega)), hG, hS⟩
      · unfold f_X8_fits_65
        refine T_qg rfl (by omega) (by omega) ?_
        refine T_eq l_1 rfl (fun hq32_ => ?_) (fun hq32_ => ?_)
        · refine T_qg rfl (by omega) (by omega) ?_
          refine T_ql rfl ?_
          intro xv33 hq34_
          refine T_qg rfl (by omega) (by omega) ?_
          refine T_qg rfl (by omega) (by omega) ?_
          have hq36_ := i_full (M 75 xv33.toNatClampNeg)
          refine T_mu hG hS (rn_75 _ _) (nw_75 _) (i := 0) rfl ⟨by decide, by decide, Or.inl rfl⟩ ?_
          intro mv35 hq37_ gq38_ kq39_
          have hq40_ := (fun h_ => KS_c (M := M) (M' := mv35) (by rw [hq37_, mu_ne (Or.inl (by decide))]) (by rw [hq37_, mu_ne (Or.inl (by decide))]) (by rw [hq37_, mu_nc (by decide)]) (by rw [hq37_, mu_nc (by decide)]) h_) wKS
          have hq41_ : (mv35 70 8).toInt = (M 70 8).toInt := by rw [hq37_, mu_ne (Or.inl (by decide))]
          have hq42_ : (mv35 70 9).toInt = (M 70 9).toInt := by rw [hq37_, mu_ne (Or.inl (by decide))]
          have hq43_ : (mv35 74 a3.toNatClampNeg).toInt = (M 74 a3.toNatClampNeg).toInt := by rw [hq37_, mu_ne (Or.inl (by decide))]
          have hq44_ : (mv35 75 xv33.toNatClampNeg).toInt = ((M 75 xv33.toNatClampNeg) + (1 : Int32)).toInt := by rw [hq37_, mu_at]
          refine T_ql (i_add rfl l_1 (by omega) (by omega)) ?_
          intro xv45 hq46_
          have hq47_ := r_70_8 gq38_
          exact ih a2 xv45 mv35 gq38_ kq39_ (i_rng (lo := 0) (hi := 9) rfl (by omega) (by omega)) (i_rng (lo := 0) (hi := 10) rfl (by omega) (by omega)) hq40_ (by omega)
        · exact T_ret ⟨(i_rng (lo := 0) (hi := 1) l_0 (by omega) (by omega)), hG, hS⟩
theorem t_X8_fits_2 {n : Nat} (hn : 200000 ≤ n) {oa1 oa2 : Int32} {M0 : qM} : ∀ (m : Nat) (a1 a2 a3 : Int32) (M : qM), G M → Sm l_X8_fits M0 M → (-2147483634) ≤ a1.toInt ∧ a1.toInt ≤ 255 → 0 ≤ a2.toInt ∧ a2.toInt ≤ 9 → 0 ≤ a3.toInt ∧ a3.toInt ≤ 4 → KS  M → 4 - a3.toInt < (m : Int) → qT (f_X8_fits_2 n m a1 a2 a3 M) (po_X8_fits oa1 oa2 M0) := by
  intro m
  induction m with
  | zero =>
    intro a1 a2 a3 M hG hS i0 i1 i2 wKS i6
    exfalso; omega
  | succ m ih =>
    intro a1 a2 a3 M hG hS i0 i1 i2 wKS i6
    show qT (b_X8_fits_2 n (f_X8_fits_2 n m) a1 a2 a3 M) _
    unfold b_X8_fits_2
    have hq49_ := r_70_8 hG
    refine T_le rfl rfl (fun hq50_ => ?_) (fun hq50_ => ?_)
    · exact (t_X8_fits_38 hn) n a2 (0 : Int32) M hG hS (i_rng (lo := 0) (hi := 9) rfl (by omega) (by omega)) (i_rng (lo := 0) (hi := 10) l_0 (by omega) (by omega)) wKS (by have e1 : ((0 : Int32)).toInt = _ := l_0; omega)
    · refine T_qg rfl (by omega) (by omega) ?_
      have hq52_ := i_and (a := a1 >>> (((2 : Int32) * (((M 70 8) - (1 : Int32)) - a3)) &&& 31)) (b := (3 : Int32)) l_3 (by omega)
      refine T_mu hG hS (rn_75 _ _) (nw_75 _) (i := 0) rfl ⟨by decide, by decide, Or.inl rfl⟩ ?_
      intro mv51 hq53_ gq54_ kq55_
      have hq56_ := (fun h_ => KS_c (M := M) (M' := mv51) (by rw [hq53_, mu_ne (Or.inl (by decide))]) (by rw [hq53_, mu_ne (Or.inl (by decide))]) (by rw [hq53_, mu_nc (by decide)]) (by rw [hq53_, mu_nc (by decide)]) h_) wKS
      have hq57_ : (mv51 70 8).toInt = (M 70 8).toInt := by rw [hq53_, mu_ne (Or.inl (by decide))]
      have hq58_ : (mv51 75 a3.toNatClampNeg).toInt = ((a1 >>> (((2 : Int32) * (((M 70 8) - (1 : Int32)) - a3)) &&& 31)) &&& (3 : Int32)).toInt := by rw [hq53_, mu_at]
      refine T_ql (i_add rfl l_1 (by omega) (by omega)) ?_
      intro xv59 hq60_
      exact ih a1 a2 xv59 mv51 gq54_ kq55_ (i_rng (lo := (-2147483634)) (hi := 255) rfl (by omega) (by omega)) (i_rng (lo := 0) (hi := 9) rfl (by omega) (by omega)) (i_rng (lo := 0) (hi := 4) rfl (by omega) (by omega)) hq56_ (by omega)
theorem t_X8_fits {n : Nat} (hn : 200000 ≤ n) (a1 a2 : Int32) (M : qM) (hG : G M) (pa1 : (-2147483634) ≤ a1.toInt ∧ a1.toInt ≤ 255) (pa2 : 0 ≤ a2.toInt ∧ a2.toInt ≤ 9) (wKS : KS  M) : qT (f_X8_fits n a1 a2 M) (po_X8_fits a1 a2 M) := by
  have hS : Sm l_X8_fits M M := Sm.rf
  unfold f_X8_fits
  exact (t_X8_fits_2 hn) n a1 a2 (0 : Int32) M hG hS (i_rng (lo := (-2147483634)) (hi := 255) rfl (by omega) (by omega)) (i_rng (lo := 0) (hi := 9) rfl (by omega) (by omega)) (i_rng (lo := 0) (hi := 4) l_0 (by omega) (by omega)) wKS (by have e2 : ((0 : Int32)).toInt = _ := l_0; omega)
abbrev l_X8_goThrough : List Bx := [(34, 35, 4, 5), (35, 37, 0, 0), (70, 71, 10, 12), (72, 73, 0, 0), (75, 77, 0, 0)]
abbrev po_X8_goThrough (a1 a2 : Int32) (M : qM) (v : Int32) (M' : qM) : Prop := (0 ≤ v.toInt ∧ v.toInt ≤ 0) ∧ G M' ∧ Sm l_X8_goThrough M M'
theorem t_X8_goThrough_110 {n : Nat} (hn : 200000 ≤ n) {j : Nat} (hj : q_isLaw j) {oa1 oa2 : Int32} {M0 : qM} {K57 : Int32 → Int32 → qM → qR} {BK57 : Nat} (hK57 : ∀ (a1 a3 : Int32) (M : qM), G M → Sm l_X8_goThrough M0 M → 0 ≤ a1.toInt ∧ a1.toInt ≤ 9 → (-2147483633) ≤ a3.toInt ∧ a3.toInt ≤ 256 → KS  M → 256 - a3.toInt < (BK57 : Int) → qT (K57 a1 a3 M) (po_X8_goThrough oa1 oa2 M0)) : ∀ (m : Nat) (a1 a3 a4 : Int32) (M : qM), G M → Sm l_X8_goThrough M0 M → 0 ≤ a1.toInt ∧ a1.toInt ≤ 9 → (-2147483634) ≤ a3.toInt ∧ a3.toInt ≤ 255 → 0 ≤ a4.toInt ∧ a4.toInt ≤ 4 → KS  M → 256 - a3.toInt < (BK57 : Int) + 1 → 4 - a4.toInt < (m : Int) → qT (f_X8_goThrough_110 n j K57 m a1 a3 a4 M) (po_X8_goThrough oa1 oa2 M0) := by
  intro m
  induction m with
  | zero =>
    intro a1 a3 a4 M hG hS i0 i1 i2 wKS i6 i7
    exfalso; omega
  | succ m ih =>
    intro a1 a3 a4 M hG hS i0 i1 i2 wKS i6 i7
    show qT (b_X8_goThrough_110 n j K57 (f_X8_goThrough_110 n j K57 m) a1 a3 a4 M) _
    unfold b_X8_goThrough_110
    have hq18_ := r_70_8 hG
    refine T_le rfl rfl (fun hq19_ => ?_) (fun hq19_ => ?_)
    · refine T_ql (i_add rfl l_1 (by omega) (by omega)) ?_
      intro xv20 hq21_
      exact hK57 a1 xv20 M hG hS (i_rng (lo := 0) (hi := 9) rfl (by omega) (by omega)) (i_rng (lo := (-2147483633)) (hi := 256) rfl (by omega) (by omega)) wKS (by omega)
    · refine T_qg rfl (by omega) (by omega) ?_
      refine T_qc (t_X8_old hn a4 M hG (i_rng (lo := 0) (hi := 3) rfl (by omega) (by omega))) ?_
      rintro rv22 mv23 ⟨gq24_, kq25_⟩
      have hq26_ := kq25_.nil
      subst hq26_
      refine T_lt rfl rfl (fun hq27_ => ?_) (fun hq27_ => ?_)
      · unfold f_X8_goThrough_142
        refine T_qg rfl (by omega) (by omega) ?_
        have hq29_ := i_full (M 76 a4.toNatClampNeg)
        refine T_mu hG hS (rn_76 _ _) (nw_76 _) (i := 4) rfl ⟨by decide, by decide, Or.inl rfl⟩ ?_
        intro mv28 hq30_ gq31_ kq32_
        have hq33_ := (fun h_ => KS_c (M := M) (M' := mv28) (by rw [hq30_, mu_ne (Or.inl (by decide))]) (by rw [hq30_, mu_ne (Or.inl (by decide))]) (by rw [hq30_, mu_nc (by decide)]) (by rw [hq30_, mu_nc (by decide)]) h_) wKS
        have hq34_ : (mv28 70 8).toInt = (M 70 8).toInt := by rw [hq30_, mu_ne (Or.inl (by decide))]
        have hq35_ : (mv28 76 a4.toNatClampNeg).toInt = ((M 76 a4.toNatClampNeg).toInt + 0) := by rw [hq30_, mu_at]; exact (i_add rfl l_0 (by omega) (by omega))
        refine T_ql (i_add rfl l_1 (by omega) (by omega)) ?_
        intro xv36 hq37_
        exact ih a1 a3 xv36 mv28 gq31_ kq32_ (i_rng (lo := 0) (hi := 9) rfl (by omega) (by omega)) (i_rng (lo := (-2147483634)) (hi := 255) rfl (by omega) (by omega)) (i_rng (lo := 0) (hi := 4) rfl (by omega) (by omega)) hq33_ (by omega) (by omega)
      · unfold f_X8_goThrough_142
        refine T_qg rfl (by omega) (by omega) ?_
        have hq39_ := i_full (M 76 a4.toNatClampNeg)
        refine T_mu hG hS (rn_76 _ _) (nw_76 _) (i := 4) rfl ⟨by decide, by decide, Or.inl rfl⟩ ?_
        intro mv38 hq40_ gq41_ kq42_
        have hq43_ := (fun h_ => KS_c (M := M) (M' := mv38) (by rw [hq40_, mu_ne (Or.inl (by decide))]) (by rw [hq40_, mu_ne (Or.inl (by decide))]) (by rw [hq40_, mu_nc (by decide)]) (by rw [hq40_, mu_nc (by decide)]) h_) wKS
        have hq44_ : (mv38 70 8).toInt = (M 70 8).toInt := by rw [hq40_, mu_ne (Or.inl (by decide))]
        have hq45_ : (mv38 76 a4.toNatClampNeg).toInt = ((M 76 a4.toNatClampNeg) + (1 : Int32)).toInt := by rw [hq40_, mu_at]
        refine T_ql (i_add rfl l_1 (by omega) (by omega)) ?_
        intro xv46 hq47_
        exact ih a1 a3 xv46 mv38 gq41_ kq42_ (i_rng (lo := 0) (hi := 9) rfl (by omega) (by omega)) (i_rng (lo := (-2147483634)) (hi := 255) rfl (by omega) (by omega)) (i_rng (lo := 0) (hi := 4) rfl (by omega) (by omega)) hq43_ (by omega) (by omega)
theorem t_X8_goThrough_57 {n : Nat} (hn : 200000 ≤ n) {j : Nat} (hj : q_isLaw j) {oa1 oa2 : Int32} {M0 : qM} : ∀ (m : Nat) (a1 a3 : Int32) (M : qM), G M → Sm l_X8_goThrough M0 M → 0 ≤ a1.toInt ∧ a1.toInt ≤ 9 → (-2147483633) ≤ a3.toInt ∧ a3.toInt ≤ 256 → KS  M → 256 - a3.toInt < (m : Int) → qT (f_X8_goThrough_57 n j m a1 a3 M) (po_X8_goThrough oa1 oa2 M0) := by
  intro m
  induction m with
  | zero =>
    intro a1 a3 M hG hS i0 i1 wKS i5
    exfalso; omega
  | succ m ih =>
    intro a1 a3 M hG hS i0 i1 wKS i5
    show qT (b_X8_goThrough_57 n j (f_X8_goThrough_57 n j m) a1 a3 M) _
    unfold b_X8_goThrough_57
    have hq55_ := r_70_8 hG
    have hq56_ := i_shl1 (c := 8) (k := (2 : Int32) * (M 70 8)) (by decide) (i_mul l_2 rfl (by omega) (by omega)) (by omega) (by omega)
    refine T_le rfl rfl (fun hq57_ => ?_) (fun hq57_ => ?_)
    · exact T_ret ⟨(i_rng (lo := 0) (hi := 0) l_0 (by omega) (by omega)), hG, hS⟩
    · refine T_qc (t_X8_fits hn a3 a1 M hG (i_rng (lo := (-2147483634)) (hi := 255) rfl (by omega) (by omega)) (i_rng (lo := 0) (hi := 9) rfl (by omega) (by omega)) wKS) ?_
      rintro rv58 mv59 ⟨hq60_, gq61_, kq62_⟩
      have kq63_ := Sm.call hS kq62_ rfl
      have hq64_ := (fun h_ => KS_c (kq62_ 70 8 (by decide)) (kq62_ 70 9 (by decide)) (funext (fun s_ => kq62_ 71 s_ (outc rfl))) (funext (fun s_ => kq62_ 73 s_ (outc rfl))) h_) wKS
      refine T_eq rfl l_0 (fun hq65_ => ?_) (fun hq65_ => ?_)
      · refine T_ql (i_add rfl l_1 (by omega) (by omega)) ?_
        intro xv66 hq67_
        exact ih a1 xv66 mv59 gq61_ kq63_ (i_rng (lo := 0) (hi := 9) rfl (by omega) (by omega)) (i_rng (lo := (-2147483633)) (hi := 256) rfl (by omega) (by omega)) hq64_ (by omega)
      · refine T_eq rfl l_0 (fun hq68_ => ?_) (fun hq68_ => ?_)
        · unfold f_X8_goThrough_94
          refine T_mu gq61_ kq63_ (rn_70_11 _) (nw_70 _) (i := 2) rfl ⟨by decide, by decide, Or.inr ⟨by decide, by decide⟩⟩ ?_
          intro mv69 hq70_ gq71_ kq72_
          have hq73_ := (fun h_ => KS_c (M := mv59) (M' := mv69) (by rw [hq70_, mu_ne (Or.inr (by decide))]) (by rw [hq70_, mu_ne (Or.inr (by decide))]) (by rw [hq70_, mu_nc (by decide)]) (by rw [hq70_, mu_nc (by decide)]) h_) hq64_
          have hq74_ : (mv69 70 10).toInt = (mv59 70 10).toInt := by rw [hq70_, mu_ne (Or.inr (by decide))]
          have hq75_ : (mv69 70 11).toInt = a3.toInt := by rw [hq70_, mu_at]
          refine T_mu gq71_ kq72_ (rn_70_10 _) (nw_70 _) (i := 2) rfl ⟨by decide, by decide, Or.inr ⟨by decide, by decide⟩⟩ ?_
          intro mv76 hq77_ gq78_ kq79_
          have hq80_ := (fun h_ => KS_c (M := mv69) (M' := mv76) (by rw [hq77_, mu_ne (Or.inr (by decide))]) (by rw [hq77_, mu_ne (Or.inr (by decide))]) (by rw [hq77_, mu_nc (by decide)]) (by rw [hq77_, mu_nc (by decide)]) h_) hq73_
          have hq81_ : (mv76 70 11).toInt = (mv69 70 11).toInt := by rw [hq77_, mu_ne (Or.inr (by decide))]
          have hq82_ : (mv76 70 10).toInt = ((mv69 70 10).toInt + 1) := by rw [hq77_, mu_at]; exact (i_add rfl l_1 (by omega) (by omega))
          exact (t_X8_goThrough_110 hn hj ih) n a1 a3 (0 : Int32) mv76 gq78_ kq79_ (i_rng (lo := 0) (hi := 9) rfl (by omega) (by omega)) (i_rng (lo := (-2147483634)) (hi := 255) rfl (by omega) (by omega)) (i_rng (lo := 0) (hi := 4) l_0 (by omega) (by omega)) hq80_ (by omega) (by have e2 : ((0 : Int32)).toInt = _ := l_0; omega)
        · unfold f_X8_goThrough_94
          refine T_mu gq61_ kq63_ (rn_70_11 _) (nw_70 _) (i := 2) rfl ⟨by decide, by decide, Or.inr ⟨by decide, by decide⟩⟩ ?_
          intro mv83 hq84_ gq85_ kq86_
          have hq87_ := (fun h_ => KS_c (M := mv59) (M' := mv83) (by rw [hq84_, mu_ne (Or.inr (by decide))]) (by rw [hq84_, mu_ne (Or.inr (by decide))]) (by rw [hq84_, mu_nc (by decide)]) (by rw [hq84_, mu_nc (by decide)]) h_) hq64_
          have hq88_ : (mv83 70 10).toInt = (mv59 70 10).toInt := by rw [hq84_, mu_ne (Or.inr (by decide))]
          have hq89_ : (mv83 70 11).toInt = (mv59 70 11).toInt := by rw [hq84_, mu_at]
          have hq91_ := i_full (mv83 70 10)
          refine T_mu gq85_ kq86_ (rn_70_10 _) (nw_70 _) (i := 2) rfl ⟨by decide, by decide, Or.inr ⟨by decide, by decide⟩⟩ ?_
          intro mv90 hq92_ gq93_ kq94_
          have hq95_ := (fun h_ => KS_c (M := mv83) (M' := mv90) (by rw [hq92_, mu_ne (Or.inr (by decide))]) (by rw [hq92_, mu_ne (Or.inr (by decide))]) (by rw [hq92_, mu_nc (by decide)]) (by rw [hq92_, mu_nc (by decide)]) h_) hq87_
          have hq96_ : (mv90 70 11).toInt = (mv83 70 11).toInt := by rw [hq92_, mu_ne (Or.inr (by decide))]
          have hq97_ : (mv90 70 10).toInt = ((mv83 70 10) + (1 : Int32)).toInt := by rw [hq92_, mu_at]
          exact (t_X8_goThrough_110 hn hj ih) n a1 a3 (0 : Int32) mv90 gq93_ kq94_ (i_rng (lo := 0) (hi := 9) rfl (by omega) (by omega)) (i_rng (lo := (-2147483634)) (hi := 255) rfl (by omega) (by omega)) (i_rng (lo := 0) (hi := 4) l_0 (by omega) (by omega)) hq95_ (by omega) (by have e2 : ((0 : Int32)).toInt = _ := l_0; omega)
theorem t_X8_goThrough_21 {n : Nat} (hn : 200000 ≤ n) {j : Nat} (hj : q_isLaw j) {oa1 oa2 : Int32} {M0 : qM} : ∀ (m : Nat) (a1 a2 a3 : Int32) (M : qM), G M → Sm l_X8_goThrough M0 M → 0 ≤ a1.toInt ∧ a1.toInt ≤ 9 → 0 ≤ a3.toInt ∧ a3.toInt ≤ 4 → KS  M → 4 - a3.toInt < (m : Int) → qT (f_X8_goThrough_21 n j m a1 a2 a3 M) (po_X8_goThrough oa1 oa2 M0) := by
  intro m
  induction m with
  | zero =>
    intro a1 a2 a3 M hG hS i0 i1 wKS i5
    exfalso; omega
  | succ m ih =>
    intro a1 a2 a3 M hG hS i0 i1 wKS i5
    show qT (b_X8_goThrough_21 n j (f_X8_goThrough_21 n j m) a1 a2 a3 M) _
    unfold b_X8_goThrough_21
    have hq99_ := r_70_8 hG
    refine T_le rfl rfl (fun hq100_ => ?_) (fun hq100_ => ?_)
    · exact (t_X8_goThrough_57 hn hj) n a1 (0 : Int32) M hG hS (i_rng (lo := 0) (hi := 9) rfl (by omega) (by omega)) (i_rng (lo := (-2147483633)) (hi := 256) l_0 (by omega) (by omega)) wKS (by have e1 : ((0 : Int32)).toInt = _ := l_0; omega)
    · refine T_qg rfl (by omega) (by omega) ?_
      have hq103_ := wKS.1 a3.toNatClampNeg (by rw [tnc]; omega)
      have hq104_ := r_71 hG a3.toNatClampNeg
      refine T_qc (t_X1_alikes hn hj (M 71 a3.toNatClampNeg) a2 M hG (i_rng (lo := 0) (hi := 11) rfl (by omega) (by omega))) ?_
      rintro rv101 mv102 ⟨gq105_, kq106_⟩
      have kq107_ := Sm.call hS kq106_ rfl
      have hq108_ := (fun h_ => KS_c (kq106_ 70 8 (by decide)) (kq106_ 70 9 (by decide)) (funext (fun s_ => kq106_ 71 s_ (outc rfl))) (funext (fun s_ => kq106_ 73 s_ (outc rfl))) h_) wKS
      have hq109_ : (mv102 70 8).toInt = (M 70 8).toInt := by rw [kq106_ 70 8 (by decide)]
      refine T_qg rfl (by omega) (by omega) ?_
      refine T_mu gq105_ kq107_ (rn_72 _ _) (nw_72 _) (i := 3) rfl ⟨by decide, by decide, Or.inl rfl⟩ ?_
      intro mv110 hq111_ gq112_ kq113_
      have hq114_ := (fun h_ => KS_c (M := mv102) (M' := mv110) (by rw [hq111_, mu_ne (Or.inl (by decide))]) (by rw [hq111_, mu_ne (Or.inl (by decide))]) (by rw [hq111_, mu_nc (by decide)]) (by rw [hq111_, mu_nc (by decide)]) h_) hq108_
      have hq115_ : (mv110 70 8).toInt = (mv102 70 8).toInt := by rw [hq111_, mu_ne (Or.inl (by decide))]
      have hq116_ : (mv110 72 a3.toNatClampNeg).toInt = rv101.toInt := by rw [hq111_, mu_at]
      refine T_ql (i_add rfl l_1 (by omega) (by omega)) ?_
      intro xv117 hq118_
      exact ih a1 a2 xv117 mv110 gq112_ kq113_ (i_rng (lo := 0) (hi := 9) rfl (by omega) (by omega)) (i_rng (lo := 0) (hi := 4) rfl (by omega) (by omega)) hq114_ (by omega)
theorem t_X8_goThrough {n : Nat} (hn : 200000 ≤ n) {j : Nat} (hj : q_isLaw j) (a1 a2 : Int32) (M : qM) (hG : G M) (pa1 : 0 ≤ a1.toInt ∧ a1.toInt ≤ 9) (wKS : KS  M) : qT (f_X8_goThrough n j a1 a2 M) (po_X8_goThrough a1 a2 M) := by
  have hS : Sm l_X8_goThrough M M := Sm.rf
  unfold f_X8_goThrough
  refine T_mu hG hS (rn_70_10 _) (nw_70 _) (i := 2) rfl ⟨by decide, by decide, Or.inr ⟨by decide, by decide⟩⟩ ?_
  intro mv119 hq120_ gq121_ kq122_
  have hq123_ := (fun h_ => KS_c (M := M) (M' := mv119) (by rw [hq120_, mu_ne (Or.inr (by decide))]) (by rw [hq120_, mu_ne (Or.inr (by decide))]) (by rw [hq120_, mu_nc (by decide)]) (by rw [hq120_, mu_nc (by decide)]) h_) wKS
  have hq124_ : (mv119 70 10).toInt = 0 := by rw [hq120_, mu_at]; exact l_0
  refine T_mu gq121_ kq122_ (rn_70_11 _) (nw_70 _) (i := 2) rfl ⟨by decide, by decide, Or.inr ⟨by decide, by decide⟩⟩ ?_
  intro mv125 hq126_ gq127_ kq128_
  have hq129_ := (fun h_ => KS_c (M := mv119) (M' := mv125) (by rw [hq126_, mu_ne (Or.inr (by decide))]) (by rw [hq126_, mu_ne (Or.inr (by decide))]) (by rw [hq126_, mu_nc (by decide)]) (by rw [hq126_, mu_nc (by decide)]) h_) hq123_
  have hq130_ : (mv125 70 10).toInt = (mv119 70 10).toInt := by rw [hq126_, mu_ne (Or.inr (by decide))]
  have hq131_ : (mv125 70 11).toInt = (-2) := by rw [hq126_, mu_at]; exact l_m2
  refine T_qc (t_J7_fill_53178_c76_4 hn (0 : Int32) mv125 gq127_ (i_rng (lo := 0) (hi := 0) l_0 (by omega) (by omega))) ?_
  rintro rv132 mv133 ⟨hq134_, gq135_, kq136_⟩
  have kq137_ := Sm.call kq128_ kq136_ rfl
  have hq138_ := (fun h_ => KS_c (kq136_ 70 8 (by decide)) (kq136_ 70 9 (by decide)) (funext (fun s_ => kq136_ 71 s_ (outc rfl))) (funext (fun s_ => kq136_ 73 s_ (outc rfl))) h_) hq129_
  have hq139_ : (mv133 70 10).toInt = (mv125 70 10).toInt := by rw [kq136_ 70 10 (by decide)]
  have hq140_ : (mv133 70 11).toInt = (mv125 70 11).toInt := by rw [kq136_ 70 11 (by decide)]
  exact (t_X8_goThrough_21 hn hj) n a1 a2 (0 : Int32) mv133 gq135_ kq137_ (i_rng (lo := 0) (hi := 9) rfl (by omega) (by omega)) (i_rng (lo := 0) (hi := 4) l_0 (by omega) (by omega)) hq138_ (by have e2 : ((0 : Int32)).toInt = _ := l_0; omega)
abbrev l_X8_greaterPart : List Bx := []
abbrev po_X8_greaterPart (a1 : Int32) (M : qM) (v : Int32) (M' : qM) : Prop := G M' ∧ Sm l_X8_greaterPart M M'
theorem t_X8_greaterPart {n : Nat} (hn : 200000 ≤ n) (a1 : Int32) (M : qM) (hG : G M) (pa1 : 0 ≤ a1.toInt ∧ a1.toInt ≤ 3) : qT (f_X8_greaterPart n a1 M) (po_X8_greaterPart a1 M) := by
  have hS : Sm l_X8_greaterPart M M := Sm.rf
  unfold f_X8_greaterPart
  refine T_qg rfl (by omega) (by omega) ?_
  refine T_qg rfl (by omega) (by omega) ?_
  have hq1_ := i_full (M 70 10)
  have hq2_ := i_full (M 76 a1.toNatClampNeg)
  have hq3_ := i_max (a := M 76 a1.toNatClampNeg) (b := (M 70 10) - (M 76 a1.toNatClampNeg)) rfl rfl
  exact T_ret ⟨hG, hS⟩
abbrev l_X8_tellingPlace : List Bx := []
abbrev po_X8_tellingPlace (M : qM) (v : Int32) (M' : qM) : Prop := (0 ≤ v.toInt ∧ v.toInt ≤ 3) ∧ G M' ∧ Sm l_X8_tellingPlace M M'
theorem t_X8_tellingPlace_4 {n : Nat} (hn : 200000 ≤ n) {M0 : qM} : ∀ (m : Nat) (a1 a2 : Int32) (M : qM), G M → Sm l_X8_tellingPlace M0 M → 0 ≤ a1.toInt ∧ a1.toInt ≤ 3 → 1 ≤ a2.toInt ∧ a2.toInt ≤ 4 → 4 - a2.toInt < (m : Int) → qT (f_X8_tellingPlace_4 n m a1 a2 M) (po_X8_tellingPlace  M0) := by
  intro m
  induction m with
  | zero =>
    intro a1 a2 M hG hS i0 i1 i4
    exfalso; omega
  | succ m ih =>
    intro a1 a2 M hG hS i0 i1 i4
    show qT (b_X8_tellingPlace_4 n (f_X8_tellingPlace_4 n m) a1 a2 M) _
    unfold b_X8_tellingPlace_4
    have hq3_ := r_70_8 hG
    refine T_le rfl rfl (fun hq4_ => ?_) (fun hq4_ => ?_)
    · exact T_ret ⟨(i_rng (lo := 0) (hi := 3) rfl (by omega) (by omega)), hG, hS⟩
    · refine T_qc (t_X8_greaterPart hn a2 M hG (i_rng (lo := 0) (hi := 3) rfl (by omega) (by omega))) ?_
      rintro rv5 mv6 ⟨gq7_, kq8_⟩
      have hq9_ := kq8_.nil
      subst hq9_
      refine T_qc (t_X8_greaterPart hn a1 M hG (i_rng (lo := 0) (hi := 3) rfl (by omega) (by omega))) ?_
      rintro rv10 mv11 ⟨gq12_, kq13_⟩
      have hq14_ := kq13_.nil
      subst hq14_
      refine T_le rfl rfl (fun hq15_ => ?_) (fun hq15_ => ?_)
      · refine T_ql (i_add rfl l_1 (by omega) (by omega)) ?_
        intro xv16 hq17_
        exact ih a1 xv16 M hG hS (i_rng (lo := 0) (hi := 3) rfl (by omega) (by omega)) (i_rng (lo := 1) (hi := 4) rfl (by omega) (by omega)) (by omega)
      · refine T_ql (i_add rfl l_1 (by omega) (by omega)) ?_
        intro xv18 hq19_
        exact ih a2 xv18 M hG hS (i_rng (lo := 0) (hi := 3) rfl (by omega) (by omega)) (i_rng (lo := 1) (hi := 4) rfl (by omega) (by omega)) (by omega)
theorem t_X8_tellingPlace {n : Nat} (hn : 200000 ≤ n) (M : qM) (hG : G M) : qT (f_X8_tellingPlace n  M) (po_X8_tellingPlace  M) := by
  have hS : Sm l_X8_tellingPlace M M := Sm.rf
  unfold f_X8_tellingPlace
  exact (t_X8_tellingPlace_4 hn) n (0 : Int32) (1 : Int32) M hG hS (i_rng (lo := 0) (hi := 3) l_0 (by omega) (by omega)) (i_rng (lo := 1) (hi := 4) l_1 (by omega) (by omega)) (by have e0 : ((0 : Int32)).toInt = _ := l_0; have e1 : ((1 : Int32)).toInt = _ := l_1; omega)
abbrev l_X11_histories : List Bx := [(1, 2, 1, 2), (34, 35, 4, 5), (35, 37, 0, 0), (70, 71, 8, 12), (71, 77, 0, 0)]
abbrev po_X11_histories (a1 a2 a3 a4 : Int32) (M : qM) (v : Int32) (M' : qM) : Prop := (((1 ≤ a1.toInt ∧ a1.toInt ≤ 4 ∧ 0 ≤ a2.toInt ∧ a2.toInt ≤ 10 ∧ 0 ≤ a3.toInt ∧ a3.toInt ≤ 9 ∧ 0 ≤ a4.toInt ∧ a4.toInt ≤ 2 ∧ a1.toInt + 2 * a2.toInt ≤ (M 1 1).toInt) ∧ (M' 1 1).toInt = 0) ∨ (¬ (1 ≤ a1.toInt ∧ a1.toInt ≤ 4 ∧ 0 ≤ a2.toInt ∧ a2.toInt ≤ 10 ∧ 0 ≤ a3.toInt ∧ a3.toInt ≤ 9 ∧ 0 ≤ a4.toInt ∧ a4.toInt ≤ 2 ∧ a1.toInt + 2 * a2.toInt ≤ (M 1 1).toInt) ∧ (M' 1 1).toInt = (M 1 1).toInt)) ∧ G M' ∧ Sm l_X11_histories M M'
theorem t_X11_histories {n : Nat} (hn : 200000 ≤ n) {j : Nat} (hj : q_isLaw j) (a1 a2 a3 a4 : Int32) (M : qM) (hG : G M) : qT (f_X11_histories n j a1 a2 a3 a4 M) (po_X11_histories a1 a2 a3 a4 M) := by
  have hS : Sm l_X11_histories M M := Sm.rf
  unfold f_X11_histories
  have hq1_ := r_1_1 hG
  refine T_lt rfl l_1 (fun hq2_ => ?_) (fun hq2_ => ?_)
  · exact T_ret ⟨(by have e9 : ((-1 : Int32)).toInt = _ := l_m1; omega), hG, hS⟩
  · refine T_lt l_4 rfl (fun hq3_ => ?_) (fun hq3_ => ?_)
    · exact T_ret ⟨(by have e9 : ((-1 : Int32)).toInt = _ := l_m1; omega), hG, hS⟩
    · refine T_lt rfl l_0 (fun hq4_ => ?_) (fun hq4_ => ?_)
      · exact T_ret ⟨(by have e9 : ((-1 : Int32)).toInt = _ := l_m1; omega), hG, hS⟩
      · refine T_lt l_10 rfl (fun hq5_ => ?_) (fun hq5_ => ?_)
        · exact T_ret ⟨(by have e9 : ((-1 : Int32)).toInt = _ := l_m1; omega), hG, hS⟩
        · refine T_lt rfl l_0 (fun hq6_ => ?_) (fun hq6_ => ?_)
          · exact T_ret ⟨(by have e9 : ((-1 : Int32)).toInt = _ := l_m1; omega), hG, hS⟩
          · refine T_le rfl l_9 (fun hq7_ => ?_) (fun hq7_ => ?_)
            · refine T_lt rfl l_0 (fun hq8_ => ?_) (fun hq8_ => ?_)
              · exact T_ret ⟨(by have e9 : ((-1 : Int32)).toInt = _ := l_m1; omega), hG, hS⟩
              · refine T_lt l_2 rfl (fun hq9_ => ?_) (fun hq9_ => ?_)
                · exact T_ret ⟨(by have e9 : ((-1 : Int32)).toInt = _ := l_m1; omega), hG, hS⟩
                · refine T_le (i_add rfl (i_mul l_2 rfl (by omega) (by omega)) (by omega) (by omega)) rfl (fun hq10_ => ?_) (fun hq10_ => ?_)
                  · refine T_qc (t_X8_read hn a1 a2 M hG (i_rng (lo := 1) (hi := 4) rfl (by omega) (by omega)) (i_rng (lo := 0) (hi := 10) rfl (by omega) (by omega))) ?_
                    rintro rv11 mv12 ⟨hq13_, hq14_, gq15_, kq16_⟩
                    have kq17_ := Sm.call hS kq16_ rfl
                    have hq18_ : (mv12 1 1).toInt = (M 1 1).toInt := by rw [kq16_ 1 1 (by decide)]
                    refine T_qc (t_X9_clear hn  mv12 gq15_ ) ?_
                    rintro rv19 mv20 ⟨hq21_, hq22_, gq23_, kq24_⟩
                    have kq25_ := Sm.call kq17_ kq24_ rfl
                    have hq26_ := Or.imp_right (fun h_ => KS_c (kq24_ 70 8 (by decide)) (kq24_ 70 9 (by decide)) (funext (fun s_ => kq24_ 71 s_ (outc rfl))) (funext (fun s_ => kq24_ 73 s_ (outc rfl))) h_) hq14_
                    have hq27_ := r_1_1 gq23_
                    refine T_eq rfl l_0 (fun hq28_ => ?_) (fun hq28_ => ?_)
                    · exact T_ret ⟨(by have e9 : ((-3 : Int32)).toInt = _ := l_m3; omega), gq23_, kq25_⟩
                    · refine T_qc (t_X8_goThrough hn hj a3 (mv20 7 9) mv20 gq23_ (i_rng (lo := 0) (hi := 9) rfl (by omega) (by omega)) (hq26_.resolve_left (by omega))) ?_
                      rintro rv29 mv30 ⟨hq31_, gq32_, kq33_⟩
                      have kq34_ := Sm.call kq25_ kq33_ rfl
                      have hq35_ := Or.imp_right (fun h_ => KS_c (kq33_ 70 8 (by decide)) (kq33_ 70 9 (by decide)) (funext (fun s_ => kq33_ 71 s_ (outc rfl))) (funext (fun s_ => kq33_ 73 s_ (outc rfl))) h_) hq26_
                      have hq36_ : (mv30 1 1).toInt = (mv20 1 1).toInt := by rw [kq33_ 1 1 (by decide)]
                      refine T_eq rfl l_0 (fun hq37_ => ?_) (fun hq37_ => ?_)
                      · exact T_ret ⟨(by have e9 : (mv30 70 10).toInt = _ := rfl; omega), gq32_, kq34_⟩
                      · refine T_eq rfl l_1 (fun hq38_ => ?_) (fun hq38_ => ?_)
                        · exact T_ret ⟨(by have e9 : (mv30 70 11).toInt = _ := rfl; omega), gq32_, kq34_⟩
                        · refine T_qc (t_X8_tellingPlace hn  mv30 gq32_ ) ?_
                          rintro rv39 mv40 ⟨hq41_, gq42_, kq43_⟩
                          have hq44_ := kq43_.nil
                          subst hq44_
                          exact T_ret ⟨(by have e9 : (rv39).toInt = _ := rfl; omega), gq32_, kq34_⟩
                  · exact T_ret ⟨(by have e9 : ((-1 : Int32)).toInt = _ := l_m1; omega), hG, hS⟩
            · exact T_ret ⟨(by have e9 : ((-1 : Int32)).toInt = _ := l_m1; omega), hG, hS⟩

abbrev l_X12_takesPast : List Bx := [(77, 78, 61, 62), (96, 98, 0, 0), (116, 118, 0, 0)]
abbrev po_X12_takesPast (a1 a2 : Int32) (M : qM) (v : Int32) (M' : qM) : Prop := (0 ≤ v.toInt ∧ v.toInt ≤ 1) ∧ (v.toInt = 0 ∨ KP a2 M') ∧ G M' ∧ Sm l_X12_takesPast M M'
theorem t_X12_takesPast_150 {n : Nat} (hn : 200000 ≤ n) {oa1 oa2 : Int32} {M0 : qM} {K135 : Int32 → Int32 → qM → qR} {BK135 : Nat} (hK135 : ∀ (a1 a3 : Int32) (M : qM), G M → Sm l_X12_takesPast M0 M → 1 ≤ a1.toInt ∧ a1.toInt ≤ 4 → 0 ≤ a3.toInt ∧ a3.toInt ≤ 4 → a1.toInt = oa1.toInt → KQ oa1 M → KP oa2 M → 4 - a3.toInt < (BK135 : Int) → qT (K135 a1 a3 M) (po_X12_takesPast oa1 oa2 M0)) : ∀ (m : Nat) (a1 a3 a4 : Int32) (M : qM), G M → Sm l_X12_takesPast M0 M → 1 ≤ a1.toInt ∧ a1.toInt ≤ 4 → 0 ≤ a3.toInt ∧ a3.toInt ≤ 3 → 0 ≤ a4.toInt ∧ a4.toInt ≤ 4 → (a1.toInt = oa1.toInt ∧ a3.toInt < a1.toInt) → KQ oa1 M → KP oa2 M → 4 - a3.toInt < (BK135 : Int) + 1 → 4 - a4.toInt < (m : Int) → qT (f_X12_takesPast_150 n K135 m a1 a3 a4 M) (po_X12_takesPast oa1 oa2 M0) := by
  intro m
  induction m with
  | zero =>
    intro a1 a3 a4 M hG hS i0 i1 i2 hE wKQ wKP i8 i9
    exfalso; omega
  | succ m ih =>
    intro a1 a3 a4 M hG hS i0 i1 i2 hE wKQ wKP i8 i9
    show qT (b_X12_takesPast_150 n K135 (f_X12_takesPast_150 n K135 m) a1 a3 a4 M) _
    unfold b_X12_takesPast_150
    refine T_le rfl rfl (fun hq10_ => ?_) (fun hq10_ => ?_)
    · refine T_ql (i_add rfl l_1 (by omega) (by omega)) ?_
      intro xv11 hq12_
      exact hK135 a1 xv11 M hG hS (i_rng (lo := 1) (hi := 4) rfl (by omega) (by omega)) (i_rng (lo := 0) (hi := 4) rfl (by omega) (by omega)) (by omega) wKQ wKP (by omega)
    · refine T_qg rfl (by omega) (by omega) ?_
      refine T_qg rfl (by omega) (by omega) ?_
      have hq15_ := wKQ a3.toNatClampNeg (by rw [tnc]; omega)
      have hq16_ := r_116 hG a3.toNatClampNeg
      have hq17_ := wKQ a4.toNatClampNeg (by rw [tnc]; omega)
      have hq18_ := r_116 hG a4.toNatClampNeg
      refine T_qc (t_X12_isLike hn (M 116 a3.toNatClampNeg) (M 116 a4.toNatClampNeg) M hG (i_rng (lo := 0) (hi := 12) rfl (by omega) (by omega)) (i_rng (lo := 0) (hi := 11) rfl (by omega) (by omega))) ?_
      rintro rv13 mv14 ⟨hq19_, gq20_, kq21_⟩
      have kq22_ := Sm.call hS kq21_ rfl
      have hq23_ := (fun h_ => KQ_c (funext (fun s_ => kq21_ 116 s_ (outc rfl))) h_) wKQ
      have hq24_ := (fun h_ => KP_c (kq21_ 77 61 (by decide)) (funext (fun s_ => kq21_ 84 s_ (outc rfl))) h_) wKP
      refine T_eq rfl l_0 (fun hq25_ => ?_) (fun hq25_ => ?_)
      · refine T_ql (i_add rfl l_1 (by omega) (by omega)) ?_
        intro xv26 hq27_
        exact ih a1 a3 xv26 mv14 gq20_ kq22_ (i_rng (lo := 1) (hi := 4) rfl (by omega) (by omega)) (i_rng (lo := 0) (hi := 3) rfl (by omega) (by omega)) (i_rng (lo := 0) (hi := 4) rfl (by omega) (by omega)) (by omega) hq23_ hq24_ (by omega) (by omega)
      · refine T_qg rfl (by omega) (by omega) ?_
        refine T_qg rfl (by omega) (by omega) ?_
        have hq29_ := i_shl1 (c := 3) (k := a4) (by decide) rfl (by omega) (by omega)
        refine T_mu gq20_ kq22_ (rn_117 _ _) (nw_117 _) (i := 2) rfl ⟨by decide, by decide, Or.inl rfl⟩ ?_
        intro mv28 hq30_ gq31_ kq32_
        have hq33_ := (fun h_ => KQ_c (M := mv14) (M' := mv28) (by rw [hq30_, mu_nc (by decide)]) h_) hq23_
        have hq34_ := (fun h_ => KP_c (M := mv14) (M' := mv28) (by rw [hq30_, mu_ne (Or.inl (by decide))]) (by rw [hq30_, mu_nc (by decide)]) h_) hq24_
        have hq35_ : (mv28 117 a3.toNatClampNeg).toInt = ((mv14 117 a3.toNatClampNeg) ||| ((1 : Int32) <<< (a4 &&& 31))).toInt := by rw [hq30_, mu_at]
        refine T_ql (i_add rfl l_1 (by omega) (by omega)) ?_
        intro xv36 hq37_
        exact ih a1 a3 xv36 mv28 gq31_ kq32_ (i_rng (lo := 1) (hi := 4) rfl (by omega) (by omega)) (i_rng (lo := 0) (hi := 3) rfl (by omega) (by omega)) (i_rng (lo := 0) (hi := 4) rfl (by omega) (by omega)) (by omega) hq33_ hq34_ (by omega) (by omega)
theorem t_X12_takesPast_42 {n : Nat} (hn : 200000 ≤ n) {oa1 oa2 : Int32} {M0 : qM} {K7 : Int32 → Int32 → Int32 → qM → qR} {BK7 : Nat} (hK7 : ∀ (a1 a2 a3 : Int32) (M : qM), G M → Sm l_X12_takesPast M0 M → 1 ≤ a1.toInt ∧ a1.toInt ≤ 4 → 0 ≤ a2.toInt ∧ a2.toInt ≤ 10 → 0 ≤ a3.toInt ∧ a3.toInt ≤ 4 → (a1.toInt = oa1.toInt ∧ a2.toInt = oa2.toInt ∧ (M 77 61).toInt = oa1.toInt ∧ (∀ i : Nat, (i : Int) < a3.toInt → 0 ≤ (M 116 i).toInt ∧ (M 116 i).toInt ≤ 11)) → 4 - a3.toInt < (BK7 : Int) → qT (K7 a1 a2 a3 M) (po_X12_takesPast oa1 oa2 M0)) : ∀ (m : Nat) (a1 a2 a3 a4 : Int32) (M : qM), G M → Sm l_X12_takesPast M0 M → 1 ≤ a1.toInt ∧ a1.toInt ≤ 4 → 0 ≤ a2.toInt ∧ a2.toInt ≤ 10 → 0 ≤ a3.toInt ∧ a3.toInt ≤ 3 → 0 ≤ a4.toInt ∧ a4.toInt ≤ 3 → (a1.toInt = oa1.toInt ∧ a2.toInt = oa2.toInt ∧ (M 77 61).toInt = oa1.toInt ∧ (∀ i : Nat, (i : Int) < a3.toInt + 1 → 0 ≤ (M 116 i).toInt ∧ (M 116 i).toInt ≤ 11)) → 4 - a3.toInt < (BK7 : Int) + 1 → 3 - a4.toInt < (m : Int) → qT (f_X12_takesPast_42 n K7 m a1 a2 a3 a4 M) (po_X12_takesPast oa1 oa2 M0) := by
  intro m
  induction m with
  | zero =>
    intro a1 a2 a3 a4 M hG hS i0 i1 i2 i3 hE i7 i8
    have hq44_ := r_77_61 hG
    exfalso; omega
  | succ m ih =>
    intro a1 a2 a3 a4 M hG hS i0 i1 i2 i3 hE i7 i8
    show qT (b_X12_takesPast_42 n K7 (f_X12_takesPast_42 n K7 m) a1 a2 a3 a4 M) _
    unfold b_X12_takesPast_42
    have hq44_ := r_77_61 hG
    refine T_le rfl rfl (fun hq45_ => ?_) (fun hq45_ => ?_)
    · refine T_ql (i_add rfl l_1 (by omega) (by omega)) ?_
      intro xv46 hq47_
      exact hK7 a1 a2 xv46 M hG hS (i_rng (lo := 1) (hi := 4) rfl (by omega) (by omega)) (i_rng (lo := 0) (hi := 10) rfl (by omega) (by omega)) (i_rng (lo := 0) (hi := 4) rfl (by omega) (by omega)) (by first | exact ⟨rfl, rfl, by omega, fun i hi => absurd hi (by omega)⟩ | exact ⟨by omega, by omega, by omega, fun i hi => hE.2.2.2 i (by omega)⟩) (by omega)
    · refine T_qg rfl (by omega) (by omega) ?_
      refine T_qg rfl (by omega) (by omega) ?_
      have hq48_ := r_116 hG a4.toNatClampNeg
      have hq49_ := r_116 hG a3.toNatClampNeg
      refine T_eq rfl rfl (fun hq50_ => ?_) (fun hq50_ => ?_)
      · exact T_ret ⟨(i_rng (lo := 0) (hi := 1) l_0 (by omega) (by omega)), (Or.inl (by first | exact l_0 | omega)), hG, hS⟩
      · refine T_ql (i_add rfl l_1 (by omega) (by omega)) ?_
        intro xv51 hq52_
        exact ih a1 a2 a3 xv51 M hG hS (i_rng (lo := 1) (hi := 4) rfl (by omega) (by omega)) (i_rng (lo := 0) (hi := 10) rfl (by omega) (by omega)) (i_rng (lo := 0) (hi := 3) rfl (by omega) (by omega)) (i_rng (lo := 0) (hi := 3) rfl (by omega) (by omega)) (by first | exact ⟨by omega, by omega, by omega, hE.2.2.2⟩ | exact ⟨by omega, by omega, by omega, fun i hi => kAll_step (M := M) (a := a3) (x := a3 + 1) (fun s_ hs_ => by rfl) hE.2.2.2 (by omega) (i_add rfl l_1 (by omega) (by omega)) (by omega) (by omega) i (by rw [i_add rfl l_1 (by omega) (by omega)]; omega)⟩) (by omega) (by omega)
theorem t_X12_takesPast_135 {n : Nat} (hn : 200000 ≤ n) {oa1 oa2 : Int32} {M0 : qM} : ∀ (m : Nat) (a1 a3 : Int32) (M : qM), G M → Sm l_X12_takesPast M0 M → 1 ≤ a1.toInt ∧ a1.toInt ≤ 4 → 0 ≤ a3.toInt ∧ a3.toInt ≤ 4 → a1.toInt = oa1.toInt → KQ oa1 M → KP oa2 M → 4 - a3.toInt < (m : Int) → qT (f_X12_takesPast_135 n m a1 a3 M) (po_X12_takesPast oa1 oa2 M0) := by
  intro m
  induction m with
  | zero =>
    intro a1 a3 M hG hS i0 i1 hE wKQ wKP i7
    exfalso; omega
  | succ m ih =>
    intro a1 a3 M hG hS i0 i1 hE wKQ wKP i7
    show qT (b_X12_takesPast_135 n (f_X12_takesPast_135 n m) a1 a3 M) _
    unfold b_X12_takesPast_135
    refine T_le rfl rfl (fun hq56_ => ?_) (fun hq56_ => ?_)
    · exact T_ret ⟨(i_rng (lo := 0) (hi := 1) l_1 (by omega) (by omega)), (Or.inr wKP), hG, hS⟩
    · refine T_qg rfl (by omega) (by omega) ?_
      refine T_mu hG hS (rn_117 _ _) (nw_117 _) (i := 2) rfl ⟨by decide, by decide, Or.inl rfl⟩ ?_
      intro mv57 hq58_ gq59_ kq60_
      have hq61_ := (fun h_ => KQ_c (M := M) (M' := mv57) (by rw [hq58_, mu_nc (by decide)]) h_) wKQ
      have hq62_ := (fun h_ => KP_c (M := M) (M' := mv57) (by rw [hq58_, mu_ne (Or.inl (by decide))]) (by rw [hq58_, mu_nc (by decide)]) h_) wKP
      have hq63_ : (mv57 117 a3.toNatClampNeg).toInt = 0 := by rw [hq58_, mu_at]; exact l_0
      exact (t_X12_takesPast_150 hn ih) n a1 a3 (0 : Int32) mv57 gq59_ kq60_ (i_rng (lo := 1) (hi := 4) rfl (by omega) (by omega)) (i_rng (lo := 0) (hi := 3) rfl (by omega) (by omega)) (i_rng (lo := 0) (hi := 4) l_0 (by omega) (by omega)) (by have e2 : ((0 : Int32)).toInt = _ := l_0; omega) hq61_ hq62_ (by omega) (by have e2 : ((0 : Int32)).toInt = _ := l_0; omega)
theorem t_X12_takesPast_80 {n : Nat} (hn : 200000 ≤ n) {oa1 oa2 : Int32} {M0 : qM} : ∀ (m : Nat) (a1 a2 a3 : Int32) (M : qM), G M → Sm l_X12_takesPast M0 M → 1 ≤ a1.toInt ∧ a1.toInt ≤ 4 → 0 ≤ a2.toInt ∧ a2.toInt ≤ 10 → 0 ≤ a3.toInt ∧ a3.toInt ≤ 10 → (a1.toInt = oa1.toInt ∧ a2.toInt = oa2.toInt ∧ (M 77 61).toInt = oa1.toInt ∧ ∀ q : Nat, (q : Int) < a3.toInt → 0 ≤ (M 84 ((M 77 61).toInt.toNat + 2 * q)).toInt ∧ (M 84 ((M 77 61).toInt.toNat + 2 * q)).toInt ≤ (M 77 61).toInt - 1) → KQ oa1 M → 10 - a3.toInt < (m : Int) → qT (f_X12_takesPast_80 n m a1 a2 a3 M) (po_X12_takesPast oa1 oa2 M0) := by
  intro m
  induction m with
  | zero =>
    intro a1 a2 a3 M hG hS i0 i1 i2 hE wKQ i7
    have hq65_ := r_77_61 hG
    exfalso; omega
  | succ m ih =>
    intro a1 a2 a3 M hG hS i0 i1 i2 hE wKQ i7
    show qT (b_X12_takesPast_80 n (f_X12_takesPast_80 n m) a1 a2 a3 M) _
    unfold b_X12_takesPast_80
    have hq65_ := r_77_61 hG
    refine T_le rfl rfl (fun hq66_ => ?_) (fun hq66_ => ?_)
    · exact (t_X12_takesPast_135 hn) n a1 (0 : Int32) M hG hS (i_rng (lo := 1) (hi := 4) rfl (by omega) (by omega)) (i_rng (lo := 0) (hi := 4) l_0 (by omega) (by omega)) (by have e1 : ((0 : Int32)).toInt = _ := l_0; omega) wKQ (fun q hq => hE.2.2.2 q (by omega)) (by have e1 : ((0 : Int32)).toInt = _ := l_0; omega)
    · refine T_qg (i_add rfl (i_mul l_2 rfl (by omega) (by omega)) (by omega) (by omega)) (by omega) (by omega) ?_
      have hq69_ := r_84 hG ((a1 + ((2 : Int32) * a3)).toNatClampNeg)
      have hq70_ := (show ((0 : Int32)).toInt = _ from l_0)
      have hq71_ := (show (a1 - (1 : Int32)).toInt = _ from (i_sub rfl l_1 (by omega) (by omega)))
      refine T_qc (t_X12_in hn (M 84 ((a1 + ((2 : Int32) * a3)).toNatClampNeg)) (0 : Int32) (a1 - (1 : Int32)) M hG (i_rng (lo := 0) (hi := 70) l_0 (by omega) (by omega)) (i_rng (lo := 0) (hi := 99999) (i_sub rfl l_1 (by omega) (by omega)) (by omega) (by omega))) ?_
      rintro rv67 mv68 ⟨hq72_, hq73_, gq74_, kq75_⟩
      have hq76_ := kq75_.nil
      subst hq76_
      refine T_eq rfl l_0 (fun hq77_ => ?_) (fun hq77_ => ?_)
      · exact T_ret ⟨(i_rng (lo := 0) (hi := 1) l_0 (by omega) (by omega)), (Or.inl (by first | exact l_0 | omega)), hG, hS⟩
      · refine T_qg (i_add (i_add rfl (i_mul l_2 rfl (by omega) (by omega)) (by omega) (by omega)) l_1 (by omega) (by omega)) (by omega) (by omega) ?_
        have hq80_ := r_84 hG (((a1 + ((2 : Int32) * a3)) + (1 : Int32)).toNatClampNeg)
        have hq81_ := (show ((1 : Int32)).toInt = _ from l_1)
        refine T_qc (t_X12_in hn (M 84 (((a1 + ((2 : Int32) * a3)) + (1 : Int32)).toNatClampNeg)) (0 : Int32) (1 : Int32) M hG (i_rng (lo := 0) (hi := 70) l_0 (by omega) (by omega)) (i_rng (lo := 0) (hi := 99999) l_1 (by omega) (by omega))) ?_
        rintro rv78 mv79 ⟨hq82_, hq83_, gq84_, kq85_⟩
        have hq86_ := kq85_.nil
        subst hq86_
        refine T_eq rfl l_0 (fun hq87_ => ?_) (fun hq87_ => ?_)
        · exact T_ret ⟨(i_rng (lo := 0) (hi := 1) l_0 (by omega) (by omega)), (Or.inl (by first | exact l_0 | omega)), hG, hS⟩
        · refine T_ql (i_add rfl l_1 (by omega) (by omega)) ?_
          intro xv88 hq89_
          exact ih a1 a2 xv88 M hG hS (i_rng (lo := 1) (hi := 4) rfl (by omega) (by omega)) (i_rng (lo := 0) (hi := 10) rfl (by omega) (by omega)) (i_rng (lo := 0) (hi := 10) rfl (by omega) (by omega)) (by first | exact ⟨by omega, by omega, by omega, fun q hq => absurd hq (by omega)⟩ | exact ⟨by omega, by omega, by omega, kP_step (j := (a1 + ((2 : Int32) * a3)).toNatClampNeg) hE.2.2.2 (by omega) (by omega) (by rw [tnc, i_add rfl (i_mul l_2 rfl (by omega) (by omega)) (by omega) (by omega)]; omega) (by omega) (by omega)⟩) wKQ (by omega)
theorem t_X12_takesPast_7 {n : Nat} (hn : 200000 ≤ n) {oa1 oa2 : Int32} {M0 : qM} : ∀ (m : Nat) (a1 a2 a3 : Int32) (M : qM), G M → Sm l_X12_takesPast M0 M → 1 ≤ a1.toInt ∧ a1.toInt ≤ 4 → 0 ≤ a2.toInt ∧ a2.toInt ≤ 10 → 0 ≤ a3.toInt ∧ a3.toInt ≤ 4 → (a1.toInt = oa1.toInt ∧ a2.toInt = oa2.toInt ∧ (M 77 61).toInt = oa1.toInt ∧ (∀ i : Nat, (i : Int) < a3.toInt → 0 ≤ (M 116 i).toInt ∧ (M 116 i).toInt ≤ 11)) → 4 - a3.toInt < (m : Int) → qT (f_X12_takesPast_7 n m a1 a2 a3 M) (po_X12_takesPast oa1 oa2 M0) := by
  intro m
  induction m with
  | zero =>
    intro a1 a2 a3 M hG hS i0 i1 i2 hE i6
    have hq92_ := r_77_61 hG
    exfalso; omega
  | succ m ih =>
    intro a1 a2 a3 M hG hS i0 i1 i2 hE i6
    show qT (b_X12_takesPast_7 n (f_X12_takesPast_7 n m) a1 a2 a3 M) _
    unfold b_X12_takesPast_7
    have hq92_ := r_77_61 hG
    refine T_le rfl rfl (fun hq93_ => ?_) (fun hq93_ => ?_)
    · exact (t_X12_takesPast_80 hn) n a1 a2 (0 : Int32) M hG hS (i_rng (lo := 1) (hi := 4) rfl (by omega) (by omega)) (i_rng (lo := 0) (hi := 10) rfl (by omega) (by omega)) (i_rng (lo := 0) (hi := 10) l_0 (by omega) (by omega)) (by have e2 : ((0 : Int32)).toInt = _ := l_0; first | exact ⟨by omega, by omega, by omega, fun q hq => absurd hq (by omega)⟩ | exact ⟨by omega, by omega, by omega, kP_step (j := (a1 + ((2 : Int32) * a3)).toNatClampNeg) hE.2.2.2 (by omega) (by omega) (by rw [tnc, i_add rfl (i_mul l_2 rfl (by omega) (by omega)) (by omega) (by omega)]; omega) (by omega) (by omega)⟩) (fun i hi => hE.2.2.2 i (by omega)) (by have e2 : ((0 : Int32)).toInt = _ := l_0; omega)
    · refine T_qg rfl (by omega) (by omega) ?_
      refine T_qg rfl (by omega) (by omega) ?_
      have hq95_ := r_84 hG a3.toNatClampNeg
      refine T_mu hG hS (i_rng (lo := (-128)) (hi := 127) rfl (by omega) (by omega)) (nw_116 _) (i := 2) rfl ⟨by decide, by decide, Or.inl rfl⟩ ?_
      intro mv94 hq96_ gq97_ kq98_
      have hq99_ : (mv94 77 61).toInt = (M 77 61).toInt := by rw [hq96_, mu_ne (Or.inl (by decide))]
      have hq100_ : (mv94 116 a3.toNatClampNeg).toInt = (M 84 a3.toNatClampNeg).toInt := by rw [hq96_, mu_at]
      refine T_qg rfl (by omega) (by omega) ?_
      have hq103_ := r_116 gq97_ a3.toNatClampNeg
      refine T_qc (t_X12_isKind hn (mv94 116 a3.toNatClampNeg) mv94 gq97_ ) ?_
      rintro rv101 mv102 ⟨hq104_, hq105_, gq106_, kq107_⟩
      have hq108_ := kq107_.nil
      subst hq108_
      refine T_eq rfl l_0 (fun hq109_ => ?_) (fun hq109_ => ?_)
      · exact T_ret ⟨(i_rng (lo := 0) (hi := 1) l_0 (by omega) (by omega)), (Or.inl (by first | exact l_0 | omega)), gq97_, kq98_⟩
      · have hq110_ := r_77_61 gq97_
        exact (t_X12_takesPast_42 hn ih) n a1 a2 a3 (0 : Int32) mv94 gq97_ kq98_ (i_rng (lo := 1) (hi := 4) rfl (by omega) (by omega)) (i_rng (lo := 0) (hi := 10) rfl (by omega) (by omega)) (i_rng (lo := 0) (hi := 3) rfl (by omega) (by omega)) (i_rng (lo := 0) (hi := 3) l_0 (by omega) (by omega)) (by have e3 : ((0 : Int32)).toInt = _ := l_0; first | exact ⟨by omega, by omega, by omega, hE.2.2.2⟩ | exact ⟨by omega, by omega, by omega, fun i hi => kAll_step (M := M) (a := a3) (x := a3 + 1) (fun s_ hs_ => by rw [hq96_, mu_ne (Or.inr hs_)]) hE.2.2.2 (by omega) (i_add rfl l_1 (by omega) (by omega)) (by omega) (by omega) i (by rw [i_add rfl l_1 (by omega) (by omega)]; omega)⟩) (by omega) (by have e3 : ((0 : Int32)).toInt = _ := l_0; omega)
theorem t_X12_takesPast {n : Nat} (hn : 200000 ≤ n) (a1 a2 : Int32) (M : qM) (hG : G M) (pa1 : 1 ≤ a1.toInt ∧ a1.toInt ≤ 4) (pa2 : 0 ≤ a2.toInt ∧ a2.toInt ≤ 10) : qT (f_X12_takesPast n a1 a2 M) (po_X12_takesPast a1 a2 M) := by
  have hS : Sm l_X12_takesPast M M := Sm.rf
  unfold f_X12_takesPast
  refine T_mu hG hS (i_rng (lo := 0) (hi := 4) rfl (by omega) (by omega)) nw_77_61 (i := 0) rfl ⟨by decide, by decide, Or.inr ⟨by decide, by decide⟩⟩ ?_
  intro mv111 hq112_ gq113_ kq114_
  have hq115_ : (mv111 77 61).toInt = a1.toInt := by rw [hq112_, mu_at]
  have hq116_ := r_77_61 gq113_
  exact (t_X12_takesPast_7 hn) n a1 a2 (0 : Int32) mv111 gq113_ kq114_ (i_rng (lo := 1) (hi := 4) rfl (by omega) (by omega)) (i_rng (lo := 0) (hi := 10) rfl (by omega) (by omega)) (i_rng (lo := 0) (hi := 4) l_0 (by omega) (by omega)) (by have e2 : ((0 : Int32)).toInt = _ := l_0; first | exact ⟨rfl, rfl, by omega, fun i hi => absurd hi (by omega)⟩ | exact ⟨by omega, by omega, by omega, fun i hi => hE.2.2.2 i (by omega)⟩) (by have e2 : ((0 : Int32)).toInt = _ := l_0; omega)
abbrev l_X12_begins : List Bx := [(118, 119, 0, 0)]
abbrev po_X12_begins (a1 : Int32) (M : qM) (v : Int32) (M' : qM) : Prop := (0 ≤ v.toInt ∧ v.toInt ≤ 0) ∧ G M' ∧ Sm l_X12_begins M M'
theorem t_X12_begins_9 {n : Nat} (hn : 200000 ≤ n) {oa1 : Int32} {M0 : qM} : ∀ (m : Nat) (a2 a3 : Int32) (M : qM), G M → Sm l_X12_begins M0 M → 0 ≤ a2.toInt ∧ a2.toInt ≤ 255 → (-1) ≤ a3.toInt ∧ a3.toInt ≤ 3 → a3.toInt - (-1) < (m : Int) → qT (f_X12_begins_9 n m a2 a3 M) (po_X12_begins oa1 M0) := by
  intro m
  induction m with
  | zero =>
    intro a2 a3 M hG hS i0 i1 i4
    exfalso; omega
  | succ m ih =>
    intro a2 a3 M hG hS i0 i1 i4
    show qT (b_X12_begins_9 n (f_X12_begins_9 n m) a2 a3 M) _
    unfold b_X12_begins_9
    refine T_lt rfl l_0 (fun hq3_ => ?_) (fun hq3_ => ?_)
    · exact T_ret ⟨(i_rng (lo := 0) (hi := 0) l_0 (by omega) (by omega)), hG, hS⟩
    · refine T_qg rfl (by omega) (by omega) ?_
      refine T_mu hG hS (rn_118 _ _) (nw_118 _) (i := 0) rfl ⟨by decide, by decide, Or.inl rfl⟩ ?_
      intro mv4 hq5_ gq6_ kq7_
      have hq8_ : (mv4 118 a3.toNatClampNeg).toInt = (a2.toInt - ((a2.toInt / 4) * 4)) := by rw [hq5_, mu_at]; exact (i_sub rfl (i_mul (i_div rfl l_4 (by omega) (by omega)) l_4 (by omega) (by omega)) (by omega) (by omega))
      refine T_ql (i_div rfl l_4 (by omega) (by omega)) ?_
      intro xv9 hq10_
      refine T_ql (i_add rfl l_m1 (by omega) (by omega)) ?_
      intro xv11 hq12_
      exact ih xv9 xv11 mv4 gq6_ kq7_ (i_rng (lo := 0) (hi := 255) rfl (by omega) (by omega)) (i_rng (lo := (-1)) (hi := 3) rfl (by omega) (by omega)) (by omega)
theorem t_X12_begins {n : Nat} (hn : 200000 ≤ n) (a1 : Int32) (M : qM) (hG : G M) (pa1 : 0 ≤ a1.toInt ∧ a1.toInt ≤ 255) : qT (f_X12_begins n a1 M) (po_X12_begins a1 M) := by
  have hS : Sm l_X12_begins M M := Sm.rf
  unfold f_X12_begins
  have hq13_ := r_77_61 hG
  refine T_ql (i_sub rfl l_1 (by omega) (by omega)) ?_
  intro xv14 hq15_
  exact (t_X12_begins_9 hn) n a1 xv14 M hG hS (i_rng (lo := 0) (hi := 255) rfl (by omega) (by omega)) (i_rng (lo := (-1)) (hi := 3) rfl (by omega) (by omega)) (by omega)
abbrev l_X12_pastCounts : List Bx := []
abbrev po_X12_pastCounts (a1 a2 : Int32) (M : qM) (v : Int32) (M' : qM) : Prop := (0 ≤ v.toInt ∧ v.toInt ≤ 1) ∧ G M' ∧ Sm l_X12_pastCounts M M'
theorem t_X12_pastCounts_5 {n : Nat} (hn : 200000 ≤ n) {oa1 oa2 : Int32} {M0 : qM} : ∀ (m : Nat) (a1 a2 a3 a4 : Int32) (M : qM), G M → Sm l_X12_pastCounts M0 M → 0 ≤ a1.toInt ∧ a1.toInt ≤ 3 → 0 ≤ a2.toInt ∧ a2.toInt ≤ 9 → 0 ≤ a4.toInt ∧ a4.toInt ≤ 4 → 4 - a4.toInt < (m : Int) → qT (f_X12_pastCounts_5 n m a1 a2 a3 a4 M) (po_X12_pastCounts oa1 oa2 M0) := by
  intro m
  induction m with
  | zero =>
    intro a1 a2 a3 a4 M hG hS i0 i1 i2 i5
    exfalso; omega
  | succ m ih =>
    intro a1 a2 a3 a4 M hG hS i0 i1 i2 i5
    show qT (b_X12_pastCounts_5 n (f_X12_pastCounts_5 n m) a1 a2 a3 a4 M) _
    unfold b_X12_pastCounts_5
    have hq4_ := r_77_61 hG
    refine T_le rfl rfl (fun hq5_ => ?_) (fun hq5_ => ?_)
    · refine T_lt rfl rfl (fun hq6_ => ?_) (fun hq6_ => ?_)
      · exact T_ret ⟨(i_rng (lo := 0) (hi := 1) l_0 (by omega) (by omega)), hG, hS⟩
      · exact T_ret ⟨(i_rng (lo := 0) (hi := 1) l_1 (by omega) (by omega)), hG, hS⟩
    · refine T_qg rfl (by omega) (by omega) ?_
      refine T_qc (t_X12_has0 hn (M 117 a1.toNatClampNeg) a4 M hG (i_rng (lo := 0) (hi := 11) rfl (by omega) (by omega))) ?_
      rintro rv7 mv8 ⟨hq9_, hq10_, gq11_, kq12_⟩
      have hq13_ := kq12_.nil
      subst hq13_
      refine T_eq rfl l_0 (fun hq14_ => ?_) (fun hq14_ => ?_)
      · refine T_ql (i_add rfl l_1 (by omega) (by omega)) ?_
        intro xv15 hq16_
        exact ih a1 a2 a3 xv15 M hG hS (i_rng (lo := 0) (hi := 3) rfl (by omega) (by omega)) (i_rng (lo := 0) (hi := 9) rfl (by omega) (by omega)) (i_rng (lo := 0) (hi := 4) rfl (by omega) (by omega)) (by omega)
      · refine T_qg rfl (by omega) (by omega) ?_
        have hq17_ := i_full (a3)
        have hq18_ := i_full (M 118 a4.toNatClampNeg)
        refine T_ql rfl ?_
        intro xv19 hq20_
        refine T_ql (i_add rfl l_1 (by omega) (by omega)) ?_
        intro xv21 hq22_
        exact ih a1 a2 xv19 xv21 M hG hS (i_rng (lo := 0) (hi := 3) rfl (by omega) (by omega)) (i_rng (lo := 0) (hi := 9) rfl (by omega) (by omega)) (i_rng (lo := 0) (hi := 4) rfl (by omega) (by omega)) (by omega)
theorem t_X12_pastCounts {n : Nat} (hn : 200000 ≤ n) (a1 a2 : Int32) (M : qM) (hG : G M) (pa1 : 0 ≤ a1.toInt ∧ a1.toInt ≤ 3) (pa2 : 0 ≤ a2.toInt ∧ a2.toInt ≤ 9) : qT (f_X12_pastCounts n a1 a2 M) (po_X12_pastCounts a1 a2 M) := by
  have hS : Sm l_X12_pastCounts M M := Sm.rf
  unfold f_X12_pastCounts
  exact (t_X12_pastCounts_5 hn) n a1 a2 (0 : Int32) (0 : Int32) M hG hS (i_rng (lo := 0) (hi := 3) rfl (by omega) (by omega)) (i_rng (lo := 0) (hi := 9) rfl (by omega) (by omega)) (i_rng (lo := 0) (hi := 4) l_0 (by omega) (by omega)) (by have e2 : ((0 : Int32)).toInt = _ := l_0; have e3 : ((0 : Int32)).toInt = _ := l_0; omega)
abbrev l_X12_goesWith : List Bx := [(118, 119, 0, 0)]
abbrev po_X12_goesWith (a1 a2 a3 : Int32) (M : qM) (v : Int32) (M' : qM) : Prop := (0 ≤ v.toInt ∧ v.toInt ≤ 1) ∧ G M' ∧ Sm l_X12_goesWith M M'
theorem t_X12_goesWith_8 {n : Nat} (hn : 200000 ≤ n) {oa1 oa2 oa3 : Int32} {M0 : qM} : ∀ (m : Nat) (a2 a3 a4 : Int32) (M : qM), G M → Sm l_X12_goesWith M0 M → 0 ≤ a2.toInt ∧ a2.toInt ≤ 10 → 0 ≤ a3.toInt ∧ a3.toInt ≤ 9 → 0 ≤ a4.toInt ∧ a4.toInt ≤ 10 → KP a2 M → 10 - a4.toInt < (m : Int) → qT (f_X12_goesWith_8 n m a2 a3 a4 M) (po_X12_goesWith oa1 oa2 oa3 M0) := by
  intro m
  induction m with
  | zero =>
    intro a2 a3 a4 M hG hS i0 i1 i2 wKP i6
    exfalso; omega
  | succ m ih =>
    intro a2 a3 a4 M hG hS i0 i1 i2 wKP i6
    show qT (b_X12_goesWith_8 n (f_X12_goesWith_8 n m) a2 a3 a4 M) _
    unfold b_X12_goesWith_8
    refine T_le rfl rfl (fun hq4_ => ?_) (fun hq4_ => ?_)
    · exact T_ret ⟨(i_rng (lo := 0) (hi := 1) l_1 (by omega) (by omega)), hG, hS⟩
    · have hq5_ := r_77_61 hG
      refine T_qg (i_add rfl (i_mul l_2 rfl (by omega) (by omega)) (by omega) (by omega)) (by omega) (by omega) ?_
      have hq6_ := KP_rd wKP (i := ((M 77 61) + ((2 : Int32) * a4)).toNatClampNeg) (q := a4) (by rw [tnc, (i_add rfl (i_mul l_2 rfl (by omega) (by omega)) (by omega) (by omega))]; omega) (by omega) (by omega)
      have hq7_ := r_84 hG (((M 77 61) + ((2 : Int32) * a4)).toNatClampNeg)
      refine T_ql rfl ?_
      intro xv8 hq9_
      refine T_qc (t_X12_pastCounts hn xv8 a3 M hG (i_rng (lo := 0) (hi := 3) rfl (by omega) (by omega)) (i_rng (lo := 0) (hi := 9) rfl (by omega) (by omega))) ?_
      rintro rv10 mv11 ⟨hq12_, gq13_, kq14_⟩
      have hq15_ := kq14_.nil
      subst hq15_
      refine T_qg (i_add (i_add rfl (i_mul l_2 rfl (by omega) (by omega)) (by omega) (by omega)) l_1 (by omega) (by omega)) (by omega) (by omega) ?_
      have hq16_ := r_84 hG ((((M 77 61) + ((2 : Int32) * a4)) + (1 : Int32)).toNatClampNeg)
      refine T_eq rfl l_1 (fun hq17_ => ?_) (fun hq17_ => ?_)
      · unfold f_X12_goesWith_62
        refine T_eq rfl l_1 (fun hq18_ => ?_) (fun hq18_ => ?_)
        · refine T_qg rfl (by omega) (by omega) ?_
          refine T_qg rfl (by omega) (by omega) ?_
          have hq20_ := i_full (M 118 xv8.toNatClampNeg)
          refine T_mu hG hS (rn_118 _ _) (nw_118 _) (i := 0) rfl ⟨by decide, by decide, Or.inl rfl⟩ ?_
          intro mv19 hq21_ gq22_ kq23_
          have hq24_ := (fun h_ => KP_c (M := M) (M' := mv19) (by rw [hq21_, mu_ne (Or.inl (by decide))]) (by rw [hq21_, mu_nc (by decide)]) h_) wKP
          have hq25_ : (mv19 84 ((((M 77 61) + ((2 : Int32) * a4)) + (1 : Int32)).toNatClampNeg)).toInt = (M 84 ((((M 77 61) + ((2 : Int32) * a4)) + (1 : Int32)).toNatClampNeg)).toInt := by rw [hq21_, mu_ne (Or.inl (by decide))]
          have hq26_ : (mv19 118 xv8.toNatClampNeg).toInt = ((M 118 xv8.toNatClampNeg) + (1 : Int32)).toInt := by rw [hq21_, mu_at]
          refine T_ql (i_add rfl l_1 (by omega) (by omega)) ?_
          intro xv27 hq28_
          exact ih a2 a3 xv27 mv19 gq22_ kq23_ (i_rng (lo := 0) (hi := 10) rfl (by omega) (by omega)) (i_rng (lo := 0) (hi := 9) rfl (by omega) (by omega)) (i_rng (lo := 0) (hi := 10) rfl (by omega) (by omega)) hq24_ (by omega)
        · exact T_ret ⟨(i_rng (lo := 0) (hi := 1) l_0 (by omega) (by omega)), hG, hS⟩
      · unfold f_X12_goesWith_62
        refine T_eq rfl l_0 (fun hq29_ => ?_) (fun hq29_ => ?_)
        · refine T_qg rfl (by omega) (by omega) ?_
          refine T_qg rfl (by omega) (by omega) ?_
          have hq31_ := i_full (M 118 xv8.toNatClampNeg)
          refine T_mu hG hS (rn_118 _ _) (nw_118 _) (i := 0) rfl ⟨by decide, by decide, Or.inl rfl⟩ ?_
          intro mv30 hq32_ gq33_ kq34_
          have hq35_ := (fun h_ => KP_c (M := M) (M' := mv30) (by rw [hq32_, mu_ne (Or.inl (by decide))]) (by rw [hq32_, mu_nc (by decide)]) h_) wKP
          have hq36_ : (mv30 84 ((((M 77 61) + ((2 : Int32) * a4)) + (1 : Int32)).toNatClampNeg)).toInt = (M 84 ((((M 77 61) + ((2 : Int32) * a4)) + (1 : Int32)).toNatClampNeg)).toInt := by rw [hq32_, mu_ne (Or.inl (by decide))]
          have hq37_ : (mv30 118 xv8.toNatClampNeg).toInt = ((M 118 xv8.toNatClampNeg) + (1 : Int32)).toInt := by rw [hq32_, mu_at]
          refine T_ql (i_add rfl l_1 (by omega) (by omega)) ?_
          intro xv38 hq39_
          exact ih a2 a3 xv38 mv30 gq33_ kq34_ (i_rng (lo := 0) (hi := 10) rfl (by omega) (by omega)) (i_rng (lo := 0) (hi := 9) rfl (by omega) (by omega)) (i_rng (lo := 0) (hi := 10) rfl (by omega) (by omega)) hq35_ (by omega)
        · exact T_ret ⟨(i_rng (lo := 0) (hi := 1) l_0 (by omega) (by omega)), hG, hS⟩
theorem t_X12_goesWith {n : Nat} (hn : 200000 ≤ n) (a1 a2 a3 : Int32) (M : qM) (hG : G M) (pa1 : 0 ≤ a1.toInt ∧ a1.toInt ≤ 255) (pa2 : 0 ≤ a2.toInt ∧ a2.toInt ≤ 10) (pa3 : 0 ≤ a3.toInt ∧ a3.toInt ≤ 9) (wKP : KP a2 M) : qT (f_X12_goesWith n a1 a2 a3 M) (po_X12_goesWith a1 a2 a3 M) := by
  have hS : Sm l_X12_goesWith M M := Sm.rf
  unfold f_X12_goesWith
  refine T_qc (t_X12_begins hn a1 M hG (i_rng (lo := 0) (hi := 255) rfl (by omega) (by omega))) ?_
  rintro rv40 mv41 ⟨hq42_, gq43_, kq44_⟩
  have kq45_ := Sm.call hS kq44_ rfl
  have hq46_ := (fun h_ => KP_c (kq44_ 77 61 (by decide)) (funext (fun s_ => kq44_ 84 s_ (outc rfl))) h_) wKP
  exact (t_X12_goesWith_8 hn) n a2 a3 (0 : Int32) mv41 gq43_ kq45_ (i_rng (lo := 0) (hi := 10) rfl (by omega) (by omega)) (i_rng (lo := 0) (hi := 9) rfl (by omega) (by omega)) (i_rng (lo := 0) (hi := 10) l_0 (by omega) (by omega)) hq46_ (by have e2 : ((0 : Int32)).toInt = _ := l_0; omega)

abbrev l_X12_greaterBy : List Bx := [(118, 119, 0, 0)]
abbrev po_X12_greaterBy (a1 a2 a3 a4 : Int32) (M : qM) (v : Int32) (M' : qM) : Prop := G M' ∧ Sm l_X12_greaterBy M M'
theorem t_X12_greaterBy_9 {n : Nat} (hn : 200000 ≤ n) {oa1 oa2 oa3 oa4 : Int32} {M0 : qM} : ∀ (m : Nat) (a1 a2 a3 a4 a5 a6 a7 : Int32) (M : qM), G M → Sm l_X12_greaterBy M0 M → 0 ≤ a1.toInt ∧ a1.toInt ≤ 3 → 1 ≤ a2.toInt ∧ a2.toInt ≤ 256 → 0 ≤ a3.toInt ∧ a3.toInt ≤ 10 → 0 ≤ a4.toInt ∧ a4.toInt ≤ 9 → 0 ≤ a7.toInt ∧ a7.toInt ≤ 256 → KP a3 M → 256 - a7.toInt < (m : Int) → qT (f_X12_greaterBy_9 n m a1 a2 a3 a4 a5 a6 a7 M) (po_X12_greaterBy oa1 oa2 oa3 oa4 M0) := by
  intro m
  induction m with
  | zero =>
    intro a1 a2 a3 a4 a5 a6 a7 M hG hS i0 i1 i2 i3 i4 wKP i8
    exfalso; omega
  | succ m ih =>
    intro a1 a2 a3 a4 a5 a6 a7 M hG hS i0 i1 i2 i3 i4 wKP i8
    show qT (b_X12_greaterBy_9 n (f_X12_greaterBy_9 n m) a1 a2 a3 a4 a5 a6 a7 M) _
    unfold b_X12_greaterBy_9
    refine T_le rfl rfl (fun hq7_ => ?_) (fun hq7_ => ?_)
    · have hq10_ := i_full (a6)
      have hq11_ := i_full (a5)
      refine T_qc (t_X12_max hn a5 (a6 - a5) M hG ) ?_
      rintro rv8 mv9 ⟨gq12_, kq13_⟩
      have hq14_ := kq13_.nil
      subst hq14_
      exact T_ret ⟨hG, hS⟩
    · refine T_qg rfl (by omega) (by omega) ?_
      have hq15_ := r_119 hG a7.toNatClampNeg
      refine T_eq rfl l_0 (fun hq16_ => ?_) (fun hq16_ => ?_)
      · refine T_ql (i_add rfl l_1 (by omega) (by omega)) ?_
        intro xv17 hq18_
        exact ih a1 a2 a3 a4 a5 a6 xv17 M hG hS (i_rng (lo := 0) (hi := 3) rfl (by omega) (by omega)) (i_rng (lo := 1) (hi := 256) rfl (by omega) (by omega)) (i_rng (lo := 0) (hi := 10) rfl (by omega) (by omega)) (i_rng (lo := 0) (hi := 9) rfl (by omega) (by omega)) (i_rng (lo := 0) (hi := 256) rfl (by omega) (by omega)) wKP (by omega)
      · refine T_qc (t_X12_goesWith hn a7 a3 a4 M hG (i_rng (lo := 0) (hi := 255) rfl (by omega) (by omega)) (i_rng (lo := 0) (hi := 10) rfl (by omega) (by omega)) (i_rng (lo := 0) (hi := 9) rfl (by omega) (by omega)) wKP) ?_
        rintro rv19 mv20 ⟨hq21_, gq22_, kq23_⟩
        have kq24_ := Sm.call hS kq23_ rfl
        have hq25_ := (fun h_ => KP_c (kq23_ 77 61 (by decide)) (funext (fun s_ => kq23_ 84 s_ (outc rfl))) h_) wKP
        have hq26_ : (mv20 119 a7.toNatClampNeg).toInt = (M 119 a7.toNatClampNeg).toInt := by rw [kq23_ 119 _ (outc rfl)]
        have hq27_ := i_full (a6)
        refine T_ql rfl ?_
        intro xv28 hq29_
        refine T_qc (t_X12_pastCounts hn a1 a4 mv20 gq22_ (i_rng (lo := 0) (hi := 3) rfl (by omega) (by omega)) (i_rng (lo := 0) (hi := 9) rfl (by omega) (by omega))) ?_
        rintro rv30 mv31 ⟨hq32_, gq33_, kq34_⟩
        have hq35_ := kq34_.nil
        subst hq35_
        refine T_eq rfl l_0 (fun hq36_ => ?_) (fun hq36_ => ?_)
        · unfold f_X12_greaterBy_61
          have hq37_ := i_full (a5)
          refine T_ql (i_add rfl l_0 (by omega) (by omega)) ?_
          intro xv38 hq39_
          refine T_ql (i_add rfl l_1 (by omega) (by omega)) ?_
          intro xv40 hq41_
          exact ih a1 a2 a3 a4 xv38 xv28 xv40 mv20 gq22_ kq24_ (i_rng (lo := 0) (hi := 3) rfl (by omega) (by omega)) (i_rng (lo := 1) (hi := 256) rfl (by omega) (by omega)) (i_rng (lo := 0) (hi := 10) rfl (by omega) (by omega)) (i_rng (lo := 0) (hi := 9) rfl (by omega) (by omega)) (i_rng (lo := 0) (hi := 256) rfl (by omega) (by omega)) hq25_ (by omega)
        · unfold f_X12_greaterBy_61
          have hq42_ := i_full (a5)
          refine T_ql rfl ?_
          intro xv43 hq44_
          refine T_ql (i_add rfl l_1 (by omega) (by omega)) ?_
          intro xv45 hq46_
          exact ih a1 a2 a3 a4 xv43 xv28 xv45 mv20 gq22_ kq24_ (i_rng (lo := 0) (hi := 3) rfl (by omega) (by omega)) (i_rng (lo := 1) (hi := 256) rfl (by omega) (by omega)) (i_rng (lo := 0) (hi := 10) rfl (by omega) (by omega)) (i_rng (lo := 0) (hi := 9) rfl (by omega) (by omega)) (i_rng (lo := 0) (hi := 256) rfl (by omega) (by omega)) hq25_ (by omega)
theorem t_X12_greaterBy {n : Nat} (hn : 200000 ≤ n) (a1 a2 a3 a4 : Int32) (M : qM) (hG : G M) (pa1 : 0 ≤ a1.toInt ∧ a1.toInt ≤ 3) (pa2 : 1 ≤ a2.toInt ∧ a2.toInt ≤ 256) (pa3 : 0 ≤ a3.toInt ∧ a3.toInt ≤ 10) (pa4 : 0 ≤ a4.toInt ∧ a4.toInt ≤ 9) (wKP : KP a3 M) : qT (f_X12_greaterBy n a1 a2 a3 a4 M) (po_X12_greaterBy a1 a2 a3 a4 M) := by
  have hS : Sm l_X12_greaterBy M M := Sm.rf
  unfold f_X12_greaterBy
  exact (t_X12_greaterBy_9 hn) n a1 a2 a3 a4 (0 : Int32) (0 : Int32) (0 : Int32) M hG hS (i_rng (lo := 0) (hi := 3) rfl (by omega) (by omega)) (i_rng (lo := 1) (hi := 256) rfl (by omega) (by omega)) (i_rng (lo := 0) (hi := 10) rfl (by omega) (by omega)) (i_rng (lo := 0) (hi := 9) rfl (by omega) (by omega)) (i_rng (lo := 0) (hi := 256) l_0 (by omega) (by omega)) wKP (by have e4 : ((0 : Int32)).toInt = _ := l_0; have e5 : ((0 : Int32)).toInt = _ := l_0; have e6 : ((0 : Int32)).toInt = _ := l_0; omega)
abbrev l_X12_histories : List Bx := [(77, 78, 8, 9), (77, 78, 61, 62), (96, 98, 0, 0), (116, 120, 0, 0)]
abbrev po_X12_histories (a1 a2 a3 a4 : Int32) (M : qM) (v : Int32) (M' : qM) : Prop := (((1 ≤ a1.toInt ∧ a1.toInt ≤ 4 ∧ 0 ≤ a2.toInt ∧ a2.toInt ≤ 10 ∧ 0 ≤ a3.toInt ∧ a3.toInt ≤ 9 ∧ 0 ≤ a4.toInt ∧ a4.toInt ≤ 2 ∧ a1.toInt + 2 * a2.toInt ≤ (M 77 8).toInt) ∧ (M' 77 8).toInt = 0) ∨ (¬ (1 ≤ a1.toInt ∧ a1.toInt ≤ 4 ∧ 0 ≤ a2.toInt ∧ a2.toInt ≤ 10 ∧ 0 ≤ a3.toInt ∧ a3.toInt ≤ 9 ∧ 0 ≤ a4.toInt ∧ a4.toInt ≤ 2 ∧ a1.toInt + 2 * a2.toInt ≤ (M 77 8).toInt) ∧ (M' 77 8).toInt = (M 77 8).toInt)) ∧ G M' ∧ Sm l_X12_histories M M'
theorem t_X12_histories_184 {n : Nat} (hn : 200000 ≤ n) {oa1 oa2 oa3 oa4 : Int32} {M0 : qM} : ∀ (m : Nat) (a1 a2 a3 a5 a8 a9 : Int32) (M : qM), G M → Sm l_X12_histories M0 M → 1 ≤ a1.toInt ∧ a1.toInt ≤ 4 → 0 ≤ a2.toInt ∧ a2.toInt ≤ 10 → 0 ≤ a3.toInt ∧ a3.toInt ≤ 9 → 1 ≤ a5.toInt ∧ a5.toInt ≤ 256 → 0 ≤ a8.toInt ∧ a8.toInt ≤ 3 → 1 ≤ a9.toInt ∧ a9.toInt ≤ 4 → ((1 ≤ oa1.toInt ∧ oa1.toInt ≤ 4 ∧ 0 ≤ oa2.toInt ∧ oa2.toInt ≤ 10 ∧ 0 ≤ oa3.toInt ∧ oa3.toInt ≤ 9 ∧ 0 ≤ oa4.toInt ∧ oa4.toInt ≤ 2 ∧ oa1.toInt + 2 * oa2.toInt ≤ (M0 77 8).toInt) ∧ (M 77 8).toInt = 0) → KP a2 M → 4 - a9.toInt < (m : Int) → qT (f_X12_histories_184 n m a1 a2 a3 a5 a8 a9 M) (po_X12_histories oa1 oa2 oa3 oa4 M0) := by
  intro m
  induction m with
  | zero =>
    intro a1 a2 a3 a5 a8 a9 M hG hS i0 i1 i2 i3 i4 i5 hE wKP i10
    have hq3_ := r_77_8 hG
    exfalso; omega
  | succ m ih =>
    intro a1 a2 a3 a5 a8 a9 M hG hS i0 i1 i2 i3 i4 i5 hE wKP i10
    show qT (b_X12_histories_184 n (f_X12_histories_184 n m) a1 a2 a3 a5 a8 a9 M) _
    unfold b_X12_histories_184
    have hq3_ := r_77_8 hG
    refine T_le rfl rfl (fun hq4_ => ?_) (fun hq4_ => ?_)
    · exact T_ret ⟨(by have e9 : (a8).toInt = _ := rfl; omega), hG, hS⟩
    · refine T_qc (t_X12_greaterBy hn a9 a5 a2 a3 M hG (i_rng (lo := 0) (hi := 3) rfl (by omega) (by omega)) (i_rng (lo := 1) (hi := 256) rfl (by omega) (by omega)) (i_rng (lo := 0) (hi := 10) rfl (by omega) (by omega)) (i_rng (lo := 0) (hi := 9) rfl (by omega) (by omega)) wKP) ?_
      rintro rv5 mv6 ⟨gq7_, kq8_⟩
      have kq9_ := Sm.call hS kq8_ rfl
      have hq10_ := (fun h_ => KP_c (kq8_ 77 61 (by decide)) (funext (fun s_ => kq8_ 84 s_ (outc rfl))) h_) wKP
      have hq11_ : (mv6 77 8).toInt = (M 77 8).toInt := by rw [kq8_ 77 8 (by decide)]
      refine T_qc (t_X12_greaterBy hn a8 a5 a2 a3 mv6 gq7_ (i_rng (lo := 0) (hi := 3) rfl (by omega) (by omega)) (i_rng (lo := 1) (hi := 256) rfl (by omega) (by omega)) (i_rng (lo := 0) (hi := 10) rfl (by omega) (by omega)) (i_rng (lo := 0) (hi := 9) rfl (by omega) (by omega)) hq10_) ?_
      rintro rv12 mv13 ⟨gq14_, kq15_⟩
      have kq16_ := Sm.call kq9_ kq15_ rfl
      have hq17_ := (fun h_ => KP_c (kq15_ 77 61 (by decide)) (funext (fun s_ => kq15_ 84 s_ (outc rfl))) h_) hq10_
      have hq18_ : (mv13 77 8).toInt = (mv6 77 8).toInt := by rw [kq15_ 77 8 (by decide)]
      refine T_le rfl rfl (fun hq19_ => ?_) (fun hq19_ => ?_)
      · refine T_ql (i_add rfl l_1 (by omega) (by omega)) ?_
        intro xv20 hq21_
        have hq22_ := r_77_8 gq14_
        exact ih a1 a2 a3 a5 a8 xv20 mv13 gq14_ kq16_ (i_rng (lo := 1) (hi := 4) rfl (by omega) (by omega)) (i_rng (lo := 0) (hi := 10) rfl (by omega) (by omega)) (i_rng (lo := 0) (hi := 9) rfl (by omega) (by omega)) (i_rng (lo := 1) (hi := 256) rfl (by omega) (by omega)) (i_rng (lo := 0) (hi := 3) rfl (by omega) (by omega)) (i_rng (lo := 1) (hi := 4) rfl (by omega) (by omega)) (by omega) hq17_ (by omega)
      · refine T_ql (i_add rfl l_1 (by omega) (by omega)) ?_
        intro xv23 hq24_
        have hq25_ := r_77_8 gq14_
        exact ih a1 a2 a3 a5 a9 xv23 mv13 gq14_ kq16_ (i_rng (lo := 1) (hi := 4) rfl (by omega) (by omega)) (i_rng (lo := 0) (hi := 10) rfl (by omega) (by omega)) (i_rng (lo := 0) (hi := 9) rfl (by omega) (by omega)) (i_rng (lo := 1) (hi := 256) rfl (by omega) (by omega)) (i_rng (lo := 0) (hi := 3) rfl (by omega) (by omega)) (i_rng (lo := 1) (hi := 4) rfl (by omega) (by omega)) (by omega) hq17_ (by omega)
theorem t_X12_histories_87 {n : Nat} (hn : 200000 ≤ n) {oa1 oa2 oa3 oa4 : Int32} {M0 : qM} : ∀ (m : Nat) (a1 a2 a3 a4 a5 a6 a7 a8 : Int32) (M : qM), G M → Sm l_X12_histories M0 M → 1 ≤ a1.toInt ∧ a1.toInt ≤ 4 → 0 ≤ a2.toInt ∧ a2.toInt ≤ 10 → 0 ≤ a3.toInt ∧ a3.toInt ≤ 9 → 0 ≤ a4.toInt ∧ a4.toInt ≤ 2 → 1 ≤ a5.toInt ∧ a5.toInt ≤ 256 → (-2) ≤ a7.toInt ∧ a7.toInt ≤ 255 → 0 ≤ a8.toInt ∧ a8.toInt ≤ 256 → ((1 ≤ oa1.toInt ∧ oa1.toInt ≤ 4 ∧ 0 ≤ oa2.toInt ∧ oa2.toInt ≤ 10 ∧ 0 ≤ oa3.toInt ∧ oa3.toInt ≤ 9 ∧ 0 ≤ oa4.toInt ∧ oa4.toInt ≤ 2 ∧ oa1.toInt + 2 * oa2.toInt ≤ (M0 77 8).toInt) ∧ (M 77 8).toInt = 0) → KP a2 M → 256 - a8.toInt < (m : Int) → qT (f_X12_histories_87 n m a1 a2 a3 a4 a5 a6 a7 a8 M) (po_X12_histories oa1 oa2 oa3 oa4 M0) := by
  intro m
  induction m with
  | zero =>
    intro a1 a2 a3 a4 a5 a6 a7 a8 M hG hS i0 i1 i2 i3 i4 i5 i6 hE wKP i11
    have hq38_ := r_77_8 hG
    exfalso; omega
  | succ m ih =>
    intro a1 a2 a3 a4 a5 a6 a7 a8 M hG hS i0 i1 i2 i3 i4 i5 i6 hE wKP i11
    show qT (b_X12_histories_87 n (f_X12_histories_87 n m) a1 a2 a3 a4 a5 a6 a7 a8 M) _
    unfold b_X12_histories_87
    have hq38_ := r_77_8 hG
    refine T_le rfl rfl (fun hq39_ => ?_) (fun hq39_ => ?_)
    · refine T_le l_2 rfl (fun hq40_ => ?_) (fun hq40_ => ?_)
      · exact (t_X12_histories_184 hn) n a1 a2 a3 a5 (0 : Int32) (1 : Int32) M hG hS (i_rng (lo := 1) (hi := 4) rfl (by omega) (by omega)) (i_rng (lo := 0) (hi := 10) rfl (by omega) (by omega)) (i_rng (lo := 0) (hi := 9) rfl (by omega) (by omega)) (i_rng (lo := 1) (hi := 256) rfl (by omega) (by omega)) (i_rng (lo := 0) (hi := 3) l_0 (by omega) (by omega)) (i_rng (lo := 1) (hi := 4) l_1 (by omega) (by omega)) (by have e4 : ((0 : Int32)).toInt = _ := l_0; have e5 : ((1 : Int32)).toInt = _ := l_1; omega) wKP (by have e4 : ((0 : Int32)).toInt = _ := l_0; have e5 : ((1 : Int32)).toInt = _ := l_1; omega)
      · refine T_eq rfl l_0 (fun hq41_ => ?_) (fun hq41_ => ?_)
        · exact T_ret ⟨(by have e9 : (a6).toInt = _ := rfl; omega), hG, hS⟩
        · exact T_ret ⟨(by have e9 : (a7).toInt = _ := rfl; omega), hG, hS⟩
    · refine T_qc (t_X12_goesWith hn a8 a2 a3 M hG (i_rng (lo := 0) (hi := 255) rfl (by omega) (by omega)) (i_rng (lo := 0) (hi := 10) rfl (by omega) (by omega)) (i_rng (lo := 0) (hi := 9) rfl (by omega) (by omega)) wKP) ?_
      rintro rv42 mv43 ⟨hq44_, gq45_, kq46_⟩
      have kq47_ := Sm.call hS kq46_ rfl
      have hq48_ := (fun h_ => KP_c (kq46_ 77 61 (by decide)) (funext (fun s_ => kq46_ 84 s_ (outc rfl))) h_) wKP
      have hq49_ : (mv43 77 8).toInt = (M 77 8).toInt := by rw [kq46_ 77 8 (by decide)]
      refine T_qg rfl (by omega) (by omega) ?_
      have hq51_ := i_bool rv42
      refine T_mu gq45_ kq47_ (i_rng (lo := 0) (hi := 1) rfl (by omega) (by omega)) (nw_119 _) (i := 3) rfl ⟨by decide, by decide, Or.inl rfl⟩ ?_
      intro mv50 hq52_ gq53_ kq54_
      have hq55_ := (fun h_ => KP_c (M := mv43) (M' := mv50) (by rw [hq52_, mu_ne (Or.inl (by decide))]) (by rw [hq52_, mu_nc (by decide)]) h_) hq48_
      have hq56_ : (mv50 77 8).toInt = (mv43 77 8).toInt := by rw [hq52_, mu_ne (Or.inl (by decide))]
      have hq57_ : (mv50 119 a8.toNatClampNeg).toInt = (vp_nar .boolean rv42).toInt := by rw [hq52_, mu_at]
      refine T_qg rfl (by omega) (by omega) ?_
      have hq58_ := r_119 gq53_ a8.toNatClampNeg
      refine T_eq rfl l_0 (fun hq59_ => ?_) (fun hq59_ => ?_)
      · unfold f_X12_histories_129
        unfold f_X12_histories_131
        refine T_qg rfl (by omega) (by omega) ?_
        refine T_eq rfl l_0 (fun hq60_ => ?_) (fun hq60_ => ?_)
        · unfold f_X12_histories_150
          have hq61_ := i_full (a6)
          refine T_ql (i_add rfl l_0 (by omega) (by omega)) ?_
          intro xv62 hq63_
          refine T_ql (i_add rfl l_1 (by omega) (by omega)) ?_
          intro xv64 hq65_
          have hq66_ := r_77_8 gq53_
          exact ih a1 a2 a3 a4 a5 xv62 a7 xv64 mv50 gq53_ kq54_ (i_rng (lo := 1) (hi := 4) rfl (by omega) (by omega)) (i_rng (lo := 0) (hi := 10) rfl (by omega) (by omega)) (i_rng (lo := 0) (hi := 9) rfl (by omega) (by omega)) (i_rng (lo := 0) (hi := 2) rfl (by omega) (by omega)) (i_rng (lo := 1) (hi := 256) rfl (by omega) (by omega)) (i_rng (lo := (-2)) (hi := 255) rfl (by omega) (by omega)) (i_rng (lo := 0) (hi := 256) rfl (by omega) (by omega)) (by omega) hq55_ (by omega)
        · exfalso; omega
      · refine T_eq rfl l_0 (fun hq67_ => ?_) (fun hq67_ => ?_)
        · unfold f_X12_histories_131
          refine T_qg rfl (by omega) (by omega) ?_
          refine T_eq rfl l_0 (fun hq68_ => ?_) (fun hq68_ => ?_)
          · exfalso; omega
          · unfold f_X12_histories_150
            refine T_ql (i_add rfl l_1 (by omega) (by omega)) ?_
            intro xv69 hq70_
            refine T_ql (i_add rfl l_1 (by omega) (by omega)) ?_
            intro xv71 hq72_
            have hq73_ := r_77_8 gq53_
            exact ih a1 a2 a3 a4 a5 xv69 a8 xv71 mv50 gq53_ kq54_ (i_rng (lo := 1) (hi := 4) rfl (by omega) (by omega)) (i_rng (lo := 0) (hi := 10) rfl (by omega) (by omega)) (i_rng (lo := 0) (hi := 9) rfl (by omega) (by omega)) (i_rng (lo := 0) (hi := 2) rfl (by omega) (by omega)) (i_rng (lo := 1) (hi := 256) rfl (by omega) (by omega)) (i_rng (lo := (-2)) (hi := 255) rfl (by omega) (by omega)) (i_rng (lo := 0) (hi := 256) rfl (by omega) (by omega)) (by omega) hq55_ (by omega)
        · unfold f_X12_histories_129
          unfold f_X12_histories_131
          refine T_qg rfl (by omega) (by omega) ?_
          refine T_eq rfl l_0 (fun hq74_ => ?_) (fun hq74_ => ?_)
          · exfalso; omega
          · unfold f_X12_histories_150
            have hq75_ := i_full (a6)
            refine T_ql rfl ?_
            intro xv76 hq77_
            refine T_ql (i_add rfl l_1 (by omega) (by omega)) ?_
            intro xv78 hq79_
            have hq80_ := r_77_8 gq53_
            exact ih a1 a2 a3 a4 a5 xv76 a7 xv78 mv50 gq53_ kq54_ (i_rng (lo := 1) (hi := 4) rfl (by omega) (by omega)) (i_rng (lo := 0) (hi := 10) rfl (by omega) (by omega)) (i_rng (lo := 0) (hi := 9) rfl (by omega) (by omega)) (i_rng (lo := 0) (hi := 2) rfl (by omega) (by omega)) (i_rng (lo := 1) (hi := 256) rfl (by omega) (by omega)) (i_rng (lo := (-2)) (hi := 255) rfl (by omega) (by omega)) (i_rng (lo := 0) (hi := 256) rfl (by omega) (by omega)) (by omega) hq55_ (by omega)
theorem t_X12_histories {n : Nat} (hn : 200000 ≤ n) (a1 a2 a3 a4 : Int32) (M : qM) (hG : G M) : qT (f_X12_histories n a1 a2 a3 a4 M) (po_X12_histories a1 a2 a3 a4 M) := by
  have hS : Sm l_X12_histories M M := Sm.rf
  unfold f_X12_histories
  have hq81_ := r_77_8 hG
  have hq84_ := (show ((1 : Int32)).toInt = _ from l_1)
  have hq85_ := (show ((4 : Int32)).toInt = _ from l_4)
  refine T_qc (t_X12_in hn a1 (1 : Int32) (4 : Int32) M hG (i_rng (lo := 0) (hi := 70) l_1 (by omega) (by omega)) (i_rng (lo := 0) (hi := 99999) l_4 (by omega) (by omega))) ?_
  rintro rv82 mv83 ⟨hq86_, hq87_, gq88_, kq89_⟩
  have hq90_ := kq89_.nil
  subst hq90_
  refine T_eq rfl l_0 (fun hq91_ => ?_) (fun hq91_ => ?_)
  · exact T_ret ⟨(by have e9 : ((-1 : Int32)).toInt = _ := l_m1; omega), hG, hS⟩
  · have hq94_ := (show ((0 : Int32)).toInt = _ from l_0)
    have hq95_ := (show ((10 : Int32)).toInt = _ from l_10)
    refine T_qc (t_X12_in hn a2 (0 : Int32) (10 : Int32) M hG (i_rng (lo := 0) (hi := 70) l_0 (by omega) (by omega)) (i_rng (lo := 0) (hi := 99999) l_10 (by omega) (by omega))) ?_
    rintro rv92 mv93 ⟨hq96_, hq97_, gq98_, kq99_⟩
    have hq100_ := kq99_.nil
    subst hq100_
    refine T_eq rfl l_0 (fun hq101_ => ?_) (fun hq101_ => ?_)
    · exact T_ret ⟨(by have e9 : ((-1 : Int32)).toInt = _ := l_m1; omega), hG, hS⟩
    · have hq104_ := (show ((9 : Int32)).toInt = _ from l_9)
      refine T_qc (t_X12_in hn a3 (0 : Int32) (9 : Int32) M hG (i_rng (lo := 0) (hi := 70) l_0 (by omega) (by omega)) (i_rng (lo := 0) (hi := 99999) l_9 (by omega) (by omega))) ?_
      rintro rv102 mv103 ⟨hq105_, hq106_, gq107_, kq108_⟩
      have hq109_ := kq108_.nil
      subst hq109_
      refine T_eq rfl l_0 (fun hq110_ => ?_) (fun hq110_ => ?_)
      · exact T_ret ⟨(by have e9 : ((-1 : Int32)).toInt = _ := l_m1; omega), hG, hS⟩
      · have hq113_ := (show ((2 : Int32)).toInt = _ from l_2)
        refine T_qc (t_X12_in hn a4 (0 : Int32) (2 : Int32) M hG (i_rng (lo := 0) (hi := 70) l_0 (by omega) (by omega)) (i_rng (lo := 0) (hi := 99999) l_2 (by omega) (by omega))) ?_
        rintro rv111 mv112 ⟨hq114_, hq115_, gq116_, kq117_⟩
        have hq118_ := kq117_.nil
        subst hq118_
        refine T_eq rfl l_0 (fun hq119_ => ?_) (fun hq119_ => ?_)
        · exact T_ret ⟨(by have e9 : ((-1 : Int32)).toInt = _ := l_m1; omega), hG, hS⟩
        · refine T_le (i_add rfl (i_mul l_2 rfl (by omega) (by omega)) (by omega) (by omega)) rfl (fun hq120_ => ?_) (fun hq120_ => ?_)
          · refine T_mu hG hS (i_rng (lo := 0) (hi := 260) l_0 (by omega) (by omega)) nw_77_8 (i := 0) rfl ⟨by decide, by decide, Or.inr ⟨by decide, by decide⟩⟩ ?_
            intro mv121 hq122_ gq123_ kq124_
            have hq125_ : (mv121 77 8).toInt = 0 := by rw [hq122_, mu_at]; exact l_0
            refine T_qc (t_X12_takesPast hn a1 a2 mv121 gq123_ (i_rng (lo := 1) (hi := 4) rfl (by omega) (by omega)) (i_rng (lo := 0) (hi := 10) rfl (by omega) (by omega))) ?_
            rintro rv126 mv127 ⟨hq128_, hq129_, gq130_, kq131_⟩
            have kq132_ := Sm.call kq124_ kq131_ rfl
            have hq133_ : (mv127 77 8).toInt = (mv121 77 8).toInt := by rw [kq131_ 77 8 (by decide)]
            refine T_eq rfl l_0 (fun hq134_ => ?_) (fun hq134_ => ?_)
            · exact T_ret ⟨(by have e9 : ((-3 : Int32)).toInt = _ := l_m3; omega), gq130_, kq132_⟩
            · have hq135_ := i_shl1 (c := 8) (k := (2 : Int32) * a1) (by decide) (i_mul l_2 rfl (by omega) (by omega)) (by omega) (by omega)
              refine T_ql rfl ?_
              intro xv136 hq137_
              have hq138_ := r_77_8 gq130_
              exact (t_X12_histories_87 hn) n a1 a2 a3 a4 xv136 (0 : Int32) (-2 : Int32) (0 : Int32) mv127 gq130_ kq132_ (i_rng (lo := 1) (hi := 4) rfl (by omega) (by omega)) (i_rng (lo := 0) (hi := 10) rfl (by omega) (by omega)) (i_rng (lo := 0) (hi := 9) rfl (by omega) (by omega)) (i_rng (lo := 0) (hi := 2) rfl (by omega) (by omega)) (i_rng (lo := 1) (hi := 256) rfl (by omega) (by omega)) (i_rng (lo := (-2)) (hi := 255) l_m2 (by omega) (by omega)) (i_rng (lo := 0) (hi := 256) l_0 (by omega) (by omega)) (by have e5 : ((0 : Int32)).toInt = _ := l_0; have e6 : ((-2 : Int32)).toInt = _ := l_m2; have e7 : ((0 : Int32)).toInt = _ := l_0; omega) (hq129_.resolve_left (by omega)) (by have e5 : ((0 : Int32)).toInt = _ := l_0; have e6 : ((-2 : Int32)).toInt = _ := l_m2; have e7 : ((0 : Int32)).toInt = _ := l_0; omega)
          · exact T_ret ⟨(by have e9 : ((-1 : Int32)).toInt = _ := l_m1; omega), hG, hS⟩
abbrev l_X11_isHeap : List Bx := []
abbrev po_X11_isHeap (a0 : Int32) (M : qM) (v : Int32) (M' : qM) : Prop := (0 ≤ v.toInt ∧ v.toInt ≤ 1) ∧ G M' ∧ Sm l_X11_isHeap M M'
theorem t_X11_isHeap {n : Nat} (hn : 200000 ≤ n) (a0 : Int32) (M : qM) (hG : G M) : qT (f_X11_isHeap n a0 M) (po_X11_isHeap a0 M) := by
  have hS : Sm l_X11_isHeap M M := Sm.rf
  unfold f_X11_isHeap
  refine T_lt rfl l_0 (fun hq1_ => ?_) (fun hq1_ => ?_)
  · exact T_ret ⟨(i_rng (lo := 0) (hi := 1) l_0 (by omega) (by omega)), hG, hS⟩
  · refine T_lt l_7 rfl (fun hq2_ => ?_) (fun hq2_ => ?_)
    · exact T_ret ⟨(i_rng (lo := 0) (hi := 1) l_0 (by omega) (by omega)), hG, hS⟩
    · exact T_ret ⟨(i_rng (lo := 0) (hi := 1) l_1 (by omega) (by omega)), hG, hS⟩
abbrev l_X11_nextOneWins : List Bx := []
abbrev po_X11_nextOneWins (a0 a1 : Int32) (M : qM) (v : Int32) (M' : qM) : Prop := (0 ≤ v.toInt ∧ v.toInt ≤ 1) ∧ G M' ∧ Sm l_X11_nextOneWins M M'
theorem t_X11_nextOneWins {n : Nat} (hn : 200000 ≤ n) (a0 a1 : Int32) (M : qM) (hG : G M) (pa1 : 0 ≤ a1.toInt ∧ a1.toInt ≤ 1) : qT (f_X11_nextOneWins n a0 a1 M) (po_X11_nextOneWins a0 a1 M) := by
  have hS : Sm l_X11_nextOneWins M M := Sm.rf
  unfold f_X11_nextOneWins
  have hq1_ := i_and (a := (a0 ^^^ (a0 >>> ((3 : Int32) &&& 31))) ^^^ (a0 >>> ((6 : Int32) &&& 31))) (b := (3 : Int32)) l_3 (by omega)
  refine T_eq rfl l_0 (fun hq2_ => ?_) (fun hq2_ => ?_)
  · unfold f_X11_nextOneWins_20
    refine T_eq rfl l_0 (fun hq3_ => ?_) (fun hq3_ => ?_)
    · refine T_eq rfl l_0 (fun hq4_ => ?_) (fun hq4_ => ?_)
      · exact T_ret ⟨(i_rng (lo := 0) (hi := 1) l_0 (by omega) (by omega)), hG, hS⟩
      · refine T_eq l_0 l_0 (fun hq5_ => ?_) (fun hq5_ => ?_)
        · exact T_ret ⟨(i_rng (lo := 0) (hi := 1) l_1 (by omega) (by omega)), hG, hS⟩
        · exfalso; omega
    · refine T_qb l_0 (by omega) (by omega) ?_
      exact T_ret ⟨(i_rng (lo := 0) (hi := 1) l_0 (by omega) (by omega)), hG, hS⟩
  · unfold f_X11_nextOneWins_20
    refine T_eq rfl l_0 (fun hq6_ => ?_) (fun hq6_ => ?_)
    · refine T_eq rfl l_0 (fun hq7_ => ?_) (fun hq7_ => ?_)
      · exact T_ret ⟨(i_rng (lo := 0) (hi := 1) l_0 (by omega) (by omega)), hG, hS⟩
      · refine T_eq l_1 l_0 (fun hq8_ => ?_) (fun hq8_ => ?_)
        · exfalso; omega
        · exact T_ret ⟨(i_rng (lo := 0) (hi := 1) l_0 (by omega) (by omega)), hG, hS⟩
    · refine T_qb l_1 (by omega) (by omega) ?_
      exact T_ret ⟨(i_rng (lo := 0) (hi := 1) l_1 (by omega) (by omega)), hG, hS⟩
abbrev l_X11_bestMove : List Bx := []
abbrev po_X11_bestMove (a0 a1 a2 : Int32) (M : qM) (v : Int32) (M' : qM) : Prop := ((-2) ≤ v.toInt ∧ v.toInt ≤ 23) ∧ G M' ∧ Sm l_X11_bestMove M M'
theorem t_X11_bestMove_20 {n : Nat} (hn : 200000 ≤ n) {oa0 oa1 oa2 : Int32} {M0 : qM} {K2 : Int32 → Int32 → Int32 → Int32 → qM → qR} {BK2 : Nat} (hK2 : ∀ (a0 a1 a2 a3 : Int32) (M : qM), G M → Sm l_X11_bestMove M0 M → 0 ≤ a1.toInt ∧ a1.toInt ≤ 1 → 0 ≤ a2.toInt ∧ a2.toInt ≤ 1 → 0 ≤ a3.toInt ∧ a3.toInt ≤ 3 → 3 - a3.toInt < (BK2 : Int) → qT (K2 a0 a1 a2 a3 M) (po_X11_bestMove oa0 oa1 oa2 M0)) : ∀ (m : Nat) (a0 a1 a2 a3 a4 a5 : Int32) (M : qM), G M → Sm l_X11_bestMove M0 M → 0 ≤ a1.toInt ∧ a1.toInt ≤ 1 → 0 ≤ a2.toInt ∧ a2.toInt ≤ 1 → 0 ≤ a3.toInt ∧ a3.toInt ≤ 2 → 0 ≤ a4.toInt ∧ a4.toInt ≤ 7 → 1 ≤ a5.toInt ∧ a5.toInt ≤ 4 → 3 - a3.toInt < (BK2 : Int) + 1 → 4 - a5.toInt < (m : Int) → qT (f_X11_bestMove_20 n K2 m a0 a1 a2 a3 a4 a5 M) (po_X11_bestMove oa0 oa1 oa2 M0) := by
  intro m
  induction m with
  | zero =>
    intro a0 a1 a2 a3 a4 a5 M hG hS i0 i1 i2 i3 i4 i7 i8
    exfalso; omega
  | succ m ih =>
    intro a0 a1 a2 a3 a4 a5 M hG hS i0 i1 i2 i3 i4 i7 i8
    show qT (b_X11_bestMove_20 n K2 (f_X11_bestMove_20 n K2 m) a0 a1 a2 a3 a4 a5 M) _
    unfold b_X11_bestMove_20
    refine T_lt l_3 rfl (fun hq15_ => ?_) (fun hq15_ => ?_)
    · refine T_ql (i_add rfl l_1 (by omega) (by omega)) ?_
      intro xv16 hq17_
      exact hK2 a0 a1 a2 xv16 M hG hS (i_rng (lo := 0) (hi := 1) rfl (by omega) (by omega)) (i_rng (lo := 0) (hi := 1) rfl (by omega) (by omega)) (i_rng (lo := 0) (hi := 3) rfl (by omega) (by omega)) (by omega)
    · refine T_lt rfl rfl (fun hq18_ => ?_) (fun hq18_ => ?_)
      · refine T_ql (i_add rfl l_1 (by omega) (by omega)) ?_
        intro xv19 hq20_
        exact hK2 a0 a1 a2 xv19 M hG hS (i_rng (lo := 0) (hi := 1) rfl (by omega) (by omega)) (i_rng (lo := 0) (hi := 1) rfl (by omega) (by omega)) (i_rng (lo := 0) (hi := 3) rfl (by omega) (by omega)) (by omega)
      · refine T_eq rfl l_0 (fun hq21_ => ?_) (fun hq21_ => ?_)
        · unfold f_X11_bestMove_49
          refine T_qc (t_X11_nextOneWins hn a0 a2 M hG (i_rng (lo := 0) (hi := 1) rfl (by omega) (by omega))) ?_
          rintro rv22 mv23 ⟨hq24_, gq25_, kq26_⟩
          have hq27_ := kq26_.nil
          subst hq27_
          refine T_eq rfl l_0 (fun hq28_ => ?_) (fun hq28_ => ?_)
          · exact T_ret ⟨(i_rng (lo := (-2)) (hi := 23) (i_add (i_mul l_10 rfl (by omega) (by omega)) rfl (by omega) (by omega)) (by omega) (by omega)), hG, hS⟩
          · refine T_ql (i_add rfl l_1 (by omega) (by omega)) ?_
            intro xv29 hq30_
            exact ih a0 a1 a2 a3 a4 xv29 M hG hS (i_rng (lo := 0) (hi := 1) rfl (by omega) (by omega)) (i_rng (lo := 0) (hi := 1) rfl (by omega) (by omega)) (i_rng (lo := 0) (hi := 2) rfl (by omega) (by omega)) (i_rng (lo := 0) (hi := 7) rfl (by omega) (by omega)) (i_rng (lo := 1) (hi := 4) rfl (by omega) (by omega)) (by omega) (by omega)
        · unfold f_X11_bestMove_49
          have hq33_ := i_full (a0)
          have hq34_ := i_full (a5 <<< (((3 : Int32) * a3) &&& 31))
          refine T_qc (t_X11_nextOneWins hn (a0 - (a5 <<< (((3 : Int32) * a3) &&& 31))) a2 M hG (i_rng (lo := 0) (hi := 1) rfl (by omega) (by omega))) ?_
          rintro rv31 mv32 ⟨hq35_, gq36_, kq37_⟩
          have hq38_ := kq37_.nil
          subst hq38_
          refine T_eq rfl l_0 (fun hq39_ => ?_) (fun hq39_ => ?_)
          · exact T_ret ⟨(i_rng (lo := (-2)) (hi := 23) (i_add (i_mul l_10 rfl (by omega) (by omega)) rfl (by omega) (by omega)) (by omega) (by omega)), hG, hS⟩
          · refine T_ql (i_add rfl l_1 (by omega) (by omega)) ?_
            intro xv40 hq41_
            exact ih a0 a1 a2 a3 a4 xv40 M hG hS (i_rng (lo := 0) (hi := 1) rfl (by omega) (by omega)) (i_rng (lo := 0) (hi := 1) rfl (by omega) (by omega)) (i_rng (lo := 0) (hi := 2) rfl (by omega) (by omega)) (i_rng (lo := 0) (hi := 7) rfl (by omega) (by omega)) (i_rng (lo := 1) (hi := 4) rfl (by omega) (by omega)) (by omega) (by omega)
theorem t_X11_bestMove_2 {n : Nat} (hn : 200000 ≤ n) {oa0 oa1 oa2 : Int32} {M0 : qM} : ∀ (m : Nat) (a0 a1 a2 a3 : Int32) (M : qM), G M → Sm l_X11_bestMove M0 M → 0 ≤ a1.toInt ∧ a1.toInt ≤ 1 → 0 ≤ a2.toInt ∧ a2.toInt ≤ 1 → 0 ≤ a3.toInt ∧ a3.toInt ≤ 3 → 3 - a3.toInt < (m : Int) → qT (f_X11_bestMove_2 n m a0 a1 a2 a3 M) (po_X11_bestMove oa0 oa1 oa2 M0) := by
  intro m
  induction m with
  | zero =>
    intro a0 a1 a2 a3 M hG hS i0 i1 i2 i5
    exfalso; omega
  | succ m ih =>
    intro a0 a1 a2 a3 M hG hS i0 i1 i2 i5
    show qT (b_X11_bestMove_2 n (f_X11_bestMove_2 n m) a0 a1 a2 a3 M) _
    unfold b_X11_bestMove_2
    refine T_le l_3 rfl (fun hq47_ => ?_) (fun hq47_ => ?_)
    · exact T_ret ⟨(i_rng (lo := (-2)) (hi := 23) l_m2 (by omega) (by omega)), hG, hS⟩
    · have hq48_ := i_and (a := a0 >>> (((3 : Int32) * a3) &&& 31)) (b := (7 : Int32)) l_7 (by omega)
      refine T_ql rfl ?_
      intro xv49 hq50_
      exact (t_X11_bestMove_20 hn ih) n a0 a1 a2 a3 xv49 (1 : Int32) M hG hS (i_rng (lo := 0) (hi := 1) rfl (by omega) (by omega)) (i_rng (lo := 0) (hi := 1) rfl (by omega) (by omega)) (i_rng (lo := 0) (hi := 2) rfl (by omega) (by omega)) (i_rng (lo := 0) (hi := 7) rfl (by omega) (by omega)) (i_rng (lo := 1) (hi := 4) l_1 (by omega) (by omega)) (by omega) (by have e5 : ((1 : Int32)).toInt = _ := l_1; omega)
theorem t_X11_bestMove {n : Nat} (hn : 200000 ≤ n) (a0 a1 a2 : Int32) (M : qM) (hG : G M) (pa1 : 0 ≤ a1.toInt ∧ a1.toInt ≤ 1) (pa2 : 0 ≤ a2.toInt ∧ a2.toInt ≤ 1) : qT (f_X11_bestMove n a0 a1 a2 M) (po_X11_bestMove a0 a1 a2 M) := by
  have hS : Sm l_X11_bestMove M M := Sm.rf
  unfold f_X11_bestMove
  exact (t_X11_bestMove_2 hn) n a0 a1 a2 (0 : Int32) M hG hS (i_rng (lo := 0) (hi := 1) rfl (by omega) (by omega)) (i_rng (lo := 0) (hi := 1) rfl (by omega) (by omega)) (i_rng (lo := 0) (hi := 3) l_0 (by omega) (by omega)) (by have e3 : ((0 : Int32)).toInt = _ := l_0; omega)

abbrev l_X11_game : List Bx := []
abbrev po_X11_game (a1 a2 a3 a4 a5 a6 : Int32) (M : qM) (v : Int32) (M' : qM) : Prop := ((-2) ≤ v.toInt ∧ v.toInt ≤ 23) ∧ G M' ∧ Sm l_X11_game M M'
theorem t_X11_game {n : Nat} (hn : 200000 ≤ n) (a1 a2 a3 a4 a5 a6 : Int32) (M : qM) (hG : G M) (pa4 : 0 ≤ a4.toInt ∧ a4.toInt ≤ 1) (pa5 : 0 ≤ a5.toInt ∧ a5.toInt ≤ 1) : qT (f_X11_game n a1 a2 a3 a4 a5 a6 M) (po_X11_game a1 a2 a3 a4 a5 a6 M) := by
  have hS : Sm l_X11_game M M := Sm.rf
  unfold f_X11_game
  refine T_qc (t_X11_isHeap hn a1 M hG ) ?_
  rintro rv1 mv2 ⟨hq3_, gq4_, kq5_⟩
  have hq6_ := kq5_.nil
  subst hq6_
  refine T_eq rfl l_0 (fun hq7_ => ?_) (fun hq7_ => ?_)
  · exact T_ret ⟨(i_rng (lo := (-2)) (hi := 23) l_m1 (by omega) (by omega)), hG, hS⟩
  · refine T_qc (t_X11_isHeap hn a2 M hG ) ?_
    rintro rv8 mv9 ⟨hq10_, gq11_, kq12_⟩
    have hq13_ := kq12_.nil
    subst hq13_
    refine T_eq rfl l_0 (fun hq14_ => ?_) (fun hq14_ => ?_)
    · exact T_ret ⟨(i_rng (lo := (-2)) (hi := 23) l_m1 (by omega) (by omega)), hG, hS⟩
    · refine T_qc (t_X11_isHeap hn a3 M hG ) ?_
      rintro rv15 mv16 ⟨hq17_, gq18_, kq19_⟩
      have hq20_ := kq19_.nil
      subst hq20_
      refine T_eq rfl l_0 (fun hq21_ => ?_) (fun hq21_ => ?_)
      · exact T_ret ⟨(i_rng (lo := (-2)) (hi := 23) l_m1 (by omega) (by omega)), hG, hS⟩
      · refine T_lt rfl l_0 (fun hq22_ => ?_) (fun hq22_ => ?_)
        · exact T_ret ⟨(i_rng (lo := (-2)) (hi := 23) l_m1 (by omega) (by omega)), hG, hS⟩
        · refine T_le rfl l_1 (fun hq23_ => ?_) (fun hq23_ => ?_)
          · refine T_qc (t_X11_bestMove hn ((a1 ||| (a2 <<< ((3 : Int32) &&& 31))) ||| (a3 <<< ((6 : Int32) &&& 31))) a4 a5 M hG (i_rng (lo := 0) (hi := 1) rfl (by omega) (by omega)) (i_rng (lo := 0) (hi := 1) rfl (by omega) (by omega))) ?_
            rintro rv24 mv25 ⟨hq26_, gq27_, kq28_⟩
            have hq29_ := kq28_.nil
            subst hq29_
            refine T_eq rfl l_1 (fun hq30_ => ?_) (fun hq30_ => ?_)
            · exact T_ret ⟨(i_rng (lo := (-2)) (hi := 23) rfl (by omega) (by omega)), hG, hS⟩
            · refine T_eq rfl l_m2 (fun hq31_ => ?_) (fun hq31_ => ?_)
              · exact T_ret ⟨(i_rng (lo := (-2)) (hi := 23) l_0 (by omega) (by omega)), hG, hS⟩
              · exact T_ret ⟨(i_rng (lo := (-2)) (hi := 23) l_1 (by omega) (by omega)), hG, hS⟩
          · exact T_ret ⟨(i_rng (lo := (-2)) (hi := 23) l_m1 (by omega) (by omega)), hG, hS⟩
abbrev l_X12_heapIn : List Bx := []
abbrev po_X12_heapIn (a0 a1 : Int32) (M : qM) (v : Int32) (M' : qM) : Prop := (0 ≤ v.toInt ∧ v.toInt ≤ 7) ∧ ((a1.toInt = 0 ∧ v.toInt = a0.toInt / 64) ∨ (a1.toInt = 1 ∧ v.toInt = a0.toInt / 8 - a0.toInt / 8 / 8 * 8) ∨ (a1.toInt ≠ 0 ∧ a1.toInt ≠ 1 ∧ v.toInt = a0.toInt - a0.toInt / 8 * 8)) ∧ G M' ∧ Sm l_X12_heapIn M M'
theorem t_X12_heapIn {n : Nat} (hn : 200000 ≤ n) (a0 a1 : Int32) (M : qM) (hG : G M) (pa0 : 0 ≤ a0.toInt ∧ a0.toInt ≤ 511) (pa1 : 0 ≤ a1.toInt ∧ a1.toInt ≤ 2) : qT (f_X12_heapIn n a0 a1 M) (po_X12_heapIn a0 a1 M) := by
  have hS : Sm l_X12_heapIn M M := Sm.rf
  unfold f_X12_heapIn
  refine T_eq rfl l_0 (fun hq1_ => ?_) (fun hq1_ => ?_)
  · exact T_ret ⟨(i_rng (lo := 0) (hi := 7) (i_div rfl l_64 (by omega) (by omega)) (by omega) (by omega)), (by have e9 : (a0 / (64 : Int32)).toInt = _ := (i_div rfl l_64 (by omega) (by omega)); omega), hG, hS⟩
  · refine T_eq rfl l_1 (fun hq2_ => ?_) (fun hq2_ => ?_)
    · exact T_ret ⟨(i_rng (lo := 0) (hi := 7) (i_sub (i_div rfl l_8 (by omega) (by omega)) (i_mul (i_div (i_div rfl l_8 (by omega) (by omega)) l_8 (by omega) (by omega)) l_8 (by omega) (by omega)) (by omega) (by omega)) (by omega) (by omega)), (by have e9 : ((a0 / (8 : Int32)) - (((a0 / (8 : Int32)) / (8 : Int32)) * (8 : Int32))).toInt = _ := (i_sub (i_div rfl l_8 (by omega) (by omega)) (i_mul (i_div (i_div rfl l_8 (by omega) (by omega)) l_8 (by omega) (by omega)) l_8 (by omega) (by omega)) (by omega) (by omega)); omega), hG, hS⟩
    · exact T_ret ⟨(i_rng (lo := 0) (hi := 7) (i_sub rfl (i_mul (i_div rfl l_8 (by omega) (by omega)) l_8 (by omega) (by omega)) (by omega) (by omega)) (by omega) (by omega)), (by have e9 : (a0 - ((a0 / (8 : Int32)) * (8 : Int32))).toInt = _ := (i_sub rfl (i_mul (i_div rfl l_8 (by omega) (by omega)) l_8 (by omega) (by omega)) (by omega) (by omega)); omega), hG, hS⟩
abbrev l_X12_gameState : List Bx := []
abbrev po_X12_gameState (a0 a1 a2 : Int32) (M : qM) (v : Int32) (M' : qM) : Prop := (0 ≤ v.toInt ∧ v.toInt ≤ 2047) ∧ G M' ∧ Sm l_X12_gameState M M'
theorem t_X12_gameState {n : Nat} (hn : 200000 ≤ n) (a0 a1 a2 : Int32) (M : qM) (hG : G M) (pa0 : 0 ≤ a0.toInt ∧ a0.toInt ≤ 511) (pa1 : 0 ≤ a1.toInt ∧ a1.toInt ≤ 1) (pa2 : 0 ≤ a2.toInt ∧ a2.toInt ≤ 1) : qT (f_X12_gameState n a0 a1 a2 M) (po_X12_gameState a0 a1 a2 M) := by
  have hS : Sm l_X12_gameState M M := Sm.rf
  unfold f_X12_gameState
  refine T_eq rfl l_0 (fun hq1_ => ?_) (fun hq1_ => ?_)
  · unfold f_X12_gameState_12
    refine T_eq rfl l_0 (fun hq2_ => ?_) (fun hq2_ => ?_)
    · exact T_ret ⟨(i_rng (lo := 0) (hi := 2047) (i_add (i_add (i_mul l_4 rfl (by omega) (by omega)) l_0 (by omega) (by omega)) l_0 (by omega) (by omega)) (by omega) (by omega)), hG, hS⟩
    · exact T_ret ⟨(i_rng (lo := 0) (hi := 2047) (i_add (i_add (i_mul l_4 rfl (by omega) (by omega)) l_0 (by omega) (by omega)) l_1 (by omega) (by omega)) (by omega) (by omega)), hG, hS⟩
  · unfold f_X12_gameState_12
    refine T_eq rfl l_0 (fun hq3_ => ?_) (fun hq3_ => ?_)
    · exact T_ret ⟨(i_rng (lo := 0) (hi := 2047) (i_add (i_add (i_mul l_4 rfl (by omega) (by omega)) l_2 (by omega) (by omega)) l_0 (by omega) (by omega)) (by omega) (by omega)), hG, hS⟩
    · exact T_ret ⟨(i_rng (lo := 0) (hi := 2047) (i_add (i_add (i_mul l_4 rfl (by omega) (by omega)) l_2 (by omega) (by omega)) l_1 (by omega) (by omega)) (by omega) (by omega)), hG, hS⟩
abbrev l_X12_heapUnit : List Bx := []
abbrev po_X12_heapUnit (a0 : Int32) (M : qM) (v : Int32) (M' : qM) : Prop := (1 ≤ v.toInt ∧ v.toInt ≤ 64) ∧ ((a0.toInt = 0 ∧ v.toInt = 64) ∨ (a0.toInt = 1 ∧ v.toInt = 8) ∨ (a0.toInt ≠ 0 ∧ a0.toInt ≠ 1 ∧ v.toInt = 1)) ∧ G M' ∧ Sm l_X12_heapUnit M M'
theorem t_X12_heapUnit {n : Nat} (hn : 200000 ≤ n) (a0 : Int32) (M : qM) (hG : G M) (pa0 : 0 ≤ a0.toInt ∧ a0.toInt ≤ 2) : qT (f_X12_heapUnit n a0 M) (po_X12_heapUnit a0 M) := by
  have hS : Sm l_X12_heapUnit M M := Sm.rf
  unfold f_X12_heapUnit
  refine T_eq rfl l_0 (fun hq1_ => ?_) (fun hq1_ => ?_)
  · exact T_ret ⟨(i_rng (lo := 1) (hi := 64) l_64 (by omega) (by omega)), (by have e9 : ((64 : Int32)).toInt = _ := l_64; omega), hG, hS⟩
  · refine T_eq rfl l_1 (fun hq2_ => ?_) (fun hq2_ => ?_)
    · exact T_ret ⟨(i_rng (lo := 1) (hi := 64) l_8 (by omega) (by omega)), (by have e9 : ((8 : Int32)).toInt = _ := l_8; omega), hG, hS⟩
    · exact T_ret ⟨(i_rng (lo := 1) (hi := 64) l_1 (by omega) (by omega)), (by have e9 : ((1 : Int32)).toInt = _ := l_1; omega), hG, hS⟩
abbrev l_X12_wins : List Bx := []
abbrev po_X12_wins (a1 a2 a3 a4 a5 : Int32) (M : qM) (v : Int32) (M' : qM) : Prop := (0 ≤ v.toInt ∧ v.toInt ≤ 1) ∧ G M' ∧ Sm l_X12_wins M M'
theorem t_X12_wins {n : Nat} (hn : 200000 ≤ n) (a1 a2 a3 a4 a5 : Int32) (M : qM) (hG : G M) (pa1 : 0 ≤ a1.toInt ∧ a1.toInt ≤ 511) (pa2 : 0 ≤ a2.toInt ∧ a2.toInt ≤ 1) (pa3 : 0 ≤ a3.toInt ∧ a3.toInt ≤ 1) (pa4 : 0 ≤ a4.toInt ∧ a4.toInt ≤ 2) (pa5 : 1 ≤ a5.toInt ∧ a5.toInt ≤ 3) (pe : (a4.toInt = 0 ∧ a5.toInt ≤ a1.toInt / 64) ∨ (a4.toInt = 1 ∧ a5.toInt ≤ a1.toInt / 8 - a1.toInt / 8 / 8 * 8) ∨ (a4.toInt = 2 ∧ a5.toInt ≤ a1.toInt - a1.toInt / 8 * 8)) : qT (f_X12_wins n a1 a2 a3 a4 a5 M) (po_X12_wins a1 a2 a3 a4 a5 M) := by
  have hS : Sm l_X12_wins M M := Sm.rf
  unfold f_X12_wins
  refine T_eq rfl l_0 (fun hq1_ => ?_) (fun hq1_ => ?_)
  · unfold f_X12_wins_22
    refine T_qc (t_X12_gameState hn a1 a3 (1 : Int32) M hG (i_rng (lo := 0) (hi := 511) rfl (by omega) (by omega)) (i_rng (lo := 0) (hi := 1) rfl (by omega) (by omega)) (i_rng (lo := 0) (hi := 1) l_1 (by omega) (by omega))) ?_
    rintro rv2 mv3 ⟨hq4_, gq5_, kq6_⟩
    have hq7_ := kq6_.nil
    subst hq7_
    refine T_qg rfl (by omega) (by omega) ?_
    have hq8_ := r_120 hG rv2.toNatClampNeg
    refine T_eq rfl l_0 (fun hq9_ => ?_) (fun hq9_ => ?_)
    · exact T_ret ⟨(i_rng (lo := 0) (hi := 1) l_1 (by omega) (by omega)), hG, hS⟩
    · exact T_ret ⟨(i_rng (lo := 0) (hi := 1) l_0 (by omega) (by omega)), hG, hS⟩
  · refine T_qc (t_X12_heapUnit hn a4 M hG (i_rng (lo := 0) (hi := 2) rfl (by omega) (by omega))) ?_
    rintro rv10 mv11 ⟨hq12_, hq13_, gq14_, kq15_⟩
    have hq16_ := kq15_.nil
    subst hq16_
    unfold f_X12_wins_22
    have hq19_ := i_mulk 64 (a := a5) (b := rv10) rfl rfl (by omega) (by omega) (by omega) (by omega)
    have hq20_ := i_mulc 64 1 (a := a5) (b := rv10) rfl rfl (by omega) (by omega) (by omega) (by omega)
    have hq21_ := i_mulc 64 8 (a := a5) (b := rv10) rfl rfl (by omega) (by omega) (by omega) (by omega)
    have hq22_ := i_mulc 64 64 (a := a5) (b := rv10) rfl rfl (by omega) (by omega) (by omega) (by omega)
    refine T_qc (t_X12_gameState hn (a1 - (a5 * rv10)) a3 (1 : Int32) M hG (i_rng (lo := 0) (hi := 511) (i_sub rfl rfl (by omega) (by omega)) (by omega) (by omega)) (i_rng (lo := 0) (hi := 1) rfl (by omega) (by omega)) (i_rng (lo := 0) (hi := 1) l_1 (by omega) (by omega))) ?_
    rintro rv17 mv18 ⟨hq23_, gq24_, kq25_⟩
    have hq26_ := kq25_.nil
    subst hq26_
    refine T_qg rfl (by omega) (by omega) ?_
    have hq27_ := r_120 hG rv17.toNatClampNeg
    refine T_eq rfl l_0 (fun hq28_ => ?_) (fun hq28_ => ?_)
    · exact T_ret ⟨(i_rng (lo := 0) (hi := 1) l_1 (by omega) (by omega)), hG, hS⟩
    · exact T_ret ⟨(i_rng (lo := 0) (hi := 1) l_0 (by omega) (by omega)), hG, hS⟩
abbrev l_X12_winningMove : List Bx := []
abbrev po_X12_winningMove (a1 a2 a3 : Int32) (M : qM) (v : Int32) (M' : qM) : Prop := ((-1) ≤ v.toInt ∧ v.toInt ≤ 23) ∧ G M' ∧ Sm l_X12_winningMove M M'
theorem t_X12_winningMove_12 {n : Nat} (hn : 200000 ≤ n) {oa1 oa2 oa3 : Int32} {M0 : qM} {K3 : Int32 → Int32 → Int32 → Int32 → qM → qR} {BK3 : Nat} (hK3 : ∀ (a1 a2 a3 a4 : Int32) (M : qM), G M → Sm l_X12_winningMove M0 M → 0 ≤ a1.toInt ∧ a1.toInt ≤ 511 → 0 ≤ a2.toInt ∧ a2.toInt ≤ 1 → 0 ≤ a3.toInt ∧ a3.toInt ≤ 1 → 0 ≤ a4.toInt ∧ a4.toInt ≤ 3 → 3 - a4.toInt < (BK3 : Int) → qT (K3 a1 a2 a3 a4 M) (po_X12_winningMove oa1 oa2 oa3 M0)) : ∀ (m : Nat) (a1 a2 a3 a4 a5 : Int32) (M : qM), G M → Sm l_X12_winningMove M0 M → 0 ≤ a1.toInt ∧ a1.toInt ≤ 511 → 0 ≤ a2.toInt ∧ a2.toInt ≤ 1 → 0 ≤ a3.toInt ∧ a3.toInt ≤ 1 → 0 ≤ a4.toInt ∧ a4.toInt ≤ 2 → 1 ≤ a5.toInt ∧ a5.toInt ≤ 4 → 3 - a4.toInt < (BK3 : Int) + 1 → 4 - a5.toInt < (m : Int) → qT (f_X12_winningMove_12 n K3 m a1 a2 a3 a4 a5 M) (po_X12_winningMove oa1 oa2 oa3 M0) := by
  intro m
  induction m with
  | zero =>
    intro a1 a2 a3 a4 a5 M hG hS i0 i1 i2 i3 i4 i7 i8
    exfalso; omega
  | succ m ih =>
    intro a1 a2 a3 a4 a5 M hG hS i0 i1 i2 i3 i4 i7 i8
    show qT (b_X12_winningMove_12 n K3 (f_X12_winningMove_12 n K3 m) a1 a2 a3 a4 a5 M) _
    unfold b_X12_winningMove_12
    refine T_lt l_3 rfl (fun hq10_ => ?_) (fun hq10_ => ?_)
    · refine T_ql (i_add rfl l_1 (by omega) (by omega)) ?_
      intro xv11 hq12_
      exact hK3 a1 a2 a3 xv11 M hG hS (i_rng (lo := 0) (hi := 511) rfl (by omega) (by omega)) (i_rng (lo := 0) (hi := 1) rfl (by omega) (by omega)) (i_rng (lo := 0) (hi := 1) rfl (by omega) (by omega)) (i_rng (lo := 0) (hi := 3) rfl (by omega) (by omega)) (by omega)
    · refine T_qc (t_X12_heapIn hn a1 a4 M hG (i_rng (lo := 0) (hi := 511) rfl (by omega) (by omega)) (i_rng (lo := 0) (hi := 2) rfl (by omega) (by omega))) ?_
      rintro rv13 mv14 ⟨hq15_, hq16_, gq17_, kq18_⟩
      have hq19_ := kq18_.nil
      subst hq19_
      refine T_lt rfl rfl (fun hq20_ => ?_) (fun hq20_ => ?_)
      · refine T_ql (i_add rfl l_1 (by omega) (by omega)) ?_
        intro xv21 hq22_
        exact ih a1 a2 a3 a4 xv21 M hG hS (i_rng (lo := 0) (hi := 511) rfl (by omega) (by omega)) (i_rng (lo := 0) (hi := 1) rfl (by omega) (by omega)) (i_rng (lo := 0) (hi := 1) rfl (by omega) (by omega)) (i_rng (lo := 0) (hi := 2) rfl (by omega) (by omega)) (i_rng (lo := 1) (hi := 4) rfl (by omega) (by omega)) (by omega) (by omega)
      · refine T_qc (t_X12_wins hn a1 a2 a3 a4 a5 M hG (i_rng (lo := 0) (hi := 511) rfl (by omega) (by omega)) (i_rng (lo := 0) (hi := 1) rfl (by omega) (by omega)) (i_rng (lo := 0) (hi := 1) rfl (by omega) (by omega)) (i_rng (lo := 0) (hi := 2) rfl (by omega) (by omega)) (i_rng (lo := 1) (hi := 3) rfl (by omega) (by omega)) (by omega)) ?_
        rintro rv23 mv24 ⟨hq25_, gq26_, kq27_⟩
        have hq28_ := kq27_.nil
        subst hq28_
        refine T_eq rfl l_0 (fun hq29_ => ?_) (fun hq29_ => ?_)
        · refine T_ql (i_add rfl l_1 (by omega) (by omega)) ?_
          intro xv30 hq31_
          exact ih a1 a2 a3 a4 xv30 M hG hS (i_rng (lo := 0) (hi := 511) rfl (by omega) (by omega)) (i_rng (lo := 0) (hi := 1) rfl (by omega) (by omega)) (i_rng (lo := 0) (hi := 1) rfl (by omega) (by omega)) (i_rng (lo := 0) (hi := 2) rfl (by omega) (by omega)) (i_rng (lo := 1) (hi := 4) rfl (by omega) (by omega)) (by omega) (by omega)
        · exact T_ret ⟨(i_rng (lo := (-1)) (hi := 23) (i_add (i_mul l_10 rfl (by omega) (by omega)) rfl (by omega) (by omega)) (by omega) (by omega)), hG, hS⟩
theorem t_X12_winningMove_3 {n : Nat} (hn : 200000 ≤ n) {oa1 oa2 oa3 : Int32} {M0 : qM} : ∀ (m : Nat) (a1 a2 a3 a4 : Int32) (M : qM), G M → Sm l_X12_winningMove M0 M → 0 ≤ a1.toInt ∧ a1.toInt ≤ 511 → 0 ≤ a2.toInt ∧ a2.toInt ≤ 1 → 0 ≤ a3.toInt ∧ a3.toInt ≤ 1 → 0 ≤ a4.toInt ∧ a4.toInt ≤ 3 → 3 - a4.toInt < (m : Int) → qT (f_X12_winningMove_3 n m a1 a2 a3 a4 M) (po_X12_winningMove oa1 oa2 oa3 M0) := by
  intro m
  induction m with
  | zero =>
    intro a1 a2 a3 a4 M hG hS i0 i1 i2 i3 i6
    exfalso; omega
  | succ m ih =>
    intro a1 a2 a3 a4 M hG hS i0 i1 i2 i3 i6
    show qT (b_X12_winningMove_3 n (f_X12_winningMove_3 n m) a1 a2 a3 a4 M) _
    unfold b_X12_winningMove_3
    refine T_le l_3 rfl (fun hq35_ => ?_) (fun hq35_ => ?_)
    · exact T_ret ⟨(i_rng (lo := (-1)) (hi := 23) l_m1 (by omega) (by omega)), hG, hS⟩
    · exact (t_X12_winningMove_12 hn ih) n a1 a2 a3 a4 (1 : Int32) M hG hS (i_rng (lo := 0) (hi := 511) rfl (by omega) (by omega)) (i_rng (lo := 0) (hi := 1) rfl (by omega) (by omega)) (i_rng (lo := 0) (hi := 1) rfl (by omega) (by omega)) (i_rng (lo := 0) (hi := 2) rfl (by omega) (by omega)) (i_rng (lo := 1) (hi := 4) l_1 (by omega) (by omega)) (by omega) (by have e4 : ((1 : Int32)).toInt = _ := l_1; omega)
theorem t_X12_winningMove {n : Nat} (hn : 200000 ≤ n) (a1 a2 a3 : Int32) (M : qM) (hG : G M) (pa1 : 0 ≤ a1.toInt ∧ a1.toInt ≤ 511) (pa2 : 0 ≤ a2.toInt ∧ a2.toInt ≤ 1) (pa3 : 0 ≤ a3.toInt ∧ a3.toInt ≤ 1) : qT (f_X12_winningMove n a1 a2 a3 M) (po_X12_winningMove a1 a2 a3 M) := by
  have hS : Sm l_X12_winningMove M M := Sm.rf
  unfold f_X12_winningMove
  exact (t_X12_winningMove_3 hn) n a1 a2 a3 (0 : Int32) M hG hS (i_rng (lo := 0) (hi := 511) rfl (by omega) (by omega)) (i_rng (lo := 0) (hi := 1) rfl (by omega) (by omega)) (i_rng (lo := 0) (hi := 1) rfl (by omega) (by omega)) (i_rng (lo := 0) (hi := 3) l_0 (by omega) (by omega)) (by have e3 : ((0 : Int32)).toInt = _ := l_0; omega)

abbrev l_X12_game : List Bx := [(120, 121, 0, 0)]
abbrev po_X12_game (a1 a2 a3 a4 a5 a6 : Int32) (M : qM) (v : Int32) (M' : qM) : Prop := ((-2) ≤ v.toInt ∧ v.toInt ≤ 23) ∧ G M' ∧ Sm l_X12_game M M'
theorem t_X12_game_58 {n : Nat} (hn : 200000 ≤ n) {oa1 oa2 oa3 oa4 oa5 oa6 : Int32} {M0 : qM} : ∀ (m : Nat) (a4 a5 a6 a7 a8 : Int32) (M : qM), G M → Sm l_X12_game M0 M → 0 ≤ a4.toInt ∧ a4.toInt ≤ 1 → 0 ≤ a5.toInt ∧ a5.toInt ≤ 1 → 0 ≤ a6.toInt ∧ a6.toInt ≤ 1 → 0 ≤ a7.toInt ∧ a7.toInt ≤ 511 → 0 ≤ a8.toInt ∧ a8.toInt ≤ 512 → 512 - a8.toInt < (m : Int) → qT (f_X12_game_58 n m a4 a5 a6 a7 a8 M) (po_X12_game oa1 oa2 oa3 oa4 oa5 oa6 M0) := by
  intro m
  induction m with
  | zero =>
    intro a4 a5 a6 a7 a8 M hG hS i0 i1 i2 i3 i4 i7
    exfalso; omega
  | succ m ih =>
    intro a4 a5 a6 a7 a8 M hG hS i0 i1 i2 i3 i4 i7
    show qT (b_X12_game_58 n (f_X12_game_58 n m) a4 a5 a6 a7 a8 M) _
    unfold b_X12_game_58
    refine T_lt rfl rfl (fun hq17_ => ?_) (fun hq17_ => ?_)
    · refine T_qc (t_X12_winningMove hn a7 a4 a5 M hG (i_rng (lo := 0) (hi := 511) rfl (by omega) (by omega)) (i_rng (lo := 0) (hi := 1) rfl (by omega) (by omega)) (i_rng (lo := 0) (hi := 1) rfl (by omega) (by omega))) ?_
      rintro rv18 mv19 ⟨hq20_, gq21_, kq22_⟩
      have hq23_ := kq22_.nil
      subst hq23_
      refine T_eq rfl l_0 (fun hq24_ => ?_) (fun hq24_ => ?_)
      · refine T_eq rfl l_m1 (fun hq25_ => ?_) (fun hq25_ => ?_)
        · exact T_ret ⟨(i_rng (lo := (-2)) (hi := 23) l_0 (by omega) (by omega)), hG, hS⟩
        · exact T_ret ⟨(i_rng (lo := (-2)) (hi := 23) l_1 (by omega) (by omega)), hG, hS⟩
      · refine T_eq rfl l_m1 (fun hq26_ => ?_) (fun hq26_ => ?_)
        · exact T_ret ⟨(i_rng (lo := (-2)) (hi := 23) l_m2 (by omega) (by omega)), hG, hS⟩
        · exact T_ret ⟨(i_rng (lo := (-2)) (hi := 23) rfl (by omega) (by omega)), hG, hS⟩
    · refine T_qc (t_X12_gameState hn a8 (1 : Int32) (1 : Int32) M hG (i_rng (lo := 0) (hi := 511) rfl (by omega) (by omega)) (i_rng (lo := 0) (hi := 1) l_1 (by omega) (by omega)) (i_rng (lo := 0) (hi := 1) l_1 (by omega) (by omega))) ?_
      rintro rv27 mv28 ⟨hq29_, gq30_, kq31_⟩
      have hq32_ := kq31_.nil
      subst hq32_
      refine T_qc (t_X12_winningMove hn a8 (1 : Int32) (1 : Int32) M hG (i_rng (lo := 0) (hi := 511) rfl (by omega) (by omega)) (i_rng (lo := 0) (hi := 1) l_1 (by omega) (by omega)) (i_rng (lo := 0) (hi := 1) l_1 (by omega) (by omega))) ?_
      rintro rv33 mv34 ⟨hq35_, gq36_, kq37_⟩
      have hq38_ := kq37_.nil
      subst hq38_
      refine T_eq rfl l_m1 (fun hq39_ => ?_) (fun hq39_ => ?_)
      · unfold f_X12_game_93
        refine T_qg rfl (by omega) (by omega) ?_
        have hq41_ := i_bool (0 : Int32)
        refine T_mu hG hS (i_rng (lo := 0) (hi := 1) rfl (by omega) (by omega)) (nw_120 _) (i := 0) rfl ⟨by decide, by decide, Or.inl rfl⟩ ?_
        intro mv40 hq42_ gq43_ kq44_
        have hq45_ : (mv40 120 rv27.toNatClampNeg).toInt = (vp_nar .boolean (0 : Int32)).toInt := by rw [hq42_, mu_at]
        refine T_qc (t_X12_gameState hn a8 (0 : Int32) (1 : Int32) mv40 gq43_ (i_rng (lo := 0) (hi := 511) rfl (by omega) (by omega)) (i_rng (lo := 0) (hi := 1) l_0 (by omega) (by omega)) (i_rng (lo := 0) (hi := 1) l_1 (by omega) (by omega))) ?_
        rintro rv46 mv47 ⟨hq48_, gq49_, kq50_⟩
        have hq51_ := kq50_.nil
        subst hq51_
        refine T_qc (t_X12_winningMove hn a8 (0 : Int32) (1 : Int32) mv40 gq43_ (i_rng (lo := 0) (hi := 511) rfl (by omega) (by omega)) (i_rng (lo := 0) (hi := 1) l_0 (by omega) (by omega)) (i_rng (lo := 0) (hi := 1) l_1 (by omega) (by omega))) ?_
        rintro rv52 mv53 ⟨hq54_, gq55_, kq56_⟩
        have hq57_ := kq56_.nil
        subst hq57_
        refine T_eq rfl l_m1 (fun hq58_ => ?_) (fun hq58_ => ?_)
        · unfold f_X12_game_122
          refine T_qg rfl (by omega) (by omega) ?_
          have hq60_ := i_bool (0 : Int32)
          refine T_mu gq43_ kq44_ (i_rng (lo := 0) (hi := 1) rfl (by omega) (by omega)) (nw_120 _) (i := 0) rfl ⟨by decide, by decide, Or.inl rfl⟩ ?_
          intro mv59 hq61_ gq62_ kq63_
          have hq64_ : (mv59 120 rv46.toNatClampNeg).toInt = (vp_nar .boolean (0 : Int32)).toInt := by rw [hq61_, mu_at]
          refine T_qc (t_X12_gameState hn a8 (1 : Int32) (0 : Int32) mv59 gq62_ (i_rng (lo := 0) (hi := 511) rfl (by omega) (by omega)) (i_rng (lo := 0) (hi := 1) l_1 (by omega) (by omega)) (i_rng (lo := 0) (hi := 1) l_0 (by omega) (by omega))) ?_
          rintro rv65 mv66 ⟨hq67_, gq68_, kq69_⟩
          have hq70_ := kq69_.nil
          subst hq70_
          refine T_qc (t_X12_winningMove hn a8 (1 : Int32) (0 : Int32) mv59 gq62_ (i_rng (lo := 0) (hi := 511) rfl (by omega) (by omega)) (i_rng (lo := 0) (hi := 1) l_1 (by omega) (by omega)) (i_rng (lo := 0) (hi := 1) l_0 (by omega) (by omega))) ?_
          rintro rv71 mv72 ⟨hq73_, gq74_, kq75_⟩
          have hq76_ := kq75_.nil
          subst hq76_
          refine T_eq rfl l_m1 (fun hq77_ => ?_) (fun hq77_ => ?_)
          · unfold f_X12_game_151
            refine T_qg rfl (by omega) (by omega) ?_
            have hq79_ := i_bool (0 : Int32)
            refine T_mu gq62_ kq63_ (i_rng (lo := 0) (hi := 1) rfl (by omega) (by omega)) (nw_120 _) (i := 0) rfl ⟨by decide, by decide, Or.inl rfl⟩ ?_
            intro mv78 hq80_ gq81_ kq82_
            have hq83_ : (mv78 120 rv65.toNatClampNeg).toInt = (vp_nar .boolean (0 : Int32)).toInt := by rw [hq80_, mu_at]
            refine T_qc (t_X12_gameState hn a8 (0 : Int32) (0 : Int32) mv78 gq81_ (i_rng (lo := 0) (hi := 511) rfl (by omega) (by omega)) (i_rng (lo := 0) (hi := 1) l_0 (by omega) (by omega)) (i_rng (lo := 0) (hi := 1) l_0 (by omega) (by omega))) ?_
            rintro rv84 mv85 ⟨hq86_, gq87_, kq88_⟩
            have hq89_ := kq88_.nil
            subst hq89_
            refine T_qc (t_X12_winningMove hn a8 (0 : Int32) (0 : Int32) mv78 gq81_ (i_rng (lo := 0) (hi := 511) rfl (by omega) (by omega)) (i_rng (lo := 0) (hi := 1) l_0 (by omega) (by omega)) (i_rng (lo := 0) (hi := 1) l_0 (by omega) (by omega))) ?_
            rintro rv90 mv91 ⟨hq92_, gq93_, kq94_⟩
            have hq95_ := kq94_.nil
            subst hq95_
            refine T_eq rfl l_m1 (fun hq96_ => ?_) (fun hq96_ => ?_)
            · refine T_qg rfl (by omega) (by omega) ?_
              have hq98_ := i_bool (0 : Int32)
              refine T_mu gq81_ kq82_ (i_rng (lo := 0) (hi := 1) rfl (by omega) (by omega)) (nw_120 _) (i := 0) rfl ⟨by decide, by decide, Or.inl rfl⟩ ?_
              intro mv97 hq99_ gq100_ kq101_
              have hq102_ : (mv97 120 rv84.toNatClampNeg).toInt = (vp_nar .boolean (0 : Int32)).toInt := by rw [hq99_, mu_at]
              refine T_ql (i_add rfl l_1 (by omega) (by omega)) ?_
              intro xv103 hq104_
              exact ih a4 a5 a6 a7 xv103 mv97 gq100_ kq101_ (i_rng (lo := 0) (hi := 1) rfl (by omega) (by omega)) (i_rng (lo := 0) (hi := 1) rfl (by omega) (by omega)) (i_rng (lo := 0) (hi := 1) rfl (by omega) (by omega)) (i_rng (lo := 0) (hi := 511) rfl (by omega) (by omega)) (i_rng (lo := 0) (hi := 512) rfl (by omega) (by omega)) (by omega)
            · refine T_qg rfl (by omega) (by omega) ?_
              have hq106_ := i_bool (1 : Int32)
              refine T_mu gq81_ kq82_ (i_rng (lo := 0) (hi := 1) rfl (by omega) (by omega)) (nw_120 _) (i := 0) rfl ⟨by decide, by decide, Or.inl rfl⟩ ?_
              intro mv105 hq107_ gq108_ kq109_
              have hq110_ : (mv105 120 rv84.toNatClampNeg).toInt = (vp_nar .boolean (1 : Int32)).toInt := by rw [hq107_, mu_at]
              refine T_ql (i_add rfl l_1 (by omega) (by omega)) ?_
              intro xv111 hq112_
              exact ih a4 a5 a6 a7 xv111 mv105 gq108_ kq109_ (i_rng (lo := 0) (hi := 1) rfl (by omega) (by omega)) (i_rng (lo := 0) (hi := 1) rfl (by omega) (by omega)) (i_rng (lo := 0) (hi := 1) rfl (by omega) (by omega)) (i_rng (lo := 0) (hi := 511) rfl (by omega) (by omega)) (i_rng (lo := 0) (hi := 512) rfl (by omega) (by omega)) (by omega)
          · unfold f_X12_game_151
            refine T_qg rfl (by omega) (by omega) ?_
            have hq114_ := i_bool (1 : Int32)
            refine T_mu gq62_ kq63_ (i_rng (lo := 0) (hi := 1) rfl (by omega) (by omega)) (nw_120 _) (i := 0) rfl ⟨by decide, by decide, Or.inl rfl⟩ ?_
            intro mv113 hq115_ gq116_ kq117_
            have hq118_ : (mv113 120 rv65.toNatClampNeg).toInt = (vp_nar .boolean (1 : Int32)).toInt := by rw [hq115_, mu_at]
            refine T_qc (t_X12_gameState hn a8 (0 : Int32) (0 : Int32) mv113 gq116_ (i_rng (lo := 0) (hi := 511) rfl (by omega) (by omega)) (i_rng (lo := 0) (hi := 1) l_0 (by omega) (by omega)) (i_rng (lo := 0) (hi := 1) l_0 (by omega) (by omega))) ?_
            rintro rv119 mv120 ⟨hq121_, gq122_, kq123_⟩
            have hq124_ := kq123_.nil
            subst hq124_
            refine T_qc (t_X12_winningMove hn a8 (0 : Int32) (0 : Int32) mv113 gq116_ (i_rng (lo := 0) (hi := 511) rfl (by omega) (by omega)) (i_rng (lo := 0) (hi := 1) l_0 (by omega) (by omega)) (i_rng (lo := 0) (hi := 1) l_0 (by omega) (by omega))) ?_
            rintro rv125 mv126 ⟨hq127_, gq128_, kq129_⟩
            have hq130_ := kq129_.nil
            subst hq130_
            refine T_eq rfl l_m1 (fun hq131_ => ?_) (fun hq131_ => ?_)
            · refine T_qg rfl (by omega) (by omega) ?_
              have hq133_ := i_bool (0 : Int32)
              refine T_mu gq116_ kq117_ (i_rng (lo := 0) (hi := 1) rfl (by omega) (by omega)) (nw_120 _) (i := 0) rfl ⟨by decide, by decide, Or.inl rfl⟩ ?_
              intro mv132 hq134_ gq135_ kq136_
              have hq137_ : (mv132 120 rv119.toNatClampNeg).toInt = (vp_nar .boolean (0 : Int32)).toInt := by rw [hq134_, mu_at]
              refine T_ql (i_add rfl l_1 (by omega) (by omega)) ?_
              intro xv138 hq139_
              exact ih a4 a5 a6 a7 xv138 mv132 gq135_ kq136_ (i_rng (lo := 0) (hi := 1) rfl (by omega) (by omega)) (i_rng (lo := 0) (hi := 1) rfl (by omega) (by omega)) (i_rng (lo := 0) (hi := 1) rfl (by omega) (by omega)) (i_rng (lo := 0) (hi := 511) rfl (by omega) (by omega)) (i_rng (lo := 0) (hi := 512) rfl (by omega) (by omega)) (by omega)
            · refine T_qg rfl (by omega) (by omega) ?_
              have hq141_ := i_bool (1 : Int32)
              refine T_mu gq116_ kq117_ (i_rng (lo := 0) (hi := 1) rfl (by omega) (by omega)) (nw_120 _) (i := 0) rfl ⟨by decide, by decide, Or.inl rfl⟩ ?_
              intro mv140 hq142_ gq143_ kq144_
              have hq145_ : (mv140 120 rv119.toNatClampNeg).toInt = (vp_nar .boolean (1 : Int32)).toInt := by rw [hq142_, mu_at]
              refine T_ql (i_add rfl l_1 (by omega) (by omega)) ?_
              intro xv146 hq147_
              exact ih a4 a5 a6 a7 xv146 mv140 gq143_ kq144_ (i_rng (lo := 0) (hi := 1) rfl (by omega) (by omega)) (i_rng (lo := 0) (hi := 1) rfl (by omega) (by omega)) (i_rng (lo := 0) (hi := 1) rfl (by omega) (by omega)) (i_rng (lo := 0) (hi := 511) rfl (by omega) (by omega)) (i_rng (lo := 0) (hi := 512) rfl (by omega) (by omega)) (by omega)
        · unfold f_X12_game_122
          refine T_qg rfl (by omega) (by omega) ?_
          have hq149_ := i_bool (1 : Int32)
          refine T_mu gq43_ kq44_ (i_rng (lo := 0) (hi := 1) rfl (by omega) (by omega)) (nw_120 _) (i := 0) rfl ⟨by decide, by decide, Or.inl rfl⟩ ?_
          intro mv148 hq150_ gq151_ kq152_
          have hq153_ : (mv148 120 rv46.toNatClampNeg).toInt = (vp_nar .boolean (1 : Int32)).toInt := by rw [hq150_, mu_at]
          refine T_qc (t_X12_gameState hn a8 (1 : Int32) (0 : Int32) mv148 gq151_ (i_rng (lo := 0) (hi := 511) rfl (by omega) (by omega)) (i_rng (lo := 0) (hi := 1) l_1 (by omega) (by omega)) (i_rng (lo := 0) (hi := 1) l_0 (by omega) (by omega))) ?_
          rintro rv154 mv155 ⟨hq156_, gq157_, kq158_⟩
          have hq159_ := kq158_.nil
          subst hq159_
          refine T_qc (t_X12_winningMove hn a8 (1 : Int32) (0 : Int32) mv148 gq151_ (i_rng (lo := 0) (hi := 511) rfl (by omega) (by omega)) (i_rng (lo := 0) (hi := 1) l_1 (by omega) (by omega)) (i_rng (lo := 0) (hi := 1) l_0 (by omega) (by omega))) ?_
          rintro rv160 mv161 ⟨hq162_, gq163_, kq164_⟩
          have hq165_ := kq164_.nil
          subst hq165_
          refine T_eq rfl l_m1 (fun hq166_ => ?_) (fun hq166_ => ?_)
          · unfold f_X12_game_151
            refine T_qg rfl (by omega) (by omega) ?_
            have hq168_ := i_bool (0 : Int32)
            refine T_mu gq151_ kq152_ (i_rng (lo := 0) (hi := 1) rfl (by omega) (by omega)) (nw_120 _) (i := 0) rfl ⟨by decide, by decide, Or.inl rfl⟩ ?_
            intro mv167 hq169_ gq170_ kq171_
            have hq172_ : (mv167 120 rv154.toNatClampNeg).toInt = (vp_nar .boolean (0 : Int32)).toInt := by rw [hq169_, mu_at]
            refine T_qc (t_X12_gameState hn a8 (0 : Int32) (0 : Int32) mv167 gq170_ (i_rng (lo := 0) (hi := 511) rfl (by omega) (by omega)) (i_rng (lo := 0) (hi := 1) l_0 (by omega) (by omega)) (i_rng (lo := 0) (hi := 1) l_0 (by omega) (by omega))) ?_
            rintro rv173 mv174 ⟨hq175_, gq176_, kq177_⟩
            have hq178_ := kq177_.nil
            subst hq178_
            refine T_qc (t_X12_winningMove hn a8 (0 : Int32) (0 : Int32) mv167 gq170_ (i_rng (lo := 0) (hi := 511) rfl (by omega) (by omega)) (i_rng (lo := 0) (hi := 1) l_0 (by omega) (by omega)) (i_rng (lo := 0) (hi := 1) l_0 (by omega) (by omega))) ?_
            rintro rv179 mv180 ⟨hq181_, gq182_, kq183_⟩
            have hq184_ := kq183_.nil
            subst hq184_
            refine T_eq rfl l_m1 (fun hq185_ => ?_) (fun hq185_ => ?_)
            · refine T_qg rfl (by omega) (by omega) ?_
              have hq187_ := i_bool (0 : Int32)
              refine T_mu gq170_ kq171_ (i_rng (lo := 0) (hi := 1) rfl (by omega) (by omega)) (nw_120 _) (i := 0) rfl ⟨by decide, by decide, Or.inl rfl⟩ ?_
              intro mv186 hq188_ gq189_ kq190_
              have hq191_ : (mv186 120 rv173.toNatClampNeg).toInt = (vp_nar .boolean (0 : Int32)).toInt := by rw [hq188_, mu_at]
              refine T_ql (i_add rfl l_1 (by omega) (by omega)) ?_
              intro xv192 hq193_
              exact ih a4 a5 a6 a7 xv192 mv186 gq189_ kq190_ (i_rng (lo := 0) (hi := 1) rfl (by omega) (by omega)) (i_rng (lo := 0) (hi := 1) rfl (by omega) (by omega)) (i_rng (lo := 0) (hi := 1) rfl (by omega) (by omega)) (i_rng (lo := 0) (hi := 511) rfl (by omega) (by omega)) (i_rng (lo := 0) (hi := 512) rfl (by omega) (by omega)) (by omega)
            · refine T_qg rfl (by omega) (by omega) ?_
              have hq195_ := i_bool (1 : Int32)
              refine T_mu gq170_ kq171_ (i_rng (lo := 0) (hi := 1) rfl (by omega) (by omega)) (nw_120 _) (i := 0) rfl ⟨by decide, by decide, Or.inl rfl⟩ ?_
              intro mv194 hq196_ gq197_ kq198_
              have hq199_ : (mv194 120 rv173.toNatClampNeg).toInt = (vp_nar .boolean (1 : Int32)).toInt := by rw [hq196_, mu_at]
              refine T_ql (i_add rfl l_1 (by omega) (by omega)) ?_
              intro xv200 hq201_
              exact ih a4 a5 a6 a7 xv200 mv194 gq197_ kq198_ (i_rng (lo := 0) (hi := 1) rfl (by omega) (by omega)) (i_rng (lo := 0) (hi := 1) rfl (by omega) (by omega)) (i_rng (lo := 0) (hi := 1) rfl (by omega) (by omega)) (i_rng (lo := 0) (hi := 511) rfl (by omega) (by omega)) (i_rng (lo := 0) (hi := 512) rfl (by omega) (by omega)) (by omega)
          · unfold f_X12_game_151
            refine T_qg rfl (by omega) (by omega) ?_
            have hq203_ := i_bool (1 : Int32)
            refine T_mu gq151_ kq152_ (i_rng (lo := 0) (hi := 1) rfl (by omega) (by omega)) (nw_120 _) (i := 0) rfl ⟨by decide, by decide, Or.inl rfl⟩ ?_
            intro mv202 hq204_ gq205_ kq206_
            have hq207_ : (mv202 120 rv154.toNatClampNeg).toInt = (vp_nar .boolean (1 : Int32)).toInt := by rw [hq204_, mu_at]
            refine T_qc (t_X12_gameState hn a8 (0 : Int32) (0 : Int32) mv202 gq205_ (i_rng (lo := 0) (hi := 511) rfl (by omega) (by omega)) (i_rng (lo := 0) (hi := 1) l_0 (by omega) (by omega)) (i_rng (lo := 0) (hi := 1) l_0 (by omega) (by omega))) ?_
            rintro rv208 mv209 ⟨hq210_, gq211_, kq212_⟩
            have hq213_ := kq212_.nil
            subst hq213_
            refine T_qc (t_X12_winningMove hn a8 (0 : Int32) (0 : Int32) mv202 gq205_ (i_rng (lo := 0) (hi := 511) rfl (by omega) (by omega)) (i_rng (lo := 0) (hi := 1) l_0 (by omega) (by omega)) (i_rng (lo := 0) (hi := 1) l_0 (by omega) (by omega))) ?_
            rintro rv214 mv215 ⟨hq216_, gq217_, kq218_⟩
            have hq219_ := kq218_.nil
            subst hq219_
            refine T_eq rfl l_m1 (fun hq220_ => ?_) (fun hq220_ => ?_)
            · refine T_qg rfl (by omega) (by omega) ?_
              have hq222_ := i_bool (0 : Int32)
              refine T_mu gq205_ kq206_ (i_rng (lo := 0) (hi := 1) rfl (by omega) (by omega)) (nw_120 _) (i := 0) rfl ⟨by decide, by decide, Or.inl rfl⟩ ?_
              intro mv221 hq223_ gq224_ kq225_
              have hq226_ : (mv221 120 rv208.toNatClampNeg).toInt = (vp_nar .boolean (0 : Int32)).toInt := by rw [hq223_, mu_at]
              refine T_ql (i_add rfl l_1 (by omega) (by omega)) ?_
              intro xv227 hq228_
              exact ih a4 a5 a6 a7 xv227 mv221 gq224_ kq225_ (i_rng (lo := 0) (hi := 1) rfl (by omega) (by omega)) (i_rng (lo := 0) (hi := 1) rfl (by omega) (by omega)) (i_rng (lo := 0) (hi := 1) rfl (by omega) (by omega)) (i_rng (lo := 0) (hi := 511) rfl (by omega) (by omega)) (i_rng (lo := 0) (hi := 512) rfl (by omega) (by omega)) (by omega)
            · refine T_qg rfl (by omega) (by omega) ?_
              have hq230_ := i_bool (1 : Int32)
              refine T_mu gq205_ kq206_ (i_rng (lo := 0) (hi := 1) rfl (by omega) (by omega)) (nw_120 _) (i := 0) rfl ⟨by decide, by decide, Or.inl rfl⟩ ?_
              intro mv229 hq231_ gq232_ kq233_
              have hq234_ : (mv229 120 rv208.toNatClampNeg).toInt = (vp_nar .boolean (1 : Int32)).toInt := by rw [hq231_, mu_at]
              refine T_ql (i_add rfl l_1 (by omega) (by omega)) ?_
              intro xv235 hq236_
              exact ih a4 a5 a6 a7 xv235 mv229 gq232_ kq233_ (i_rng (lo := 0) (hi := 1) rfl (by omega) (by omega)) (i_rng (lo := 0) (hi := 1) rfl (by omega) (by omega)) (i_rng (lo := 0) (hi := 1) rfl (by omega) (by omega)) (i_rng (lo := 0) (hi := 511) rfl (by omega) (by omega)) (i_rng (lo := 0) (hi := 512) rfl (by omega) (by omega)) (by omega)
      · unfold f_X12_game_93
        refine T_qg rfl (by omega) (by omega) ?_
        have hq238_ := i_bool (1 : Int32)
        refine T_mu hG hS (i_rng (lo := 0) (hi := 1) rfl (by omega) (by omega)) (nw_120 _) (i := 0) rfl ⟨by decide, by decide, Or.inl rfl⟩ ?_
        intro mv237 hq239_ gq240_ kq241_
        have hq242_ : (mv237 120 rv27.toNatClampNeg).toInt = (vp_nar .boolean (1 : Int32)).toInt := by rw [hq239_, mu_at]
        refine T_qc (t_X12_gameState hn a8 (0 : Int32) (1 : Int32) mv237 gq240_ (i_rng (lo := 0) (hi := 511) rfl (by omega) (by omega)) (i_rng (lo := 0) (hi := 1) l_0 (by omega) (by omega)) (i_rng (lo := 0) (hi := 1) l_1 (by omega) (by omega))) ?_
        rintro rv243 mv244 ⟨hq245_, gq246_, kq247_⟩
        have hq248_ := kq247_.nil
        subst hq248_
        refine T_qc (t_X12_winningMove hn a8 (0 : Int32) (1 : Int32) mv237 gq240_ (i_rng (lo := 0) (hi := 511) rfl (by omega) (by omega)) (i_rng (lo := 0) (hi := 1) l_0 (by omega) (by omega)) (i_rng (lo := 0) (hi := 1) l_1 (by omega) (by omega))) ?_
        rintro rv249 mv250 ⟨hq251_, gq252_, kq253_⟩
        have hq254_ := kq253_.nil
        subst hq254_
        refine T_eq rfl l_m1 (fun hq255_ => ?_) (fun hq255_ => ?_)
        · unfold f_X12_game_122
          refine T_qg rfl (by omega) (by omega) ?_
          have hq257_ := i_bool (0 : Int32)
          refine T_mu gq240_ kq241_ (i_rng (lo := 0) (hi := 1) rfl (by omega) (by omega)) (nw_120 _) (i := 0) rfl ⟨by decide, by decide, Or.inl rfl⟩ ?_
          intro mv256 hq258_ gq259_ kq260_
          have hq261_ : (mv256 120 rv243.toNatClampNeg).toInt = (vp_nar .boolean (0 : Int32)).toInt := by rw [hq258_, mu_at]
          refine T_qc (t_X12_gameState hn a8 (1 : Int32) (0 : Int32) mv256 gq259_ (i_rng (lo := 0) (hi := 511) rfl (by omega) (by omega)) (i_rng (lo := 0) (hi := 1) l_1 (by omega) (by omega)) (i_rng (lo := 0) (hi := 1) l_0 (by omega) (by omega))) ?_
          rintro rv262 mv263 ⟨hq264_, gq265_, kq266_⟩
          have hq267_ := kq266_.nil
          subst hq267_
          refine T_qc (t_X12_winningMove hn a8 (1 : Int32) (0 : Int32) mv256 gq259_ (i_rng (lo := 0) (hi := 511) rfl (by omega) (by omega)) (i_rng (lo := 0) (hi := 1) l_1 (by omega) (by omega)) (i_rng (lo := 0) (hi := 1) l_0 (by omega) (by omega))) ?_
          rintro rv268 mv269 ⟨hq270_, gq271_, kq272_⟩
          have hq273_ := kq272_.nil
          subst hq273_
          refine T_eq rfl l_m1 (fun hq274_ => ?_) (fun hq274_ => ?_)
          · unfold f_X12_game_151
            refine T_qg rfl (by omega) (by omega) ?_
            have hq276_ := i_bool (0 : Int32)
            refine T_mu gq259_ kq260_ (i_rng (lo := 0) (hi := 1) rfl (by omega) (by omega)) (nw_120 _) (i := 0) rfl ⟨by decide, by decide, Or.inl rfl⟩ ?_
            intro mv275 hq277_ gq278_ kq279_
            have hq280_ : (mv275 120 rv262.toNatClampNeg).toInt = (vp_nar .boolean (0 : Int32)).toInt := by rw [hq277_, mu_at]
            refine T_qc (t_X12_gameState hn a8 (0 : Int32) (0 : Int32) mv275 gq278_ (i_rng (lo := 0) (hi := 511) rfl (by omega) (by omega)) (i_rng (lo := 0) (hi := 1) l_0 (by omega) (by omega)) (i_rng (lo := 0) (hi := 1) l_0 (by omega) (by omega))) ?_
            rintro rv281 mv282 ⟨hq283_, gq284_, kq285_⟩
            have hq286_ := kq285_.nil
            subst hq286_
            refine T_qc (t_X12_winningMove hn a8 (0 : Int32) (0 : Int32) mv275 gq278_ (i_rng (lo := 0) (hi := 511) rfl (by omega) (by omega)) (i_rng (lo := 0) (hi := 1) l_0 (by omega) (by omega)) (i_rng (lo := 0) (hi := 1) l_0 (by omega) (by omega))) ?_
            rintro rv287 mv288 ⟨hq289_, gq290_, kq291_⟩
            have hq292_ := kq291_.nil
            subst hq292_
            refine T_eq rfl l_m1 (fun hq293_ => ?_) (fun hq293_ => ?_)
            · refine T_qg rfl (by omega) (by omega) ?_
              have hq295_ := i_bool (0 : Int32)
              refine T_mu gq278_ kq279_ (i_rng (lo := 0) (hi := 1) rfl (by omega) (by omega)) (nw_120 _) (i := 0) rfl ⟨by decide, by decide, Or.inl rfl⟩ ?_
              intro mv294 hq296_ gq297_ kq298_
              have hq299_ : (mv294 120 rv281.toNatClampNeg).toInt = (vp_nar .boolean (0 : Int32)).toInt := by rw [hq296_, mu_at]
              refine T_ql (i_add rfl l_1 (by omega) (by omega)) ?_
              intro xv300 hq301_
              exact ih a4 a5 a6 a7 xv300 mv294 gq297_ kq298_ (i_rng (lo := 0) (hi := 1) rfl (by omega) (by omega)) (i_rng (lo := 0) (hi := 1) rfl (by omega) (by omega)) (i_rng (lo := 0) (hi := 1) rfl (by omega) (by omega)) (i_rng (lo := 0) (hi := 511) rfl (by omega) (by omega)) (i_rng (lo := 0) (hi := 512) rfl (by omega) (by omega)) (by omega)
            · refine T_qg rfl (by omega) (by omega) ?_
              have hq303_ := i_bool (1 : Int32)
              refine T_mu gq278_ kq279_ (i_rng (lo := 0) (hi := 1) rfl (by omega) (by omega)) (nw_120 _) (i := 0) rfl ⟨by decide, by decide, Or.inl rfl⟩ ?_
              intro mv302 hq304_ gq305_ kq306_
              have hq307_ : (mv302 120 rv281.toNatClampNeg).toInt = (vp_nar .boolean (1 : Int32)).toInt := by rw [hq304_, mu_at]
              refine T_ql (i_add rfl l_1 (by omega) (by omega)) ?_
              intro xv308 hq309_
              exact ih a4 a5 a6 a7 xv308 mv302 gq305_ kq306_ (i_rng (lo := 0) (hi := 1) rfl (by omega) (by omega)) (i_rng (lo := 0) (hi := 1) rfl (by omega) (by omega)) (i_rng (lo := 0) (hi := 1) rfl (by omega) (by omega)) (i_rng (lo := 0) (hi := 511) rfl (by omega) (by omega)) (i_rng (lo := 0) (hi := 512) rfl (by omega) (by omega)) (by omega)
          · unfold f_X12_game_151
            refine T_qg rfl (by omega) (by omega) ?_
            have hq311_ := i_bool (1 : Int32)
            refine T_mu gq259_ kq260_ (i_rng (lo := 0) (hi := 1) rfl (by omega) (by omega)) (nw_120 _) (i := 0) rfl ⟨by decide, by decide, Or.inl rfl⟩ ?_
            intro mv310 hq312_ gq313_ kq314_
            have hq315_ : (mv310 120 rv262.toNatClampNeg).toInt = (vp_nar .boolean (1 : Int32)).toInt := by rw [hq312_, mu_at]
            refine T_qc (t_X12_gameState hn a8 (0 : Int32) (0 : Int32) mv310 gq313_ (i_rng (lo := 0) (hi := 511) rfl (by omega) (by omega)) (i_rng (lo := 0) (hi := 1) l_0 (by omega) (by omega)) (i_rng (lo := 0) (hi := 1) l_0 (by omega) (by omega))) ?_
            rintro rv316 mv317 ⟨hq318_, gq319_, kq320_⟩
            have hq321_ := kq320_.nil
            subst hq321_
            refine T_qc (t_X12_winningMove hn a8 (0 : Int32) (0 : Int32) mv310 gq313_ (i_rng (lo := 0) (hi := 511) rfl (by omega) (by omega)) (i_rng (lo := 0) (hi := 1) l_0 (by omega) (by omega)) (i_rng (lo := 0) (hi := 1) l_0 (by omega) (by omega))) ?_
            rintro rv322 mv323 ⟨hq324_, gq325_, kq326_⟩
            have hq327_ := kq326_.nil
            subst hq327_
            refine T_eq rfl l_m1 (fun hq328_ => ?_) (fun hq328_ => ?_)
            · refine T_qg rfl (by omega) (by omega) ?_
              have hq330_ := i_bool (0 : Int32)
              refine T_mu gq313_ kq314_ (i_rng (lo := 0) (hi := 1) rfl (by omega) (by omega)) (nw_120 _) (i := 0) rfl ⟨by decide, by decide, Or.inl rfl⟩ ?_
              intro mv329 hq331_ gq332_ kq333_
              have hq334_ : (mv329 120 rv316.toNatClampNeg).toInt = (vp_nar .boolean (0 : Int32)).toInt := by rw [hq331_, mu_at]
              refine T_ql (i_add rfl l_1 (by omega) (by omega)) ?_
              intro xv335 hq336_
              exact ih a4 a5 a6 a7 xv335 mv329 gq332_ kq333_ (i_rng (lo := 0) (hi := 1) rfl (by omega) (by omega)) (i_rng (lo := 0) (hi := 1) rfl (by omega) (by omega)) (i_rng (lo := 0) (hi := 1) rfl (by omega) (by omega)) (i_rng (lo := 0) (hi := 511) rfl (by omega) (by omega)) (i_rng (lo := 0) (hi := 512) rfl (by omega) (by omega)) (by omega)
            · refine T_qg rfl (by omega) (by omega) ?_
              have hq338_ := i_bool (1 : Int32)
              refine T_mu gq313_ kq314_ (i_rng (lo := 0) (hi := 1) rfl (by omega) (by omega)) (nw_120 _) (i := 0) rfl ⟨by decide, by decide, Or.inl rfl⟩ ?_
              intro mv337 hq339_ gq340_ kq341_
              have hq342_ : (mv337 120 rv316.toNatClampNeg).toInt = (vp_nar .boolean (1 : Int32)).toInt := by rw [hq339_, mu_at]
              refine T_ql (i_add rfl l_1 (by omega) (by omega)) ?_
              intro xv343 hq344_
              exact ih a4 a5 a6 a7 xv343 mv337 gq340_ kq341_ (i_rng (lo := 0) (hi := 1) rfl (by omega) (by omega)) (i_rng (lo := 0) (hi := 1) rfl (by omega) (by omega)) (i_rng (lo := 0) (hi := 1) rfl (by omega) (by omega)) (i_rng (lo := 0) (hi := 511) rfl (by omega) (by omega)) (i_rng (lo := 0) (hi := 512) rfl (by omega) (by omega)) (by omega)
        · unfold f_X12_game_122
          refine T_qg rfl (by omega) (by omega) ?_
          have hq346_ := i_bool (1 : Int32)
          refine T_mu gq240_ kq241_ (i_rng (lo := 0) (hi := 1) rfl (by omega) (by omega)) (nw_120 _) (i := 0) rfl ⟨by decide, by decide, Or.inl rfl⟩ ?_
          intro mv345 hq347_ gq348_ kq349_
          have hq350_ : (mv345 120 rv243.toNatClampNeg).toInt = (vp_nar .boolean (1 : Int32)).toInt := by rw [hq347_, mu_at]
          refine T_qc (t_X12_gameState hn a8 (1 : Int32) (0 : Int32) mv345 gq348_ (i_rng (lo := 0) (hi := 511) rfl (by omega) (by omega)) (i_rng (lo := 0) (hi := 1) l_1 (by omega) (by omega)) (i_rng (lo := 0) (hi := 1) l_0 (by omega) (by omega))) ?_
          rintro rv351 mv352 ⟨hq353_, gq354_, kq355_⟩
          have hq356_ := kq355_.nil
          subst hq356_
          refine T_qc (t_X12_winningMove hn a8 (1 : Int32) (0 : Int32) mv345 gq348_ (i_rng (lo := 0) (hi := 511) rfl (by omega) (by omega)) (i_rng (lo := 0) (hi := 1) l_1 (by omega) (by omega)) (i_rng (lo := 0) (hi := 1) l_0 (by omega) (by omega))) ?_
          rintro rv357 mv358 ⟨hq359_, gq360_, kq361_⟩
          have hq362_ := kq361_.nil
          subst hq362_
          refine T_eq rfl l_m1 (fun hq363_ => ?_) (fun hq363_ => ?_)
          · unfold f_X12_game_151
            refine T_qg rfl (by omega) (by omega) ?_
            have hq365_ := i_bool (0 : Int32)
            refine T_mu gq348_ kq349_ (i_rng (lo := 0) (hi := 1) rfl (by omega) (by omega)) (nw_120 _) (i := 0) rfl ⟨by decide, by decide, Or.inl rfl⟩ ?_
            intro mv364 hq366_ gq367_ kq368_
            have hq369_ : (mv364 120 rv351.toNatClampNeg).toInt = (vp_nar .boolean (0 : Int32)).toInt := by rw [hq366_, mu_at]
            refine T_qc (t_X12_gameState hn a8 (0 : Int32) (0 : Int32) mv364 gq367_ (i_rng (lo := 0) (hi := 511) rfl (by omega) (by omega)) (i_rng (lo := 0) (hi := 1) l_0 (by omega) (by omega)) (i_rng (lo := 0) (hi := 1) l_0 (by omega) (by omega))) ?_
            rintro rv370 mv371 ⟨hq372_, gq373_, kq374_⟩
            have hq375_ := kq374_.nil
            subst hq375_
            refine T_qc (t_X12_winningMove hn a8 (0 : Int32) (0 : Int32) mv364 gq367_ (i_rng (lo := 0) (hi := 511) rfl (by omega) (by omega)) (i_rng (lo := 0) (hi := 1) l_0 (by omega) (by omega)) (i_rng (lo := 0) (hi := 1) l_0 (by omega) (by omega))) ?_
            rintro rv376 mv377 ⟨hq378_, gq379_, kq380_⟩
            have hq381_ := kq380_.nil
            subst hq381_
            refine T_eq rfl l_m1 (fun hq382_ => ?_) (fun hq382_ => ?_)
            · refine T_qg rfl (by omega) (by omega) ?_
              have hq384_ := i_bool (0 : Int32)
              refine T_mu gq367_ kq368_ (i_rng (lo := 0) (hi := 1) rfl (by omega) (by omega)) (nw_120 _) (i := 0) rfl ⟨by decide, by decide, Or.inl rfl⟩ ?_
              intro mv383 hq385_ gq386_ kq387_
              have hq388_ : (mv383 120 rv370.toNatClampNeg).toInt = (vp_nar .boolean (0 : Int32)).toInt := by rw [hq385_, mu_at]
              refine T_ql (i_add rfl l_1 (by omega) (by omega)) ?_
              intro xv389 hq390_
              exact ih a4 a5 a6 a7 xv389 mv383 gq386_ kq387_ (i_rng (lo := 0) (hi := 1) rfl (by omega) (by omega)) (i_rng (lo := 0) (hi := 1) rfl (by omega) (by omega)) (i_rng (lo := 0) (hi := 1) rfl (by omega) (by omega)) (i_rng (lo := 0) (hi := 511) rfl (by omega) (by omega)) (i_rng (lo := 0) (hi := 512) rfl (by omega) (by omega)) (by omega)
            · refine T_qg rfl (by omega) (by omega) ?_
              have hq392_ := i_bool (1 : Int32)
              refine T_mu gq367_ kq368_ (i_rng (lo := 0) (hi := 1) rfl (by omega) (by omega)) (nw_120 _) (i := 0) rfl ⟨by decide, by decide, Or.inl rfl⟩ ?_
              intro mv391 hq393_ gq394_ kq395_
              have hq396_ : (mv391 120 rv370.toNatClampNeg).toInt = (vp_nar .boolean (1 : Int32)).toInt := by rw [hq393_, mu_at]
              refine T_ql (i_add rfl l_1 (by omega) (by omega)) ?_
              intro xv397 hq398_
              exact ih a4 a5 a6 a7 xv397 mv391 gq394_ kq395_ (i_rng (lo := 0) (hi := 1) rfl (by omega) (by omega)) (i_rng (lo := 0) (hi := 1) rfl (by omega) (by omega)) (i_rng (lo := 0) (hi := 1) rfl (by omega) (by omega)) (i_rng (lo := 0) (hi := 511) rfl (by omega) (by omega)) (i_rng (lo := 0) (hi := 512) rfl (by omega) (by omega)) (by omega)
          · unfold f_X12_game_151
            refine T_qg rfl (by omega) (by omega) ?_
            have hq400_ := i_bool (1 : Int32)
            refine T_mu gq348_ kq349_ (i_rng (lo := 0) (hi := 1) rfl (by omega) (by omega)) (nw_120 _) (i := 0) rfl ⟨by decide, by decide, Or.inl rfl⟩ ?_
            intro mv399 hq401_ gq402_ kq403_
            have hq404_ : (mv399 120 rv351.toNatClampNeg).toInt = (vp_nar .boolean (1 : Int32)).toInt := by rw [hq401_, mu_at]
            refine T_qc (t_X12_gameState hn a8 (0 : Int32) (0 : Int32) mv399 gq402_ (i_rng (lo := 0) (hi := 511) rfl (by omega) (by omega)) (i_rng (lo := 0) (hi := 1) l_0 (by omega) (by omega)) (i_rng (lo := 0) (hi := 1) l_0 (by omega) (by omega))) ?_
            rintro rv405 mv406 ⟨hq407_, gq408_, kq409_⟩
            have hq410_ := kq409_.nil
            subst hq410_
            refine T_qc (t_X12_winningMove hn a8 (0 : Int32) (0 : Int32) mv399 gq402_ (i_rng (lo := 0) (hi := 511) rfl (by omega) (by omega)) (i_rng (lo := 0) (hi := 1) l_0 (by omega) (by omega)) (i_rng (lo := 0) (hi := 1) l_0 (by omega) (by omega))) ?_
            rintro rv411 mv412 ⟨hq413_, gq414_, kq415_⟩
            have hq416_ := kq415_.nil
            subst hq416_
            refine T_eq rfl l_m1 (fun hq417_ => ?_) (fun hq417_ => ?_)
            · refine T_qg rfl (by omega) (by omega) ?_
              have hq419_ := i_bool (0 : Int32)
              refine T_mu gq402_ kq403_ (i_rng (lo := 0) (hi := 1) rfl (by omega) (by omega)) (nw_120 _) (i := 0) rfl ⟨by decide, by decide, Or.inl rfl⟩ ?_
              intro mv418 hq420_ gq421_ kq422_
              have hq423_ : (mv418 120 rv405.toNatClampNeg).toInt = (vp_nar .boolean (0 : Int32)).toInt := by rw [hq420_, mu_at]
              refine T_ql (i_add rfl l_1 (by omega) (by omega)) ?_
              intro xv424 hq425_
              exact ih a4 a5 a6 a7 xv424 mv418 gq421_ kq422_ (i_rng (lo := 0) (hi := 1) rfl (by omega) (by omega)) (i_rng (lo := 0) (hi := 1) rfl (by omega) (by omega)) (i_rng (lo := 0) (hi := 1) rfl (by omega) (by omega)) (i_rng (lo := 0) (hi := 511) rfl (by omega) (by omega)) (i_rng (lo := 0) (hi := 512) rfl (by omega) (by omega)) (by omega)
            · refine T_qg rfl (by omega) (by omega) ?_
              have hq427_ := i_bool (1 : Int32)
              refine T_mu gq402_ kq403_ (i_rng (lo := 0) (hi := 1) rfl (by omega) (by omega)) (nw_120 _) (i := 0) rfl ⟨by decide, by decide, Or.inl rfl⟩ ?_
              intro mv426 hq428_ gq429_ kq430_
              have hq431_ : (mv426 120 rv405.toNatClampNeg).toInt = (vp_nar .boolean (1 : Int32)).toInt := by rw [hq428_, mu_at]
              refine T_ql (i_add rfl l_1 (by omega) (by omega)) ?_
              intro xv432 hq433_
              exact ih a4 a5 a6 a7 xv432 mv426 gq429_ kq430_ (i_rng (lo := 0) (hi := 1) rfl (by omega) (by omega)) (i_rng (lo := 0) (hi := 1) rfl (by omega) (by omega)) (i_rng (lo := 0) (hi := 1) rfl (by omega) (by omega)) (i_rng (lo := 0) (hi := 511) rfl (by omega) (by omega)) (i_rng (lo := 0) (hi := 512) rfl (by omega) (by omega)) (by omega)
theorem t_X12_game {n : Nat} (hn : 200000 ≤ n) (a1 a2 a3 a4 a5 a6 : Int32) (M : qM) (hG : G M) (pa4 : 0 ≤ a4.toInt ∧ a4.toInt ≤ 1) (pa5 : 0 ≤ a5.toInt ∧ a5.toInt ≤ 1) : qT (f_X12_game n a1 a2 a3 a4 a5 a6 M) (po_X12_game a1 a2 a3 a4 a5 a6 M) := by
  have hS : Sm l_X12_game M M := Sm.rf
  unfold f_X12_game
  have hq436_ := (show ((0 : Int32)).toInt = _ from l_0)
  have hq437_ := (show ((7 : Int32)).toInt = _ from l_7)
  refine T_qc (t_X12_in hn a1 (0 : Int32) (7 : Int32) M hG (i_rng (lo := 0) (hi := 70) l_0 (by omega) (by omega)) (i_rng (lo := 0) (hi := 99999) l_7 (by omega) (by omega))) ?_
  rintro rv434 mv435 ⟨hq438_, hq439_, gq440_, kq441_⟩
  have hq442_ := kq441_.nil
  subst hq442_
  refine T_eq rfl l_0 (fun hq443_ => ?_) (fun hq443_ => ?_)
  · exact T_ret ⟨(i_rng (lo := (-2)) (hi := 23) l_m1 (by omega) (by omega)), hG, hS⟩
  · refine T_qc (t_X12_in hn a2 (0 : Int32) (7 : Int32) M hG (i_rng (lo := 0) (hi := 70) l_0 (by omega) (by omega)) (i_rng (lo := 0) (hi := 99999) l_7 (by omega) (by omega))) ?_
    rintro rv444 mv445 ⟨hq446_, hq447_, gq448_, kq449_⟩
    have hq450_ := kq449_.nil
    subst hq450_
    refine T_eq rfl l_0 (fun hq451_ => ?_) (fun hq451_ => ?_)
    · exact T_ret ⟨(i_rng (lo := (-2)) (hi := 23) l_m1 (by omega) (by omega)), hG, hS⟩
    · refine T_qc (t_X12_in hn a3 (0 : Int32) (7 : Int32) M hG (i_rng (lo := 0) (hi := 70) l_0 (by omega) (by omega)) (i_rng (lo := 0) (hi := 99999) l_7 (by omega) (by omega))) ?_
      rintro rv452 mv453 ⟨hq454_, hq455_, gq456_, kq457_⟩
      have hq458_ := kq457_.nil
      subst hq458_
      refine T_eq rfl l_0 (fun hq459_ => ?_) (fun hq459_ => ?_)
      · exact T_ret ⟨(i_rng (lo := (-2)) (hi := 23) l_m1 (by omega) (by omega)), hG, hS⟩
      · have hq462_ := (show ((1 : Int32)).toInt = _ from l_1)
        refine T_qc (t_X12_in hn a6 (0 : Int32) (1 : Int32) M hG (i_rng (lo := 0) (hi := 70) l_0 (by omega) (by omega)) (i_rng (lo := 0) (hi := 99999) l_1 (by omega) (by omega))) ?_
        rintro rv460 mv461 ⟨hq463_, hq464_, gq465_, kq466_⟩
        have hq467_ := kq466_.nil
        subst hq467_
        refine T_eq rfl l_0 (fun hq468_ => ?_) (fun hq468_ => ?_)
        · exact T_ret ⟨(i_rng (lo := (-2)) (hi := 23) l_m1 (by omega) (by omega)), hG, hS⟩
        · refine T_ql (i_add (i_add (i_mul l_64 rfl (by omega) (by omega)) (i_mul l_8 rfl (by omega) (by omega)) (by omega) (by omega)) rfl (by omega) (by omega)) ?_
          intro xv469 hq470_
          exact (t_X12_game_58 hn) n a4 a5 a6 xv469 (0 : Int32) M hG hS (i_rng (lo := 0) (hi := 1) rfl (by omega) (by omega)) (i_rng (lo := 0) (hi := 1) rfl (by omega) (by omega)) (i_rng (lo := 0) (hi := 1) rfl (by omega) (by omega)) (i_rng (lo := 0) (hi := 511) rfl (by omega) (by omega)) (i_rng (lo := 0) (hi := 512) l_0 (by omega) (by omega)) (by have e4 : ((0 : Int32)).toInt = _ := l_0; omega)

