abbrev l_X12_takesJobs : List Bx := [(77, 78, 59, 60), (111, 112, 0, 0)]
abbrev po_X12_takesJobs (a1 : Int32) (M : qM) (v : Int32) (M' : qM) : Prop := (0 ≤ v.toInt ∧ v.toInt ≤ 1) ∧ (v.toInt = 0 ∨ KM  M') ∧ G M' ∧ Sm l_X12_takesJobs M M'
theorem t_X12_takesJobs_7 {n : Nat} (hn : 200000 ≤ n) {oa1 : Int32} {M0 : qM} : ∀ (m : Nat) (a1 a2 : Int32) (M : qM), G M → Sm l_X12_takesJobs M0 M → 1 ≤ a1.toInt ∧ a1.toInt ≤ 8 → 0 ≤ a2.toInt ∧ a2.toInt ≤ 8 → ((M 77 59).toInt = a1.toInt ∧ ∀ i : Nat, (i : Int) < a2.toInt → 0 ≤ (M 111 i).toInt ∧ (M 111 i).toInt ≤ 11) → 8 - a2.toInt < (m : Int) → qT (f_X12_takesJobs_7 n m a1 a2 M) (po_X12_takesJobs oa1 M0) := by
  intro m
  induction m with
  | zero =>
    intro a1 a2 M hG hS i0 i1 hE i5
    have hq2_ := r_77_59 hG
    exfalso; omega
  | succ m ih =>
    intro a1 a2 M hG hS i0 i1 hE i5
    show qT (b_X12_takesJobs_7 n (f_X12_takesJobs_7 n m) a1 a2 M) _
    unfold b_X12_takesJobs_7
    have hq2_ := r_77_59 hG
    refine T_le rfl rfl (fun hq3_ => ?_) (fun hq3_ => ?_)
    · exact T_ret ⟨(i_rng (lo := 0) (hi := 1) l_1 (by omega) (by omega)), (Or.inr (fun i hi => hE.2 i (by have := hE.1; omega))), hG, hS⟩
    · refine T_qg rfl (by omega) (by omega) ?_
      refine T_qg rfl (by omega) (by omega) ?_
      have hq5_ := r_84 hG a2.toNatClampNeg
      refine T_mu hG hS (i_rng (lo := (-128)) (hi := 127) rfl (by omega) (by omega)) (nw_111 _) (i := 1) rfl ⟨by decide, by decide, Or.inl rfl⟩ ?_
      intro mv4 hq6_ gq7_ kq8_
      have hq9_ : (mv4 77 59).toInt = (M 77 59).toInt := by rw [hq6_, mu_ne (Or.inl (by decide))]
      have hq10_ : (mv4 111 a2.toNatClampNeg).toInt = (M 84 a2.toNatClampNeg).toInt := by rw [hq6_, mu_at]
      refine T_qg rfl (by omega) (by omega) ?_
      have hq13_ := r_111 gq7_ a2.toNatClampNeg
      refine T_qc (t_X12_isKind hn (mv4 111 a2.toNatClampNeg) mv4 gq7_ ) ?_
      rintro rv11 mv12 ⟨hq14_, hq15_, gq16_, kq17_⟩
      have hq18_ := kq17_.nil
      subst hq18_
      refine T_eq rfl l_0 (fun hq19_ => ?_) (fun hq19_ => ?_)
      · exact T_ret ⟨(i_rng (lo := 0) (hi := 1) l_0 (by omega) (by omega)), (Or.inl (by first | exact l_0 | omega)), gq7_, kq8_⟩
      · refine T_ql (i_add rfl l_1 (by omega) (by omega)) ?_
        intro xv20 hq21_
        have hq22_ := r_77_59 gq7_
        exact ih a1 xv20 mv4 gq7_ kq8_ (i_rng (lo := 1) (hi := 8) rfl (by omega) (by omega)) (i_rng (lo := 0) (hi := 8) rfl (by omega) (by omega)) (by first | exact ⟨by omega, fun i hi => absurd hi (by omega)⟩ | exact ⟨by omega, kAll_step (M := M) (a := a2) (fun s_ hs_ => by rw [hq6_, mu_ne (Or.inr hs_)]) hE.2 (by omega) (by omega) (by omega) (by omega)⟩) (by omega)
theorem t_X12_takesJobs {n : Nat} (hn : 200000 ≤ n) (a1 : Int32) (M : qM) (hG : G M) (pa1 : 1 ≤ a1.toInt ∧ a1.toInt ≤ 8) : qT (f_X12_takesJobs n a1 M) (po_X12_takesJobs a1 M) := by
  have hS : Sm l_X12_takesJobs M M := Sm.rf
  unfold f_X12_takesJobs
  refine T_mu hG hS (i_rng (lo := 0) (hi := 8) rfl (by omega) (by omega)) nw_77_59 (i := 0) rfl ⟨by decide, by decide, Or.inr ⟨by decide, by decide⟩⟩ ?_
  intro mv23 hq24_ gq25_ kq26_
  have hq27_ : (mv23 77 59).toInt = a1.toInt := by rw [hq24_, mu_at]
  have hq28_ := r_77_59 gq25_
  exact (t_X12_takesJobs_7 hn) n a1 (0 : Int32) mv23 gq25_ kq26_ (i_rng (lo := 1) (hi := 8) rfl (by omega) (by omega)) (i_rng (lo := 0) (hi := 8) l_0 (by omega) (by omega)) (by have e1 : ((0 : Int32)).toInt = _ := l_0; first | exact ⟨by omega, fun i hi => absurd hi (by omega)⟩ | exact ⟨by omega, kAll_step (M := M) (a := a2) (fun s_ hs_ => by rw [hq24_, mu_ne (Or.inl (by decide))]) hE.2 (by omega) (by omega) (by omega) (by omega)⟩) (by have e1 : ((0 : Int32)).toInt = _ := l_0; omega)
abbrev l_X12_whoDoes : List Bx := []
abbrev po_X12_whoDoes (a1 a2 : Int32) (M : qM) (v : Int32) (M' : qM) : Prop := (0 ≤ v.toInt ∧ v.toInt ≤ 2) ∧ G M' ∧ Sm l_X12_whoDoes M M'
theorem t_X12_whoDoes_10 {n : Nat} (hn : 200000 ≤ n) {oa1 oa2 : Int32} {M0 : qM} : ∀ (m : Nat) (a2 a3 a4 : Int32) (M : qM), G M → Sm l_X12_whoDoes M0 M → 0 ≤ a2.toInt ∧ a2.toInt ≤ 10 → 0 ≤ a3.toInt ∧ a3.toInt ≤ 6560 → (-1) ≤ a4.toInt ∧ a4.toInt ≤ 7 → 1 ≤ (M 77 60).toInt → a4.toInt - (-1) < (m : Int) → qT (f_X12_whoDoes_10 n m a2 a3 a4 M) (po_X12_whoDoes oa1 oa2 M0) := by
  intro m
  induction m with
  | zero =>
    intro a2 a3 a4 M hG hS i0 i1 i2 hE i6
    have hq3_ := r_77_60 hG
    exfalso; omega
  | succ m ih =>
    intro a2 a3 a4 M hG hS i0 i1 i2 hE i6
    show qT (b_X12_whoDoes_10 n (f_X12_whoDoes_10 n m) a2 a3 a4 M) _
    unfold b_X12_whoDoes_10
    have hq3_ := r_77_60 hG
    refine T_le rfl rfl (fun hq4_ => ?_) (fun hq4_ => ?_)
    · refine T_qd rfl (by omega) ?_
      have hq5_ := i_remb (a := a3) (b := M 77 60) rfl rfl (by omega) (by omega)
      exact T_ret ⟨(i_rng (lo := 0) (hi := 2) rfl (by omega) (by omega)), hG, hS⟩
    · refine T_qd rfl (by omega) ?_
      have hq6_ := i_divb (a := a3) (b := M 77 60) rfl rfl (by omega) (by omega)
      refine T_ql rfl ?_
      intro xv7 hq8_
      refine T_ql (i_add rfl l_m1 (by omega) (by omega)) ?_
      intro xv9 hq10_
      exact ih a2 xv7 xv9 M hG hS (i_rng (lo := 0) (hi := 10) rfl (by omega) (by omega)) (i_rng (lo := 0) (hi := 6560) rfl (by omega) (by omega)) (i_rng (lo := (-1)) (hi := 7) rfl (by omega) (by omega)) (by omega) (by omega)
theorem t_X12_whoDoes {n : Nat} (hn : 200000 ≤ n) (a1 a2 : Int32) (M : qM) (hG : G M) (pa1 : 0 ≤ a1.toInt ∧ a1.toInt ≤ 6560) (pa2 : 0 ≤ a2.toInt ∧ a2.toInt ≤ 10) (pe : 1 ≤ (M 77 60).toInt) : qT (f_X12_whoDoes n a1 a2 M) (po_X12_whoDoes a1 a2 M) := by
  have hS : Sm l_X12_whoDoes M M := Sm.rf
  unfold f_X12_whoDoes
  have hq11_ := r_77_60 hG
  have hq12_ := r_77_59 hG
  refine T_ql (i_sub rfl l_1 (by omega) (by omega)) ?_
  intro xv13 hq14_
  exact (t_X12_whoDoes_10 hn) n a2 a1 xv13 M hG hS (i_rng (lo := 0) (hi := 10) rfl (by omega) (by omega)) (i_rng (lo := 0) (hi := 6560) rfl (by omega) (by omega)) (i_rng (lo := (-1)) (hi := 7) rfl (by omega) (by omega)) (by omega) (by omega)
abbrev l_X12_jobNeeds : List Bx := []
abbrev po_X12_jobNeeds (a1 a2 : Int32) (M : qM) (v : Int32) (M' : qM) : Prop := (0 ≤ v.toInt ∧ v.toInt ≤ 1) ∧ G M' ∧ Sm l_X12_jobNeeds M M'
theorem t_X12_jobNeeds_2 {n : Nat} (hn : 200000 ≤ n) {oa1 oa2 : Int32} {M0 : qM} : ∀ (m : Nat) (a1 a2 a3 : Int32) (M : qM), G M → Sm l_X12_jobNeeds M0 M → 0 ≤ a1.toInt ∧ a1.toInt ≤ 7 → 0 ≤ a2.toInt ∧ a2.toInt ≤ 11 → 0 ≤ a3.toInt ∧ a3.toInt ≤ 12 → 12 - a3.toInt < (m : Int) → qT (f_X12_jobNeeds_2 n m a1 a2 a3 M) (po_X12_jobNeeds oa1 oa2 M0) := by
  intro m
  induction m with
  | zero =>
    intro a1 a2 a3 M hG hS i0 i1 i2 i5
    exfalso; omega
  | succ m ih =>
    intro a1 a2 a3 M hG hS i0 i1 i2 i5
    show qT (b_X12_jobNeeds_2 n (f_X12_jobNeeds_2 n m) a1 a2 a3 M) _
    unfold b_X12_jobNeeds_2
    refine T_le l_12 rfl (fun hq3_ => ?_) (fun hq3_ => ?_)
    · exact T_ret ⟨(i_rng (lo := 0) (hi := 1) l_1 (by omega) (by omega)), hG, hS⟩
    · refine T_qg rfl (by omega) (by omega) ?_
      refine T_qc (t_X12_has0 hn (M 83 a2.toNatClampNeg) a3 M hG (i_rng (lo := 0) (hi := 11) rfl (by omega) (by omega))) ?_
      rintro rv4 mv5 ⟨hq6_, hq7_, gq8_, kq9_⟩
      have hq10_ := kq9_.nil
      subst hq10_
      refine T_eq rfl l_0 (fun hq11_ => ?_) (fun hq11_ => ?_)
      · refine T_ql (i_add rfl l_1 (by omega) (by omega)) ?_
        intro xv12 hq13_
        exact ih a1 a2 xv12 M hG hS (i_rng (lo := 0) (hi := 7) rfl (by omega) (by omega)) (i_rng (lo := 0) (hi := 11) rfl (by omega) (by omega)) (i_rng (lo := 0) (hi := 12) rfl (by omega) (by omega)) (by omega)
      · refine T_qc (t_X12_at hn a1 a3 M hG (i_rng (lo := 0) (hi := 7) rfl (by omega) (by omega)) (i_rng (lo := 0) (hi := 11) rfl (by omega) (by omega))) ?_
        rintro rv14 mv15 ⟨hq16_, hq17_, gq18_, kq19_⟩
        have hq20_ := kq19_.nil
        subst hq20_
        refine T_qg (i_add l_192 rfl (by omega) (by omega)) (by omega) (by omega) ?_
        refine T_qg rfl (by omega) (by omega) ?_
        have hq21_ := i_full (M 78 (((192 : Int32) + rv14).toNatClampNeg))
        have hq22_ := i_full (M 115 a3.toNatClampNeg)
        refine T_eq rfl l_0 (fun hq23_ => ?_) (fun hq23_ => ?_)
        · exact T_ret ⟨(i_rng (lo := 0) (hi := 1) l_0 (by omega) (by omega)), hG, hS⟩
        · refine T_ql (i_add rfl l_1 (by omega) (by omega)) ?_
          intro xv24 hq25_
          exact ih a1 a2 xv24 M hG hS (i_rng (lo := 0) (hi := 7) rfl (by omega) (by omega)) (i_rng (lo := 0) (hi := 11) rfl (by omega) (by omega)) (i_rng (lo := 0) (hi := 12) rfl (by omega) (by omega)) (by omega)
theorem t_X12_jobNeeds {n : Nat} (hn : 200000 ≤ n) (a1 a2 : Int32) (M : qM) (hG : G M) (pa1 : 0 ≤ a1.toInt ∧ a1.toInt ≤ 7) (pa2 : 0 ≤ a2.toInt ∧ a2.toInt ≤ 11) : qT (f_X12_jobNeeds n a1 a2 M) (po_X12_jobNeeds a1 a2 M) := by
  have hS : Sm l_X12_jobNeeds M M := Sm.rf
  unfold f_X12_jobNeeds
  exact (t_X12_jobNeeds_2 hn) n a1 a2 (0 : Int32) M hG hS (i_rng (lo := 0) (hi := 7) rfl (by omega) (by omega)) (i_rng (lo := 0) (hi := 11) rfl (by omega) (by omega)) (i_rng (lo := 0) (hi := 12) l_0 (by omega) (by omega)) (by have e2 : ((0 : Int32)).toInt = _ := l_0; omega)
abbrev l_X12_jobCounts : List Bx := [(96, 98, 0, 0), (114, 115, 0, 0)]
abbrev po_X12_jobCounts (a1 a2 : Int32) (M : qM) (v : Int32) (M' : qM) : Prop := (0 ≤ v.toInt ∧ v.toInt ≤ 1) ∧ G M' ∧ Sm l_X12_jobCounts M M'
theorem t_X12_jobCounts_5 {n : Nat} (hn : 200000 ≤ n) {oa1 oa2 : Int32} {M0 : qM} : ∀ (m : Nat) (a1 a2 a3 a4 : Int32) (M : qM), G M → Sm l_X12_jobCounts M0 M → 0 ≤ a1.toInt ∧ a1.toInt ≤ 7 → 0 ≤ a2.toInt ∧ a2.toInt ≤ 11 → 0 ≤ a4.toInt ∧ a4.toInt ≤ 12 → 12 - a4.toInt < (m : Int) → qT (f_X12_jobCounts_5 n m a1 a2 a3 a4 M) (po_X12_jobCounts oa1 oa2 M0) := by
  intro m
  induction m with
  | zero =>
    intro a1 a2 a3 a4 M hG hS i0 i1 i2 i5
    exfalso; omega
  | succ m ih =>
    intro a1 a2 a3 a4 M hG hS i0 i1 i2 i5
    show qT (b_X12_jobCounts_5 n (f_X12_jobCounts_5 n m) a1 a2 a3 a4 M) _
    unfold b_X12_jobCounts_5
    refine T_le l_12 rfl (fun hq4_ => ?_) (fun hq4_ => ?_)
    · refine T_qc (t_X12_feels hn a1 a2 (8 : Int32) M hG (i_rng (lo := 0) (hi := 7) rfl (by omega) (by omega)) (i_rng (lo := 0) (hi := 11) rfl (by omega) (by omega)) (i_rng (lo := 0) (hi := 8) l_8 (by omega) (by omega))) ?_
      rintro rv5 mv6 ⟨hq7_, gq8_, kq9_⟩
      have kq10_ := Sm.call hS kq9_ rfl
      refine T_qg rfl (by omega) (by omega) ?_
      have hq12_ := i_full (mv6 97 9)
      have hq13_ := i_full (mv6 114 a2.toNatClampNeg)
      refine T_mu gq8_ kq10_ (rn_97 _ _) (nw_97 _) (i := 0) rfl ⟨by decide, by decide, Or.inl rfl⟩ ?_
      intro mv11 hq14_ gq15_ kq16_
      have hq17_ : (mv11 97 9).toInt = ((mv6 97 9) + (mv6 114 a2.toNatClampNeg)).toInt := by rw [hq14_, mu_at]
      refine T_qg rfl (by omega) (by omega) ?_
      have hq19_ := i_full (mv11 97 10)
      have hq20_ := i_full (mv11 114 a2.toNatClampNeg)
      refine T_mu gq15_ kq16_ (rn_97 _ _) (nw_97 _) (i := 0) rfl ⟨by decide, by decide, Or.inl rfl⟩ ?_
      intro mv18 hq21_ gq22_ kq23_
      have hq24_ : (mv18 97 9).toInt = (mv11 97 9).toInt := by rw [hq21_, mu_ne (Or.inr (by decide))]
      have hq25_ : (mv18 97 10).toInt = ((mv11 97 10) + (mv11 114 a2.toNatClampNeg)).toInt := by rw [hq21_, mu_at]
      refine T_qg rfl (by omega) (by omega) ?_
      have hq27_ := i_full (mv18 97 11)
      have hq28_ := i_full (mv18 115 a2.toNatClampNeg)
      refine T_mu gq22_ kq23_ (rn_97 _ _) (nw_97 _) (i := 0) rfl ⟨by decide, by decide, Or.inl rfl⟩ ?_
      intro mv26 hq29_ gq30_ kq31_
      have hq32_ : (mv26 97 9).toInt = (mv18 97 9).toInt := by rw [hq29_, mu_ne (Or.inr (by decide))]
      have hq33_ : (mv26 97 10).toInt = (mv18 97 10).toInt := by rw [hq29_, mu_ne (Or.inr (by decide))]
      have hq34_ : (mv26 97 11).toInt = ((mv18 97 11) + (mv18 115 a2.toNatClampNeg)).toInt := by rw [hq29_, mu_at]
      refine T_qg rfl (by omega) (by omega) ?_
      refine T_qg rfl (by omega) (by omega) ?_
      have hq36_ := i_full (mv26 114 a2.toNatClampNeg)
      refine T_mu gq30_ kq31_ (rn_114 _ _) (nw_114 _) (i := 1) rfl ⟨by decide, by decide, Or.inl rfl⟩ ?_
      intro mv35 hq37_ gq38_ kq39_
      have hq40_ : (mv35 97 9).toInt = (mv26 97 9).toInt := by rw [hq37_, mu_ne (Or.inl (by decide))]
      have hq41_ : (mv35 97 10).toInt = (mv26 97 10).toInt := by rw [hq37_, mu_ne (Or.inl (by decide))]
      have hq42_ : (mv35 97 11).toInt = (mv26 97 11).toInt := by rw [hq37_, mu_ne (Or.inl (by decide))]
      have hq43_ : (mv35 114 a2.toNatClampNeg).toInt = ((mv26 114 a2.toNatClampNeg) + (1 : Int32)).toInt := by rw [hq37_, mu_at]
      refine T_qc (t_X12_byLaw hn (118 : Int32) (99 : Int32) (1 : Int32) mv35 gq38_ (i_rng (lo := 99) (hi := 118) l_118 (by omega) (by omega)) (i_rng (lo := 99) (hi := 999) l_99 (by omega) (by omega)) (i_rng (lo := 0) (hi := 1) l_1 (by omega) (by omega))) ?_
      rintro rv44 mv45 ⟨hq46_, gq47_, kq48_⟩
      have kq49_ := Sm.call kq39_ kq48_ rfl
      have hq50_ : (mv45 97 9).toInt = (mv35 97 9).toInt := by rw [kq48_ 97 9 (by decide)]
      have hq51_ : (mv45 97 10).toInt = (mv35 97 10).toInt := by rw [kq48_ 97 10 (by decide)]
      have hq52_ : (mv45 97 11).toInt = (mv35 97 11).toInt := by rw [kq48_ 97 11 (by decide)]
      have hq53_ : (mv45 114 a2.toNatClampNeg).toInt = (mv35 114 a2.toNatClampNeg).toInt := by rw [kq48_ 114 _ (outc rfl)]
      refine T_lt rfl rfl (fun hq54_ => ?_) (fun hq54_ => ?_)
      · exact T_ret ⟨(i_rng (lo := 0) (hi := 1) l_0 (by omega) (by omega)), gq47_, kq49_⟩
      · exact T_ret ⟨(i_rng (lo := 0) (hi := 1) l_1 (by omega) (by omega)), gq47_, kq49_⟩
    · refine T_qg rfl (by omega) (by omega) ?_
      refine T_qc (t_X12_has0 hn (M 113 a2.toNatClampNeg) a4 M hG (i_rng (lo := 0) (hi := 11) rfl (by omega) (by omega))) ?_
      rintro rv55 mv56 ⟨hq57_, hq58_, gq59_, kq60_⟩
      have hq61_ := kq60_.nil
      subst hq61_
      refine T_eq rfl l_0 (fun hq62_ => ?_) (fun hq62_ => ?_)
      · refine T_ql (i_add rfl l_1 (by omega) (by omega)) ?_
        intro xv63 hq64_
        exact ih a1 a2 a3 xv63 M hG hS (i_rng (lo := 0) (hi := 7) rfl (by omega) (by omega)) (i_rng (lo := 0) (hi := 11) rfl (by omega) (by omega)) (i_rng (lo := 0) (hi := 12) rfl (by omega) (by omega)) (by omega)
      · refine T_qc (t_X12_at hn a1 a4 M hG (i_rng (lo := 0) (hi := 7) rfl (by omega) (by omega)) (i_rng (lo := 0) (hi := 11) rfl (by omega) (by omega))) ?_
        rintro rv65 mv66 ⟨hq67_, hq68_, gq69_, kq70_⟩
        have hq71_ := kq70_.nil
        subst hq71_
        refine T_qg (i_add l_0 rfl (by omega) (by omega)) (by omega) (by omega) ?_
        refine T_qg rfl (by omega) (by omega) ?_
        have hq72_ := i_full (a3)
        have hq73_ := i_full (M 78 (((0 : Int32) + rv65).toNatClampNeg))
        have hq74_ := i_full (a3 + (M 78 (((0 : Int32) + rv65).toNatClampNeg)))
        have hq75_ := i_full (M 114 a4.toNatClampNeg)
        refine T_ql rfl ?_
        intro xv76 hq77_
        refine T_ql (i_add rfl l_1 (by omega) (by omega)) ?_
        intro xv78 hq79_
        exact ih a1 a2 xv76 xv78 M hG hS (i_rng (lo := 0) (hi := 7) rfl (by omega) (by omega)) (i_rng (lo := 0) (hi := 11) rfl (by omega) (by omega)) (i_rng (lo := 0) (hi := 12) rfl (by omega) (by omega)) (by omega)
theorem t_X12_jobCounts {n : Nat} (hn : 200000 ≤ n) (a1 a2 : Int32) (M : qM) (hG : G M) (pa1 : 0 ≤ a1.toInt ∧ a1.toInt ≤ 7) (pa2 : 0 ≤ a2.toInt ∧ a2.toInt ≤ 11) : qT (f_X12_jobCounts n a1 a2 M) (po_X12_jobCounts a1 a2 M) := by
  have hS : Sm l_X12_jobCounts M M := Sm.rf
  unfold f_X12_jobCounts
  exact (t_X12_jobCounts_5 hn) n a1 a2 (0 : Int32) (0 : Int32) M hG hS (i_rng (lo := 0) (hi := 7) rfl (by omega) (by omega)) (i_rng (lo := 0) (hi := 11) rfl (by omega) (by omega)) (i_rng (lo := 0) (hi := 12) l_0 (by omega) (by omega)) (by have e2 : ((0 : Int32)).toInt = _ := l_0; have e3 : ((0 : Int32)).toInt = _ := l_0; omega)
abbrev l_X12_hoursBy : List Bx := [(96, 98, 0, 0), (114, 116, 0, 0)]
abbrev po_X12_hoursBy (a1 a2 : Int32) (M : qM) (v : Int32) (M' : qM) : Prop := G M' ∧ Sm l_X12_hoursBy M M'
theorem t_X12_hoursBy_94 {n : Nat} (hn : 200000 ≤ n) {oa1 oa2 : Int32} {M0 : qM} {K45 : Int32 → Int32 → Int32 → Int32 → Int32 → qM → qR} {BK45 : Nat} (hK45 : ∀ (a1 a2 a3 a4 a5 : Int32) (M : qM), G M → Sm l_X12_hoursBy M0 M → 0 ≤ a1.toInt ∧ a1.toInt ≤ 2 → 0 ≤ a2.toInt ∧ a2.toInt ≤ 6560 → 0 ≤ a3.toInt ∧ a3.toInt ≤ 7 → 0 ≤ a5.toInt ∧ a5.toInt ≤ 8 → 1 ≤ (M 77 60).toInt → KM  M → 8 - a5.toInt < (BK45 : Int) → qT (K45 a1 a2 a3 a4 a5 M) (po_X12_hoursBy oa1 oa2 M0)) : ∀ (m : Nat) (a1 a2 a3 a4 a5 a6 a7 : Int32) (M : qM), G M → Sm l_X12_hoursBy M0 M → 0 ≤ a1.toInt ∧ a1.toInt ≤ 2 → 0 ≤ a2.toInt ∧ a2.toInt ≤ 6560 → 0 ≤ a3.toInt ∧ a3.toInt ≤ 7 → 0 ≤ a5.toInt ∧ a5.toInt ≤ 7 → 0 ≤ a6.toInt ∧ a6.toInt ≤ 11 → 1 ≤ a7.toInt ∧ a7.toInt ≤ 21 → 1 ≤ (M 77 60).toInt → KM  M → 8 - a5.toInt < (BK45 : Int) + 1 → 21 - a7.toInt < (m : Int) → qT (f_X12_hoursBy_94 n K45 m a1 a2 a3 a4 a5 a6 a7 M) (po_X12_hoursBy oa1 oa2 M0) := by
  intro m
  induction m with
  | zero =>
    intro a1 a2 a3 a4 a5 a6 a7 M hG hS i0 i1 i2 i3 i4 i5 hE wKM i10 i11
    have hq16_ := r_77_60 hG
    exfalso; omega
  | succ m ih =>
    intro a1 a2 a3 a4 a5 a6 a7 M hG hS i0 i1 i2 i3 i4 i5 hE wKM i10 i11
    show qT (b_X12_hoursBy_94 n K45 (f_X12_hoursBy_94 n K45 m) a1 a2 a3 a4 a5 a6 a7 M) _
    unfold b_X12_hoursBy_94
    have hq16_ := r_77_60 hG
    refine T_lt l_20 rfl (fun hq17_ => ?_) (fun hq17_ => ?_)
    · unfold f_X12_hoursBy_120
      refine T_le rfl l_20 (fun hq18_ => ?_) (fun hq18_ => ?_)
      · exfalso; omega
      · exact T_ret ⟨hG, hS⟩
    · refine T_qc (t_X12_jobCounts hn a3 a6 M hG (i_rng (lo := 0) (hi := 7) rfl (by omega) (by omega)) (i_rng (lo := 0) (hi := 11) rfl (by omega) (by omega))) ?_
      rintro rv19 mv20 ⟨hq21_, gq22_, kq23_⟩
      have kq24_ := Sm.call hS kq23_ rfl
      have hq25_ := (fun h_ => KM_c (kq23_ 77 59 (by decide)) (funext (fun s_ => kq23_ 111 s_ (outc rfl))) h_) wKM
      have hq26_ : (mv20 77 60).toInt = (M 77 60).toInt := by rw [kq23_ 77 60 (by decide)]
      refine T_eq rfl l_0 (fun hq27_ => ?_) (fun hq27_ => ?_)
      · refine T_ql (i_add rfl l_1 (by omega) (by omega)) ?_
        intro xv28 hq29_
        have hq30_ := r_77_60 gq22_
        exact ih a1 a2 a3 a4 a5 a6 xv28 mv20 gq22_ kq24_ (i_rng (lo := 0) (hi := 2) rfl (by omega) (by omega)) (i_rng (lo := 0) (hi := 6560) rfl (by omega) (by omega)) (i_rng (lo := 0) (hi := 7) rfl (by omega) (by omega)) (i_rng (lo := 0) (hi := 7) rfl (by omega) (by omega)) (i_rng (lo := 0) (hi := 11) rfl (by omega) (by omega)) (i_rng (lo := 1) (hi := 21) rfl (by omega) (by omega)) (by omega) hq25_ (by omega) (by omega)
      · unfold f_X12_hoursBy_120
        refine T_le rfl l_20 (fun hq31_ => ?_) (fun hq31_ => ?_)
        · refine T_qg rfl (by omega) (by omega) ?_
          refine T_qg rfl (by omega) (by omega) ?_
          have hq33_ := i_full (mv20 115 a6.toNatClampNeg)
          refine T_mu gq22_ kq24_ (rn_115 _ _) (nw_115 _) (i := 1) rfl ⟨by decide, by decide, Or.inl rfl⟩ ?_
          intro mv32 hq34_ gq35_ kq36_
          have hq37_ := (fun h_ => KM_c (M := mv20) (M' := mv32) (by rw [hq34_, mu_ne (Or.inl (by decide))]) (by rw [hq34_, mu_nc (by decide)]) h_) hq25_
          have hq38_ : (mv32 77 60).toInt = (mv20 77 60).toInt := by rw [hq34_, mu_ne (Or.inl (by decide))]
          have hq39_ : (mv32 115 a6.toNatClampNeg).toInt = ((mv20 115 a6.toNatClampNeg) + (1 : Int32)).toInt := by rw [hq34_, mu_at]
          refine T_qg rfl (by omega) (by omega) ?_
          have hq40_ := i_full (mv32 81 a6.toNatClampNeg)
          have hq41_ := i_full (a4)
          have hq42_ := i_full (a7 * (mv32 81 a6.toNatClampNeg))
          refine T_ql rfl ?_
          intro xv43 hq44_
          refine T_ql (i_add rfl l_1 (by omega) (by omega)) ?_
          intro xv45 hq46_
          have hq47_ := r_77_60 gq35_
          exact hK45 a1 a2 a3 xv43 xv45 mv32 gq35_ kq36_ (i_rng (lo := 0) (hi := 2) rfl (by omega) (by omega)) (i_rng (lo := 0) (hi := 6560) rfl (by omega) (by omega)) (i_rng (lo := 0) (hi := 7) rfl (by omega) (by omega)) (i_rng (lo := 0) (hi := 8) rfl (by omega) (by omega)) (by omega) hq37_ (by omega)
        · exfalso; omega
theorem t_X12_hoursBy_45 {n : Nat} (hn : 200000 ≤ n) {oa1 oa2 : Int32} {M0 : qM} : ∀ (m : Nat) (a1 a2 a3 a4 a5 : Int32) (M : qM), G M → Sm l_X12_hoursBy M0 M → 0 ≤ a1.toInt ∧ a1.toInt ≤ 2 → 0 ≤ a2.toInt ∧ a2.toInt ≤ 6560 → 0 ≤ a3.toInt ∧ a3.toInt ≤ 7 → 0 ≤ a5.toInt ∧ a5.toInt ≤ 8 → 1 ≤ (M 77 60).toInt → KM  M → 8 - a5.toInt < (m : Int) → qT (f_X12_hoursBy_45 n m a1 a2 a3 a4 a5 M) (po_X12_hoursBy oa1 oa2 M0) := by
  intro m
  induction m with
  | zero =>
    intro a1 a2 a3 a4 a5 M hG hS i0 i1 i2 i3 hE wKM i8
    have hq55_ := r_77_60 hG
    exfalso; omega
  | succ m ih =>
    intro a1 a2 a3 a4 a5 M hG hS i0 i1 i2 i3 hE wKM i8
    show qT (b_X12_hoursBy_45 n (f_X12_hoursBy_45 n m) a1 a2 a3 a4 a5 M) _
    unfold b_X12_hoursBy_45
    have hq55_ := r_77_60 hG
    have hq56_ := r_77_59 hG
    refine T_le rfl rfl (fun hq57_ => ?_) (fun hq57_ => ?_)
    · exact T_ret ⟨hG, hS⟩
    · refine T_qc (t_X12_whoDoes hn a2 a5 M hG (i_rng (lo := 0) (hi := 6560) rfl (by omega) (by omega)) (i_rng (lo := 0) (hi := 10) rfl (by omega) (by omega)) (by omega)) ?_
      rintro rv58 mv59 ⟨hq60_, gq61_, kq62_⟩
      have hq63_ := kq62_.nil
      subst hq63_
      refine T_eq rfl rfl (fun hq64_ => ?_) (fun hq64_ => ?_)
      · refine T_qg rfl (by omega) (by omega) ?_
        have hq65_ := wKM a5.toNatClampNeg (by rw [tnc]; omega)
        have hq66_ := r_111 hG a5.toNatClampNeg
        refine T_ql rfl ?_
        intro xv67 hq68_
        refine T_qc (t_X12_jobNeeds hn a3 xv67 M hG (i_rng (lo := 0) (hi := 7) rfl (by omega) (by omega)) (i_rng (lo := 0) (hi := 11) rfl (by omega) (by omega))) ?_
        rintro rv69 mv70 ⟨hq71_, gq72_, kq73_⟩
        have hq74_ := kq73_.nil
        subst hq74_
        refine T_eq rfl l_0 (fun hq75_ => ?_) (fun hq75_ => ?_)
        · exact T_ret ⟨hG, hS⟩
        · exact (t_X12_hoursBy_94 hn ih) n a1 a2 a3 a4 a5 xv67 (1 : Int32) M hG hS (i_rng (lo := 0) (hi := 2) rfl (by omega) (by omega)) (i_rng (lo := 0) (hi := 6560) rfl (by omega) (by omega)) (i_rng (lo := 0) (hi := 7) rfl (by omega) (by omega)) (i_rng (lo := 0) (hi := 7) rfl (by omega) (by omega)) (i_rng (lo := 0) (hi := 11) rfl (by omega) (by omega)) (i_rng (lo := 1) (hi := 21) l_1 (by omega) (by omega)) (by have e6 : ((1 : Int32)).toInt = _ := l_1; omega) wKM (by omega) (by have e6 : ((1 : Int32)).toInt = _ := l_1; omega)
      · refine T_ql (i_add rfl l_1 (by omega) (by omega)) ?_
        intro xv76 hq77_
        exact ih a1 a2 a3 a4 xv76 M hG hS (i_rng (lo := 0) (hi := 2) rfl (by omega) (by omega)) (i_rng (lo := 0) (hi := 6560) rfl (by omega) (by omega)) (i_rng (lo := 0) (hi := 7) rfl (by omega) (by omega)) (i_rng (lo := 0) (hi := 8) rfl (by omega) (by omega)) (by omega) wKM (by omega)
theorem t_X12_hoursBy_13 {n : Nat} (hn : 200000 ≤ n) {oa1 oa2 : Int32} {M0 : qM} : ∀ (m : Nat) (a1 a2 a3 a4 a5 : Int32) (M : qM), G M → Sm l_X12_hoursBy M0 M → 0 ≤ a1.toInt ∧ a1.toInt ≤ 2 → 0 ≤ a2.toInt ∧ a2.toInt ≤ 6560 → 0 ≤ a3.toInt ∧ a3.toInt ≤ 7 → 0 ≤ a4.toInt ∧ a4.toInt ≤ 0 → 0 ≤ a5.toInt ∧ a5.toInt ≤ 12 → 1 ≤ (M 77 60).toInt → KM  M → 12 - a5.toInt < (m : Int) → qT (f_X12_hoursBy_13 n m a1 a2 a3 a4 a5 M) (po_X12_hoursBy oa1 oa2 M0) := by
  intro m
  induction m with
  | zero =>
    intro a1 a2 a3 a4 a5 M hG hS i0 i1 i2 i3 i4 hE wKM i9
    have hq79_ := r_77_60 hG
    exfalso; omega
  | succ m ih =>
    intro a1 a2 a3 a4 a5 M hG hS i0 i1 i2 i3 i4 hE wKM i9
    show qT (b_X12_hoursBy_13 n (f_X12_hoursBy_13 n m) a1 a2 a3 a4 a5 M) _
    unfold b_X12_hoursBy_13
    have hq79_ := r_77_60 hG
    refine T_le l_12 rfl (fun hq80_ => ?_) (fun hq80_ => ?_)
    · exact (t_X12_hoursBy_45 hn) n a1 a2 a3 a4 (0 : Int32) M hG hS (i_rng (lo := 0) (hi := 2) rfl (by omega) (by omega)) (i_rng (lo := 0) (hi := 6560) rfl (by omega) (by omega)) (i_rng (lo := 0) (hi := 7) rfl (by omega) (by omega)) (i_rng (lo := 0) (hi := 8) l_0 (by omega) (by omega)) (by have e4 : ((0 : Int32)).toInt = _ := l_0; omega) wKM (by have e4 : ((0 : Int32)).toInt = _ := l_0; omega)
    · refine T_qg rfl (by omega) (by omega) ?_
      refine T_mu hG hS (rn_114 _ _) (nw_114 _) (i := 1) rfl ⟨by decide, by decide, Or.inl rfl⟩ ?_
      intro mv81 hq82_ gq83_ kq84_
      have hq85_ := (fun h_ => KM_c (M := M) (M' := mv81) (by rw [hq82_, mu_ne (Or.inl (by decide))]) (by rw [hq82_, mu_nc (by decide)]) h_) wKM
      have hq86_ : (mv81 77 60).toInt = (M 77 60).toInt := by rw [hq82_, mu_ne (Or.inl (by decide))]
      have hq87_ : (mv81 114 a5.toNatClampNeg).toInt = 0 := by rw [hq82_, mu_at]; exact l_0
      refine T_qg rfl (by omega) (by omega) ?_
      refine T_mu gq83_ kq84_ (rn_115 _ _) (nw_115 _) (i := 1) rfl ⟨by decide, by decide, Or.inl rfl⟩ ?_
      intro mv88 hq89_ gq90_ kq91_
      have hq92_ := (fun h_ => KM_c (M := mv81) (M' := mv88) (by rw [hq89_, mu_ne (Or.inl (by decide))]) (by rw [hq89_, mu_nc (by decide)]) h_) hq85_
      have hq93_ : (mv88 77 60).toInt = (mv81 77 60).toInt := by rw [hq89_, mu_ne (Or.inl (by decide))]
      have hq94_ : (mv88 114 a5.toNatClampNeg).toInt = (mv81 114 a5.toNatClampNeg).toInt := by rw [hq89_, mu_ne (Or.inl (by decide))]
      have hq95_ : (mv88 115 a5.toNatClampNeg).toInt = 0 := by rw [hq89_, mu_at]; exact l_0
      refine T_ql (i_add rfl l_1 (by omega) (by omega)) ?_
      intro xv96 hq97_
      have hq98_ := r_77_60 gq90_
      exact ih a1 a2 a3 a4 xv96 mv88 gq90_ kq91_ (i_rng (lo := 0) (hi := 2) rfl (by omega) (by omega)) (i_rng (lo := 0) (hi := 6560) rfl (by omega) (by omega)) (i_rng (lo := 0) (hi := 7) rfl (by omega) (by omega)) (i_rng (lo := 0) (hi := 0) rfl (by omega) (by omega)) (i_rng (lo := 0) (hi := 12) rfl (by omega) (by omega)) (by omega) hq92_ (by omega)
theorem t_X12_hoursBy {n : Nat} (hn : 200000 ≤ n) (a1 a2 : Int32) (M : qM) (hG : G M) (pa1 : 0 ≤ a1.toInt ∧ a1.toInt ≤ 2) (pa2 : 0 ≤ a2.toInt ∧ a2.toInt ≤ 6560) (pe : 1 ≤ (M 77 60).toInt) (wKM : KM  M) : qT (f_X12_hoursBy n a1 a2 M) (po_X12_hoursBy a1 a2 M) := by
  have hS : Sm l_X12_hoursBy M M := Sm.rf
  unfold f_X12_hoursBy
  have hq99_ := r_77_60 hG
  refine T_qg rfl (by omega) (by omega) ?_
  have hq100_ := r_112 hG a1.toNatClampNeg
  refine T_ql rfl ?_
  intro xv101 hq102_
  exact (t_X12_hoursBy_13 hn) n a1 a2 xv101 (0 : Int32) (0 : Int32) M hG hS (i_rng (lo := 0) (hi := 2) rfl (by omega) (by omega)) (i_rng (lo := 0) (hi := 6560) rfl (by omega) (by omega)) (i_rng (lo := 0) (hi := 7) rfl (by omega) (by omega)) (i_rng (lo := 0) (hi := 0) l_0 (by omega) (by omega)) (i_rng (lo := 0) (hi := 12) l_0 (by omega) (by omega)) (by have e3 : ((0 : Int32)).toInt = _ := l_0; have e4 : ((0 : Int32)).toInt = _ := l_0; omega) wKM (by have e3 : ((0 : Int32)).toInt = _ := l_0; have e4 : ((0 : Int32)).toInt = _ := l_0; omega)
abbrev l_X12_max : List Bx := []
abbrev po_X12_max (a0 a1 : Int32) (M : qM) (v : Int32) (M' : qM) : Prop := G M' ∧ Sm l_X12_max M M'
theorem t_X12_max {n : Nat} (hn : 200000 ≤ n) (a0 a1 : Int32) (M : qM) (hG : G M) : qT (f_X12_max n a0 a1 M) (po_X12_max a0 a1 M) := by
  have hS : Sm l_X12_max M M := Sm.rf
  unfold f_X12_max
  refine T_le rfl rfl (fun hq1_ => ?_) (fun hq1_ => ?_)
  · exact T_ret ⟨hG, hS⟩
  · exact T_ret ⟨hG, hS⟩
abbrev l_X12_longestBy : List Bx := [(96, 98, 0, 0), (114, 116, 0, 0)]
abbrev po_X12_longestBy (a1 : Int32) (M : qM) (v : Int32) (M' : qM) : Prop := G M' ∧ Sm l_X12_longestBy M M'
theorem t_X12_longestBy_4 {n : Nat} (hn : 200000 ≤ n) {oa1 : Int32} {M0 : qM} : ∀ (m : Nat) (a1 a2 a3 : Int32) (M : qM), G M → Sm l_X12_longestBy M0 M → 0 ≤ a1.toInt ∧ a1.toInt ≤ 6560 → 0 ≤ a3.toInt ∧ a3.toInt ≤ 3 → 1 ≤ (M 77 60).toInt → KM  M → 3 - a3.toInt < (m : Int) → qT (f_X12_longestBy_4 n m a1 a2 a3 M) (po_X12_longestBy oa1 M0) := by
  intro m
  induction m with
  | zero =>
    intro a1 a2 a3 M hG hS i0 i1 hE wKM i6
    have hq2_ := r_77_60 hG
    exfalso; omega
  | succ m ih =>
    intro a1 a2 a3 M hG hS i0 i1 hE wKM i6
    show qT (b_X12_longestBy_4 n (f_X12_longestBy_4 n m) a1 a2 a3 M) _
    unfold b_X12_longestBy_4
    have hq2_ := r_77_60 hG
    refine T_le rfl rfl (fun hq3_ => ?_) (fun hq3_ => ?_)
    · exact T_ret ⟨hG, hS⟩
    · refine T_qc (t_X12_hoursBy hn a3 a1 M hG (i_rng (lo := 0) (hi := 2) rfl (by omega) (by omega)) (i_rng (lo := 0) (hi := 6560) rfl (by omega) (by omega)) (by omega) wKM) ?_
      rintro rv4 mv5 ⟨gq6_, kq7_⟩
      have kq8_ := Sm.call hS kq7_ rfl
      have hq9_ := (fun h_ => KM_c (kq7_ 77 59 (by decide)) (funext (fun s_ => kq7_ 111 s_ (outc rfl))) h_) wKM
      have hq10_ : (mv5 77 60).toInt = (M 77 60).toInt := by rw [kq7_ 77 60 (by decide)]
      refine T_qc (t_X12_max hn a2 rv4 mv5 gq6_ ) ?_
      rintro rv11 mv12 ⟨gq13_, kq14_⟩
      have hq15_ := kq14_.nil
      subst hq15_
      refine T_ql (i_add rfl l_1 (by omega) (by omega)) ?_
      intro xv16 hq17_
      have hq18_ := r_77_60 gq6_
      exact ih a1 rv11 xv16 mv5 gq6_ kq8_ (i_rng (lo := 0) (hi := 6560) rfl (by omega) (by omega)) (i_rng (lo := 0) (hi := 3) rfl (by omega) (by omega)) (by omega) hq9_ (by omega)
theorem t_X12_longestBy {n : Nat} (hn : 200000 ≤ n) (a1 : Int32) (M : qM) (hG : G M) (pa1 : 0 ≤ a1.toInt ∧ a1.toInt ≤ 6560) (pe : 1 ≤ (M 77 60).toInt) (wKM : KM  M) : qT (f_X12_longestBy n a1 M) (po_X12_longestBy a1 M) := by
  have hS : Sm l_X12_longestBy M M := Sm.rf
  unfold f_X12_longestBy
  have hq19_ := r_77_60 hG
  exact (t_X12_longestBy_4 hn) n a1 (0 : Int32) (0 : Int32) M hG hS (i_rng (lo := 0) (hi := 6560) rfl (by omega) (by omega)) (i_rng (lo := 0) (hi := 3) l_0 (by omega) (by omega)) (by have e1 : ((0 : Int32)).toInt = _ := l_0; have e2 : ((0 : Int32)).toInt = _ := l_0; omega) wKM (by have e1 : ((0 : Int32)).toInt = _ := l_0; have e2 : ((0 : Int32)).toInt = _ := l_0; omega)
