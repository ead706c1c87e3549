abbrev l_X12_copies_c78_80 : List Bx := [(80, 81, 0, 954)]
abbrev po_X12_copies_c78_80 (M : qM) (v : Int32) (M' : qM) : Prop := (0 ≤ v.toInt ∧ v.toInt ≤ 0) ∧ ((M' 80 312).toInt = (M 78 312).toInt ∧ (M' 80 313).toInt = (M 78 313).toInt) ∧ G M' ∧ Sm l_X12_copies_c78_80 M M'
theorem t_X12_copies_c78_80_2 {n : Nat} (hn : 200000 ≤ n) {M0 : qM} : ∀ (m : Nat) (a2 : Int32) (M : qM), G M → Sm l_X12_copies_c78_80 M0 M → 0 ≤ a2.toInt ∧ a2.toInt ≤ 954 → ((a2.toInt ≤ 312 ∨ (M 80 312).toInt = (M0 78 312).toInt) ∧ (a2.toInt ≤ 313 ∨ (M 80 313).toInt = (M0 78 313).toInt) ∧ (M 78 312).toInt = (M0 78 312).toInt ∧ (M 78 313).toInt = (M0 78 313).toInt) → 954 - a2.toInt < (m : Int) → qT (f_X12_copies_2 n 78 80 m a2 M) (po_X12_copies_c78_80  M0) := by
  intro m
  induction m with
  | zero =>
    intro a2 M hG hS i0 hE i4
    exfalso; omega
  | succ m ih =>
    intro a2 M hG hS i0 hE i4
    show qT (b_X12_copies_2 n 78 80 (f_X12_copies_2 n 78 80 m) a2 M) _
    unfold b_X12_copies_2
    try simp only [Nat.reduceAdd]
    refine T_le l_954 rfl (fun hq2_ => ?_) (fun hq2_ => ?_)
    · exact T_ret ⟨(i_rng (lo := 0) (hi := 0) l_0 (by omega) (by omega)), (by have e9 : (0 : Int32).toInt = _ := l_0; omega), hG, hS⟩
    · refine T_qg rfl (by omega) (by omega) ?_
      refine T_qg rfl (by omega) (by omega) ?_
      refine T_mu hG hS (cp78 (by decide) (by decide) hG) (nw_80 _) (i := 0) rfl ⟨by decide, by decide, Or.inr ⟨(show 0 ≤ _ by rw [tnc]; omega), (show _ < 954 by rw [tnc]; omega)⟩⟩ ?_
      intro mv3 hq4_ gq5_ kq6_
      have hq7_ : (mv3 80 a2.toNatClampNeg).toInt = (M 78 a2.toNatClampNeg).toInt := by rw [hq4_, mu_at]
      refine T_ql (i_add rfl l_1 (by omega) (by omega)) ?_
      intro xv8 hq9_
      exact ih xv8 mv3 gq5_ kq6_ (i_rng (lo := 0) (hi := 954) rfl (by omega) (by omega)) (by first | exact ⟨cp_step (k := 312) hq4_ (by omega) (by omega) hE.2.2.1 hE.1, cp_step (k := 313) hq4_ (by omega) (by omega) hE.2.2.2 hE.2.1, (by rw [hq4_, mu_ne (Or.inl (by decide))]; exact hE.2.2.1), (by rw [hq4_, mu_ne (Or.inl (by decide))]; exact hE.2.2.2)⟩ | omega) (by omega)
theorem t_X12_copies_c78_80 {n : Nat} (hn : 200000 ≤ n) (M : qM) (hG : G M) : qT (f_X12_copies n 78 80  M) (po_X12_copies_c78_80  M) := by
  have hS : Sm l_X12_copies_c78_80 M M := Sm.rf
  unfold f_X12_copies
  try simp only [Nat.reduceAdd]
  exact (t_X12_copies_c78_80_2 hn) n (0 : Int32) M hG hS (i_rng (lo := 0) (hi := 954) l_0 (by omega) (by omega)) (by have e0 : ((0 : Int32)).toInt = _ := l_0; first | exact ⟨cp_step (k := 312) rfl (by omega) (by omega) hE.2.2.1 hE.1, cp_step (k := 313) rfl (by omega) (by omega) hE.2.2.2 hE.2.1, (by rw [rfl, mu_ne (Or.inl (by decide))]; exact hE.2.2.1), (by rw [rfl, mu_ne (Or.inl (by decide))]; exact hE.2.2.2)⟩ | omega) (by have e0 : ((0 : Int32)).toInt = _ := l_0; omega)
abbrev l_X12_keep : List Bx := [(77, 78, 67, 68), (80, 81, 0, 954)]
abbrev po_X12_keep (M : qM) (v : Int32) (M' : qM) : Prop := (v.toInt = (M 78 313).toInt ∧ (M' 77 67).toInt = 1 ∧ (M' 80 313).toInt = (M 78 313).toInt ∧ (M' 80 312).toInt = (M 78 312).toInt) ∧ G M' ∧ Sm l_X12_keep M M'
theorem t_X12_keep {n : Nat} (hn : 200000 ≤ n) (M : qM) (hG : G M) : qT (f_X12_keep n  M) (po_X12_keep  M) := by
  have hS : Sm l_X12_keep M M := Sm.rf
  unfold f_X12_keep
  refine T_mu hG hS (rn_77_67 _) nw_77_67 (i := 0) rfl ⟨by decide, by decide, Or.inr ⟨by decide, by decide⟩⟩ ?_
  intro mv1 hq2_ gq3_ kq4_
  have hq5_ : (mv1 78 313).toInt = (M 78 313).toInt := by rw [hq2_, mu_ne (Or.inl (by decide))]
  have hq6_ : (mv1 78 312).toInt = (M 78 312).toInt := by rw [hq2_, mu_ne (Or.inl (by decide))]
  have hq7_ : (mv1 77 67).toInt = 1 := by rw [hq2_, mu_at]; exact l_1
  refine T_qc (t_X12_copies_c78_80 hn  mv1 gq3_ ) ?_
  rintro rv8 mv9 ⟨hq10_, hq11_, gq12_, kq13_⟩
  have kq14_ := Sm.call kq4_ kq13_ rfl
  have hq15_ : (mv9 78 313).toInt = (mv1 78 313).toInt := by rw [kq13_ 78 313 (by decide)]
  have hq16_ : (mv9 78 312).toInt = (mv1 78 312).toInt := by rw [kq13_ 78 312 (by decide)]
  have hq17_ : (mv9 77 67).toInt = (mv1 77 67).toInt := by rw [kq13_ 77 67 (by decide)]
  exact T_ret ⟨(by have e9 : (mv9 78 313).toInt = _ := rfl; omega), gq12_, kq14_⟩
abbrev l_X10_copy_c7_16 : List Bx := [(7, 8, 8, 10), (8, 16, 0, 0)]
abbrev po_X10_copy_c7_16 (M : qM) (v : Int32) (M' : qM) : Prop := (0 ≤ v.toInt ∧ v.toInt ≤ 0) ∧ ((M' 7 9).toInt = (M 16 9).toInt ∧ (M' 7 8).toInt = (M 16 8).toInt) ∧ G M' ∧ Sm l_X10_copy_c7_16 M M'
theorem t_X10_copy_c7_16 {n : Nat} (hn : 200000 ≤ n) (M : qM) (hG : G M) : qT (f_X10_copy n 7 16  M) (po_X10_copy_c7_16  M) := by
  have hS : Sm l_X10_copy_c7_16 M M := Sm.rf
  unfold f_X10_copy
  try simp only [Nat.reduceAdd]
  refine T_qcp l_0 l_0 l_8 (by omega) (by omega) (by omega) (by omega) (by omega) ?_
  refine T_mr hG hS (fun s => rn_8 s _) nw_8 (i := 1) rfl (fun s => ⟨by decide, by decide, Or.inl rfl⟩) ?_
  intro mv1 hq2_ gq3_ kq4_
  have hq5_ : (mv1 16 9).toInt = (M 16 9).toInt := by rw [hq2_]; show ((if 16 = 8 then _ else M 16) 9).toInt = _; rw [if_neg (by decide)]
  have hq6_ : (mv1 16 8).toInt = (M 16 8).toInt := by rw [hq2_]; show ((if 16 = 8 then _ else M 16) 8).toInt = _; rw [if_neg (by decide)]
  refine T_qcp l_0 l_0 l_96 (by omega) (by omega) (by omega) (by omega) (by omega) ?_
  refine T_mr gq3_ kq4_ (fun s => rn_9 s _) nw_9 (i := 1) rfl (fun s => ⟨by decide, by decide, Or.inl rfl⟩) ?_
  intro mv7 hq8_ gq9_ kq10_
  have hq11_ : (mv7 16 9).toInt = (mv1 16 9).toInt := by rw [hq8_]; show ((if 16 = 9 then _ else mv1 16) 9).toInt = _; rw [if_neg (by decide)]
  have hq12_ : (mv7 16 8).toInt = (mv1 16 8).toInt := by rw [hq8_]; show ((if 16 = 9 then _ else mv1 16) 8).toInt = _; rw [if_neg (by decide)]
  refine T_qcp l_0 l_0 l_96 (by omega) (by omega) (by omega) (by omega) (by omega) ?_
  refine T_mr gq9_ kq10_ (fun s => rn_10 s _) nw_10 (i := 1) rfl (fun s => ⟨by decide, by decide, Or.inl rfl⟩) ?_
  intro mv13 hq14_ gq15_ kq16_
  have hq17_ : (mv13 16 9).toInt = (mv7 16 9).toInt := by rw [hq14_]; show ((if 16 = 10 then _ else mv7 16) 9).toInt = _; rw [if_neg (by decide)]
  have hq18_ : (mv13 16 8).toInt = (mv7 16 8).toInt := by rw [hq14_]; show ((if 16 = 10 then _ else mv7 16) 8).toInt = _; rw [if_neg (by decide)]
  refine T_qcp l_0 l_0 l_96 (by omega) (by omega) (by omega) (by omega) (by omega) ?_
  refine T_mr gq15_ kq16_ (fun s => rn_11 s _) nw_11 (i := 1) rfl (fun s => ⟨by decide, by decide, Or.inl rfl⟩) ?_
  intro mv19 hq20_ gq21_ kq22_
  have hq23_ : (mv19 16 9).toInt = (mv13 16 9).toInt := by rw [hq20_]; show ((if 16 = 11 then _ else mv13 16) 9).toInt = _; rw [if_neg (by decide)]
  have hq24_ : (mv19 16 8).toInt = (mv13 16 8).toInt := by rw [hq20_]; show ((if 16 = 11 then _ else mv13 16) 8).toInt = _; rw [if_neg (by decide)]
  refine T_qcp l_0 l_0 l_320 (by omega) (by omega) (by omega) (by omega) (by omega) ?_
  refine T_mr gq21_ kq22_ (fun s => rn_12 s _) nw_12 (i := 1) rfl (fun s => ⟨by decide, by decide, Or.inl rfl⟩) ?_
  intro mv25 hq26_ gq27_ kq28_
  have hq29_ : (mv25 16 9).toInt = (mv19 16 9).toInt := by rw [hq26_]; show ((if 16 = 12 then _ else mv19 16) 9).toInt = _; rw [if_neg (by decide)]
  have hq30_ : (mv25 16 8).toInt = (mv19 16 8).toInt := by rw [hq26_]; show ((if 16 = 12 then _ else mv19 16) 8).toInt = _; rw [if_neg (by decide)]
  refine T_qcp l_0 l_0 l_320 (by omega) (by omega) (by omega) (by omega) (by omega) ?_
  refine T_mr gq27_ kq28_ (fun s => rn_13 s _) nw_13 (i := 1) rfl (fun s => ⟨by decide, by decide, Or.inl rfl⟩) ?_
  intro mv31 hq32_ gq33_ kq34_
  have hq35_ : (mv31 16 9).toInt = (mv25 16 9).toInt := by rw [hq32_]; show ((if 16 = 13 then _ else mv25 16) 9).toInt = _; rw [if_neg (by decide)]
  have hq36_ : (mv31 16 8).toInt = (mv25 16 8).toInt := by rw [hq32_]; show ((if 16 = 13 then _ else mv25 16) 8).toInt = _; rw [if_neg (by decide)]
  refine T_qcp l_0 l_0 l_8 (by omega) (by omega) (by omega) (by omega) (by omega) ?_
  refine T_mr gq33_ kq34_ (va_in (r_23 gq33_) (r_14 gq33_)) nw_14 (i := 1) rfl (fun s => ⟨by decide, by decide, Or.inl rfl⟩) ?_
  intro mv37 hq38_ gq39_ kq40_
  have hq41_ : (mv37 16 9).toInt = (mv31 16 9).toInt := by rw [hq38_]; show ((if 16 = 14 then _ else mv31 16) 9).toInt = _; rw [if_neg (by decide)]
  have hq42_ : (mv37 16 8).toInt = (mv31 16 8).toInt := by rw [hq38_]; show ((if 16 = 14 then _ else mv31 16) 8).toInt = _; rw [if_neg (by decide)]
  refine T_qcp l_0 l_0 l_8 (by omega) (by omega) (by omega) (by omega) (by omega) ?_
  refine T_mr gq39_ kq40_ (va_in (r_24 gq39_) (r_15 gq39_)) nw_15 (i := 1) rfl (fun s => ⟨by decide, by decide, Or.inl rfl⟩) ?_
  intro mv43 hq44_ gq45_ kq46_
  have hq47_ : (mv43 16 9).toInt = (mv37 16 9).toInt := by rw [hq44_]; show ((if 16 = 15 then _ else mv37 16) 9).toInt = _; rw [if_neg (by decide)]
  have hq48_ : (mv43 16 8).toInt = (mv37 16 8).toInt := by rw [hq44_]; show ((if 16 = 15 then _ else mv37 16) 8).toInt = _; rw [if_neg (by decide)]
  refine T_mu gq45_ kq46_ (rn_7_8 _) (nw_7 _) (i := 0) rfl ⟨by decide, by decide, Or.inr ⟨by decide, by decide⟩⟩ ?_
  intro mv49 hq50_ gq51_ kq52_
  have hq53_ : (mv49 16 9).toInt = (mv43 16 9).toInt := by rw [hq50_, mu_ne (Or.inl (by decide))]
  have hq54_ : (mv49 16 8).toInt = (mv43 16 8).toInt := by rw [hq50_, mu_ne (Or.inl (by decide))]
  have hq55_ : (mv49 7 8).toInt = (mv43 16 8).toInt := by rw [hq50_, mu_at]
  refine T_mu gq51_ kq52_ (rn_7_9 _) (nw_7 _) (i := 0) rfl ⟨by decide, by decide, Or.inr ⟨by decide, by decide⟩⟩ ?_
  intro mv56 hq57_ gq58_ kq59_
  have hq60_ : (mv56 16 9).toInt = (mv49 16 9).toInt := by rw [hq57_, mu_ne (Or.inl (by decide))]
  have hq61_ : (mv56 16 8).toInt = (mv49 16 8).toInt := by rw [hq57_, mu_ne (Or.inl (by decide))]
  have hq62_ : (mv56 7 8).toInt = (mv49 7 8).toInt := by rw [hq57_, mu_ne (Or.inr (by decide))]
  have hq63_ : (mv56 7 9).toInt = (mv49 16 9).toInt := by rw [hq57_, mu_at]
  exact T_ret ⟨(i_rng (lo := 0) (hi := 0) l_0 (by omega) (by omega)), (by have e9 : (0 : Int32).toInt = _ := l_0; omega), gq58_, kq59_⟩
abbrev l_X11_undo : List Bx := [(7, 8, 8, 10), (8, 16, 0, 0)]
abbrev po_X11_undo (M : qM) (v : Int32) (M' : qM) : Prop := (0 ≤ v.toInt ∧ v.toInt ≤ 1) ∧ ((v.toInt = 0 ∧ (M 0 12).toInt = 0 ∧ (M' 7 9).toInt = (M 7 9).toInt ∧ (M' 7 8).toInt = (M 7 8).toInt) ∨ (v.toInt = 1 ∧ (M 0 12).toInt ≠ 0 ∧ (M' 7 9).toInt = (M 16 9).toInt ∧ (M' 7 8).toInt = (M 16 8).toInt)) ∧ G M' ∧ Sm l_X11_undo M M'
theorem t_X11_undo {n : Nat} (hn : 200000 ≤ n) (M : qM) (hG : G M) : qT (f_X11_undo n  M) (po_X11_undo  M) := by
  have hS : Sm l_X11_undo M M := Sm.rf
  unfold f_X11_undo
  refine T_eq rfl l_0 (fun hq1_ => ?_) (fun hq1_ => ?_)
  · exact T_ret ⟨(i_rng (lo := 0) (hi := 1) l_0 (by omega) (by omega)), (by have e9 : ((0 : Int32)).toInt = _ := l_0; omega), hG, hS⟩
  · refine T_qc (t_X10_copy_c7_16 hn  M hG ) ?_
    rintro rv2 mv3 ⟨hq4_, hq5_, gq6_, kq7_⟩
    have kq8_ := Sm.call hS kq7_ rfl
    have hq9_ : (mv3 0 12).toInt = (M 0 12).toInt := by rw [kq7_ 0 12 (by decide)]
    have hq10_ : (mv3 16 9).toInt = (M 16 9).toInt := by rw [kq7_ 16 9 (by decide)]
    have hq11_ : (mv3 16 8).toInt = (M 16 8).toInt := by rw [kq7_ 16 8 (by decide)]
    exact T_ret ⟨(i_rng (lo := 0) (hi := 1) l_1 (by omega) (by omega)), (by have e9 : ((1 : Int32)).toInt = _ := l_1; omega), gq6_, kq8_⟩
abbrev l_X12_copies_c80_78 : List Bx := [(78, 79, 0, 954)]
abbrev po_X12_copies_c80_78 (M : qM) (v : Int32) (M' : qM) : Prop := (0 ≤ v.toInt ∧ v.toInt ≤ 0) ∧ ((M' 78 312).toInt = (M 80 312).toInt ∧ (M' 78 313).toInt = (M 80 313).toInt) ∧ G M' ∧ Sm l_X12_copies_c80_78 M M'
theorem t_X12_copies_c80_78_2 {n : Nat} (hn : 200000 ≤ n) {M0 : qM} : ∀ (m : Nat) (a2 : Int32) (M : qM), G M → Sm l_X12_copies_c80_78 M0 M → 0 ≤ a2.toInt ∧ a2.toInt ≤ 954 → ((a2.toInt ≤ 312 ∨ (M 78 312).toInt = (M0 80 312).toInt) ∧ (a2.toInt ≤ 313 ∨ (M 78 313).toInt = (M0 80 313).toInt) ∧ (M 80 312).toInt = (M0 80 312).toInt ∧ (M 80 313).toInt = (M0 80 313).toInt) → 954 - a2.toInt < (m : Int) → qT (f_X12_copies_2 n 80 78 m a2 M) (po_X12_copies_c80_78  M0) := by
  intro m
  induction m with
  | zero =>
    intro a2 M hG hS i0 hE i4
    exfalso; omega
  | succ m ih =>
    intro a2 M hG hS i0 hE i4
    show qT (b_X12_copies_2 n 80 78 (f_X12_copies_2 n 80 78 m) a2 M) _
    unfold b_X12_copies_2
    try simp only [Nat.reduceAdd]
    refine T_le l_954 rfl (fun hq2_ => ?_) (fun hq2_ => ?_)
    · exact T_ret ⟨(i_rng (lo := 0) (hi := 0) l_0 (by omega) (by omega)), (by have e9 : (0 : Int32).toInt = _ := l_0; omega), hG, hS⟩
    · refine T_qg rfl (by omega) (by omega) ?_
      refine T_qg rfl (by omega) (by omega) ?_
      refine T_mu hG hS (cp78 (by decide) (by decide) hG) (nw_78 _) (i := 0) rfl ⟨by decide, by decide, Or.inr ⟨(show 0 ≤ _ by rw [tnc]; omega), (show _ < 954 by rw [tnc]; omega)⟩⟩ ?_
      intro mv3 hq4_ gq5_ kq6_
      have hq7_ : (mv3 78 a2.toNatClampNeg).toInt = (M 80 a2.toNatClampNeg).toInt := by rw [hq4_, mu_at]
      refine T_ql (i_add rfl l_1 (by omega) (by omega)) ?_
      intro xv8 hq9_
      exact ih xv8 mv3 gq5_ kq6_ (i_rng (lo := 0) (hi := 954) rfl (by omega) (by omega)) (by first | exact ⟨cp_step (k := 312) hq4_ (by omega) (by omega) hE.2.2.1 hE.1, cp_step (k := 313) hq4_ (by omega) (by omega) hE.2.2.2 hE.2.1, (by rw [hq4_, mu_ne (Or.inl (by decide))]; exact hE.2.2.1), (by rw [hq4_, mu_ne (Or.inl (by decide))]; exact hE.2.2.2)⟩ | omega) (by omega)
theorem t_X12_copies_c80_78 {n : Nat} (hn : 200000 ≤ n) (M : qM) (hG : G M) : qT (f_X12_copies n 80 78  M) (po_X12_copies_c80_78  M) := by
  have hS : Sm l_X12_copies_c80_78 M M := Sm.rf
  unfold f_X12_copies
  try simp only [Nat.reduceAdd]
  exact (t_X12_copies_c80_78_2 hn) n (0 : Int32) M hG hS (i_rng (lo := 0) (hi := 954) l_0 (by omega) (by omega)) (by have e0 : ((0 : Int32)).toInt = _ := l_0; first | exact ⟨cp_step (k := 312) rfl (by omega) (by omega) hE.2.2.1 hE.1, cp_step (k := 313) rfl (by omega) (by omega) hE.2.2.2 hE.2.1, (by rw [rfl, mu_ne (Or.inl (by decide))]; exact hE.2.2.1), (by rw [rfl, mu_ne (Or.inl (by decide))]; exact hE.2.2.2)⟩ | omega) (by have e0 : ((0 : Int32)).toInt = _ := l_0; omega)
abbrev l_X12_undo : List Bx := [(78, 79, 0, 954)]
abbrev po_X12_undo (M : qM) (v : Int32) (M' : qM) : Prop := (0 ≤ v.toInt ∧ v.toInt ≤ 1) ∧ ((v.toInt = 0 ∧ (M 77 67).toInt = 0 ∧ (M' 78 313).toInt = (M 78 313).toInt ∧ (M' 78 312).toInt = (M 78 312).toInt) ∨ (v.toInt = 1 ∧ (M 77 67).toInt ≠ 0 ∧ (M' 78 313).toInt = (M 80 313).toInt ∧ (M' 78 312).toInt = (M 80 312).toInt)) ∧ G M' ∧ Sm l_X12_undo M M'
theorem t_X12_undo {n : Nat} (hn : 200000 ≤ n) (M : qM) (hG : G M) : qT (f_X12_undo n  M) (po_X12_undo  M) := by
  have hS : Sm l_X12_undo M M := Sm.rf
  unfold f_X12_undo
  refine T_eq rfl l_0 (fun hq1_ => ?_) (fun hq1_ => ?_)
  · exact T_ret ⟨(i_rng (lo := 0) (hi := 1) l_0 (by omega) (by omega)), (by have e9 : ((0 : Int32)).toInt = _ := l_0; omega), hG, hS⟩
  · refine T_qc (t_X12_copies_c80_78 hn  M hG ) ?_
    rintro rv2 mv3 ⟨hq4_, hq5_, gq6_, kq7_⟩
    have kq8_ := Sm.call hS kq7_ rfl
    have hq9_ : (mv3 77 67).toInt = (M 77 67).toInt := by rw [kq7_ 77 67 (by decide)]
    have hq10_ : (mv3 80 313).toInt = (M 80 313).toInt := by rw [kq7_ 80 313 (by decide)]
    have hq11_ : (mv3 80 312).toInt = (M 80 312).toInt := by rw [kq7_ 80 312 (by decide)]
    exact T_ret ⟨(i_rng (lo := 0) (hi := 1) l_1 (by omega) (by omega)), (by have e9 : ((1 : Int32)).toInt = _ := l_1; omega), gq6_, kq8_⟩
abbrev l_X9_word : List Bx := []
abbrev po_X9_word (a1 : Int32) (M : qM) (v : Int32) (M' : qM) : Prop := G M' ∧ Sm l_X9_word M M'
theorem t_X9_word {n : Nat} (hn : 200000 ≤ n) (a1 : Int32) (M : qM) (hG : G M) (pa1 : 0 ≤ a1.toInt ∧ a1.toInt ≤ 44) : qT (f_X9_word n a1 M) (po_X9_word a1 M) := by
  have hS : Sm l_X9_word M M := Sm.rf
  unfold f_X9_word
  refine T_qc (t_X9_at hn a1 M hG (i_rng (lo := 0) (hi := 47) rfl (by omega) (by omega))) ?_
  rintro rv1 mv2 ⟨hq3_, gq4_, kq5_⟩
  have hq6_ := kq5_.nil
  subst hq6_
  refine T_qc (t_X9_at hn (a1 + (1 : Int32)) M hG (i_rng (lo := 0) (hi := 47) (i_add rfl l_1 (by omega) (by omega)) (by omega) (by omega))) ?_
  rintro rv7 mv8 ⟨hq9_, gq10_, kq11_⟩
  have hq12_ := kq11_.nil
  subst hq12_
  refine T_qc (t_X9_at hn (a1 + (2 : Int32)) M hG (i_rng (lo := 0) (hi := 47) (i_add rfl l_2 (by omega) (by omega)) (by omega) (by omega))) ?_
  rintro rv13 mv14 ⟨hq15_, gq16_, kq17_⟩
  have hq18_ := kq17_.nil
  subst hq18_
  refine T_qc (t_X9_at hn (a1 + (3 : Int32)) M hG (i_rng (lo := 0) (hi := 47) (i_add rfl l_3 (by omega) (by omega)) (by omega) (by omega))) ?_
  rintro rv19 mv20 ⟨hq21_, gq22_, kq23_⟩
  have hq24_ := kq23_.nil
  subst hq24_
  exact T_ret ⟨hG, hS⟩
abbrev l_X11_check : List Bx := [(1, 2, 1, 2)]
abbrev po_X11_check (a1 a2 : Int32) (M : qM) (v : Int32) (M' : qM) : Prop := ((-2) ≤ v.toInt ∧ v.toInt ≤ 11) ∧ (((0 ≤ a1.toInt ∧ a1.toInt ≤ 7 ∧ (((M 7 8) >>> (a1 &&& 31)) &&& (1 : Int32)).toInt = 1 ∧ 0 ≤ a2.toInt ∧ a2.toInt ≤ 12 ∧ 4 * a2.toInt ≤ (M 1 1).toInt) ∧ (M' 1 1).toInt = 0) ∨ (¬ (0 ≤ a1.toInt ∧ a1.toInt ≤ 7 ∧ (((M 7 8) >>> (a1 &&& 31)) &&& (1 : Int32)).toInt = 1 ∧ 0 ≤ a2.toInt ∧ a2.toInt ≤ 12 ∧ 4 * a2.toInt ≤ (M 1 1).toInt) ∧ (M' 1 1).toInt = (M 1 1).toInt)) ∧ G M' ∧ Sm l_X11_check M M'
theorem t_X11_check_44 {n : Nat} (hn : 200000 ≤ n) {oa1 oa2 : Int32} {M0 : qM} : ∀ (m : Nat) (a1 a3 a4 : Int32) (M : qM), G M → Sm l_X11_check M0 M → 0 ≤ a1.toInt ∧ a1.toInt ≤ 7 → (-1) ≤ a3.toInt ∧ a3.toInt ≤ 11 → (-1) ≤ a4.toInt ∧ a4.toInt ≤ 11 → ((0 ≤ oa1.toInt ∧ oa1.toInt ≤ 7 ∧ (((M0 7 8) >>> (oa1 &&& 31)) &&& (1 : Int32)).toInt = 1 ∧ 0 ≤ oa2.toInt ∧ oa2.toInt ≤ 12 ∧ 4 * oa2.toInt ≤ (M0 1 1).toInt)) → a4.toInt - (-1) < (m : Int) → qT (f_X11_check_44 n m a1 a3 a4 M) (po_X11_check oa1 oa2 M0) := by
  intro m
  induction m with
  | zero =>
    intro a1 a3 a4 M hG hS i0 i1 i2 hE i6
    exfalso; omega
  | succ m ih =>
    intro a1 a3 a4 M hG hS i0 i1 i2 hE i6
    show qT (b_X11_check_44 n (f_X11_check_44 n m) a1 a3 a4 M) _
    unfold b_X11_check_44
    refine T_lt rfl l_0 (fun hq3_ => ?_) (fun hq3_ => ?_)
    · refine T_qc (t_X9_clear hn  M hG ) ?_
      rintro rv4 mv5 ⟨hq6_, hq7_, gq8_, kq9_⟩
      have kq10_ := Sm.call hS kq9_ rfl
      have hq11_ := r_1_1 gq8_
      exact T_ret ⟨(i_rng (lo := (-2)) (hi := 11) rfl (by omega) (by omega)), (by have e9 : (a3).toInt = _ := rfl; omega), gq8_, kq10_⟩
    · refine T_qc (t_X9_word hn ((4 : Int32) * a4) M hG (i_rng (lo := 0) (hi := 44) (i_mul l_4 rfl (by omega) (by omega)) (by omega) (by omega))) ?_
      rintro rv12 mv13 ⟨gq14_, kq15_⟩
      have hq16_ := kq15_.nil
      subst hq16_
      refine T_qg (i_add (i_mul rfl l_12 (by omega) (by omega)) rfl (by omega) (by omega)) (by omega) (by omega) ?_
      refine T_eq rfl rfl (fun hq17_ => ?_) (fun hq17_ => ?_)
      · refine T_ql (i_add rfl l_m1 (by omega) (by omega)) ?_
        intro xv18 hq19_
        exact ih a1 a3 xv18 M hG hS (i_rng (lo := 0) (hi := 7) rfl (by omega) (by omega)) (i_rng (lo := (-1)) (hi := 11) rfl (by omega) (by omega)) (i_rng (lo := (-1)) (hi := 11) rfl (by omega) (by omega)) (by omega) (by omega)
      · refine T_ql (i_add rfl l_m1 (by omega) (by omega)) ?_
        intro xv20 hq21_
        exact ih a1 a4 xv20 M hG hS (i_rng (lo := 0) (hi := 7) rfl (by omega) (by omega)) (i_rng (lo := (-1)) (hi := 11) rfl (by omega) (by omega)) (i_rng (lo := (-1)) (hi := 11) rfl (by omega) (by omega)) (by omega) (by omega)
theorem t_X11_check {n : Nat} (hn : 200000 ≤ n) (a1 a2 : Int32) (M : qM) (hG : G M) : qT (f_X11_check n a1 a2 M) (po_X11_check a1 a2 M) := by
  have hS : Sm l_X11_check M M := Sm.rf
  unfold f_X11_check
  have hq22_ := r_1_1 hG
  refine T_qc (t_X10_knows_c7 hn a1 M hG ) ?_
  rintro rv23 mv24 ⟨hq25_, hq26_, gq27_, kq28_⟩
  have hq29_ := kq28_.nil
  subst hq29_
  refine T_eq rfl l_0 (fun hq30_ => ?_) (fun hq30_ => ?_)
  · exact T_ret ⟨(i_rng (lo := (-2)) (hi := 11) l_m2 (by omega) (by omega)), (by have e9 : ((-2 : Int32)).toInt = _ := l_m2; omega), hG, hS⟩
  · refine T_lt rfl l_0 (fun hq31_ => ?_) (fun hq31_ => ?_)
    · exact T_ret ⟨(i_rng (lo := (-2)) (hi := 11) l_m2 (by omega) (by omega)), (by have e9 : ((-2 : Int32)).toInt = _ := l_m2; omega), hG, hS⟩
    · refine T_lt l_12 rfl (fun hq32_ => ?_) (fun hq32_ => ?_)
      · exact T_ret ⟨(i_rng (lo := (-2)) (hi := 11) l_m2 (by omega) (by omega)), (by have e9 : ((-2 : Int32)).toInt = _ := l_m2; omega), hG, hS⟩
      · refine T_le (i_mul l_4 rfl (by omega) (by omega)) rfl (fun hq33_ => ?_) (fun hq33_ => ?_)
        · refine T_ql (i_sub rfl l_1 (by omega) (by omega)) ?_
          intro xv34 hq35_
          exact (t_X11_check_44 hn) n a1 (-1 : Int32) xv34 M hG hS (i_rng (lo := 0) (hi := 7) rfl (by omega) (by omega)) (i_rng (lo := (-1)) (hi := 11) l_m1 (by omega) (by omega)) (i_rng (lo := (-1)) (hi := 11) rfl (by omega) (by omega)) (by have e1 : ((-1 : Int32)).toInt = _ := l_m1; omega) (by have e1 : ((-1 : Int32)).toInt = _ := l_m1; omega)
        · exact T_ret ⟨(i_rng (lo := (-2)) (hi := 11) l_m2 (by omega) (by omega)), (by have e9 : ((-2 : Int32)).toInt = _ := l_m2; omega), hG, hS⟩
abbrev l_X12_tapeNumber : List Bx := []
abbrev po_X12_tapeNumber (a1 : Int32) (M : qM) (v : Int32) (M' : qM) : Prop := G M' ∧ Sm l_X12_tapeNumber M M'
theorem t_X12_tapeNumber_6 {n : Nat} (hn : 200000 ≤ n) {oa1 : Int32} {M0 : qM} : ∀ (m : Nat) (a1 a2 a3 : Int32) (M : qM), G M → Sm l_X12_tapeNumber M0 M → 0 ≤ a1.toInt ∧ a1.toInt ≤ 11 → 0 ≤ a3.toInt ∧ a3.toInt ≤ 48 → 48 - a3.toInt < (m : Int) → qT (f_X12_tapeNumber_6 n m a1 a2 a3 M) (po_X12_tapeNumber oa1 M0) := by
  intro m
  induction m with
  | zero =>
    intro a1 a2 a3 M hG hS i0 i1 i4
    exfalso; omega
  | succ m ih =>
    intro a1 a2 a3 M hG hS i0 i1 i4
    show qT (b_X12_tapeNumber_6 n (f_X12_tapeNumber_6 n m) a1 a2 a3 M) _
    unfold b_X12_tapeNumber_6
    refine T_le (i_add (i_mul l_4 rfl (by omega) (by omega)) l_4 (by omega) (by omega)) rfl (fun hq3_ => ?_) (fun hq3_ => ?_)
    · exact T_ret ⟨hG, hS⟩
    · refine T_qg rfl (by omega) (by omega) ?_
      have hq4_ := r_84 hG a3.toNatClampNeg
      have hq5_ := i_and (a := M 84 a3.toNatClampNeg) (b := (255 : Int32)) l_255 (by omega)
      refine T_ql rfl ?_
      intro xv6 hq7_
      refine T_ql (i_add rfl l_1 (by omega) (by omega)) ?_
      intro xv8 hq9_
      exact ih a1 xv6 xv8 M hG hS (i_rng (lo := 0) (hi := 11) rfl (by omega) (by omega)) (i_rng (lo := 0) (hi := 48) rfl (by omega) (by omega)) (by omega)
theorem t_X12_tapeNumber {n : Nat} (hn : 200000 ≤ n) (a1 : Int32) (M : qM) (hG : G M) (pa1 : 0 ≤ a1.toInt ∧ a1.toInt ≤ 11) : qT (f_X12_tapeNumber n a1 M) (po_X12_tapeNumber a1 M) := by
  have hS : Sm l_X12_tapeNumber M M := Sm.rf
  unfold f_X12_tapeNumber
  refine T_ql (i_mul l_4 rfl (by omega) (by omega)) ?_
  intro xv10 hq11_
  exact (t_X12_tapeNumber_6 hn) n a1 (0 : Int32) xv10 M hG hS (i_rng (lo := 0) (hi := 11) rfl (by omega) (by omega)) (i_rng (lo := 0) (hi := 48) rfl (by omega) (by omega)) (by have e1 : ((0 : Int32)).toInt = _ := l_0; omega)
abbrev l_X12_check : List Bx := [(77, 78, 8, 9)]
abbrev po_X12_check (a1 a2 : Int32) (M : qM) (v : Int32) (M' : qM) : Prop := ((-2) ≤ v.toInt ∧ v.toInt ≤ 11) ∧ (((0 ≤ a1.toInt ∧ a1.toInt ≤ 7 ∧ (((M 78 312) >>> (a1 &&& 31)) &&& (1 : Int32)).toInt = 1 ∧ 0 ≤ a2.toInt ∧ a2.toInt ≤ 12 ∧ 4 * a2.toInt ≤ (M 77 8).toInt) ∧ (M' 77 8).toInt = 0) ∨ (¬ (0 ≤ a1.toInt ∧ a1.toInt ≤ 7 ∧ (((M 78 312) >>> (a1 &&& 31)) &&& (1 : Int32)).toInt = 1 ∧ 0 ≤ a2.toInt ∧ a2.toInt ≤ 12 ∧ 4 * a2.toInt ≤ (M 77 8).toInt) ∧ (M' 77 8).toInt = (M 77 8).toInt)) ∧ G M' ∧ Sm l_X12_check M M'
theorem t_X12_check_38 {n : Nat} (hn : 200000 ≤ n) {oa1 oa2 : Int32} {M0 : qM} : ∀ (m : Nat) (a1 a2 a3 : Int32) (M : qM), G M → Sm l_X12_check M0 M → 0 ≤ a1.toInt ∧ a1.toInt ≤ 7 → 0 ≤ a2.toInt ∧ a2.toInt ≤ 12 → 0 ≤ a3.toInt ∧ a3.toInt ≤ 12 → ((0 ≤ oa1.toInt ∧ oa1.toInt ≤ 7 ∧ (((M0 78 312) >>> (oa1 &&& 31)) &&& (1 : Int32)).toInt = 1 ∧ 0 ≤ oa2.toInt ∧ oa2.toInt ≤ 12 ∧ 4 * oa2.toInt ≤ (M0 77 8).toInt) ∧ (M 77 8).toInt = 0) → 12 - a3.toInt < (m : Int) → qT (f_X12_check_38 n m a1 a2 a3 M) (po_X12_check oa1 oa2 M0) := by
  intro m
  induction m with
  | zero =>
    intro a1 a2 a3 M hG hS i0 i1 i2 hE i6
    have hq2_ := r_77_8 hG
    exfalso; omega
  | succ m ih =>
    intro a1 a2 a3 M hG hS i0 i1 i2 hE i6
    show qT (b_X12_check_38 n (f_X12_check_38 n m) a1 a2 a3 M) _
    unfold b_X12_check_38
    have hq2_ := r_77_8 hG
    refine T_le rfl rfl (fun hq3_ => ?_) (fun hq3_ => ?_)
    · exact T_ret ⟨(i_rng (lo := (-2)) (hi := 11) l_m1 (by omega) (by omega)), (by have e9 : ((-1 : Int32)).toInt = _ := l_m1; omega), hG, hS⟩
    · refine T_qc (t_X12_tapeNumber hn a3 M hG (i_rng (lo := 0) (hi := 11) rfl (by omega) (by omega))) ?_
      rintro rv4 mv5 ⟨gq6_, kq7_⟩
      have hq8_ := kq7_.nil
      subst hq8_
      refine T_qc (t_X12_at hn a1 a3 M hG (i_rng (lo := 0) (hi := 7) rfl (by omega) (by omega)) (i_rng (lo := 0) (hi := 11) rfl (by omega) (by omega))) ?_
      rintro rv9 mv10 ⟨hq11_, hq12_, gq13_, kq14_⟩
      have hq15_ := kq14_.nil
      subst hq15_
      refine T_qg (i_add l_0 rfl (by omega) (by omega)) (by omega) (by omega) ?_
      refine T_eq rfl rfl (fun hq16_ => ?_) (fun hq16_ => ?_)
      · refine T_ql (i_add rfl l_1 (by omega) (by omega)) ?_
        intro xv17 hq18_
        exact ih a1 a2 xv17 M hG hS (i_rng (lo := 0) (hi := 7) rfl (by omega) (by omega)) (i_rng (lo := 0) (hi := 12) rfl (by omega) (by omega)) (i_rng (lo := 0) (hi := 12) rfl (by omega) (by omega)) (by omega) (by omega)
      · exact T_ret ⟨(i_rng (lo := (-2)) (hi := 11) rfl (by omega) (by omega)), (by have e9 : (a3).toInt = _ := rfl; omega), hG, hS⟩
theorem t_X12_check {n : Nat} (hn : 200000 ≤ n) (a1 a2 : Int32) (M : qM) (hG : G M) : qT (f_X12_check n a1 a2 M) (po_X12_check a1 a2 M) := by
  have hS : Sm l_X12_check M M := Sm.rf
  unfold f_X12_check
  have hq19_ := r_77_8 hG
  refine T_qc (t_X12_isPerson hn a1 M hG ) ?_
  rintro rv20 mv21 ⟨hq22_, hq23_, gq24_, kq25_⟩
  have hq26_ := kq25_.nil
  subst hq26_
  refine T_eq rfl l_0 (fun hq27_ => ?_) (fun hq27_ => ?_)
  · exact T_ret ⟨(i_rng (lo := (-2)) (hi := 11) l_m2 (by omega) (by omega)), (by have e9 : ((-2 : Int32)).toInt = _ := l_m2; omega), hG, hS⟩
  · have hq30_ := (show ((0 : Int32)).toInt = _ from l_0)
    have hq31_ := (show ((12 : Int32)).toInt = _ from l_12)
    refine T_qc (t_X12_in hn a2 (0 : Int32) (12 : Int32) M hG (i_rng (lo := 0) (hi := 70) l_0 (by omega) (by omega)) (i_rng (lo := 0) (hi := 99999) l_12 (by omega) (by omega))) ?_
    rintro rv28 mv29 ⟨hq32_, hq33_, gq34_, kq35_⟩
    have hq36_ := kq35_.nil
    subst hq36_
    refine T_eq rfl l_0 (fun hq37_ => ?_) (fun hq37_ => ?_)
    · exact T_ret ⟨(i_rng (lo := (-2)) (hi := 11) l_m2 (by omega) (by omega)), (by have e9 : ((-2 : Int32)).toInt = _ := l_m2; omega), hG, hS⟩
    · refine T_le rfl (i_div rfl l_4 (by omega) (by omega)) (fun hq38_ => ?_) (fun hq38_ => ?_)
      · refine T_mu hG hS (i_rng (lo := 0) (hi := 260) l_0 (by omega) (by omega)) nw_77_8 (i := 0) rfl ⟨by decide, by decide, Or.inr ⟨by decide, by decide⟩⟩ ?_
        intro mv39 hq40_ gq41_ kq42_
        have hq43_ : (mv39 77 8).toInt = 0 := by rw [hq40_, mu_at]; exact l_0
        have hq44_ := r_77_8 gq41_
        exact (t_X12_check_38 hn) n a1 a2 (0 : Int32) mv39 gq41_ kq42_ (i_rng (lo := 0) (hi := 7) rfl (by omega) (by omega)) (i_rng (lo := 0) (hi := 12) rfl (by omega) (by omega)) (i_rng (lo := 0) (hi := 12) l_0 (by omega) (by omega)) (by have e2 : ((0 : Int32)).toInt = _ := l_0; omega) (by have e2 : ((0 : Int32)).toInt = _ := l_0; omega)
      · exact T_ret ⟨(i_rng (lo := (-2)) (hi := 11) l_m2 (by omega) (by omega)), (by have e9 : ((-2 : Int32)).toInt = _ := l_m2; omega), hG, hS⟩
abbrev l_X10_sumOf_c7_11 : List Bx := []
abbrev po_X10_sumOf_c7_11 (a2 : Int32) (M : qM) (v : Int32) (M' : qM) : Prop := G M' ∧ Sm l_X10_sumOf_c7_11 M M'
theorem t_X10_sumOf_c7_11_5 {n : Nat} (hn : 200000 ≤ n) {oa2 : Int32} {M0 : qM} : ∀ (m : Nat) (a2 a3 a4 : Int32) (M : qM), G M → Sm l_X10_sumOf_c7_11 M0 M → 0 ≤ a2.toInt ∧ a2.toInt ≤ 7 → 0 ≤ a4.toInt ∧ a4.toInt ≤ 12 → 12 - a4.toInt < (m : Int) → qT (f_X10_sumOf_5 n 7 11 m a2 a3 a4 M) (po_X10_sumOf_c7_11 oa2 M0) := by
  intro m
  induction m with
  | zero =>
    intro a2 a3 a4 M hG hS i0 i1 i4
    exfalso; omega
  | succ m ih =>
    intro a2 a3 a4 M hG hS i0 i1 i4
    show qT (b_X10_sumOf_5 n 7 11 (f_X10_sumOf_5 n 7 11 m) a2 a3 a4 M) _
    unfold b_X10_sumOf_5
    try simp only [Nat.reduceAdd]
    refine T_le l_12 rfl (fun hq3_ => ?_) (fun hq3_ => ?_)
    · exact T_ret ⟨hG, hS⟩
    · refine T_qg (i_add (i_mul rfl l_12 (by omega) (by omega)) rfl (by omega) (by omega)) (by omega) (by omega) ?_
      have hq4_ := i_full (a3)
      have hq5_ := i_full (M 11 (((a2 * (12 : Int32)) + a4).toNatClampNeg))
      refine T_ql rfl ?_
      intro xv6 hq7_
      refine T_ql (i_add rfl l_1 (by omega) (by omega)) ?_
      intro xv8 hq9_
      exact ih a2 xv6 xv8 M hG hS (i_rng (lo := 0) (hi := 7) rfl (by omega) (by omega)) (i_rng (lo := 0) (hi := 12) rfl (by omega) (by omega)) (by omega)
theorem t_X10_sumOf_c7_11 {n : Nat} (hn : 200000 ≤ n) (a2 : Int32) (M : qM) (hG : G M) (pa2 : 0 ≤ a2.toInt ∧ a2.toInt ≤ 7) : qT (f_X10_sumOf n 7 11 a2 M) (po_X10_sumOf_c7_11 a2 M) := by
  have hS : Sm l_X10_sumOf_c7_11 M M := Sm.rf
  unfold f_X10_sumOf
  try simp only [Nat.reduceAdd]
  exact (t_X10_sumOf_c7_11_5 hn) n a2 (0 : Int32) (0 : Int32) M hG hS (i_rng (lo := 0) (hi := 7) rfl (by omega) (by omega)) (i_rng (lo := 0) (hi := 12) l_0 (by omega) (by omega)) (by have e1 : ((0 : Int32)).toInt = _ := l_0; have e2 : ((0 : Int32)).toInt = _ := l_0; omega)
