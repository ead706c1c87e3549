abbrev l_X12_feed : List Bx := [(77, 78, 8, 9), (84, 85, 0, 0)]
abbrev po_X12_feed (a1 a2 a3 a4 a5 : Int32) (M : qM) (v : Int32) (M' : qM) : Prop := ((-1) ≤ v.toInt ∧ v.toInt ≤ 260) ∧ (((M 77 8).toInt + 20 ≤ 260 ∧ v.toInt = (M 77 8).toInt + 20 ∧ (M' 77 8).toInt = (M 77 8).toInt + 20) ∨ (260 < (M 77 8).toInt + 20 ∧ v.toInt = -1 ∧ (M' 77 8).toInt = (M 77 8).toInt)) ∧ G M' ∧ Sm l_X12_feed M M'
theorem t_X12_feed {n : Nat} (hn : 200000 ≤ n) (a1 a2 a3 a4 a5 : Int32) (M : qM) (hG : G M) : qT (f_X12_feed n a1 a2 a3 a4 a5 M) (po_X12_feed a1 a2 a3 a4 a5 M) := by
  have hS : Sm l_X12_feed M M := Sm.rf
  unfold f_X12_feed
  have hq1_ := r_77_8 hG
  refine T_le (i_add rfl l_20 (by omega) (by omega)) l_260 (fun hq2_ => ?_) (fun hq2_ => ?_)
  · refine T_qc (t_X12_types hn a1 M hG (by omega)) ?_
    rintro rv3 mv4 ⟨hq5_, hq6_, gq7_, kq8_⟩
    have kq9_ := Sm.call hS kq8_ rfl
    have hq10_ := r_77_8 gq7_
    refine T_qc (t_X12_types hn a2 mv4 gq7_ (by omega)) ?_
    rintro rv11 mv12 ⟨hq13_, hq14_, gq15_, kq16_⟩
    have kq17_ := Sm.call kq9_ kq16_ rfl
    have hq18_ := r_77_8 gq15_
    refine T_qc (t_X12_types hn a3 mv12 gq15_ (by omega)) ?_
    rintro rv19 mv20 ⟨hq21_, hq22_, gq23_, kq24_⟩
    have kq25_ := Sm.call kq17_ kq24_ rfl
    have hq26_ := r_77_8 gq23_
    refine T_qc (t_X12_types hn a4 mv20 gq23_ (by omega)) ?_
    rintro rv27 mv28 ⟨hq29_, hq30_, gq31_, kq32_⟩
    have kq33_ := Sm.call kq25_ kq32_ rfl
    have hq34_ := r_77_8 gq31_
    refine T_qc (t_X12_types hn a5 mv28 gq31_ (by omega)) ?_
    rintro rv35 mv36 ⟨hq37_, hq38_, gq39_, kq40_⟩
    have kq41_ := Sm.call kq33_ kq40_ rfl
    have hq42_ := r_77_8 gq39_
    exact T_ret ⟨(i_rng (lo := (-1)) (hi := 260) rfl (by omega) (by omega)), (by have e9 : (mv36 77 8).toInt = _ := rfl; omega), gq39_, kq41_⟩
  · exact T_ret ⟨(i_rng (lo := (-1)) (hi := 260) l_m1 (by omega) (by omega)), (by have e9 : ((-1 : Int32)).toInt = _ := l_m1; omega), hG, hS⟩
abbrev l_X3_clear : List Bx := [(37, 53, 0, 0)]
abbrev po_X3_clear (w : Nat) (M : qM) (v : Int32) (M' : qM) : Prop := (0 ≤ v.toInt ∧ v.toInt ≤ 0) ∧ ((M' w 6).toInt = 0) ∧ G M' ∧ Sm l_X3_clear M M'
theorem G_lw {M : qM} {w s : Nat} {v : Int32} (hw : q_isLaw w) (hG : G M) (h6 : s = 6 → 0 ≤ v.toInt ∧ v.toInt ≤ 240) (h7 : s = 7 → 0 ≤ v.toInt ∧ v.toInt ≤ 16) (hs : s = 6 ∨ s = 7) : G (mu M w s v) := by
  rcases hs with rfl | rfl
  · rcases hw with rfl | rfl
    · exact G_mu hG (h6 rfl) (nw_37 _)
    · exact G_mu hG (h6 rfl) (nw_46 _)
  · rcases hw with rfl | rfl
    · exact G_mu hG (h7 rfl) (nw_37 _)
    · exact G_mu hG (h7 rfl) (nw_46 _)
theorem lwin {w k s : Nat} (hw : q_isLaw w) (hk : k < 7) : inB (37, 53, 0, 0) (w + k) s := by
  rcases hw with rfl | rfl
  · exact ⟨by show 37 ≤ 37 + k; omega, by show 37 + k < 53; omega, Or.inl rfl⟩
  · exact ⟨by show 37 ≤ 46 + k; omega, by show 46 + k < 53; omega, Or.inl rfl⟩
theorem t_X3_clear {n : Nat} (hn : 200000 ≤ n) {w : Nat} (hw : q_isLaw w) (M : qM) (hG : G M) : qT (f_X3_clear n w M) (po_X3_clear w M) := by
  have z0 : (0 : Int32).toInt = 0 := rfl
  unfold f_X3_clear
  refine T_qlm (T_qlm (T_ret ⟨⟨by decide, by decide⟩, ?_, ?_, ?_⟩))
  · rw [mu_ne (Or.inr (by decide)), mu_at]; rfl
  · exact G_lw hw (G_lw hw hG (fun _ => by omega) (fun _ => by omega) (Or.inl rfl)) (fun _ => by omega) (fun _ => by omega) (Or.inr rfl)
  · exact ((Sm.rf).mu (i := 0) rfl (lwin (k := 0) hw (by decide))).mu (i := 0) rfl (lwin (k := 0) hw (by decide))

abbrev l_X9_openText : List Bx := [(1, 2, 2, 5)]
abbrev po_X9_openText (a1 : Int32) (M : qM) (v : Int32) (M' : qM) : Prop := (0 ≤ v.toInt ∧ v.toInt ≤ 0) ∧ ((M' 1 3).toInt = 0) ∧ G M' ∧ Sm l_X9_openText M M'
theorem t_X9_openText {n : Nat} (hn : 200000 ≤ n) (a1 : Int32) (M : qM) (hG : G M) (pa1 : 1 ≤ a1.toInt ∧ a1.toInt ≤ 240) : qT (f_X9_openText n a1 M) (po_X9_openText a1 M) := by
  have hS : Sm l_X9_openText M M := Sm.rf
  unfold f_X9_openText
  have hq2_ := r_1_1 hG
  have hq3_ := i_min (a := a1) (b := M 1 1) rfl rfl
  refine T_mu hG hS (i_rng (lo := 0) (hi := 240) rfl (by omega) (by omega)) (nw_1 _) (i := 0) rfl ⟨by decide, by decide, Or.inr ⟨by decide, by decide⟩⟩ ?_
  intro mv1 hq4_ gq5_ kq6_
  have hq7_ : (mv1 1 2).toInt = (qmin a1 (M 1 1)).toInt := by rw [hq4_, mu_at]
  refine T_mu gq5_ kq6_ (i_rng (lo := 0) (hi := 240) l_0 (by omega) (by omega)) (nw_1 _) (i := 0) rfl ⟨by decide, by decide, Or.inr ⟨by decide, by decide⟩⟩ ?_
  intro mv8 hq9_ gq10_ kq11_
  have hq12_ : (mv8 1 2).toInt = (mv1 1 2).toInt := by rw [hq9_, mu_ne (Or.inr (by decide))]
  have hq13_ : (mv8 1 3).toInt = 0 := by rw [hq9_, mu_at]; exact l_0
  refine T_mu gq10_ kq11_ (rn_1_4 _) (nw_1 _) (i := 0) rfl ⟨by decide, by decide, Or.inr ⟨by decide, by decide⟩⟩ ?_
  intro mv14 hq15_ gq16_ kq17_
  have hq18_ : (mv14 1 2).toInt = (mv8 1 2).toInt := by rw [hq15_, mu_ne (Or.inr (by decide))]
  have hq19_ : (mv14 1 3).toInt = (mv8 1 3).toInt := by rw [hq15_, mu_ne (Or.inr (by decide))]
  have hq20_ : (mv14 1 4).toInt = 0 := by rw [hq15_, mu_at]; exact l_0
  exact T_ret ⟨(i_rng (lo := 0) (hi := 0) l_0 (by omega) (by omega)), (by have e9 : (0 : Int32).toInt = _ := l_0; omega), gq16_, kq17_⟩
abbrev l_X9_sign : List Bx := []
abbrev po_X9_sign (M : qM) (v : Int32) (M' : qM) : Prop := ((-1) ≤ v.toInt ∧ v.toInt ≤ 255) ∧ (((0 ≤ (M 1 3).toInt ∧ (M 1 3).toInt < (M 1 2).toInt) ∧ v.toInt = (M 2 (M 1 3).toNatClampNeg).toInt) ∨ (¬ (0 ≤ (M 1 3).toInt ∧ (M 1 3).toInt < (M 1 2).toInt) ∧ v.toInt = -1)) ∧ G M' ∧ Sm l_X9_sign M M'
theorem t_X9_sign {n : Nat} (hn : 200000 ≤ n) (M : qM) (hG : G M) : qT (f_X9_sign n  M) (po_X9_sign  M) := by
  have hS : Sm l_X9_sign M M := Sm.rf
  unfold f_X9_sign
  have hq1_ := r_1_3 hG
  have hq2_ := r_1_2 hG
  refine T_lt rfl l_0 (fun hq3_ => ?_) (fun hq3_ => ?_)
  · exfalso; omega
  · refine T_le rfl rfl (fun hq4_ => ?_) (fun hq4_ => ?_)
    · exact T_ret ⟨(i_rng (lo := (-1)) (hi := 255) l_m1 (by omega) (by omega)), (by have e9 : ((-1 : Int32)).toInt = _ := l_m1; omega), hG, hS⟩
    · refine T_qg rfl (by omega) (by omega) ?_
      have hq5_ := r_2 hG ((M 1 3).toNatClampNeg)
      exact T_ret ⟨(i_rng (lo := (-1)) (hi := 255) rfl (by omega) (by omega)), (by have e9 : (M 2 ((M 1 3).toNatClampNeg)).toInt = _ := rfl; omega), hG, hS⟩
abbrev l_X9_takes : List Bx := [(1, 2, 3, 4)]
abbrev po_X9_takes (a1 : Int32) (M : qM) (v : Int32) (M' : qM) : Prop := (0 ≤ v.toInt ∧ v.toInt ≤ 1) ∧ ((v.toInt = 0 ∧ (M' 1 3).toInt = (M 1 3).toInt) ∨ (v.toInt ≠ 0 ∧ (M' 1 3).toInt = (M 1 3).toInt + 1 ∧ (M 1 3).toInt < (M 1 2).toInt)) ∧ G M' ∧ Sm l_X9_takes M M'
theorem t_X9_takes {n : Nat} (hn : 200000 ≤ n) (a1 : Int32) (M : qM) (hG : G M) (pa1 : 0 ≤ a1.toInt ∧ a1.toInt ≤ 255) : qT (f_X9_takes n a1 M) (po_X9_takes a1 M) := by
  have hS : Sm l_X9_takes M M := Sm.rf
  unfold f_X9_takes
  have hq1_ := r_1_3 hG
  have hq2_ := r_1_2 hG
  refine T_qc (t_X9_sign hn  M hG ) ?_
  rintro rv3 mv4 ⟨hq5_, hq6_, gq7_, kq8_⟩
  have hq9_ := r_2 hG ((M 1 3).toNatClampNeg)
  have hq10_ := kq8_.nil
  subst hq10_
  refine T_eq rfl rfl (fun hq11_ => ?_) (fun hq11_ => ?_)
  · refine T_mu hG hS (i_rng (lo := 0) (hi := 240) (i_add rfl l_1 (by omega) (by omega)) (by omega) (by omega)) (nw_1 _) (i := 0) rfl ⟨by decide, by decide, Or.inr ⟨by decide, by decide⟩⟩ ?_
    intro mv12 hq13_ gq14_ kq15_
    have hq16_ : (mv12 1 2).toInt = (M 1 2).toInt := by rw [hq13_, mu_ne (Or.inr (by decide))]
    have hq17_ : (mv12 1 3).toInt = ((M 1 3).toInt + 1) := by rw [hq13_, mu_at]; exact (i_add rfl l_1 (by omega) (by omega))
    exact T_ret ⟨(i_rng (lo := 0) (hi := 1) l_1 (by omega) (by omega)), (by have e9 : ((1 : Int32)).toInt = _ := l_1; omega), gq14_, kq15_⟩
  · exact T_ret ⟨(i_rng (lo := 0) (hi := 1) l_0 (by omega) (by omega)), (by have e9 : ((0 : Int32)).toInt = _ := l_0; omega), hG, hS⟩
abbrev l_X9_fails : List Bx := [(1, 2, 4, 5)]
abbrev po_X9_fails (a1 a2 : Int32) (M : qM) (v : Int32) (M' : qM) : Prop := (0 ≤ v.toInt ∧ v.toInt ≤ 0) ∧ G M' ∧ Sm l_X9_fails M M'
theorem t_X9_fails {n : Nat} (hn : 200000 ≤ n) (a1 a2 : Int32) (M : qM) (hG : G M) (pa1 : 1 ≤ a1.toInt ∧ a1.toInt ≤ 6) (pa2 : 0 ≤ a2.toInt ∧ a2.toInt ≤ 240) : qT (f_X9_fails n a1 a2 M) (po_X9_fails a1 a2 M) := by
  have hS : Sm l_X9_fails M M := Sm.rf
  unfold f_X9_fails
  refine T_mu hG hS (rn_1_4 _) (nw_1 _) (i := 0) rfl ⟨by decide, by decide, Or.inr ⟨by decide, by decide⟩⟩ ?_
  intro mv1 hq2_ gq3_ kq4_
  have hq5_ : (mv1 1 4).toInt = (((-1000) * a1.toInt) - a2.toInt) := by rw [hq2_, mu_at]; exact (i_sub (i_mul l_m1000 rfl (by omega) (by omega)) rfl (by omega) (by omega))
  exact T_ret ⟨(i_rng (lo := 0) (hi := 0) l_0 (by omega) (by omega)), gq3_, kq4_⟩
abbrev l_X9_mustTake : List Bx := [(1, 2, 3, 5)]
abbrev po_X9_mustTake (a1 : Int32) (M : qM) (v : Int32) (M' : qM) : Prop := (0 ≤ v.toInt ∧ v.toInt ≤ 1) ∧ ((v.toInt = 0 ∧ (M' 1 3).toInt = (M 1 3).toInt) ∨ (v.toInt ≠ 0 ∧ (M' 1 3).toInt = (M 1 3).toInt + 1 ∧ (M 1 3).toInt < (M 1 2).toInt)) ∧ G M' ∧ Sm l_X9_mustTake M M'
theorem t_X9_mustTake {n : Nat} (hn : 200000 ≤ n) (a1 : Int32) (M : qM) (hG : G M) (pa1 : 0 ≤ a1.toInt ∧ a1.toInt ≤ 255) : qT (f_X9_mustTake n a1 M) (po_X9_mustTake a1 M) := by
  have hS : Sm l_X9_mustTake M M := Sm.rf
  unfold f_X9_mustTake
  have hq1_ := r_1_3 hG
  have hq2_ := r_1_2 hG
  refine T_qc (t_X9_takes hn a1 M hG (i_rng (lo := 0) (hi := 255) rfl (by omega) (by omega))) ?_
  rintro rv3 mv4 ⟨hq5_, hq6_, gq7_, kq8_⟩
  have kq9_ := Sm.call hS kq8_ rfl
  have hq10_ : (mv4 1 2).toInt = (M 1 2).toInt := by rw [kq8_ 1 2 (by decide)]
  have hq11_ := r_1_3 gq7_
  refine T_eq rfl l_0 (fun hq12_ => ?_) (fun hq12_ => ?_)
  · refine T_qc (t_X9_fails hn (1 : Int32) (mv4 1 3) mv4 gq7_ (i_rng (lo := 1) (hi := 6) l_1 (by omega) (by omega)) (i_rng (lo := 0) (hi := 240) rfl (by omega) (by omega))) ?_
    rintro rv13 mv14 ⟨hq15_, gq16_, kq17_⟩
    have kq18_ := Sm.call kq9_ kq17_ rfl
    have hq19_ : (mv14 1 2).toInt = (mv4 1 2).toInt := by rw [kq17_ 1 2 (by decide)]
    have hq20_ : (mv14 1 3).toInt = (mv4 1 3).toInt := by rw [kq17_ 1 3 (by decide)]
    refine T_eq rfl l_0 (fun hq21_ => ?_) (fun hq21_ => ?_)
    · exact T_ret ⟨(i_rng (lo := 0) (hi := 1) l_0 (by omega) (by omega)), (by have e9 : ((0 : Int32)).toInt = _ := l_0; omega), gq16_, kq18_⟩
    · exfalso; omega
  · exact T_ret ⟨(i_rng (lo := 0) (hi := 1) l_1 (by omega) (by omega)), (by have e9 : ((1 : Int32)).toInt = _ := l_1; omega), gq7_, kq9_⟩
abbrev l_X4_opens : List Bx := [(1, 2, 3, 5)]
abbrev po_X4_opens (a1 : Int32) (M : qM) (v : Int32) (M' : qM) : Prop := (0 ≤ v.toInt ∧ v.toInt ≤ 1) ∧ (v.toInt = 0 ∨ (a1.toInt < 6 ∧ (M' 1 3).toInt = (M 1 3).toInt + 1)) ∧ G M' ∧ Sm l_X4_opens M M'
theorem t_X4_opens {n : Nat} (hn : 200000 ≤ n) (a1 : Int32) (M : qM) (hG : G M) (pa1 : 0 ≤ a1.toInt ∧ a1.toInt ≤ 6) (pe : (M 1 3).toInt < (M 1 2).toInt) : qT (f_X4_opens n a1 M) (po_X4_opens a1 M) := by
  have hS : Sm l_X4_opens M M := Sm.rf
  unfold f_X4_opens
  have hq1_ := r_1_3 hG
  have hq2_ := r_1_2 hG
  refine T_lt rfl l_6 (fun hq3_ => ?_) (fun hq3_ => ?_)
  · refine T_mu hG hS (i_rng (lo := 0) (hi := 240) (i_add rfl l_1 (by omega) (by omega)) (by omega) (by omega)) (nw_1 _) (i := 0) rfl ⟨by decide, by decide, Or.inr ⟨by decide, by decide⟩⟩ ?_
    intro mv4 hq5_ gq6_ kq7_
    have hq8_ : (mv4 1 2).toInt = (M 1 2).toInt := by rw [hq5_, mu_ne (Or.inr (by decide))]
    have hq9_ : (mv4 1 3).toInt = ((M 1 3).toInt + 1) := by rw [hq5_, mu_at]; exact (i_add rfl l_1 (by omega) (by omega))
    exact T_ret ⟨(i_rng (lo := 0) (hi := 1) l_1 (by omega) (by omega)), (by have e9 : ((1 : Int32)).toInt = _ := l_1; omega), gq6_, kq7_⟩
  · refine T_qc (t_X9_fails hn (5 : Int32) (M 1 3) M hG (i_rng (lo := 1) (hi := 6) l_5 (by omega) (by omega)) (i_rng (lo := 0) (hi := 240) rfl (by omega) (by omega))) ?_
    rintro rv10 mv11 ⟨hq12_, gq13_, kq14_⟩
    have kq15_ := Sm.call hS kq14_ rfl
    have hq16_ : (mv11 1 3).toInt = (M 1 3).toInt := by rw [kq14_ 1 3 (by decide)]
    have hq17_ : (mv11 1 2).toInt = (M 1 2).toInt := by rw [kq14_ 1 2 (by decide)]
    refine T_qb rfl (by omega) (by omega) ?_
    exact T_ret ⟨(i_rng (lo := 0) (hi := 1) rfl (by omega) (by omega)), (by have e9 : (rv10).toInt = _ := rfl; omega), gq13_, kq15_⟩
abbrev l_X3_add : List Bx := [(37, 53, 0, 0)]
abbrev po_X3_add (w : Nat) (a1 a2 : Int32) (M : qM) (v : Int32) (M' : qM) : Prop := ((-1) ≤ v.toInt ∧ v.toInt ≤ 239) ∧ ((240 ≤ (M w 6).toInt ∧ (M' w 6).toInt = (M w 6).toInt) ∨ ((M w 6).toInt < 240 ∧ v.toInt = (M w 6).toInt ∧ (M' w 6).toInt = (M w 6).toInt + 1 ∧ (M' (w + 1) v.toNatClampNeg).toInt = a1.toInt)) ∧ Lf w M M' ∧ G M' ∧ Sm l_X3_add M M'
theorem t_X3_add {n : Nat} (hn : 200000 ≤ n) {w : Nat} (hw : q_isLaw w) (a1 a2 : Int32) (M : qM) (hG : G M) (pa2 : 0 ≤ a2.toInt ∧ a2.toInt ≤ 1000000) (pe : a1.toInt = 1 → a2.toInt ≤ 11) : qT (f_X3_add n w a1 a2 M) (po_X3_add w a1 a2 M) := by
  have h6 := rw_0_6 hw hG
  unfold f_X3_add
  refine T_le l_240 rfl (fun c => ?_) (fun c => ?_)
  · exact T_ret ⟨i_rng (i_sub rfl l_1 (by omega) (by omega)) (by omega) (by omega), Or.inl ⟨c, rfl⟩, Lf.rf, hG, Sm.rf⟩
  · refine T_qg rfl (by omega) (by omega) ?_
    refine T_qlm ?_
    have e1 : mu M (w + 1) (M w 6).toNatClampNeg a1 w 6 = M w 6 := mu_ne (Or.inl (by omega))
    rw [e1]
    refine T_qg rfl (by omega) (by omega) ?_
    refine T_qlm ?_
    have e2 : mu (mu M (w + 1) (M w 6).toNatClampNeg a1) (w + 2) (M w 6).toNatClampNeg a2 w 6 = M w 6 := by rw [mu_ne (Or.inl (by omega)), e1]
    have hG2 := G_law hw hG (s := (M w 6).toNatClampNeg) (a1 := a1) (a2 := a2) pa2 pe
    have hS2 : Sm l_X3_add M (mu (mu M (w + 1) (M w 6).toNatClampNeg a1) (w + 2) (M w 6).toNatClampNeg a2) := ((Sm.rf).mu (i := 0) rfl (lwin (k := 1) hw (by decide))).mu (i := 0) rfl (lwin (k := 2) hw (by decide))
    have e3 : mu (mu M (w + 1) (M w 6).toNatClampNeg a1) (w + 2) (M w 6).toNatClampNeg a2 (w + 1) = mu M (w + 1) (M w 6).toNatClampNeg a1 (w + 1) := mu_nc (by omega)
    have e7 : mu (mu M (w + 1) (M w 6).toNatClampNeg a1) (w + 2) (M w 6).toNatClampNeg a2 w 7 = M w 7 := by rw [mu_ne (Or.inl (by omega)), mu_ne (Or.inl (by omega))]
    have e8 : ∀ k, 3 ≤ k → mu (mu M (w + 1) (M w 6).toNatClampNeg a1) (w + 2) (M w 6).toNatClampNeg a2 (w + k) = M (w + k) := fun k h3 => by rw [mu_nc (by omega), mu_nc (by omega)]
    generalize mu (mu M (w + 1) (M w 6).toNatClampNeg a1) (w + 2) (M w 6).toNatClampNeg a2 = m2 at e2 hG2 hS2 e3 e7 e8 ⊢
    refine T_qlm ?_
    rw [e2, mu_at]
    have e4 : (M w 6 + 1).toInt = (M w 6).toInt + 1 := i_add rfl l_1 (by omega) (by omega)
    have e5 : (M w 6 + 1 - 1).toInt = (M w 6).toInt + 1 - 1 := i_sub e4 l_1 (by omega) (by omega)
    have e6 : M w 6 + 1 - 1 = M w 6 := Int32.toInt_inj.mp (by rw [e5]; omega)
    rw [e6]
    refine T_ret ⟨⟨by omega, by omega⟩, Or.inr ⟨c, rfl, ?_, ?_⟩, ⟨?_, fun s hs => ?_, ?_, fun k h3 _ => ?_⟩, G_lw hw hG2 (fun _ => by rw [e4]; omega) (fun q => absurd q (by decide)) (Or.inl rfl), hS2.mu (i := 0) rfl (lwin (k := 0) hw (by decide))⟩
    · rw [mu_at]; exact e4
    · rw [mu_ne (Or.inl (by omega)), e3, mu_at]
    · rw [mu_at, e4]; omega
    · rw [mu_ne (Or.inl (by omega)), e3, mu_ne (Or.inr (by rw [tnc]; omega))]
    · rw [mu_ne (Or.inr (by decide)), e7]
    · rw [mu_nc (by omega), e8 k h3]

abbrev l_X9_digit : List Bx := []
abbrev po_X9_digit (M : qM) (v : Int32) (M' : qM) : Prop := ((-1) ≤ v.toInt ∧ v.toInt ≤ 9) ∧ (((0 ≤ (M 1 3).toInt ∧ (M 1 3).toInt < (M 1 2).toInt) ∧ 48 ≤ (M 2 (M 1 3).toNatClampNeg).toInt ∧ (M 2 (M 1 3).toNatClampNeg).toInt ≤ 57 ∧ v.toInt = (M 2 (M 1 3).toNatClampNeg).toInt - 48) ∨ (v.toInt = -1 ∧ ¬ ((0 ≤ (M 1 3).toInt ∧ (M 1 3).toInt < (M 1 2).toInt) ∧ 48 ≤ (M 2 (M 1 3).toNatClampNeg).toInt ∧ (M 2 (M 1 3).toNatClampNeg).toInt ≤ 57))) ∧ G M' ∧ Sm l_X9_digit M M'
theorem t_X9_digit {n : Nat} (hn : 200000 ≤ n) (M : qM) (hG : G M) : qT (f_X9_digit n  M) (po_X9_digit  M) := by
  have hS : Sm l_X9_digit M M := Sm.rf
  unfold f_X9_digit
  have hq1_ := r_1_3 hG
  have hq2_ := r_1_2 hG
  refine T_qc (t_X9_sign hn  M hG ) ?_
  rintro rv3 mv4 ⟨hq5_, hq6_, gq7_, kq8_⟩
  have hq9_ := r_2 hG ((M 1 3).toNatClampNeg)
  have hq10_ := kq8_.nil
  subst hq10_
  refine T_lt rfl l_48 (fun hq11_ => ?_) (fun hq11_ => ?_)
  · exact T_ret ⟨(i_rng (lo := (-1)) (hi := 9) l_m1 (by omega) (by omega)), (by have e9 : ((-1 : Int32)).toInt = _ := l_m1; omega), hG, hS⟩
  · refine T_lt l_57 rfl (fun hq12_ => ?_) (fun hq12_ => ?_)
    · exact T_ret ⟨(i_rng (lo := (-1)) (hi := 9) l_m1 (by omega) (by omega)), (by have e9 : ((-1 : Int32)).toInt = _ := l_m1; omega), hG, hS⟩
    · exact T_ret ⟨(i_rng (lo := (-1)) (hi := 9) (i_sub rfl l_48 (by omega) (by omega)) (by omega) (by omega)), (by have e9 : (rv3 - (48 : Int32)).toInt = _ := (i_sub rfl l_48 (by omega) (by omega)); omega), hG, hS⟩
abbrev l_X4_readNumber : List Bx := [(1, 2, 3, 5), (37, 53, 0, 0)]
abbrev po_X4_readNumber (r : Nat) (M : qM) (v : Int32) (M' : qM) : Prop := (0 ≤ v.toInt ∧ v.toInt ≤ 1) ∧ (v.toInt = 0 ∨ ((M 1 3).toInt - (M r 6).toInt ≤ (M' 1 3).toInt - (M' r 6).toInt ∧ (M' 1 3).toInt ≤ (M' 1 2).toInt ∧ (M' r 6).toInt ≤ (M' 1 3).toInt)) ∧ Lf r M M' ∧ G M' ∧ Sm l_X4_readNumber M M'
theorem t_X4_readNumber_4 {n : Nat} (hn : 200000 ≤ n) {r : Nat} (hr : q_isLaw r) {M0 : qM} : ∀ (m : Nat) (a1 a2 : Int32) (M : qM), G M → Sm l_X4_readNumber M0 M → 0 ≤ a1.toInt ∧ a1.toInt ≤ 99999 → 0 ≤ a2.toInt ∧ a2.toInt ≤ 5 → ((M r 6).toInt = (M0 r 6).toInt ∧ (M 1 3).toInt = (M0 1 3).toInt + a2.toInt ∧ (M r 6).toInt ≤ (M0 1 3).toInt ∧ (M 1 3).toInt ≤ (M 1 2).toInt ∧ (1 ≤ a2.toInt ∨ (a2.toInt = 0 ∧ 48 ≤ (M 2 (M 1 3).toNatClampNeg).toInt ∧ (M 2 (M 1 3).toNatClampNeg).toInt ≤ 57 ∧ (M 1 3).toInt < (M 1 2).toInt)) ∧ ((a2.toInt = 0 ∧ a1.toInt ≤ 0) ∨ (a2.toInt = 1 ∧ a1.toInt ≤ 9) ∨ (a2.toInt = 2 ∧ a1.toInt ≤ 99) ∨ (a2.toInt = 3 ∧ a1.toInt ≤ 999) ∨ (a2.toInt = 4 ∧ a1.toInt ≤ 9999) ∨ (a2.toInt = 5 ∧ a1.toInt ≤ 99999))) → Lf r M0 M → 5 - a2.toInt < (m : Int) → qT (f_X4_readNumber_4 n r m a1 a2 M) (po_X4_readNumber r  M0) := by
  intro m
  induction m with
  | zero =>
    intro a1 a2 M hG hS i0 i1 hE hR i6
    have hq3_ := r_1_3 hG
    have hq4_ := r_1_2 hG
    have hq5_ := rw_0_6 hr hG
    exfalso; omega
  | succ m ih =>
    intro a1 a2 M hG hS i0 i1 hE hR i6
    show qT (b_X4_readNumber_4 n r (f_X4_readNumber_4 n r m) a1 a2 M) _
    unfold b_X4_readNumber_4
    have hq3_ := r_1_3 hG
    have hq4_ := r_1_2 hG
    have hq5_ := rw_0_6 hr hG
    refine T_le l_5 rfl (fun hq6_ => ?_) (fun hq6_ => ?_)
    · unfold f_X4_readNumber_52
      refine T_qc (t_X9_digit hn  M hG ) ?_
      rintro rv7 mv8 ⟨hq9_, hq10_, gq11_, kq12_⟩
      have hq13_ := r_2 hG ((M 1 3).toNatClampNeg)
      have hq14_ := kq12_.nil
      subst hq14_
      refine T_eq rfl l_m1 (fun hq15_ => ?_) (fun hq15_ => ?_)
      · have hq18_ := (show ((0 : Int32)).toInt = _ from l_0)
        refine T_qc (t_X3_add hn hr (0 : Int32) a1 M hG (i_rng (lo := 0) (hi := 1000000) rfl (by omega) (by omega)) (by have e0 : ((0 : Int32)).toInt = _ := l_0; omega)) ?_
        rintro rv16 mv17 ⟨hq19_, hq20_, hq21_, gq22_, kq23_⟩
        have kq24_ := Sm.call hS kq23_ rfl
        have hq25_ := Lf.tr (M := M0) hR hq21_
        have hq26_ : (mv17 1 3).toInt = (M 1 3).toInt := by rw [kq23_ 1 3 (by decide)]
        have hq27_ : (mv17 1 2).toInt = (M 1 2).toInt := by rw [kq23_ 1 2 (by decide)]
        have hq28_ := rw_0_6 hr gq22_
        exact T_ret ⟨(i_rng (lo := 0) (hi := 1) l_1 (by omega) (by omega)), (by have e9 : ((1 : Int32)).toInt = _ := l_1; omega), hq25_, gq22_, kq24_⟩
      · refine T_qc (t_X9_fails hn (2 : Int32) (M 1 3) M hG (i_rng (lo := 1) (hi := 6) l_2 (by omega) (by omega)) (i_rng (lo := 0) (hi := 240) rfl (by omega) (by omega))) ?_
        rintro rv29 mv30 ⟨hq31_, gq32_, kq33_⟩
        have kq34_ := Sm.call hS kq33_ rfl
        have hq35_ := Lf.out hr (M0 := M0) hR kq33_ rfl
        have hq36_ : (mv30 r 6).toInt = (M r 6).toInt := by rw [kq33_ r 6 (outl (lawin hr).1 rfl)]
        have hq37_ : (mv30 1 3).toInt = (M 1 3).toInt := by rw [kq33_ 1 3 (by decide)]
        have hq38_ : (mv30 1 2).toInt = (M 1 2).toInt := by rw [kq33_ 1 2 (by decide)]
        refine T_qb rfl (by omega) (by omega) ?_
        exact T_ret ⟨(i_rng (lo := 0) (hi := 1) rfl (by omega) (by omega)), (by have e9 : (rv29).toInt = _ := rfl; omega), hq35_, gq32_, kq34_⟩
    · refine T_qc (t_X9_digit hn  M hG ) ?_
      rintro rv39 mv40 ⟨hq41_, hq42_, gq43_, kq44_⟩
      have hq45_ := r_2 hG ((M 1 3).toNatClampNeg)
      have hq46_ := kq44_.nil
      subst hq46_
      refine T_eq rfl l_m1 (fun hq47_ => ?_) (fun hq47_ => ?_)
      · unfold f_X4_readNumber_52
        refine T_qc (t_X9_digit hn  M hG ) ?_
        rintro rv48 mv49 ⟨hq50_, hq51_, gq52_, kq53_⟩
        have hq54_ := kq53_.nil
        subst hq54_
        refine T_eq rfl l_m1 (fun hq55_ => ?_) (fun hq55_ => ?_)
        · have hq58_ := (show ((0 : Int32)).toInt = _ from l_0)
          refine T_qc (t_X3_add hn hr (0 : Int32) a1 M hG (i_rng (lo := 0) (hi := 1000000) rfl (by omega) (by omega)) (by have e0 : ((0 : Int32)).toInt = _ := l_0; omega)) ?_
          rintro rv56 mv57 ⟨hq59_, hq60_, hq61_, gq62_, kq63_⟩
          have kq64_ := Sm.call hS kq63_ rfl
          have hq65_ := Lf.tr (M := M0) hR hq61_
          have hq66_ : (mv57 1 3).toInt = (M 1 3).toInt := by rw [kq63_ 1 3 (by decide)]
          have hq67_ : (mv57 1 2).toInt = (M 1 2).toInt := by rw [kq63_ 1 2 (by decide)]
          have hq68_ := rw_0_6 hr gq62_
          exact T_ret ⟨(i_rng (lo := 0) (hi := 1) l_1 (by omega) (by omega)), (by have e9 : ((1 : Int32)).toInt = _ := l_1; omega), hq65_, gq62_, kq64_⟩
        · refine T_qc (t_X9_fails hn (2 : Int32) (M 1 3) M hG (i_rng (lo := 1) (hi := 6) l_2 (by omega) (by omega)) (i_rng (lo := 0) (hi := 240) rfl (by omega) (by omega))) ?_
          rintro rv69 mv70 ⟨hq71_, gq72_, kq73_⟩
          have kq74_ := Sm.call hS kq73_ rfl
          have hq75_ := Lf.out hr (M0 := M0) hR kq73_ rfl
          have hq76_ : (mv70 r 6).toInt = (M r 6).toInt := by rw [kq73_ r 6 (outl (lawin hr).1 rfl)]
          have hq77_ : (mv70 1 3).toInt = (M 1 3).toInt := by rw [kq73_ 1 3 (by decide)]
          have hq78_ : (mv70 1 2).toInt = (M 1 2).toInt := by rw [kq73_ 1 2 (by decide)]
          refine T_qb rfl (by omega) (by omega) ?_
          exact T_ret ⟨(i_rng (lo := 0) (hi := 1) rfl (by omega) (by omega)), (by have e9 : (rv69).toInt = _ := rfl; omega), hq75_, gq72_, kq74_⟩
      · refine T_qc (t_X9_digit hn  M hG ) ?_
        rintro rv79 mv80 ⟨hq81_, hq82_, gq83_, kq84_⟩
        have hq85_ := kq84_.nil
        subst hq85_
        refine T_ql (i_add (i_mul l_10 rfl (by omega) (by omega)) rfl (by omega) (by omega)) ?_
        intro xv86 hq87_
        refine T_mu hG hS (i_rng (lo := 0) (hi := 240) (i_add rfl l_1 (by omega) (by omega)) (by omega) (by omega)) (nw_1 _) (i := 0) rfl ⟨by decide, by decide, Or.inr ⟨by decide, by decide⟩⟩ ?_
        intro mv88 hq89_ gq90_ kq91_
        have hq92_ := Lf.mu hr (M0 := M0) hR hq89_ (by decide)
        have hq93_ : (mv88 1 2).toInt = (M 1 2).toInt := by rw [hq89_, mu_ne (Or.inr (by decide))]
        have hq94_ : (mv88 r 6).toInt = (M r 6).toInt := by rw [hq89_, mu_ne (Or.inl (lawne hr (by decide)).1)]
        have hq95_ : (mv88 1 3).toInt = ((M 1 3).toInt + 1) := by rw [hq89_, mu_at]; exact (i_add rfl l_1 (by omega) (by omega))
        refine T_ql (i_add rfl l_1 (by omega) (by omega)) ?_
        intro xv96 hq97_
        have hq98_ := r_1_3 gq90_
        have hq99_ := r_1_2 gq90_
        have hq100_ := rw_0_6 hr gq90_
        exact ih xv86 xv96 mv88 gq90_ kq91_ (i_rng (lo := 0) (hi := 99999) rfl (by omega) (by omega)) (i_rng (lo := 0) (hi := 5) rfl (by omega) (by omega)) (by omega) hq92_ (by omega)
theorem t_X4_readNumber {n : Nat} (hn : 200000 ≤ n) {r : Nat} (hr : q_isLaw r) (M : qM) (hG : G M) (pe : (M 1 3).toInt ≤ (M 1 2).toInt ∧ (M r 6).toInt ≤ (M 1 3).toInt ∧ (M 1 3).toInt < (M 1 2).toInt ∧ 48 ≤ (M 2 (M 1 3).toNatClampNeg).toInt ∧ (M 2 (M 1 3).toNatClampNeg).toInt ≤ 57) : qT (f_X4_readNumber n r  M) (po_X4_readNumber r  M) := by
  have hS : Sm l_X4_readNumber M M := Sm.rf
  unfold f_X4_readNumber
  have hq101_ := r_1_3 hG
  have hq102_ := r_1_2 hG
  have hq103_ := rw_0_6 hr hG
  exact (t_X4_readNumber_4 hn hr) n (0 : Int32) (0 : Int32) M hG hS (i_rng (lo := 0) (hi := 99999) l_0 (by omega) (by omega)) (i_rng (lo := 0) (hi := 5) l_0 (by omega) (by omega)) (by have e0 : ((0 : Int32)).toInt = _ := l_0; have e1 : ((0 : Int32)).toInt = _ := l_0; omega) Lf.rf (by have e0 : ((0 : Int32)).toInt = _ := l_0; have e1 : ((0 : Int32)).toInt = _ := l_0; omega)
