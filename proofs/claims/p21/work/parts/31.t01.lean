abbrev l_X9_sign : List Bx := []
abbrev po_X9_sign (M : qM) (v : Int32) (M' : qM) : Prop := ((-1) ≤ v.toInt ∧ v.toInt ≤ 255) ∧ (((0 ≤ (M 1 3).toInt ∧ (M 1 3).toInt < (M 1 2).toInt) ∧ v.toInt = (M 2 (M 1 3).toNatClampNeg).toInt) ∨ (¬ (0 ≤ (M 1 3).toInt ∧ (M 1 3).toInt < (M 1 2).toInt) ∧ v.toInt = -1)) ∧ G M' ∧ Sm l_X9_sign M M'
theorem t_X9_sign {n : Nat} (hn : 200000 ≤ n) (M : qM) (hG : G M) : qT (f_X9_sign n  M) (po_X9_sign  M) := by
  have hS : Sm l_X9_sign M M := Sm.rf
  unfold f_X9_sign
  refine T_lt rfl l_0 (fun hq1_ => ?_) (fun hq1_ => ?_)
  · exact T_ret ⟨(i_rng (lo := (-1)) (hi := 255) l_m1 (by omega) (by omega)), (by have e9 : ((-1 : Int32)).toInt = _ := l_m1; omega), hG, hS⟩
  · have hq2_ := r_1_2 hG
    refine T_le rfl rfl (fun hq3_ => ?_) (fun hq3_ => ?_)
    · exact T_ret ⟨(i_rng (lo := (-1)) (hi := 255) l_m1 (by omega) (by omega)), (by have e9 : ((-1 : Int32)).toInt = _ := l_m1; omega), hG, hS⟩
    · refine T_qg rfl (by omega) (by omega) ?_
      have hq4_ := r_2 hG ((M 1 3).toNatClampNeg)
      exact T_ret ⟨(i_rng (lo := (-1)) (hi := 255) rfl (by omega) (by omega)), (by have e9 : (M 2 ((M 1 3).toNatClampNeg)).toInt = _ := rfl; omega), hG, hS⟩
abbrev l_X9_takes : List Bx := [(1, 2, 3, 4)]
abbrev po_X9_takes (a1 : Int32) (M : qM) (v : Int32) (M' : qM) : Prop := (0 ≤ v.toInt ∧ v.toInt ≤ 1) ∧ G M' ∧ Sm l_X9_takes M M'
theorem t_X9_takes {n : Nat} (hn : 200000 ≤ n) (a1 : Int32) (M : qM) (hG : G M) (pa1 : 38 ≤ a1.toInt ∧ a1.toInt ≤ 124) : qT (f_X9_takes n a1 M) (po_X9_takes a1 M) := by
  have hS : Sm l_X9_takes M M := Sm.rf
  unfold f_X9_takes
  refine T_qc (t_X9_sign hn  M hG ) ?_
  rintro rv1 mv2 ⟨hq3_, hq4_, gq5_, kq6_⟩
  have hq7_ := r_1_2 hG
  have hq8_ := r_2 hG ((M 1 3).toNatClampNeg)
  have hq9_ := kq6_.nil
  subst hq9_
  refine T_eq rfl rfl (fun hq10_ => ?_) (fun hq10_ => ?_)
  · have hq12_ := i_full (M 1 3)
    refine T_mu hG hS (rn_1_3 _) (nw_1 _) (i := 0) rfl ⟨by decide, by decide, Or.inr ⟨by decide, by decide⟩⟩ ?_
    intro mv11 hq13_ gq14_ kq15_
    have hq16_ : (mv11 1 3).toInt = ((M 1 3) + (1 : Int32)).toInt := by rw [hq13_, mu_at]
    exact T_ret ⟨(i_rng (lo := 0) (hi := 1) l_1 (by omega) (by omega)), gq14_, kq15_⟩
  · exact T_ret ⟨(i_rng (lo := 0) (hi := 1) l_0 (by omega) (by omega)), hG, hS⟩
abbrev l_X9_fails : List Bx := [(1, 2, 4, 5)]
abbrev po_X9_fails (a1 a2 : Int32) (M : qM) (v : Int32) (M' : qM) : Prop := (0 ≤ v.toInt ∧ v.toInt ≤ 0) ∧ G M' ∧ Sm l_X9_fails M M'
theorem t_X9_fails {n : Nat} (hn : 200000 ≤ n) (a1 a2 : Int32) (M : qM) (hG : G M) (pa1 : 1 ≤ a1.toInt ∧ a1.toInt ≤ 6) : qT (f_X9_fails n a1 a2 M) (po_X9_fails a1 a2 M) := by
  have hS : Sm l_X9_fails M M := Sm.rf
  unfold f_X9_fails
  have hq2_ := i_full (a2)
  refine T_mu hG hS (rn_1_4 _) (nw_1 _) (i := 0) rfl ⟨by decide, by decide, Or.inr ⟨by decide, by decide⟩⟩ ?_
  intro mv1 hq3_ gq4_ kq5_
  have hq6_ : (mv1 1 4).toInt = (((-1000 : Int32) * a1) - a2).toInt := by rw [hq3_, mu_at]
  exact T_ret ⟨(i_rng (lo := 0) (hi := 0) l_0 (by omega) (by omega)), gq4_, kq5_⟩
abbrev l_X9_mustTake : List Bx := [(1, 2, 3, 5)]
abbrev po_X9_mustTake (a1 : Int32) (M : qM) (v : Int32) (M' : qM) : Prop := (0 ≤ v.toInt ∧ v.toInt ≤ 1) ∧ G M' ∧ Sm l_X9_mustTake M M'
theorem t_X9_mustTake {n : Nat} (hn : 200000 ≤ n) (a1 : Int32) (M : qM) (hG : G M) (pa1 : 40 ≤ a1.toInt ∧ a1.toInt ≤ 93) : qT (f_X9_mustTake n a1 M) (po_X9_mustTake a1 M) := by
  have hS : Sm l_X9_mustTake M M := Sm.rf
  unfold f_X9_mustTake
  refine T_qc (t_X9_takes hn a1 M hG (i_rng (lo := 38) (hi := 124) rfl (by omega) (by omega))) ?_
  rintro rv1 mv2 ⟨hq3_, gq4_, kq5_⟩
  have kq6_ := Sm.call hS kq5_ rfl
  refine T_eq rfl l_0 (fun hq7_ => ?_) (fun hq7_ => ?_)
  · refine T_qc (t_X9_fails hn (1 : Int32) (mv2 1 3) mv2 gq4_ (i_rng (lo := 1) (hi := 6) l_1 (by omega) (by omega))) ?_
    rintro rv8 mv9 ⟨hq10_, gq11_, kq12_⟩
    have kq13_ := Sm.call kq6_ kq12_ rfl
    refine T_eq rfl l_0 (fun hq14_ => ?_) (fun hq14_ => ?_)
    · exact T_ret ⟨(i_rng (lo := 0) (hi := 1) l_0 (by omega) (by omega)), gq11_, kq13_⟩
    · exfalso; omega
  · exact T_ret ⟨(i_rng (lo := 0) (hi := 1) l_1 (by omega) (by omega)), gq4_, kq6_⟩
abbrev l_X9_digit : List Bx := []
abbrev po_X9_digit (M : qM) (v : Int32) (M' : qM) : Prop := ((-1) ≤ v.toInt ∧ v.toInt ≤ 9) ∧ (((0 ≤ (M 1 3).toInt ∧ (M 1 3).toInt < (M 1 2).toInt) ∧ 48 ≤ (M 2 (M 1 3).toNatClampNeg).toInt ∧ (M 2 (M 1 3).toNatClampNeg).toInt ≤ 57 ∧ v.toInt = (M 2 (M 1 3).toNatClampNeg).toInt - 48) ∨ (v.toInt = -1 ∧ ¬ ((0 ≤ (M 1 3).toInt ∧ (M 1 3).toInt < (M 1 2).toInt) ∧ 48 ≤ (M 2 (M 1 3).toNatClampNeg).toInt ∧ (M 2 (M 1 3).toNatClampNeg).toInt ≤ 57))) ∧ G M' ∧ Sm l_X9_digit M M'
theorem t_X9_digit {n : Nat} (hn : 200000 ≤ n) (M : qM) (hG : G M) : qT (f_X9_digit n  M) (po_X9_digit  M) := by
  have hS : Sm l_X9_digit M M := Sm.rf
  unfold f_X9_digit
  refine T_qc (t_X9_sign hn  M hG ) ?_
  rintro rv1 mv2 ⟨hq3_, hq4_, gq5_, kq6_⟩
  have hq7_ := r_1_2 hG
  have hq8_ := r_2 hG ((M 1 3).toNatClampNeg)
  have hq9_ := kq6_.nil
  subst hq9_
  refine T_lt rfl l_48 (fun hq10_ => ?_) (fun hq10_ => ?_)
  · exact T_ret ⟨(i_rng (lo := (-1)) (hi := 9) l_m1 (by omega) (by omega)), (by have e9 : ((-1 : Int32)).toInt = _ := l_m1; omega), hG, hS⟩
  · refine T_lt l_57 rfl (fun hq11_ => ?_) (fun hq11_ => ?_)
    · exact T_ret ⟨(i_rng (lo := (-1)) (hi := 9) l_m1 (by omega) (by omega)), (by have e9 : ((-1 : Int32)).toInt = _ := l_m1; omega), hG, hS⟩
    · exact T_ret ⟨(i_rng (lo := (-1)) (hi := 9) (i_sub rfl l_48 (by omega) (by omega)) (by omega) (by omega)), (by have e9 : (rv1 - (48 : Int32)).toInt = _ := (i_sub rfl l_48 (by omega) (by omega)); omega), hG, hS⟩
abbrev l_X9_mustEnd : List Bx := [(1, 2, 4, 5)]
abbrev po_X9_mustEnd (M : qM) (v : Int32) (M' : qM) : Prop := (0 ≤ v.toInt ∧ v.toInt ≤ 1) ∧ G M' ∧ Sm l_X9_mustEnd M M'
theorem t_X9_mustEnd {n : Nat} (hn : 200000 ≤ n) (M : qM) (hG : G M) : qT (f_X9_mustEnd n  M) (po_X9_mustEnd  M) := by
  have hS : Sm l_X9_mustEnd M M := Sm.rf
  unfold f_X9_mustEnd
  have hq1_ := r_1_2 hG
  refine T_le rfl rfl (fun hq2_ => ?_) (fun hq2_ => ?_)
  · exact T_ret ⟨(i_rng (lo := 0) (hi := 1) l_1 (by omega) (by omega)), hG, hS⟩
  · refine T_qc (t_X9_fails hn (1 : Int32) (M 1 3) M hG (i_rng (lo := 1) (hi := 6) l_1 (by omega) (by omega))) ?_
    rintro rv3 mv4 ⟨hq5_, gq6_, kq7_⟩
    have kq8_ := Sm.call hS kq7_ rfl
    have hq9_ : (mv4 1 3).toInt = (M 1 3).toInt := by rw [kq7_ 1 3 (by decide)]
    have hq10_ : (mv4 1 2).toInt = (M 1 2).toInt := by rw [kq7_ 1 2 (by decide)]
    refine T_eq rfl l_0 (fun hq11_ => ?_) (fun hq11_ => ?_)
    · exact T_ret ⟨(i_rng (lo := 0) (hi := 1) l_0 (by omega) (by omega)), gq6_, kq8_⟩
    · exfalso; omega
abbrev l_X9_clear : List Bx := [(1, 2, 1, 2)]
abbrev po_X9_clear (M : qM) (v : Int32) (M' : qM) : Prop := (0 ≤ v.toInt ∧ v.toInt ≤ 0) ∧ G M' ∧ Sm l_X9_clear M M'
theorem t_X9_clear {n : Nat} (hn : 200000 ≤ n) (M : qM) (hG : G M) : qT (f_X9_clear n  M) (po_X9_clear  M) := by
  have hS : Sm l_X9_clear M M := Sm.rf
  unfold f_X9_clear
  refine T_mu hG hS (i_rng (lo := 0) (hi := 260) l_0 (by omega) (by omega)) (nw_1 _) (i := 0) rfl ⟨by decide, by decide, Or.inr ⟨by decide, by decide⟩⟩ ?_
  intro mv1 hq2_ gq3_ kq4_
  have hq5_ : (mv1 1 1).toInt = 0 := by rw [hq2_, mu_at]; exact l_0
  exact T_ret ⟨(i_rng (lo := 0) (hi := 0) l_0 (by omega) (by omega)), gq3_, kq4_⟩
abbrev l_X11_law : List Bx := [(1, 2, 1, 5), (37, 53, 0, 0)]
abbrev po_X11_law (a1 : Int32) (M : qM) (v : Int32) (M' : qM) : Prop := ((-2147483648) ≤ v.toInt ∧ v.toInt ≤ 0) ∧ G M' ∧ Sm l_X11_law M M'
theorem t_X11_law {n : Nat} (hn : 200000 ≤ n) {j : Nat} (hj : q_isLaw j) {r : Nat} (hr : q_isLaw r) (a1 : Int32) (M : qM) (hG : G M) : qT (f_X11_law n j r a1 M) (po_X11_law a1 M) := by
  sorry
abbrev l_X12_here : List Bx := []
abbrev po_X12_here (M : qM) (v : Int32) (M' : qM) : Prop := ((-1) ≤ v.toInt ∧ v.toInt ≤ 255) ∧ (v.toInt = -1 ∨ (M 77 9).toInt < (M 77 10).toInt) ∧ G M' ∧ Sm l_X12_here M M'
theorem t_X12_here {n : Nat} (hn : 200000 ≤ n) (M : qM) (hG : G M) : qT (f_X12_here n  M) (po_X12_here  M) := by
  have hS : Sm l_X12_here M M := Sm.rf
  unfold f_X12_here
  have hq1_ := r_77_10 hG
  have hq2_ := r_77_9 hG
  refine T_le rfl rfl (fun hq3_ => ?_) (fun hq3_ => ?_)
  · exact T_ret ⟨(i_rng (lo := (-1)) (hi := 255) l_m1 (by omega) (by omega)), (by have e9 : ((-1 : Int32)).toInt = _ := l_m1; omega), hG, hS⟩
  · refine T_qg rfl (by omega) (by omega) ?_
    have hq4_ := r_84 hG ((M 77 9).toNatClampNeg)
    have hq5_ := i_and (a := M 84 ((M 77 9).toNatClampNeg)) (b := (255 : Int32)) l_255 (by omega)
    exact T_ret ⟨(i_rng (lo := (-1)) (hi := 255) rfl (by omega) (by omega)), (by have e9 : ((M 84 ((M 77 9).toNatClampNeg)) &&& (255 : Int32)).toInt = _ := rfl; omega), hG, hS⟩
abbrev l_X12_wrongAt : List Bx := [(77, 78, 11, 12)]
abbrev po_X12_wrongAt (a1 a2 : Int32) (M : qM) (v : Int32) (M' : qM) : Prop := (0 ≤ v.toInt ∧ v.toInt ≤ 0) ∧ G M' ∧ Sm l_X12_wrongAt M M'
theorem t_X12_wrongAt {n : Nat} (hn : 200000 ≤ n) (a1 a2 : Int32) (M : qM) (hG : G M) (pa1 : 1 ≤ a1.toInt ∧ a1.toInt ≤ 6) : qT (f_X12_wrongAt n a1 a2 M) (po_X12_wrongAt a1 a2 M) := by
  have hS : Sm l_X12_wrongAt M M := Sm.rf
  unfold f_X12_wrongAt
  have hq2_ := i_full (a2)
  refine T_mu hG hS (rn_77_11 _) nw_77_11 (i := 0) rfl ⟨by decide, by decide, Or.inr ⟨by decide, by decide⟩⟩ ?_
  intro mv1 hq3_ gq4_ kq5_
  have hq6_ : (mv1 77 11).toInt = (((-1000 : Int32) * a1) - a2).toInt := by rw [hq3_, mu_at]
  exact T_ret ⟨(i_rng (lo := 0) (hi := 0) l_0 (by omega) (by omega)), gq4_, kq5_⟩
abbrev l_X12_isDigit : List Bx := []
abbrev po_X12_isDigit (M : qM) (v : Int32) (M' : qM) : Prop := (0 ≤ v.toInt ∧ v.toInt ≤ 1) ∧ (v.toInt = 0 ∨ (M 77 9).toInt < (M 77 10).toInt) ∧ G M' ∧ Sm l_X12_isDigit M M'
theorem t_X12_isDigit {n : Nat} (hn : 200000 ≤ n) (M : qM) (hG : G M) : qT (f_X12_isDigit n  M) (po_X12_isDigit  M) := by
  have hS : Sm l_X12_isDigit M M := Sm.rf
  unfold f_X12_isDigit
  refine T_qc (t_X12_here hn  M hG ) ?_
  rintro rv1 mv2 ⟨hq3_, hq4_, gq5_, kq6_⟩
  have hq7_ := r_77_9 hG
  have hq8_ := r_77_10 hG
  have hq9_ := kq6_.nil
  subst hq9_
  refine T_lt rfl l_48 (fun hq10_ => ?_) (fun hq10_ => ?_)
  · exact T_ret ⟨(i_rng (lo := 0) (hi := 1) l_0 (by omega) (by omega)), (by have e9 : ((0 : Int32)).toInt = _ := l_0; omega), hG, hS⟩
  · refine T_qc (t_X12_here hn  M hG ) ?_
    rintro rv11 mv12 ⟨hq13_, hq14_, gq15_, kq16_⟩
    have hq17_ := kq16_.nil
    subst hq17_
    refine T_lt l_57 rfl (fun hq18_ => ?_) (fun hq18_ => ?_)
    · exact T_ret ⟨(i_rng (lo := 0) (hi := 1) l_0 (by omega) (by omega)), (by have e9 : ((0 : Int32)).toInt = _ := l_0; omega), hG, hS⟩
    · exact T_ret ⟨(i_rng (lo := 0) (hi := 1) l_1 (by omega) (by omega)), (by have e9 : ((1 : Int32)).toInt = _ := l_1; omega), hG, hS⟩
abbrev l_X12_readsNumber : List Bx := [(77, 78, 9, 10), (77, 78, 11, 13)]
abbrev po_X12_readsNumber (M : qM) (v : Int32) (M' : qM) : Prop := (0 ≤ v.toInt ∧ v.toInt ≤ 1) ∧ G M' ∧ Sm l_X12_readsNumber M M'
theorem t_X12_readsNumber_10 {n : Nat} (hn : 200000 ≤ n) {M0 : qM} : ∀ (m : Nat) (a1 : Int32) (M : qM), G M → Sm l_X12_readsNumber M0 M → 0 ≤ a1.toInt ∧ a1.toInt ≤ 240 → 240 - (M 77 9).toInt < (m : Int) → qT (f_X12_readsNumber_10 n m a1 M) (po_X12_readsNumber  M0) := by
  intro m
  induction m with
  | zero =>
    intro a1 M hG hS i0 i1
    have hq1_ := r_77_9 hG
    have hq2_ := r_77_10 hG
    exfalso; omega
  | succ m ih =>
    intro a1 M hG hS i0 i1
    show qT (b_X12_readsNumber_10 n (f_X12_readsNumber_10 n m) a1 M) _
    unfold b_X12_readsNumber_10
    have hq1_ := r_77_9 hG
    have hq2_ := r_77_10 hG
    refine T_qc (t_X12_isDigit hn  M hG ) ?_
    rintro rv3 mv4 ⟨hq5_, hq6_, gq7_, kq8_⟩
    have hq9_ := kq8_.nil
    subst hq9_
    refine T_eq rfl l_0 (fun hq10_ => ?_) (fun hq10_ => ?_)
    · exact T_ret ⟨(i_rng (lo := 0) (hi := 1) l_1 (by omega) (by omega)), hG, hS⟩
    · refine T_eq rfl (i_add rfl l_5 (by omega) (by omega)) (fun hq11_ => ?_) (fun hq11_ => ?_)
      · refine T_qc (t_X12_wrongAt hn (2 : Int32) (M 77 9) M hG (i_rng (lo := 1) (hi := 6) l_2 (by omega) (by omega))) ?_
        rintro rv12 mv13 ⟨hq14_, gq15_, kq16_⟩
        have kq17_ := Sm.call hS kq16_ rfl
        have hq18_ : (mv13 77 9).toInt = (M 77 9).toInt := by rw [kq16_ 77 9 (by decide)]
        have hq19_ : (mv13 77 10).toInt = (M 77 10).toInt := by rw [kq16_ 77 10 (by decide)]
        refine T_qb rfl (by omega) (by omega) ?_
        exact T_ret ⟨(i_rng (lo := 0) (hi := 1) rfl (by omega) (by omega)), gq15_, kq17_⟩
      · refine T_qc (t_X12_here hn  M hG ) ?_
        rintro rv20 mv21 ⟨hq22_, hq23_, gq24_, kq25_⟩
        have hq26_ := kq25_.nil
        subst hq26_
        have hq28_ := i_full (M 77 12)
        have hq29_ := i_full ((10 : Int32) * (M 77 12))
        have hq30_ := i_full (((10 : Int32) * (M 77 12)) + rv20)
        refine T_mu hG hS (rn_77_12 _) nw_77_12 (i := 1) rfl ⟨by decide, by decide, Or.inr ⟨by decide, by decide⟩⟩ ?_
        intro mv27 hq31_ gq32_ kq33_
        have hq34_ : (mv27 77 9).toInt = (M 77 9).toInt := by rw [hq31_, mu_ne (Or.inr (by decide))]
        have hq35_ : (mv27 77 10).toInt = (M 77 10).toInt := by rw [hq31_, mu_ne (Or.inr (by decide))]
        have hq36_ : (mv27 77 12).toInt = ((((10 : Int32) * (M 77 12)) + rv20) - (48 : Int32)).toInt := by rw [hq31_, mu_at]
        have hq38_ := r_77_9 gq32_
        refine T_mu gq32_ kq33_ (i_rng (lo := 0) (hi := 240) (i_add rfl l_1 (by omega) (by omega)) (by omega) (by omega)) nw_77_9 (i := 0) rfl ⟨by decide, by decide, Or.inr ⟨by decide, by decide⟩⟩ ?_
        intro mv37 hq39_ gq40_ kq41_
        have hq42_ : (mv37 77 10).toInt = (mv27 77 10).toInt := by rw [hq39_, mu_ne (Or.inr (by decide))]
        have hq43_ : (mv37 77 12).toInt = (mv27 77 12).toInt := by rw [hq39_, mu_ne (Or.inr (by decide))]
        have hq44_ : (mv37 77 9).toInt = ((mv27 77 9).toInt + 1) := by rw [hq39_, mu_at]; exact (i_add rfl l_1 (by omega) (by omega))
        have hq45_ := r_77_9 gq40_
        have hq46_ := r_77_10 gq40_
        exact ih a1 mv37 gq40_ kq41_ (i_rng (lo := 0) (hi := 240) rfl (by omega) (by omega)) (by omega)
theorem t_X12_readsNumber {n : Nat} (hn : 200000 ≤ n) (M : qM) (hG : G M) : qT (f_X12_readsNumber n  M) (po_X12_readsNumber  M) := by
  have hS : Sm l_X12_readsNumber M M := Sm.rf
  unfold f_X12_readsNumber
  have hq47_ := r_77_9 hG
  refine T_ql rfl ?_
  intro xv48 hq49_
  refine T_mu hG hS (rn_77_12 _) nw_77_12 (i := 1) rfl ⟨by decide, by decide, Or.inr ⟨by decide, by decide⟩⟩ ?_
  intro mv50 hq51_ gq52_ kq53_
  have hq54_ : (mv50 77 12).toInt = 0 := by rw [hq51_, mu_at]; exact l_0
  have hq55_ := r_77_9 gq52_
  have hq56_ := r_77_10 gq52_
  exact (t_X12_readsNumber_10 hn) n xv48 mv50 gq52_ kq53_ (i_rng (lo := 0) (hi := 240) rfl (by omega) (by omega)) (by omega)
abbrev l_X12_takes : List Bx := [(77, 78, 9, 10), (77, 78, 11, 12)]
abbrev po_X12_takes (a1 : Int32) (M : qM) (v : Int32) (M' : qM) : Prop := (0 ≤ v.toInt ∧ v.toInt ≤ 1) ∧ G M' ∧ Sm l_X12_takes M M'
theorem t_X12_takes {n : Nat} (hn : 200000 ≤ n) (a1 : Int32) (M : qM) (hG : G M) (pa1 : 44 ≤ a1.toInt ∧ a1.toInt ≤ 59) : qT (f_X12_takes n a1 M) (po_X12_takes a1 M) := by
  have hS : Sm l_X12_takes M M := Sm.rf
  unfold f_X12_takes
  refine T_qc (t_X12_here hn  M hG ) ?_
  rintro rv1 mv2 ⟨hq3_, hq4_, gq5_, kq6_⟩
  have hq7_ := r_77_9 hG
  have hq8_ := r_77_10 hG
  have hq9_ := kq6_.nil
  subst hq9_
  refine T_eq rfl rfl (fun hq10_ => ?_) (fun hq10_ => ?_)
  · refine T_mu hG hS (i_rng (lo := 0) (hi := 240) (i_add rfl l_1 (by omega) (by omega)) (by omega) (by omega)) nw_77_9 (i := 0) rfl ⟨by decide, by decide, Or.inr ⟨by decide, by decide⟩⟩ ?_
    intro mv11 hq12_ gq13_ kq14_
    have hq15_ : (mv11 77 9).toInt = ((M 77 9).toInt + 1) := by rw [hq12_, mu_at]; exact (i_add rfl l_1 (by omega) (by omega))
    exact T_ret ⟨(i_rng (lo := 0) (hi := 1) l_1 (by omega) (by omega)), gq13_, kq14_⟩
  · refine T_qc (t_X12_wrongAt hn (1 : Int32) (M 77 9) M hG (i_rng (lo := 1) (hi := 6) l_1 (by omega) (by omega))) ?_
    rintro rv16 mv17 ⟨hq18_, gq19_, kq20_⟩
    have kq21_ := Sm.call hS kq20_ rfl
    refine T_qb rfl (by omega) (by omega) ?_
    exact T_ret ⟨(i_rng (lo := 0) (hi := 1) rfl (by omega) (by omega)), gq19_, kq21_⟩
abbrev l_X12_law : List Bx := [(77, 78, 8, 18), (85, 96, 0, 0)]
abbrev po_X12_law (a1 : Int32) (M : qM) (v : Int32) (M' : qM) : Prop := G M' ∧ Sm l_X12_law M M'
theorem t_X12_law {n : Nat} (hn : 200000 ≤ n) (a1 : Int32) (M : qM) (hG : G M) : qT (f_X12_law n a1 M) (po_X12_law a1 M) := by
  sorry
abbrev l_X10_knows_c7 : List Bx := []
abbrev po_X10_knows_c7 (a1 : Int32) (M : qM) (v : Int32) (M' : qM) : Prop := (0 ≤ v.toInt ∧ v.toInt ≤ 1) ∧ (v.toInt = 0 ∨ (0 ≤ a1.toInt ∧ a1.toInt ≤ 7)) ∧ G M' ∧ Sm l_X10_knows_c7 M M'
theorem t_X10_knows_c7 {n : Nat} (hn : 200000 ≤ n) (a1 : Int32) (M : qM) (hG : G M) : qT (f_X10_knows n 7 a1 M) (po_X10_knows_c7 a1 M) := by
  have hS : Sm l_X10_knows_c7 M M := Sm.rf
  unfold f_X10_knows
  try simp only [Nat.reduceAdd]
  refine T_lt rfl l_0 (fun hq1_ => ?_) (fun hq1_ => ?_)
  · exact T_ret ⟨(i_rng (lo := 0) (hi := 1) l_0 (by omega) (by omega)), (by have e9 : ((0 : Int32)).toInt = _ := l_0; omega), hG, hS⟩
  · refine T_le l_8 rfl (fun hq2_ => ?_) (fun hq2_ => ?_)
    · exact T_ret ⟨(i_rng (lo := 0) (hi := 1) l_0 (by omega) (by omega)), (by have e9 : ((0 : Int32)).toInt = _ := l_0; omega), hG, hS⟩
    · have hq3_ := i_and (a := (M 7 8) >>> (a1 &&& 31)) (b := (1 : Int32)) l_1 (by omega)
      refine T_eq rfl l_1 (fun hq4_ => ?_) (fun hq4_ => ?_)
      · exact T_ret ⟨(i_rng (lo := 0) (hi := 1) l_1 (by omega) (by omega)), (by have e9 : ((1 : Int32)).toInt = _ := l_1; omega), hG, hS⟩
      · exact T_ret ⟨(i_rng (lo := 0) (hi := 1) l_0 (by omega) (by omega)), (by have e9 : ((0 : Int32)).toInt = _ := l_0; omega), hG, hS⟩
abbrev l_X6_addStep : List Bx := [(53, 54, 3, 4), (54, 56, 0, 0)]
abbrev po_X6_addStep (a1 a2 : Int32) (M : qM) (v : Int32) (M' : qM) : Prop := (0 ≤ v.toInt ∧ v.toInt ≤ 1) ∧ G M' ∧ Sm l_X6_addStep M M'
theorem t_X6_addStep {n : Nat} (hn : 200000 ≤ n) (a1 a2 : Int32) (M : qM) (hG : G M) : qT (f_X6_addStep n a1 a2 M) (po_X6_addStep a1 a2 M) := by
  have hS : Sm l_X6_addStep M M := Sm.rf
  unfold f_X6_addStep
  have hq1_ := r_53_3 hG
  refine T_lt rfl l_40 (fun hq2_ => ?_) (fun hq2_ => ?_)
  · refine T_qg rfl (by omega) (by omega) ?_
    refine T_mu hG hS (rn_54 _ _) (nw_54 _) (i := 1) rfl ⟨by decide, by decide, Or.inl rfl⟩ ?_
    intro mv3 hq4_ gq5_ kq6_
    have hq7_ : (mv3 53 3).toInt = (M 53 3).toInt := by rw [hq4_, mu_ne (Or.inl (by decide))]
    have hq8_ : (mv3 54 ((M 53 3).toNatClampNeg)).toInt = a1.toInt := by rw [hq4_, mu_at]
    have hq9_ := r_53_3 gq5_
    refine T_qg rfl (by omega) (by omega) ?_
    refine T_mu gq5_ kq6_ (rn_55 _ _) (nw_55 _) (i := 1) rfl ⟨by decide, by decide, Or.inl rfl⟩ ?_
    intro mv10 hq11_ gq12_ kq13_
    have hq14_ : (mv10 53 3).toInt = (mv3 53 3).toInt := by rw [hq11_, mu_ne (Or.inl (by decide))]
    have hq15_ : (mv10 54 ((M 53 3).toNatClampNeg)).toInt = (mv3 54 ((M 53 3).toNatClampNeg)).toInt := by rw [hq11_, mu_ne (Or.inl (by decide))]
    have hq16_ : (mv10 55 ((mv3 53 3).toNatClampNeg)).toInt = a2.toInt := by rw [hq11_, mu_at]
    have hq18_ := r_53_3 gq12_
    refine T_mu gq12_ kq13_ (i_rng (lo := 0) (hi := 40) (i_add rfl l_1 (by omega) (by omega)) (by omega) (by omega)) (nw_53 _) (i := 0) rfl ⟨by decide, by decide, Or.inr ⟨by decide, by decide⟩⟩ ?_
    intro mv17 hq19_ gq20_ kq21_
    have hq22_ : (mv17 54 ((M 53 3).toNatClampNeg)).toInt = (mv10 54 ((M 53 3).toNatClampNeg)).toInt := by rw [hq19_, mu_ne (Or.inl (by decide))]
    have hq23_ : (mv17 55 ((mv3 53 3).toNatClampNeg)).toInt = (mv10 55 ((mv3 53 3).toNatClampNeg)).toInt := by rw [hq19_, mu_ne (Or.inl (by decide))]
    have hq24_ : (mv17 53 3).toInt = ((mv10 53 3).toInt + 1) := by rw [hq19_, mu_at]; exact (i_add rfl l_1 (by omega) (by omega))
    exact T_ret ⟨(i_rng (lo := 0) (hi := 1) l_1 (by omega) (by omega)), gq20_, kq21_⟩
  · exact T_ret ⟨(i_rng (lo := 0) (hi := 1) l_0 (by omega) (by omega)), hG, hS⟩
abbrev l_X6_repeatSteps : List Bx := [(53, 54, 3, 4), (54, 56, 0, 0)]
abbrev po_X6_repeatSteps (a1 a2 : Int32) (M : qM) (v : Int32) (M' : qM) : Prop := (0 ≤ v.toInt ∧ v.toInt ≤ 1) ∧ G M' ∧ Sm l_X6_repeatSteps M M'
theorem t_X6_repeatSteps_17 {n : Nat} (hn : 200000 ≤ n) {oa1 oa2 : Int32} {M0 : qM} {K8 : Int32 → Int32 → Int32 → Int32 → qM → qR} {BK8 : Nat} (hK8 : ∀ (a1 a2 a3 a4 : Int32) (M : qM), G M → Sm l_X6_repeatSteps M0 M → 0 ≤ a1.toInt ∧ a1.toInt ≤ 40 → 2 ≤ a2.toInt ∧ a2.toInt ≤ 9 → 0 ≤ a3.toInt ∧ a3.toInt ≤ 40 → 1 ≤ a4.toInt ∧ a4.toInt ≤ 10 → 10 - a4.toInt < (BK8 : Int) → qT (K8 a1 a2 a3 a4 M) (po_X6_repeatSteps oa1 oa2 M0)) : ∀ (m : Nat) (a1 a2 a3 a4 a5 : Int32) (M : qM), G M → Sm l_X6_repeatSteps M0 M → 0 ≤ a1.toInt ∧ a1.toInt ≤ 40 → 2 ≤ a2.toInt ∧ a2.toInt ≤ 9 → 0 ≤ a3.toInt ∧ a3.toInt ≤ 40 → 1 ≤ a4.toInt ∧ a4.toInt ≤ 9 → 0 ≤ a5.toInt ∧ a5.toInt ≤ 40 → 10 - a4.toInt < (BK8 : Int) + 1 → 40 - a5.toInt < (m : Int) → qT (f_X6_repeatSteps_17 n K8 m a1 a2 a3 a4 a5 M) (po_X6_repeatSteps oa1 oa2 M0) := by
  intro m
  induction m with
  | zero =>
    intro a1 a2 a3 a4 a5 M hG hS i0 i1 i2 i3 i4 i5 i6
    exfalso; omega
  | succ m ih =>
    intro a1 a2 a3 a4 a5 M hG hS i0 i1 i2 i3 i4 i5 i6
    show qT (b_X6_repeatSteps_17 n K8 (f_X6_repeatSteps_17 n K8 m) a1 a2 a3 a4 a5 M) _
    unfold b_X6_repeatSteps_17
    refine T_le rfl rfl (fun hq1_ => ?_) (fun hq1_ => ?_)
    · refine T_ql (i_add rfl l_1 (by omega) (by omega)) ?_
      intro xv2 hq3_
      exact hK8 a1 a2 a3 xv2 M hG hS (i_rng (lo := 0) (hi := 40) rfl (by omega) (by omega)) (i_rng (lo := 2) (hi := 9) rfl (by omega) (by omega)) (i_rng (lo := 0) (hi := 40) rfl (by omega) (by omega)) (i_rng (lo := 1) (hi := 10) rfl (by omega) (by omega)) (by omega)
    · refine T_qg rfl (by omega) (by omega) ?_
      refine T_qg rfl (by omega) (by omega) ?_
      refine T_qc (t_X6_addStep hn (M 54 a5.toNatClampNeg) (M 55 a5.toNatClampNeg) M hG ) ?_
      rintro rv4 mv5 ⟨hq6_, gq7_, kq8_⟩
      have kq9_ := Sm.call hS kq8_ rfl
      refine T_eq rfl l_0 (fun hq10_ => ?_) (fun hq10_ => ?_)
      · exact T_ret ⟨(i_rng (lo := 0) (hi := 1) l_0 (by omega) (by omega)), gq7_, kq9_⟩
      · refine T_ql (i_add rfl l_1 (by omega) (by omega)) ?_
        intro xv11 hq12_
        exact ih a1 a2 a3 a4 xv11 mv5 gq7_ kq9_ (i_rng (lo := 0) (hi := 40) rfl (by omega) (by omega)) (i_rng (lo := 2) (hi := 9) rfl (by omega) (by omega)) (i_rng (lo := 0) (hi := 40) rfl (by omega) (by omega)) (i_rng (lo := 1) (hi := 9) rfl (by omega) (by omega)) (i_rng (lo := 0) (hi := 40) rfl (by omega) (by omega)) (by omega) (by omega)
theorem t_X6_repeatSteps_8 {n : Nat} (hn : 200000 ≤ n) {oa1 oa2 : Int32} {M0 : qM} : ∀ (m : Nat) (a1 a2 a3 a4 : Int32) (M : qM), G M → Sm l_X6_repeatSteps M0 M → 0 ≤ a1.toInt ∧ a1.toInt ≤ 40 → 2 ≤ a2.toInt ∧ a2.toInt ≤ 9 → 0 ≤ a3.toInt ∧ a3.toInt ≤ 40 → 1 ≤ a4.toInt ∧ a4.toInt ≤ 10 → 10 - a4.toInt < (m : Int) → qT (f_X6_repeatSteps_8 n m a1 a2 a3 a4 M) (po_X6_repeatSteps oa1 oa2 M0) := by
  intro m
  induction m with
  | zero =>
    intro a1 a2 a3 a4 M hG hS i0 i1 i2 i3 i4
    exfalso; omega
  | succ m ih =>
    intro a1 a2 a3 a4 M hG hS i0 i1 i2 i3 i4
    show qT (b_X6_repeatSteps_8 n (f_X6_repeatSteps_8 n m) a1 a2 a3 a4 M) _
    unfold b_X6_repeatSteps_8
    refine T_le rfl rfl (fun hq13_ => ?_) (fun hq13_ => ?_)
    · exact T_ret ⟨(i_rng (lo := 0) (hi := 1) l_1 (by omega) (by omega)), hG, hS⟩
    · exact (t_X6_repeatSteps_17 hn ih) n a1 a2 a3 a4 a1 M hG hS (i_rng (lo := 0) (hi := 40) rfl (by omega) (by omega)) (i_rng (lo := 2) (hi := 9) rfl (by omega) (by omega)) (i_rng (lo := 0) (hi := 40) rfl (by omega) (by omega)) (i_rng (lo := 1) (hi := 9) rfl (by omega) (by omega)) (i_rng (lo := 0) (hi := 40) rfl (by omega) (by omega)) (by omega) (by omega)
theorem t_X6_repeatSteps {n : Nat} (hn : 200000 ≤ n) (a1 a2 : Int32) (M : qM) (hG : G M) (pa1 : 0 ≤ a1.toInt ∧ a1.toInt ≤ 40) (pa2 : 2 ≤ a2.toInt ∧ a2.toInt ≤ 9) : qT (f_X6_repeatSteps n a1 a2 M) (po_X6_repeatSteps a1 a2 M) := by
  have hS : Sm l_X6_repeatSteps M M := Sm.rf
  unfold f_X6_repeatSteps
  have hq14_ := r_53_3 hG
  refine T_ql rfl ?_
  intro xv15 hq16_
  exact (t_X6_repeatSteps_8 hn) n a1 a2 xv15 (1 : Int32) M hG hS (i_rng (lo := 0) (hi := 40) rfl (by omega) (by omega)) (i_rng (lo := 2) (hi := 9) rfl (by omega) (by omega)) (i_rng (lo := 0) (hi := 40) rfl (by omega) (by omega)) (i_rng (lo := 1) (hi := 10) l_1 (by omega) (by omega)) (by have e3 : ((1 : Int32)).toInt = _ := l_1; omega)
