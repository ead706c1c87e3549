abbrev l_X11_game : List Bx := []
abbrev po_X11_game (a1 a2 a3 a4 a5 a6 : Int32) (M : qM) (v : Int32) (M' : qM) : Prop := ((-2) ≤ v.toInt ∧ v.toInt ≤ 23) ∧ G M' ∧ Sm l_X11_game M M'
theorem t_X11_game {n : Nat} (hn : 200000 ≤ n) (a1 a2 a3 a4 a5 a6 : Int32) (M : qM) (hG : G M) (pa4 : 0 ≤ a4.toInt ∧ a4.toInt ≤ 1) (pa5 : 0 ≤ a5.toInt ∧ a5.toInt ≤ 1) : qT (f_X11_game n a1 a2 a3 a4 a5 a6 M) (po_X11_game a1 a2 a3 a4 a5 a6 M) := by
  have hS : Sm l_X11_game M M := Sm.rf
  unfold f_X11_game
  refine T_qc (t_X11_isHeap hn a1 M hG ) ?_
  rintro rv1 mv2 ⟨hq3_, gq4_, kq5_⟩
  have hq6_ := kq5_.nil
  subst hq6_
  refine T_eq rfl l_0 (fun hq7_ => ?_) (fun hq7_ => ?_)
  · exact T_ret ⟨(i_rng (lo := (-2)) (hi := 23) l_m1 (by omega) (by omega)), hG, hS⟩
  · refine T_qc (t_X11_isHeap hn a2 M hG ) ?_
    rintro rv8 mv9 ⟨hq10_, gq11_, kq12_⟩
    have hq13_ := kq12_.nil
    subst hq13_
    refine T_eq rfl l_0 (fun hq14_ => ?_) (fun hq14_ => ?_)
    · exact T_ret ⟨(i_rng (lo := (-2)) (hi := 23) l_m1 (by omega) (by omega)), hG, hS⟩
    · refine T_qc (t_X11_isHeap hn a3 M hG ) ?_
      rintro rv15 mv16 ⟨hq17_, gq18_, kq19_⟩
      have hq20_ := kq19_.nil
      subst hq20_
      refine T_eq rfl l_0 (fun hq21_ => ?_) (fun hq21_ => ?_)
      · exact T_ret ⟨(i_rng (lo := (-2)) (hi := 23) l_m1 (by omega) (by omega)), hG, hS⟩
      · refine T_lt rfl l_0 (fun hq22_ => ?_) (fun hq22_ => ?_)
        · exact T_ret ⟨(i_rng (lo := (-2)) (hi := 23) l_m1 (by omega) (by omega)), hG, hS⟩
        · refine T_le rfl l_1 (fun hq23_ => ?_) (fun hq23_ => ?_)
          · refine T_qc (t_X11_bestMove hn ((a1 ||| (a2 <<< ((3 : Int32) &&& 31))) ||| (a3 <<< ((6 : Int32) &&& 31))) a4 a5 M hG (i_rng (lo := 0) (hi := 1) rfl (by omega) (by omega)) (i_rng (lo := 0) (hi := 1) rfl (by omega) (by omega))) ?_
            rintro rv24 mv25 ⟨hq26_, gq27_, kq28_⟩
            have hq29_ := kq28_.nil
            subst hq29_
            refine T_eq rfl l_1 (fun hq30_ => ?_) (fun hq30_ => ?_)
            · exact T_ret ⟨(i_rng (lo := (-2)) (hi := 23) rfl (by omega) (by omega)), hG, hS⟩
            · refine T_eq rfl l_m2 (fun hq31_ => ?_) (fun hq31_ => ?_)
              · exact T_ret ⟨(i_rng (lo := (-2)) (hi := 23) l_0 (by omega) (by omega)), hG, hS⟩
              · exact T_ret ⟨(i_rng (lo := (-2)) (hi := 23) l_1 (by omega) (by omega)), hG, hS⟩
          · exact T_ret ⟨(i_rng (lo := (-2)) (hi := 23) l_m1 (by omega) (by omega)), hG, hS⟩
abbrev l_X12_heapIn : List Bx := []
abbrev po_X12_heapIn (a0 a1 : Int32) (M : qM) (v : Int32) (M' : qM) : Prop := (0 ≤ v.toInt ∧ v.toInt ≤ 7) ∧ ((a1.toInt = 0 ∧ v.toInt = a0.toInt / 64) ∨ (a1.toInt = 1 ∧ v.toInt = a0.toInt / 8 - a0.toInt / 8 / 8 * 8) ∨ (a1.toInt ≠ 0 ∧ a1.toInt ≠ 1 ∧ v.toInt = a0.toInt - a0.toInt / 8 * 8)) ∧ G M' ∧ Sm l_X12_heapIn M M'
theorem t_X12_heapIn {n : Nat} (hn : 200000 ≤ n) (a0 a1 : Int32) (M : qM) (hG : G M) (pa0 : 0 ≤ a0.toInt ∧ a0.toInt ≤ 511) (pa1 : 0 ≤ a1.toInt ∧ a1.toInt ≤ 2) : qT (f_X12_heapIn n a0 a1 M) (po_X12_heapIn a0 a1 M) := by
  have hS : Sm l_X12_heapIn M M := Sm.rf
  unfold f_X12_heapIn
  refine T_eq rfl l_0 (fun hq1_ => ?_) (fun hq1_ => ?_)
  · exact T_ret ⟨(i_rng (lo := 0) (hi := 7) (i_div rfl l_64 (by omega) (by omega)) (by omega) (by omega)), (by have e9 : (a0 / (64 : Int32)).toInt = _ := (i_div rfl l_64 (by omega) (by omega)); omega), hG, hS⟩
  · refine T_eq rfl l_1 (fun hq2_ => ?_) (fun hq2_ => ?_)
    · exact T_ret ⟨(i_rng (lo := 0) (hi := 7) (i_sub (i_div rfl l_8 (by omega) (by omega)) (i_mul (i_div (i_div rfl l_8 (by omega) (by omega)) l_8 (by omega) (by omega)) l_8 (by omega) (by omega)) (by omega) (by omega)) (by omega) (by omega)), (by have e9 : ((a0 / (8 : Int32)) - (((a0 / (8 : Int32)) / (8 : Int32)) * (8 : Int32))).toInt = _ := (i_sub (i_div rfl l_8 (by omega) (by omega)) (i_mul (i_div (i_div rfl l_8 (by omega) (by omega)) l_8 (by omega) (by omega)) l_8 (by omega) (by omega)) (by omega) (by omega)); omega), hG, hS⟩
    · exact T_ret ⟨(i_rng (lo := 0) (hi := 7) (i_sub rfl (i_mul (i_div rfl l_8 (by omega) (by omega)) l_8 (by omega) (by omega)) (by omega) (by omega)) (by omega) (by omega)), (by have e9 : (a0 - ((a0 / (8 : Int32)) * (8 : Int32))).toInt = _ := (i_sub rfl (i_mul (i_div rfl l_8 (by omega) (by omega)) l_8 (by omega) (by omega)) (by omega) (by omega)); omega), hG, hS⟩
abbrev l_X12_gameState : List Bx := []
abbrev po_X12_gameState (a0 a1 a2 : Int32) (M : qM) (v : Int32) (M' : qM) : Prop := (0 ≤ v.toInt ∧ v.toInt ≤ 2047) ∧ G M' ∧ Sm l_X12_gameState M M'
theorem t_X12_gameState {n : Nat} (hn : 200000 ≤ n) (a0 a1 a2 : Int32) (M : qM) (hG : G M) (pa0 : 0 ≤ a0.toInt ∧ a0.toInt ≤ 511) (pa1 : 0 ≤ a1.toInt ∧ a1.toInt ≤ 1) (pa2 : 0 ≤ a2.toInt ∧ a2.toInt ≤ 1) : qT (f_X12_gameState n a0 a1 a2 M) (po_X12_gameState a0 a1 a2 M) := by
  have hS : Sm l_X12_gameState M M := Sm.rf
  unfold f_X12_gameState
  refine T_eq rfl l_0 (fun hq1_ => ?_) (fun hq1_ => ?_)
  · unfold f_X12_gameState_12
    refine T_eq rfl l_0 (fun hq2_ => ?_) (fun hq2_ => ?_)
    · exact T_ret ⟨(i_rng (lo := 0) (hi := 2047) (i_add (i_add (i_mul l_4 rfl (by omega) (by omega)) l_0 (by omega) (by omega)) l_0 (by omega) (by omega)) (by omega) (by omega)), hG, hS⟩
    · exact T_ret ⟨(i_rng (lo := 0) (hi := 2047) (i_add (i_add (i_mul l_4 rfl (by omega) (by omega)) l_0 (by omega) (by omega)) l_1 (by omega) (by omega)) (by omega) (by omega)), hG, hS⟩
  · unfold f_X12_gameState_12
    refine T_eq rfl l_0 (fun hq3_ => ?_) (fun hq3_ => ?_)
    · exact T_ret ⟨(i_rng (lo := 0) (hi := 2047) (i_add (i_add (i_mul l_4 rfl (by omega) (by omega)) l_2 (by omega) (by omega)) l_0 (by omega) (by omega)) (by omega) (by omega)), hG, hS⟩
    · exact T_ret ⟨(i_rng (lo := 0) (hi := 2047) (i_add (i_add (i_mul l_4 rfl (by omega) (by omega)) l_2 (by omega) (by omega)) l_1 (by omega) (by omega)) (by omega) (by omega)), hG, hS⟩
abbrev l_X12_heapUnit : List Bx := []
abbrev po_X12_heapUnit (a0 : Int32) (M : qM) (v : Int32) (M' : qM) : Prop := (1 ≤ v.toInt ∧ v.toInt ≤ 64) ∧ ((a0.toInt = 0 ∧ v.toInt = 64) ∨ (a0.toInt = 1 ∧ v.toInt = 8) ∨ (a0.toInt ≠ 0 ∧ a0.toInt ≠ 1 ∧ v.toInt = 1)) ∧ G M' ∧ Sm l_X12_heapUnit M M'
theorem t_X12_heapUnit {n : Nat} (hn : 200000 ≤ n) (a0 : Int32) (M : qM) (hG : G M) (pa0 : 0 ≤ a0.toInt ∧ a0.toInt ≤ 2) : qT (f_X12_heapUnit n a0 M) (po_X12_heapUnit a0 M) := by
  have hS : Sm l_X12_heapUnit M M := Sm.rf
  unfold f_X12_heapUnit
  refine T_eq rfl l_0 (fun hq1_ => ?_) (fun hq1_ => ?_)
  · exact T_ret ⟨(i_rng (lo := 1) (hi := 64) l_64 (by omega) (by omega)), (by have e9 : ((64 : Int32)).toInt = _ := l_64; omega), hG, hS⟩
  · refine T_eq rfl l_1 (fun hq2_ => ?_) (fun hq2_ => ?_)
    · exact T_ret ⟨(i_rng (lo := 1) (hi := 64) l_8 (by omega) (by omega)), (by have e9 : ((8 : Int32)).toInt = _ := l_8; omega), hG, hS⟩
    · exact T_ret ⟨(i_rng (lo := 1) (hi := 64) l_1 (by omega) (by omega)), (by have e9 : ((1 : Int32)).toInt = _ := l_1; omega), hG, hS⟩
abbrev l_X12_wins : List Bx := []
abbrev po_X12_wins (a1 a2 a3 a4 a5 : Int32) (M : qM) (v : Int32) (M' : qM) : Prop := (0 ≤ v.toInt ∧ v.toInt ≤ 1) ∧ G M' ∧ Sm l_X12_wins M M'
theorem t_X12_wins {n : Nat} (hn : 200000 ≤ n) (a1 a2 a3 a4 a5 : Int32) (M : qM) (hG : G M) (pa1 : 0 ≤ a1.toInt ∧ a1.toInt ≤ 511) (pa2 : 0 ≤ a2.toInt ∧ a2.toInt ≤ 1) (pa3 : 0 ≤ a3.toInt ∧ a3.toInt ≤ 1) (pa4 : 0 ≤ a4.toInt ∧ a4.toInt ≤ 2) (pa5 : 1 ≤ a5.toInt ∧ a5.toInt ≤ 3) (pe : (a4.toInt = 0 ∧ a5.toInt ≤ a1.toInt / 64) ∨ (a4.toInt = 1 ∧ a5.toInt ≤ a1.toInt / 8 - a1.toInt / 8 / 8 * 8) ∨ (a4.toInt = 2 ∧ a5.toInt ≤ a1.toInt - a1.toInt / 8 * 8)) : qT (f_X12_wins n a1 a2 a3 a4 a5 M) (po_X12_wins a1 a2 a3 a4 a5 M) := by
  have hS : Sm l_X12_wins M M := Sm.rf
  unfold f_X12_wins
  refine T_eq rfl l_0 (fun hq1_ => ?_) (fun hq1_ => ?_)
  · unfold f_X12_wins_22
    refine T_qc (t_X12_gameState hn a1 a3 (1 : Int32) M hG (i_rng (lo := 0) (hi := 511) rfl (by omega) (by omega)) (i_rng (lo := 0) (hi := 1) rfl (by omega) (by omega)) (i_rng (lo := 0) (hi := 1) l_1 (by omega) (by omega))) ?_
    rintro rv2 mv3 ⟨hq4_, gq5_, kq6_⟩
    have hq7_ := kq6_.nil
    subst hq7_
    refine T_qg rfl (by omega) (by omega) ?_
    have hq8_ := r_120 hG rv2.toNatClampNeg
    refine T_eq rfl l_0 (fun hq9_ => ?_) (fun hq9_ => ?_)
    · exact T_ret ⟨(i_rng (lo := 0) (hi := 1) l_1 (by omega) (by omega)), hG, hS⟩
    · exact T_ret ⟨(i_rng (lo := 0) (hi := 1) l_0 (by omega) (by omega)), hG, hS⟩
  · refine T_qc (t_X12_heapUnit hn a4 M hG (i_rng (lo := 0) (hi := 2) rfl (by omega) (by omega))) ?_
    rintro rv10 mv11 ⟨hq12_, hq13_, gq14_, kq15_⟩
    have hq16_ := kq15_.nil
    subst hq16_
    unfold f_X12_wins_22
    have hq19_ := i_mulk 64 (a := a5) (b := rv10) rfl rfl (by omega) (by omega) (by omega) (by omega)
    have hq20_ := i_mulc 64 1 (a := a5) (b := rv10) rfl rfl (by omega) (by omega) (by omega) (by omega)
    have hq21_ := i_mulc 64 8 (a := a5) (b := rv10) rfl rfl (by omega) (by omega) (by omega) (by omega)
    have hq22_ := i_mulc 64 64 (a := a5) (b := rv10) rfl rfl (by omega) (by omega) (by omega) (by omega)
    refine T_qc (t_X12_gameState hn (a1 - (a5 * rv10)) a3 (1 : Int32) M hG (i_rng (lo := 0) (hi := 511) (i_sub rfl rfl (by omega) (by omega)) (by omega) (by omega)) (i_rng (lo := 0) (hi := 1) rfl (by omega) (by omega)) (i_rng (lo := 0) (hi := 1) l_1 (by omega) (by omega))) ?_
    rintro rv17 mv18 ⟨hq23_, gq24_, kq25_⟩
    have hq26_ := kq25_.nil
    subst hq26_
    refine T_qg rfl (by omega) (by omega) ?_
    have hq27_ := r_120 hG rv17.toNatClampNeg
    refine T_eq rfl l_0 (fun hq28_ => ?_) (fun hq28_ => ?_)
    · exact T_ret ⟨(i_rng (lo := 0) (hi := 1) l_1 (by omega) (by omega)), hG, hS⟩
    · exact T_ret ⟨(i_rng (lo := 0) (hi := 1) l_0 (by omega) (by omega)), hG, hS⟩
abbrev l_X12_winningMove : List Bx := []
abbrev po_X12_winningMove (a1 a2 a3 : Int32) (M : qM) (v : Int32) (M' : qM) : Prop := ((-1) ≤ v.toInt ∧ v.toInt ≤ 23) ∧ G M' ∧ Sm l_X12_winningMove M M'
theorem t_X12_winningMove_12 {n : Nat} (hn : 200000 ≤ n) {oa1 oa2 oa3 : Int32} {M0 : qM} {K3 : Int32 → Int32 → Int32 → Int32 → qM → qR} {BK3 : Nat} (hK3 : ∀ (a1 a2 a3 a4 : Int32) (M : qM), G M → Sm l_X12_winningMove M0 M → 0 ≤ a1.toInt ∧ a1.toInt ≤ 511 → 0 ≤ a2.toInt ∧ a2.toInt ≤ 1 → 0 ≤ a3.toInt ∧ a3.toInt ≤ 1 → 0 ≤ a4.toInt ∧ a4.toInt ≤ 3 → 3 - a4.toInt < (BK3 : Int) → qT (K3 a1 a2 a3 a4 M) (po_X12_winningMove oa1 oa2 oa3 M0)) : ∀ (m : Nat) (a1 a2 a3 a4 a5 : Int32) (M : qM), G M → Sm l_X12_winningMove M0 M → 0 ≤ a1.toInt ∧ a1.toInt ≤ 511 → 0 ≤ a2.toInt ∧ a2.toInt ≤ 1 → 0 ≤ a3.toInt ∧ a3.toInt ≤ 1 → 0 ≤ a4.toInt ∧ a4.toInt ≤ 2 → 1 ≤ a5.toInt ∧ a5.toInt ≤ 4 → 3 - a4.toInt < (BK3 : Int) + 1 → 4 - a5.toInt < (m : Int) → qT (f_X12_winningMove_12 n K3 m a1 a2 a3 a4 a5 M) (po_X12_winningMove oa1 oa2 oa3 M0) := by
  intro m
  induction m with
  | zero =>
    intro a1 a2 a3 a4 a5 M hG hS i0 i1 i2 i3 i4 i7 i8
    exfalso; omega
  | succ m ih =>
    intro a1 a2 a3 a4 a5 M hG hS i0 i1 i2 i3 i4 i7 i8
    show qT (b_X12_winningMove_12 n K3 (f_X12_winningMove_12 n K3 m) a1 a2 a3 a4 a5 M) _
    unfold b_X12_winningMove_12
    refine T_lt l_3 rfl (fun hq10_ => ?_) (fun hq10_ => ?_)
    · refine T_ql (i_add rfl l_1 (by omega) (by omega)) ?_
      intro xv11 hq12_
      exact hK3 a1 a2 a3 xv11 M hG hS (i_rng (lo := 0) (hi := 511) rfl (by omega) (by omega)) (i_rng (lo := 0) (hi := 1) rfl (by omega) (by omega)) (i_rng (lo := 0) (hi := 1) rfl (by omega) (by omega)) (i_rng (lo := 0) (hi := 3) rfl (by omega) (by omega)) (by omega)
    · refine T_qc (t_X12_heapIn hn a1 a4 M hG (i_rng (lo := 0) (hi := 511) rfl (by omega) (by omega)) (i_rng (lo := 0) (hi := 2) rfl (by omega) (by omega))) ?_
      rintro rv13 mv14 ⟨hq15_, hq16_, gq17_, kq18_⟩
      have hq19_ := kq18_.nil
      subst hq19_
      refine T_lt rfl rfl (fun hq20_ => ?_) (fun hq20_ => ?_)
      · refine T_ql (i_add rfl l_1 (by omega) (by omega)) ?_
        intro xv21 hq22_
        exact ih a1 a2 a3 a4 xv21 M hG hS (i_rng (lo := 0) (hi := 511) rfl (by omega) (by omega)) (i_rng (lo := 0) (hi := 1) rfl (by omega) (by omega)) (i_rng (lo := 0) (hi := 1) rfl (by omega) (by omega)) (i_rng (lo := 0) (hi := 2) rfl (by omega) (by omega)) (i_rng (lo := 1) (hi := 4) rfl (by omega) (by omega)) (by omega) (by omega)
      · refine T_qc (t_X12_wins hn a1 a2 a3 a4 a5 M hG (i_rng (lo := 0) (hi := 511) rfl (by omega) (by omega)) (i_rng (lo := 0) (hi := 1) rfl (by omega) (by omega)) (i_rng (lo := 0) (hi := 1) rfl (by omega) (by omega)) (i_rng (lo := 0) (hi := 2) rfl (by omega) (by omega)) (i_rng (lo := 1) (hi := 3) rfl (by omega) (by omega)) (by omega)) ?_
        rintro rv23 mv24 ⟨hq25_, gq26_, kq27_⟩
        have hq28_ := kq27_.nil
        subst hq28_
        refine T_eq rfl l_0 (fun hq29_ => ?_) (fun hq29_ => ?_)
        · refine T_ql (i_add rfl l_1 (by omega) (by omega)) ?_
          intro xv30 hq31_
          exact ih a1 a2 a3 a4 xv30 M hG hS (i_rng (lo := 0) (hi := 511) rfl (by omega) (by omega)) (i_rng (lo := 0) (hi := 1) rfl (by omega) (by omega)) (i_rng (lo := 0) (hi := 1) rfl (by omega) (by omega)) (i_rng (lo := 0) (hi := 2) rfl (by omega) (by omega)) (i_rng (lo := 1) (hi := 4) rfl (by omega) (by omega)) (by omega) (by omega)
        · exact T_ret ⟨(i_rng (lo := (-1)) (hi := 23) (i_add (i_mul l_10 rfl (by omega) (by omega)) rfl (by omega) (by omega)) (by omega) (by omega)), hG, hS⟩
theorem t_X12_winningMove_3 {n : Nat} (hn : 200000 ≤ n) {oa1 oa2 oa3 : Int32} {M0 : qM} : ∀ (m : Nat) (a1 a2 a3 a4 : Int32) (M : qM), G M → Sm l_X12_winningMove M0 M → 0 ≤ a1.toInt ∧ a1.toInt ≤ 511 → 0 ≤ a2.toInt ∧ a2.toInt ≤ 1 → 0 ≤ a3.toInt ∧ a3.toInt ≤ 1 → 0 ≤ a4.toInt ∧ a4.toInt ≤ 3 → 3 - a4.toInt < (m : Int) → qT (f_X12_winningMove_3 n m a1 a2 a3 a4 M) (po_X12_winningMove oa1 oa2 oa3 M0) := by
  intro m
  induction m with
  | zero =>
    intro a1 a2 a3 a4 M hG hS i0 i1 i2 i3 i6
    exfalso; omega
  | succ m ih =>
    intro a1 a2 a3 a4 M hG hS i0 i1 i2 i3 i6
    show qT (b_X12_winningMove_3 n (f_X12_winningMove_3 n m) a1 a2 a3 a4 M) _
    unfold b_X12_winningMove_3
    refine T_le l_3 rfl (fun hq35_ => ?_) (fun hq35_ => ?_)
    · exact T_ret ⟨(i_rng (lo := (-1)) (hi := 23) l_m1 (by omega) (by omega)), hG, hS⟩
    · exact (t_X12_winningMove_12 hn ih) n a1 a2 a3 a4 (1 : Int32) M hG hS (i_rng (lo := 0) (hi := 511) rfl (by omega) (by omega)) (i_rng (lo := 0) (hi := 1) rfl (by omega) (by omega)) (i_rng (lo := 0) (hi := 1) rfl (by omega) (by omega)) (i_rng (lo := 0) (hi := 2) rfl (by omega) (by omega)) (i_rng (lo := 1) (hi := 4) l_1 (by omega) (by omega)) (by omega) (by have e4 : ((1 : Int32)).toInt = _ := l_1; omega)
theorem t_X12_winningMove {n : Nat} (hn : 200000 ≤ n) (a1 a2 a3 : Int32) (M : qM) (hG : G M) (pa1 : 0 ≤ a1.toInt ∧ a1.toInt ≤ 511) (pa2 : 0 ≤ a2.toInt ∧ a2.toInt ≤ 1) (pa3 : 0 ≤ a3.toInt ∧ a3.toInt ≤ 1) : qT (f_X12_winningMove n a1 a2 a3 M) (po_X12_winningMove a1 a2 a3 M) := by
  have hS : Sm l_X12_winningMove M M := Sm.rf
  unfold f_X12_winningMove
  exact (t_X12_winningMove_3 hn) n a1 a2 a3 (0 : Int32) M hG hS (i_rng (lo := 0) (hi := 511) rfl (by omega) (by omega)) (i_rng (lo := 0) (hi := 1) rfl (by omega) (by omega)) (i_rng (lo := 0) (hi := 1) rfl (by omega) (by omega)) (i_rng (lo := 0) (hi := 3) l_0 (by omega) (by omega)) (by have e3 : ((0 : Int32)).toInt = _ := l_0; omega)
