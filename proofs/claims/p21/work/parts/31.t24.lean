abbrev l_X12_gameState : List Bx := []
abbrev po_X12_gameState (a0 a1 a2 : Int32) (M : qM) (v : Int32) (M' : qM) : Prop := G M' ∧ Sm l_X12_gameState M M'
theorem t_X12_gameState {n : Nat} (hn : 200000 ≤ n) (a0 a1 a2 : Int32) (M : qM) (hG : G M) (pa1 : 0 ≤ a1.toInt ∧ a1.toInt ≤ 1) (pa2 : 0 ≤ a2.toInt ∧ a2.toInt ≤ 1) : qT (f_X12_gameState n a0 a1 a2 M) (po_X12_gameState a0 a1 a2 M) := by
  have hS : Sm l_X12_gameState M M := Sm.rf
  unfold f_X12_gameState
  refine T_eq rfl l_0 (fun hq1_ => ?_) (fun hq1_ => ?_)
  · unfold f_X12_gameState_12
    refine T_eq rfl l_0 (fun hq2_ => ?_) (fun hq2_ => ?_)
    · have hq3_ := i_full (a0)
      have hq4_ := i_full ((4 : Int32) * a0)
      exact T_ret ⟨hG, hS⟩
    · have hq5_ := i_full (a0)
      have hq6_ := i_full ((4 : Int32) * a0)
      exact T_ret ⟨hG, hS⟩
  · unfold f_X12_gameState_12
    refine T_eq rfl l_0 (fun hq7_ => ?_) (fun hq7_ => ?_)
    · have hq8_ := i_full (a0)
      have hq9_ := i_full ((4 : Int32) * a0)
      have hq10_ := i_full (((4 : Int32) * a0) + (2 : Int32))
      exact T_ret ⟨hG, hS⟩
    · have hq11_ := i_full (a0)
      have hq12_ := i_full ((4 : Int32) * a0)
      have hq13_ := i_full (((4 : Int32) * a0) + (2 : Int32))
      exact T_ret ⟨hG, hS⟩
abbrev l_X12_heapUnit : List Bx := []
abbrev po_X12_heapUnit (a0 : Int32) (M : qM) (v : Int32) (M' : qM) : Prop := (1 ≤ v.toInt ∧ v.toInt ≤ 64) ∧ G M' ∧ Sm l_X12_heapUnit M M'
theorem t_X12_heapUnit {n : Nat} (hn : 200000 ≤ n) (a0 : Int32) (M : qM) (hG : G M) (pa0 : 0 ≤ a0.toInt ∧ a0.toInt ≤ 2) : qT (f_X12_heapUnit n a0 M) (po_X12_heapUnit a0 M) := by
  have hS : Sm l_X12_heapUnit M M := Sm.rf
  unfold f_X12_heapUnit
  refine T_eq rfl l_0 (fun hq1_ => ?_) (fun hq1_ => ?_)
  · exact T_ret ⟨(i_rng (lo := 1) (hi := 64) l_64 (by omega) (by omega)), hG, hS⟩
  · refine T_eq rfl l_1 (fun hq2_ => ?_) (fun hq2_ => ?_)
    · exact T_ret ⟨(i_rng (lo := 1) (hi := 64) l_8 (by omega) (by omega)), hG, hS⟩
    · exact T_ret ⟨(i_rng (lo := 1) (hi := 64) l_1 (by omega) (by omega)), hG, hS⟩
abbrev l_X12_wins : List Bx := []
abbrev po_X12_wins (a1 a2 a3 a4 a5 : Int32) (M : qM) (v : Int32) (M' : qM) : Prop := (0 ≤ v.toInt ∧ v.toInt ≤ 1) ∧ G M' ∧ Sm l_X12_wins M M'
theorem t_X12_wins {n : Nat} (hn : 200000 ≤ n) (a1 a2 a3 a4 a5 : Int32) (M : qM) (hG : G M) (pa1 : 0 ≤ a1.toInt ∧ a1.toInt ≤ 2147483647) (pa2 : 0 ≤ a2.toInt ∧ a2.toInt ≤ 1) (pa3 : 0 ≤ a3.toInt ∧ a3.toInt ≤ 1) (pa4 : 0 ≤ a4.toInt ∧ a4.toInt ≤ 2) (pa5 : 1 ≤ a5.toInt ∧ a5.toInt ≤ 3) : qT (f_X12_wins n a1 a2 a3 a4 a5 M) (po_X12_wins a1 a2 a3 a4 a5 M) := by
  sorry
abbrev l_X12_winningMove : List Bx := []
abbrev po_X12_winningMove (a1 a2 a3 : Int32) (M : qM) (v : Int32) (M' : qM) : Prop := ((-1) ≤ v.toInt ∧ v.toInt ≤ 23) ∧ G M' ∧ Sm l_X12_winningMove M M'
theorem t_X12_winningMove_12 {n : Nat} (hn : 200000 ≤ n) {oa1 oa2 oa3 : Int32} {M0 : qM} {K3 : Int32 → Int32 → Int32 → Int32 → qM → qR} {BK3 : Nat} (hK3 : ∀ (a1 a2 a3 a4 : Int32) (M : qM), G M → Sm l_X12_winningMove M0 M → 0 ≤ a1.toInt ∧ a1.toInt ≤ 2147483647 → 0 ≤ a2.toInt ∧ a2.toInt ≤ 1 → 0 ≤ a3.toInt ∧ a3.toInt ≤ 1 → 0 ≤ a4.toInt ∧ a4.toInt ≤ 3 → 3 - a4.toInt < (BK3 : Int) → qT (K3 a1 a2 a3 a4 M) (po_X12_winningMove oa1 oa2 oa3 M0)) : ∀ (m : Nat) (a1 a2 a3 a4 a5 : Int32) (M : qM), G M → Sm l_X12_winningMove M0 M → 0 ≤ a1.toInt ∧ a1.toInt ≤ 2147483647 → 0 ≤ a2.toInt ∧ a2.toInt ≤ 1 → 0 ≤ a3.toInt ∧ a3.toInt ≤ 1 → 0 ≤ a4.toInt ∧ a4.toInt ≤ 2 → 1 ≤ a5.toInt ∧ a5.toInt ≤ 4 → 3 - a4.toInt < (BK3 : Int) + 1 → 4 - a5.toInt < (m : Int) → qT (f_X12_winningMove_12 n K3 m a1 a2 a3 a4 a5 M) (po_X12_winningMove oa1 oa2 oa3 M0) := by
  intro m
  induction m with
  | zero =>
    intro a1 a2 a3 a4 a5 M hG hS i0 i1 i2 i3 i4 i5 i6
    exfalso; omega
  | succ m ih =>
    intro a1 a2 a3 a4 a5 M hG hS i0 i1 i2 i3 i4 i5 i6
    show qT (b_X12_winningMove_12 n K3 (f_X12_winningMove_12 n K3 m) a1 a2 a3 a4 a5 M) _
    unfold b_X12_winningMove_12
    refine T_lt l_3 rfl (fun hq10_ => ?_) (fun hq10_ => ?_)
    · refine T_ql (i_add rfl l_1 (by omega) (by omega)) ?_
      intro xv11 hq12_
      have hq13_ := i_full (a1)
      exact hK3 a1 a2 a3 xv11 M hG hS (i_rng (lo := 0) (hi := 2147483647) rfl (by omega) (by omega)) (i_rng (lo := 0) (hi := 1) rfl (by omega) (by omega)) (i_rng (lo := 0) (hi := 1) rfl (by omega) (by omega)) (i_rng (lo := 0) (hi := 3) rfl (by omega) (by omega)) (by omega)
    · have hq16_ := i_full (a1)
      refine T_qc (t_X12_heapIn hn a1 a4 M hG (i_rng (lo := 0) (hi := 2147483647) rfl (by omega) (by omega)) (i_rng (lo := 0) (hi := 2) rfl (by omega) (by omega))) ?_
      rintro rv14 mv15 ⟨hq17_, gq18_, kq19_⟩
      have hq20_ := kq19_.nil
      subst hq20_
      refine T_lt rfl rfl (fun hq21_ => ?_) (fun hq21_ => ?_)
      · refine T_ql (i_add rfl l_1 (by omega) (by omega)) ?_
        intro xv22 hq23_
        exact ih a1 a2 a3 a4 xv22 M hG hS (i_rng (lo := 0) (hi := 2147483647) rfl (by omega) (by omega)) (i_rng (lo := 0) (hi := 1) rfl (by omega) (by omega)) (i_rng (lo := 0) (hi := 1) rfl (by omega) (by omega)) (i_rng (lo := 0) (hi := 2) rfl (by omega) (by omega)) (i_rng (lo := 1) (hi := 4) rfl (by omega) (by omega)) (by omega) (by omega)
      · refine T_qc (t_X12_wins hn a1 a2 a3 a4 a5 M hG (i_rng (lo := 0) (hi := 2147483647) rfl (by omega) (by omega)) (i_rng (lo := 0) (hi := 1) rfl (by omega) (by omega)) (i_rng (lo := 0) (hi := 1) rfl (by omega) (by omega)) (i_rng (lo := 0) (hi := 2) rfl (by omega) (by omega)) (i_rng (lo := 1) (hi := 3) rfl (by omega) (by omega))) ?_
        rintro rv24 mv25 ⟨hq26_, gq27_, kq28_⟩
        have hq29_ := kq28_.nil
        subst hq29_
        refine T_eq rfl l_0 (fun hq30_ => ?_) (fun hq30_ => ?_)
        · refine T_ql (i_add rfl l_1 (by omega) (by omega)) ?_
          intro xv31 hq32_
          exact ih a1 a2 a3 a4 xv31 M hG hS (i_rng (lo := 0) (hi := 2147483647) rfl (by omega) (by omega)) (i_rng (lo := 0) (hi := 1) rfl (by omega) (by omega)) (i_rng (lo := 0) (hi := 1) rfl (by omega) (by omega)) (i_rng (lo := 0) (hi := 2) rfl (by omega) (by omega)) (i_rng (lo := 1) (hi := 4) rfl (by omega) (by omega)) (by omega) (by omega)
        · exact T_ret ⟨(i_rng (lo := (-1)) (hi := 23) (i_add (i_mul l_10 rfl (by omega) (by omega)) rfl (by omega) (by omega)) (by omega) (by omega)), hG, hS⟩
theorem t_X12_winningMove_3 {n : Nat} (hn : 200000 ≤ n) {oa1 oa2 oa3 : Int32} {M0 : qM} : ∀ (m : Nat) (a1 a2 a3 a4 : Int32) (M : qM), G M → Sm l_X12_winningMove M0 M → 0 ≤ a1.toInt ∧ a1.toInt ≤ 2147483647 → 0 ≤ a2.toInt ∧ a2.toInt ≤ 1 → 0 ≤ a3.toInt ∧ a3.toInt ≤ 1 → 0 ≤ a4.toInt ∧ a4.toInt ≤ 3 → 3 - a4.toInt < (m : Int) → qT (f_X12_winningMove_3 n m a1 a2 a3 a4 M) (po_X12_winningMove oa1 oa2 oa3 M0) := by
  intro m
  induction m with
  | zero =>
    intro a1 a2 a3 a4 M hG hS i0 i1 i2 i3 i4
    exfalso; omega
  | succ m ih =>
    intro a1 a2 a3 a4 M hG hS i0 i1 i2 i3 i4
    show qT (b_X12_winningMove_3 n (f_X12_winningMove_3 n m) a1 a2 a3 a4 M) _
    unfold b_X12_winningMove_3
    refine T_le l_3 rfl (fun hq36_ => ?_) (fun hq36_ => ?_)
    · exact T_ret ⟨(i_rng (lo := (-1)) (hi := 23) l_m1 (by omega) (by omega)), hG, hS⟩
    · have hq37_ := i_full (a1)
      exact (t_X12_winningMove_12 hn ih) n a1 a2 a3 a4 (1 : Int32) M hG hS (i_rng (lo := 0) (hi := 2147483647) rfl (by omega) (by omega)) (i_rng (lo := 0) (hi := 1) rfl (by omega) (by omega)) (i_rng (lo := 0) (hi := 1) rfl (by omega) (by omega)) (i_rng (lo := 0) (hi := 2) rfl (by omega) (by omega)) (i_rng (lo := 1) (hi := 4) l_1 (by omega) (by omega)) (by omega) (by have e4 : ((1 : Int32)).toInt = _ := l_1; omega)
theorem t_X12_winningMove {n : Nat} (hn : 200000 ≤ n) (a1 a2 a3 : Int32) (M : qM) (hG : G M) (pa1 : 0 ≤ a1.toInt ∧ a1.toInt ≤ 511) (pa2 : 0 ≤ a2.toInt ∧ a2.toInt ≤ 1) (pa3 : 0 ≤ a3.toInt ∧ a3.toInt ≤ 1) : qT (f_X12_winningMove n a1 a2 a3 M) (po_X12_winningMove a1 a2 a3 M) := by
  have hS : Sm l_X12_winningMove M M := Sm.rf
  unfold f_X12_winningMove
  have hq38_ := i_full (a1)
  exact (t_X12_winningMove_3 hn) n a1 a2 a3 (0 : Int32) M hG hS (i_rng (lo := 0) (hi := 2147483647) rfl (by omega) (by omega)) (i_rng (lo := 0) (hi := 1) rfl (by omega) (by omega)) (i_rng (lo := 0) (hi := 1) rfl (by omega) (by omega)) (i_rng (lo := 0) (hi := 3) l_0 (by omega) (by omega)) (by have e3 : ((0 : Int32)).toInt = _ := l_0; omega)
abbrev l_X12_game : List Bx := [(120, 121, 0, 0)]
abbrev po_X12_game (a1 a2 a3 a4 a5 a6 : Int32) (M : qM) (v : Int32) (M' : qM) : Prop := ((-2) ≤ v.toInt ∧ v.toInt ≤ 23) ∧ G M' ∧ Sm l_X12_game M M'
theorem t_X12_game_58 {n : Nat} (hn : 200000 ≤ n) {oa1 oa2 oa3 oa4 oa5 oa6 : Int32} {M0 : qM} : ∀ (m : Nat) (a4 a5 a6 a7 a8 : Int32) (M : qM), G M → Sm l_X12_game M0 M → 0 ≤ a4.toInt ∧ a4.toInt ≤ 1 → 0 ≤ a5.toInt ∧ a5.toInt ≤ 1 → 0 ≤ a6.toInt ∧ a6.toInt ≤ 1 → 0 ≤ a7.toInt ∧ a7.toInt ≤ 511 → 0 ≤ a8.toInt ∧ a8.toInt ≤ 512 → 512 - a8.toInt < (m : Int) → qT (f_X12_game_58 n m a4 a5 a6 a7 a8 M) (po_X12_game oa1 oa2 oa3 oa4 oa5 oa6 M0) := by
  sorry
theorem t_X12_game {n : Nat} (hn : 200000 ≤ n) (a1 a2 a3 a4 a5 a6 : Int32) (M : qM) (hG : G M) (pa4 : 0 ≤ a4.toInt ∧ a4.toInt ≤ 1) (pa5 : 0 ≤ a5.toInt ∧ a5.toInt ≤ 1) : qT (f_X12_game n a1 a2 a3 a4 a5 a6 M) (po_X12_game a1 a2 a3 a4 a5 a6 M) := by
  have hS : Sm l_X12_game M M := Sm.rf
  unfold f_X12_game
  have hq421_ := (show ((0 : Int32)).toInt = _ from l_0)
  have hq422_ := (show ((7 : Int32)).toInt = _ from l_7)
  refine T_qc (t_X12_in hn a1 (0 : Int32) (7 : Int32) M hG (i_rng (lo := 0) (hi := 70) l_0 (by omega) (by omega)) (i_rng (lo := 0) (hi := 99999) l_7 (by omega) (by omega))) ?_
  rintro rv419 mv420 ⟨hq423_, hq424_, gq425_, kq426_⟩
  have hq427_ := kq426_.nil
  subst hq427_
  refine T_eq rfl l_0 (fun hq428_ => ?_) (fun hq428_ => ?_)
  · exact T_ret ⟨(i_rng (lo := (-2)) (hi := 23) l_m1 (by omega) (by omega)), hG, hS⟩
  · refine T_qc (t_X12_in hn a2 (0 : Int32) (7 : Int32) M hG (i_rng (lo := 0) (hi := 70) l_0 (by omega) (by omega)) (i_rng (lo := 0) (hi := 99999) l_7 (by omega) (by omega))) ?_
    rintro rv429 mv430 ⟨hq431_, hq432_, gq433_, kq434_⟩
    have hq435_ := kq434_.nil
    subst hq435_
    refine T_eq rfl l_0 (fun hq436_ => ?_) (fun hq436_ => ?_)
    · exact T_ret ⟨(i_rng (lo := (-2)) (hi := 23) l_m1 (by omega) (by omega)), hG, hS⟩
    · refine T_qc (t_X12_in hn a3 (0 : Int32) (7 : Int32) M hG (i_rng (lo := 0) (hi := 70) l_0 (by omega) (by omega)) (i_rng (lo := 0) (hi := 99999) l_7 (by omega) (by omega))) ?_
      rintro rv437 mv438 ⟨hq439_, hq440_, gq441_, kq442_⟩
      have hq443_ := kq442_.nil
      subst hq443_
      refine T_eq rfl l_0 (fun hq444_ => ?_) (fun hq444_ => ?_)
      · exact T_ret ⟨(i_rng (lo := (-2)) (hi := 23) l_m1 (by omega) (by omega)), hG, hS⟩
      · have hq447_ := (show ((1 : Int32)).toInt = _ from l_1)
        refine T_qc (t_X12_in hn a6 (0 : Int32) (1 : Int32) M hG (i_rng (lo := 0) (hi := 70) l_0 (by omega) (by omega)) (i_rng (lo := 0) (hi := 99999) l_1 (by omega) (by omega))) ?_
        rintro rv445 mv446 ⟨hq448_, hq449_, gq450_, kq451_⟩
        have hq452_ := kq451_.nil
        subst hq452_
        refine T_eq rfl l_0 (fun hq453_ => ?_) (fun hq453_ => ?_)
        · exact T_ret ⟨(i_rng (lo := (-2)) (hi := 23) l_m1 (by omega) (by omega)), hG, hS⟩
        · refine T_ql (i_add (i_add (i_mul l_64 rfl (by omega) (by omega)) (i_mul l_8 rfl (by omega) (by omega)) (by omega) (by omega)) rfl (by omega) (by omega)) ?_
          intro xv454 hq455_
          exact (t_X12_game_58 hn) n a4 a5 a6 xv454 (0 : Int32) M hG hS (i_rng (lo := 0) (hi := 1) rfl (by omega) (by omega)) (i_rng (lo := 0) (hi := 1) rfl (by omega) (by omega)) (i_rng (lo := 0) (hi := 1) rfl (by omega) (by omega)) (i_rng (lo := 0) (hi := 511) rfl (by omega) (by omega)) (i_rng (lo := 0) (hi := 512) l_0 (by omega) (by omega)) (by have e4 : ((0 : Int32)).toInt = _ := l_0; omega)
abbrev l_X11_court : List Bx := []
abbrev po_X11_court (a1 a2 a3 a4 a5 a6 : Int32) (M : qM) (v : Int32) (M' : qM) : Prop := ((-1) ≤ v.toInt ∧ v.toInt ≤ 63) ∧ G M' ∧ Sm l_X11_court M M'
theorem t_X11_court {n : Nat} (hn : 200000 ≤ n) (a1 a2 a3 a4 a5 a6 : Int32) (M : qM) (hG : G M) : qT (f_X11_court n a1 a2 a3 a4 a5 a6 M) (po_X11_court a1 a2 a3 a4 a5 a6 M) := by
  sorry
abbrev l_X12_court : List Bx := []
abbrev po_X12_court (a1 a2 a3 a4 a5 a6 : Int32) (M : qM) (v : Int32) (M' : qM) : Prop := G M' ∧ Sm l_X12_court M M'
theorem t_X12_court_99 {n : Nat} (hn : 200000 ≤ n) {oa1 oa2 oa3 oa4 oa5 oa6 : Int32} {M0 : qM} : ∀ (m : Nat) (a1 a2 a3 a4 a5 a6 a7 a8 a9 a10 : Int32) (M : qM), G M → Sm l_X12_court M0 M → 1 ≤ a1.toInt ∧ a1.toInt ≤ 9 → 0 ≤ a2.toInt ∧ a2.toInt ≤ 511 → 0 ≤ a3.toInt ∧ a3.toInt ≤ 511 → 0 ≤ a4.toInt ∧ a4.toInt ≤ 511 → 0 ≤ a5.toInt ∧ a5.toInt ≤ 9 → 0 ≤ a6.toInt ∧ a6.toInt ≤ 2 → 0 ≤ a8.toInt ∧ a8.toInt ≤ 1 → 0 ≤ a9.toInt ∧ a9.toInt ≤ 2147483647 → 0 ≤ a10.toInt ∧ a10.toInt ≤ 9 → 9 - a10.toInt < (m : Int) → qT (f_X12_court_99 n m a1 a2 a3 a4 a5 a6 a7 a8 a9 a10 M) (po_X12_court oa1 oa2 oa3 oa4 oa5 oa6 M0) := by
  sorry
theorem t_X12_court {n : Nat} (hn : 200000 ≤ n) (a1 a2 a3 a4 a5 a6 : Int32) (M : qM) (hG : G M) : qT (f_X12_court n a1 a2 a3 a4 a5 a6 M) (po_X12_court a1 a2 a3 a4 a5 a6 M) := by
  have hS : Sm l_X12_court M M := Sm.rf
  unfold f_X12_court
  have hq82_ := (show ((1 : Int32)).toInt = _ from l_1)
  have hq83_ := (show ((9 : Int32)).toInt = _ from l_9)
  refine T_qc (t_X12_in hn a1 (1 : Int32) (9 : Int32) M hG (i_rng (lo := 0) (hi := 70) l_1 (by omega) (by omega)) (i_rng (lo := 0) (hi := 99999) l_9 (by omega) (by omega))) ?_
  rintro rv80 mv81 ⟨hq84_, hq85_, gq86_, kq87_⟩
  have hq88_ := kq87_.nil
  subst hq88_
  refine T_eq rfl l_0 (fun hq89_ => ?_) (fun hq89_ => ?_)
  · exact T_ret ⟨hG, hS⟩
  · have hq92_ := (show ((0 : Int32)).toInt = _ from l_0)
    have hq93_ := i_shl1 (c := 9) (k := a1) (by decide) rfl (by omega) (by omega)
    have hq94_ := (show (((1 : Int32) <<< (a1 &&& 31)) - (1 : Int32)).toInt = _ from (i_sub rfl l_1 (by omega) (by omega)))
    refine T_qc (t_X12_in hn a2 (0 : Int32) (((1 : Int32) <<< (a1 &&& 31)) - (1 : Int32)) M hG (i_rng (lo := 0) (hi := 70) l_0 (by omega) (by omega)) (i_rng (lo := 0) (hi := 99999) (i_sub rfl l_1 (by omega) (by omega)) (by omega) (by omega))) ?_
    rintro rv90 mv91 ⟨hq95_, hq96_, gq97_, kq98_⟩
    have hq99_ := kq98_.nil
    subst hq99_
    refine T_eq rfl l_0 (fun hq100_ => ?_) (fun hq100_ => ?_)
    · exact T_ret ⟨hG, hS⟩
    · refine T_qc (t_X12_in hn a3 (0 : Int32) (((1 : Int32) <<< (a1 &&& 31)) - (1 : Int32)) M hG (i_rng (lo := 0) (hi := 70) l_0 (by omega) (by omega)) (i_rng (lo := 0) (hi := 99999) (i_sub rfl l_1 (by omega) (by omega)) (by omega) (by omega))) ?_
      rintro rv101 mv102 ⟨hq103_, hq104_, gq105_, kq106_⟩
      have hq107_ := kq106_.nil
      subst hq107_
      refine T_eq rfl l_0 (fun hq108_ => ?_) (fun hq108_ => ?_)
      · exact T_ret ⟨hG, hS⟩
      · refine T_qc (t_X12_in hn a4 (0 : Int32) (((1 : Int32) <<< (a1 &&& 31)) - (1 : Int32)) M hG (i_rng (lo := 0) (hi := 70) l_0 (by omega) (by omega)) (i_rng (lo := 0) (hi := 99999) (i_sub rfl l_1 (by omega) (by omega)) (by omega) (by omega))) ?_
        rintro rv109 mv110 ⟨hq111_, hq112_, gq113_, kq114_⟩
        have hq115_ := kq114_.nil
        subst hq115_
        refine T_eq rfl l_0 (fun hq116_ => ?_) (fun hq116_ => ?_)
        · exact T_ret ⟨hG, hS⟩
        · refine T_qc (t_X12_in hn a5 (0 : Int32) a1 M hG (i_rng (lo := 0) (hi := 70) l_0 (by omega) (by omega)) (i_rng (lo := 0) (hi := 99999) rfl (by omega) (by omega))) ?_
          rintro rv117 mv118 ⟨hq119_, hq120_, gq121_, kq122_⟩
          have hq123_ := kq122_.nil
          subst hq123_
          refine T_eq rfl l_0 (fun hq124_ => ?_) (fun hq124_ => ?_)
          · exact T_ret ⟨hG, hS⟩
          · have hq127_ := (show ((2 : Int32)).toInt = _ from l_2)
            refine T_qc (t_X12_in hn a6 (0 : Int32) (2 : Int32) M hG (i_rng (lo := 0) (hi := 70) l_0 (by omega) (by omega)) (i_rng (lo := 0) (hi := 99999) l_2 (by omega) (by omega))) ?_
            rintro rv125 mv126 ⟨hq128_, hq129_, gq130_, kq131_⟩
            have hq132_ := kq131_.nil
            subst hq132_
            refine T_eq rfl l_0 (fun hq133_ => ?_) (fun hq133_ => ?_)
            · exact T_ret ⟨hG, hS⟩
            · refine T_qc (t_X12_bits hn a2 M hG ) ?_
              rintro rv134 mv135 ⟨gq136_, kq137_⟩
              have hq138_ := kq137_.nil
              subst hq138_
              have hq139_ := i_full (rv134)
              refine T_lt rfl rfl (fun hq140_ => ?_) (fun hq140_ => ?_)
              · unfold f_X12_court_91
                exact (t_X12_court_99 hn) n a1 a2 a3 a4 a5 a6 rv134 (0 : Int32) (0 : Int32) (0 : Int32) M hG hS (i_rng (lo := 1) (hi := 9) rfl (by omega) (by omega)) (i_rng (lo := 0) (hi := 511) rfl (by omega) (by omega)) (i_rng (lo := 0) (hi := 511) rfl (by omega) (by omega)) (i_rng (lo := 0) (hi := 511) rfl (by omega) (by omega)) (i_rng (lo := 0) (hi := 9) rfl (by omega) (by omega)) (i_rng (lo := 0) (hi := 2) rfl (by omega) (by omega)) (i_rng (lo := 0) (hi := 1) l_0 (by omega) (by omega)) (i_rng (lo := 0) (hi := 2147483647) l_0 (by omega) (by omega)) (i_rng (lo := 0) (hi := 9) l_0 (by omega) (by omega)) (by have e7 : ((0 : Int32)).toInt = _ := l_0; have e8 : ((0 : Int32)).toInt = _ := l_0; have e9 : ((0 : Int32)).toInt = _ := l_0; omega)
              · unfold f_X12_court_91
                exact (t_X12_court_99 hn) n a1 a2 a3 a4 a5 a6 rv134 (1 : Int32) (0 : Int32) (0 : Int32) M hG hS (i_rng (lo := 1) (hi := 9) rfl (by omega) (by omega)) (i_rng (lo := 0) (hi := 511) rfl (by omega) (by omega)) (i_rng (lo := 0) (hi := 511) rfl (by omega) (by omega)) (i_rng (lo := 0) (hi := 511) rfl (by omega) (by omega)) (i_rng (lo := 0) (hi := 9) rfl (by omega) (by omega)) (i_rng (lo := 0) (hi := 2) rfl (by omega) (by omega)) (i_rng (lo := 0) (hi := 1) l_1 (by omega) (by omega)) (i_rng (lo := 0) (hi := 2147483647) l_0 (by omega) (by omega)) (i_rng (lo := 0) (hi := 9) l_0 (by omega) (by omega)) (by have e7 : ((1 : Int32)).toInt = _ := l_1; have e8 : ((0 : Int32)).toInt = _ := l_0; have e9 : ((0 : Int32)).toInt = _ := l_0; omega)
abbrev l_X10_copy_c16_7 : List Bx := [(16, 17, 8, 10), (17, 25, 0, 0)]
abbrev po_X10_copy_c16_7 (M : qM) (v : Int32) (M' : qM) : Prop := (0 ≤ v.toInt ∧ v.toInt ≤ 0) ∧ G M' ∧ Sm l_X10_copy_c16_7 M M'
theorem t_X10_copy_c16_7 {n : Nat} (hn : 200000 ≤ n) (M : qM) (hG : G M) : qT (f_X10_copy n 16 7  M) (po_X10_copy_c16_7  M) := by
  have hS : Sm l_X10_copy_c16_7 M M := Sm.rf
  unfold f_X10_copy
  try simp only [Nat.reduceAdd]
  refine T_qcp l_0 l_0 l_8 (by omega) (by omega) (by omega) (by omega) (by omega) ?_
  refine T_mr hG hS (fun s => rn_17 s _) nw_17 (i := 1) rfl (fun s => ⟨by decide, by decide, Or.inl rfl⟩) ?_
  intro mv1 hq2_ gq3_ kq4_
  refine T_qcp l_0 l_0 l_96 (by omega) (by omega) (by omega) (by omega) (by omega) ?_
  refine T_mr gq3_ kq4_ (fun s => rn_18 s _) nw_18 (i := 1) rfl (fun s => ⟨by decide, by decide, Or.inl rfl⟩) ?_
  intro mv5 hq6_ gq7_ kq8_
  refine T_qcp l_0 l_0 l_96 (by omega) (by omega) (by omega) (by omega) (by omega) ?_
  refine T_mr gq7_ kq8_ (fun s => rn_19 s _) nw_19 (i := 1) rfl (fun s => ⟨by decide, by decide, Or.inl rfl⟩) ?_
  intro mv9 hq10_ gq11_ kq12_
  refine T_qcp l_0 l_0 l_96 (by omega) (by omega) (by omega) (by omega) (by omega) ?_
  refine T_mr gq11_ kq12_ (fun s => rn_20 s _) nw_20 (i := 1) rfl (fun s => ⟨by decide, by decide, Or.inl rfl⟩) ?_
  intro mv13 hq14_ gq15_ kq16_
  refine T_qcp l_0 l_0 l_320 (by omega) (by omega) (by omega) (by omega) (by omega) ?_
  refine T_mr gq15_ kq16_ (fun s => rn_21 s _) nw_21 (i := 1) rfl (fun s => ⟨by decide, by decide, Or.inl rfl⟩) ?_
  intro mv17 hq18_ gq19_ kq20_
  refine T_qcp l_0 l_0 l_320 (by omega) (by omega) (by omega) (by omega) (by omega) ?_
  refine T_mr gq19_ kq20_ (fun s => rn_22 s _) nw_22 (i := 1) rfl (fun s => ⟨by decide, by decide, Or.inl rfl⟩) ?_
  intro mv21 hq22_ gq23_ kq24_
  refine T_qcp l_0 l_0 l_8 (by omega) (by omega) (by omega) (by omega) (by omega) ?_
  refine T_mr gq23_ kq24_ (va_in (r_14 gq23_) (r_23 gq23_)) nw_23 (i := 1) rfl (fun s => ⟨by decide, by decide, Or.inl rfl⟩) ?_
  intro mv25 hq26_ gq27_ kq28_
  refine T_qcp l_0 l_0 l_8 (by omega) (by omega) (by omega) (by omega) (by omega) ?_
  refine T_mr gq27_ kq28_ (va_in (r_15 gq27_) (r_24 gq27_)) nw_24 (i := 1) rfl (fun s => ⟨by decide, by decide, Or.inl rfl⟩) ?_
  intro mv29 hq30_ gq31_ kq32_
  refine T_mu gq31_ kq32_ (rn_16_8 _) (nw_16 _) (i := 0) rfl ⟨by decide, by decide, Or.inr ⟨by decide, by decide⟩⟩ ?_
  intro mv33 hq34_ gq35_ kq36_
  have hq37_ : (mv33 16 8).toInt = (mv29 7 8).toInt := by rw [hq34_, mu_at]
  refine T_mu gq35_ kq36_ (rn_16_9 _) (nw_16 _) (i := 0) rfl ⟨by decide, by decide, Or.inr ⟨by decide, by decide⟩⟩ ?_
  intro mv38 hq39_ gq40_ kq41_
  have hq42_ : (mv38 16 8).toInt = (mv33 16 8).toInt := by rw [hq39_, mu_ne (Or.inr (by decide))]
  have hq43_ : (mv38 16 9).toInt = (mv33 7 9).toInt := by rw [hq39_, mu_at]
  exact T_ret ⟨(i_rng (lo := 0) (hi := 0) l_0 (by omega) (by omega)), gq40_, kq41_⟩
abbrev l_X11_keep : List Bx := [(0, 1, 12, 13), (16, 17, 8, 10), (17, 25, 0, 0)]
abbrev po_X11_keep (M : qM) (v : Int32) (M' : qM) : Prop := G M' ∧ Sm l_X11_keep M M'
theorem t_X11_keep {n : Nat} (hn : 200000 ≤ n) (M : qM) (hG : G M) : qT (f_X11_keep n  M) (po_X11_keep  M) := by
  have hS : Sm l_X11_keep M M := Sm.rf
  unfold f_X11_keep
  refine T_qc (t_X10_copy_c16_7 hn  M hG ) ?_
  rintro rv1 mv2 ⟨hq3_, gq4_, kq5_⟩
  have kq6_ := Sm.call hS kq5_ rfl
  refine T_mu gq4_ kq6_ (rn_0_12 _) (nw_0 _) (i := 0) rfl ⟨by decide, by decide, Or.inr ⟨by decide, by decide⟩⟩ ?_
  intro mv7 hq8_ gq9_ kq10_
  have hq11_ : (mv7 0 12).toInt = 1 := by rw [hq8_, mu_at]; exact l_1
  exact T_ret ⟨gq9_, kq10_⟩
abbrev l_X12_copies_c78_80 : List Bx := [(80, 81, 0, 954)]
abbrev po_X12_copies_c78_80 (M : qM) (v : Int32) (M' : qM) : Prop := (0 ≤ v.toInt ∧ v.toInt ≤ 0) ∧ G M' ∧ Sm l_X12_copies_c78_80 M M'
theorem t_X12_copies_c78_80_2 {n : Nat} (hn : 200000 ≤ n) {M0 : qM} : ∀ (m : Nat) (a2 : Int32) (M : qM), G M → Sm l_X12_copies_c78_80 M0 M → 0 ≤ a2.toInt ∧ a2.toInt ≤ 954 → 954 - a2.toInt < (m : Int) → qT (f_X12_copies_2 n 78 80 m a2 M) (po_X12_copies_c78_80  M0) := by
  intro m
  induction m with
  | zero =>
    intro a2 M hG hS i0 i1
    exfalso; omega
  | succ m ih =>
    intro a2 M hG hS i0 i1
    show qT (b_X12_copies_2 n 78 80 (f_X12_copies_2 n 78 80 m) a2 M) _
    unfold b_X12_copies_2
    try simp only [Nat.reduceAdd]
    refine T_le l_954 rfl (fun hq2_ => ?_) (fun hq2_ => ?_)
    · exact T_ret ⟨(i_rng (lo := 0) (hi := 0) l_0 (by omega) (by omega)), hG, hS⟩
    · refine T_qg rfl (by omega) (by omega) ?_
      refine T_qg rfl (by omega) (by omega) ?_
      refine T_mu hG hS (cp78 (by decide) (by decide) hG) (nw_80 _) (i := 0) rfl ⟨by decide, by decide, Or.inr ⟨(show 0 ≤ _ by rw [tnc]; omega), (show _ < 954 by rw [tnc]; omega)⟩⟩ ?_
      intro mv3 hq4_ gq5_ kq6_
      have hq7_ : (mv3 80 a2.toNatClampNeg).toInt = (M 78 a2.toNatClampNeg).toInt := by rw [hq4_, mu_at]
      refine T_ql (i_add rfl l_1 (by omega) (by omega)) ?_
      intro xv8 hq9_
      exact ih xv8 mv3 gq5_ kq6_ (i_rng (lo := 0) (hi := 954) rfl (by omega) (by omega)) (by omega)
theorem t_X12_copies_c78_80 {n : Nat} (hn : 200000 ≤ n) (M : qM) (hG : G M) : qT (f_X12_copies n 78 80  M) (po_X12_copies_c78_80  M) := by
  have hS : Sm l_X12_copies_c78_80 M M := Sm.rf
  unfold f_X12_copies
  try simp only [Nat.reduceAdd]
  exact (t_X12_copies_c78_80_2 hn) n (0 : Int32) M hG hS (i_rng (lo := 0) (hi := 954) l_0 (by omega) (by omega)) (by have e0 : ((0 : Int32)).toInt = _ := l_0; omega)
abbrev l_X12_keep : List Bx := [(77, 78, 67, 68), (80, 81, 0, 954)]
abbrev po_X12_keep (M : qM) (v : Int32) (M' : qM) : Prop := G M' ∧ Sm l_X12_keep M M'
theorem t_X12_keep {n : Nat} (hn : 200000 ≤ n) (M : qM) (hG : G M) : qT (f_X12_keep n  M) (po_X12_keep  M) := by
  have hS : Sm l_X12_keep M M := Sm.rf
  unfold f_X12_keep
  refine T_mu hG hS (rn_77_67 _) nw_77_67 (i := 0) rfl ⟨by decide, by decide, Or.inr ⟨by decide, by decide⟩⟩ ?_
  intro mv1 hq2_ gq3_ kq4_
  have hq5_ : (mv1 77 67).toInt = 1 := by rw [hq2_, mu_at]; exact l_1
  refine T_qc (t_X12_copies_c78_80 hn  mv1 gq3_ ) ?_
  rintro rv6 mv7 ⟨hq8_, gq9_, kq10_⟩
  have kq11_ := Sm.call kq4_ kq10_ rfl
  have hq12_ : (mv7 77 67).toInt = (mv1 77 67).toInt := by rw [kq10_ 77 67 (by decide)]
  exact T_ret ⟨gq9_, kq11_⟩
abbrev l_X10_copy_c7_16 : List Bx := [(7, 8, 8, 10), (8, 16, 0, 0)]
abbrev po_X10_copy_c7_16 (M : qM) (v : Int32) (M' : qM) : Prop := (0 ≤ v.toInt ∧ v.toInt ≤ 0) ∧ G M' ∧ Sm l_X10_copy_c7_16 M M'
theorem t_X10_copy_c7_16 {n : Nat} (hn : 200000 ≤ n) (M : qM) (hG : G M) : qT (f_X10_copy n 7 16  M) (po_X10_copy_c7_16  M) := by
  have hS : Sm l_X10_copy_c7_16 M M := Sm.rf
  unfold f_X10_copy
  try simp only [Nat.reduceAdd]
  refine T_qcp l_0 l_0 l_8 (by omega) (by omega) (by omega) (by omega) (by omega) ?_
  refine T_mr hG hS (fun s => rn_8 s _) nw_8 (i := 1) rfl (fun s => ⟨by decide, by decide, Or.inl rfl⟩) ?_
  intro mv1 hq2_ gq3_ kq4_
  refine T_qcp l_0 l_0 l_96 (by omega) (by omega) (by omega) (by omega) (by omega) ?_
  refine T_mr gq3_ kq4_ (fun s => rn_9 s _) nw_9 (i := 1) rfl (fun s => ⟨by decide, by decide, Or.inl rfl⟩) ?_
  intro mv5 hq6_ gq7_ kq8_
  refine T_qcp l_0 l_0 l_96 (by omega) (by omega) (by omega) (by omega) (by omega) ?_
  refine T_mr gq7_ kq8_ (fun s => rn_10 s _) nw_10 (i := 1) rfl (fun s => ⟨by decide, by decide, Or.inl rfl⟩) ?_
  intro mv9 hq10_ gq11_ kq12_
  refine T_qcp l_0 l_0 l_96 (by omega) (by omega) (by omega) (by omega) (by omega) ?_
  refine T_mr gq11_ kq12_ (fun s => rn_11 s _) nw_11 (i := 1) rfl (fun s => ⟨by decide, by decide, Or.inl rfl⟩) ?_
  intro mv13 hq14_ gq15_ kq16_
  refine T_qcp l_0 l_0 l_320 (by omega) (by omega) (by omega) (by omega) (by omega) ?_
  refine T_mr gq15_ kq16_ (fun s => rn_12 s _) nw_12 (i := 1) rfl (fun s => ⟨by decide, by decide, Or.inl rfl⟩) ?_
  intro mv17 hq18_ gq19_ kq20_
  refine T_qcp l_0 l_0 l_320 (by omega) (by omega) (by omega) (by omega) (by omega) ?_
  refine T_mr gq19_ kq20_ (fun s => rn_13 s _) nw_13 (i := 1) rfl (fun s => ⟨by decide, by decide, Or.inl rfl⟩) ?_
  intro mv21 hq22_ gq23_ kq24_
  refine T_qcp l_0 l_0 l_8 (by omega) (by omega) (by omega) (by omega) (by omega) ?_
  refine T_mr gq23_ kq24_ (va_in (r_23 gq23_) (r_14 gq23_)) nw_14 (i := 1) rfl (fun s => ⟨by decide, by decide, Or.inl rfl⟩) ?_
  intro mv25 hq26_ gq27_ kq28_
  refine T_qcp l_0 l_0 l_8 (by omega) (by omega) (by omega) (by omega) (by omega) ?_
  refine T_mr gq27_ kq28_ (va_in (r_24 gq27_) (r_15 gq27_)) nw_15 (i := 1) rfl (fun s => ⟨by decide, by decide, Or.inl rfl⟩) ?_
  intro mv29 hq30_ gq31_ kq32_
  refine T_mu gq31_ kq32_ (rn_7_8 _) (nw_7 _) (i := 0) rfl ⟨by decide, by decide, Or.inr ⟨by decide, by decide⟩⟩ ?_
  intro mv33 hq34_ gq35_ kq36_
  have hq37_ : (mv33 7 8).toInt = (mv29 16 8).toInt := by rw [hq34_, mu_at]
  refine T_mu gq35_ kq36_ (rn_7_9 _) (nw_7 _) (i := 0) rfl ⟨by decide, by decide, Or.inr ⟨by decide, by decide⟩⟩ ?_
  intro mv38 hq39_ gq40_ kq41_
  have hq42_ : (mv38 7 8).toInt = (mv33 7 8).toInt := by rw [hq39_, mu_ne (Or.inr (by decide))]
  have hq43_ : (mv38 7 9).toInt = (mv33 16 9).toInt := by rw [hq39_, mu_at]
  exact T_ret ⟨(i_rng (lo := 0) (hi := 0) l_0 (by omega) (by omega)), gq40_, kq41_⟩
abbrev l_X11_undo : List Bx := [(7, 8, 8, 10), (8, 16, 0, 0)]
abbrev po_X11_undo (M : qM) (v : Int32) (M' : qM) : Prop := (0 ≤ v.toInt ∧ v.toInt ≤ 1) ∧ G M' ∧ Sm l_X11_undo M M'
theorem t_X11_undo {n : Nat} (hn : 200000 ≤ n) (M : qM) (hG : G M) : qT (f_X11_undo n  M) (po_X11_undo  M) := by
  have hS : Sm l_X11_undo M M := Sm.rf
  unfold f_X11_undo
  refine T_eq rfl l_0 (fun hq1_ => ?_) (fun hq1_ => ?_)
  · exact T_ret ⟨(i_rng (lo := 0) (hi := 1) l_0 (by omega) (by omega)), hG, hS⟩
  · refine T_qc (t_X10_copy_c7_16 hn  M hG ) ?_
    rintro rv2 mv3 ⟨hq4_, gq5_, kq6_⟩
    have kq7_ := Sm.call hS kq6_ rfl
    have hq8_ : (mv3 0 12).toInt = (M 0 12).toInt := by rw [kq6_ 0 12 (by decide)]
    exact T_ret ⟨(i_rng (lo := 0) (hi := 1) l_1 (by omega) (by omega)), gq5_, kq7_⟩
abbrev l_X12_copies_c80_78 : List Bx := [(78, 79, 0, 954)]
abbrev po_X12_copies_c80_78 (M : qM) (v : Int32) (M' : qM) : Prop := (0 ≤ v.toInt ∧ v.toInt ≤ 0) ∧ G M' ∧ Sm l_X12_copies_c80_78 M M'
theorem t_X12_copies_c80_78_2 {n : Nat} (hn : 200000 ≤ n) {M0 : qM} : ∀ (m : Nat) (a2 : Int32) (M : qM), G M → Sm l_X12_copies_c80_78 M0 M → 0 ≤ a2.toInt ∧ a2.toInt ≤ 954 → 954 - a2.toInt < (m : Int) → qT (f_X12_copies_2 n 80 78 m a2 M) (po_X12_copies_c80_78  M0) := by
  intro m
  induction m with
  | zero =>
    intro a2 M hG hS i0 i1
    exfalso; omega
  | succ m ih =>
    intro a2 M hG hS i0 i1
    show qT (b_X12_copies_2 n 80 78 (f_X12_copies_2 n 80 78 m) a2 M) _
    unfold b_X12_copies_2
    try simp only [Nat.reduceAdd]
    refine T_le l_954 rfl (fun hq2_ => ?_) (fun hq2_ => ?_)
    · exact T_ret ⟨(i_rng (lo := 0) (hi := 0) l_0 (by omega) (by omega)), hG, hS⟩
    · refine T_qg rfl (by omega) (by omega) ?_
      refine T_qg rfl (by omega) (by omega) ?_
      refine T_mu hG hS (cp78 (by decide) (by decide) hG) (nw_78 _) (i := 0) rfl ⟨by decide, by decide, Or.inr ⟨(show 0 ≤ _ by rw [tnc]; omega), (show _ < 954 by rw [tnc]; omega)⟩⟩ ?_
      intro mv3 hq4_ gq5_ kq6_
      have hq7_ : (mv3 78 a2.toNatClampNeg).toInt = (M 80 a2.toNatClampNeg).toInt := by rw [hq4_, mu_at]
      refine T_ql (i_add rfl l_1 (by omega) (by omega)) ?_
      intro xv8 hq9_
      exact ih xv8 mv3 gq5_ kq6_ (i_rng (lo := 0) (hi := 954) rfl (by omega) (by omega)) (by omega)
theorem t_X12_copies_c80_78 {n : Nat} (hn : 200000 ≤ n) (M : qM) (hG : G M) : qT (f_X12_copies n 80 78  M) (po_X12_copies_c80_78  M) := by
  have hS : Sm l_X12_copies_c80_78 M M := Sm.rf
  unfold f_X12_copies
  try simp only [Nat.reduceAdd]
  exact (t_X12_copies_c80_78_2 hn) n (0 : Int32) M hG hS (i_rng (lo := 0) (hi := 954) l_0 (by omega) (by omega)) (by have e0 : ((0 : Int32)).toInt = _ := l_0; omega)
