/-! rivals -/
def pv (a0 a1 L W : Int32) : Int32 := if a0 = 1 then (if a1 = 1 then -(L / 2) else -L) else (if a1 = 1 then W else -1)
theorem pen (n : Nat) (a0 a1 L W : Int32) (M : qM) : f_X11_pence n a0 a1 L W M = some (pv a0 a1 L W, M) := by
  unfold f_X11_pence pv
  by_cases c : a0 = 1 <;> by_cases d : a1 = 1 <;> simp [c, d]
theorem settl {n : Nat} {r x y L W : Int32} {M : qM} (hx : r &&& 1 = x) (hy : r >>> (1 &&& 31) = y) : f_X11_isSettled n r L W M = some (if pv x y L W < pv (1 - x) y L W ∨ pv y x L W < pv (1 - y) x L W then 0 else 1, M) := by
  unfold f_X11_isSettled
  unfold ql
  rw [hx, hy]
  simp only [pen, qc]
  by_cases c : pv x y L W < pv (1 - x) y L W
  · rw [if_pos c, if_pos (Or.inl c)]
  · rw [if_neg c]
    by_cases d : pv y x L W < pv (1 - y) x L W
    · rw [if_pos d, if_pos (Or.inr d)]
    · rw [if_neg d, if_neg (by rintro (q | q) <;> contradiction)]
theorem pv00 (L W : Int32) : pv 0 0 L W = -1 := by unfold pv; rw [if_neg (by decide), if_neg (by decide)]
theorem pv10 (L W : Int32) : pv 1 0 L W = -L := by unfold pv; rw [if_pos rfl, if_neg (by decide)]
theorem pv01 (L W : Int32) : pv 0 1 L W = W := by unfold pv; rw [if_neg (by decide), if_pos rfl]
theorem pv11 (L W : Int32) : pv 1 1 L W = -(L / 2) := by unfold pv; rw [if_pos rfl, if_pos rfl]
theorem i10 : (1 : Int32) - 0 = 1 := by decide
theorem i11 : (1 : Int32) - 1 = 0 := by decide
theorem set0 (n : Nat) (L W : Int32) (M : qM) : f_X11_isSettled n 0 L W M = some (if (-1 : Int32) < -L ∨ (-1 : Int32) < -L then 0 else 1, M) := by
  rw [settl (x := 0) (y := 0) (by decide) (by decide), i10, pv00, pv10]
theorem set1 (n : Nat) (L W : Int32) (M : qM) : f_X11_isSettled n 1 L W M = some (if -L < (-1 : Int32) ∨ W < -(L / 2) then 0 else 1, M) := by
  rw [settl (x := 1) (y := 0) (by decide) (by decide), i10, i11, pv00, pv10, pv01, pv11]
theorem set2 (n : Nat) (L W : Int32) (M : qM) : f_X11_isSettled n 2 L W M = some (if W < -(L / 2) ∨ -L < (-1 : Int32) then 0 else 1, M) := by
  rw [settl (x := 0) (y := 1) (by decide) (by decide), i10, i11, pv00, pv10, pv01, pv11]
theorem set3 (n : Nat) (L W : Int32) (M : qM) : f_X11_isSettled n 3 L W M = some (if -(L / 2) < W ∨ -(L / 2) < W then 0 else 1, M) := by
  rw [settl (x := 1) (y := 1) (by decide) (by decide), i11, pv01, pv11]
theorem h0v (n : Nat) (a b : Int32) (M : qM) : f_X12_has0 n a b M = some (if ((a >>> (b &&& 31)) &&& 1) = 1 then 1 else 0, M) := by
  unfold f_X12_has0
  by_cases c : ((a >>> (b &&& 31)) &&& 1) = 1
  · rw [if_pos c, if_pos c]
  · rw [if_neg c, if_neg c]
theorem gn {n : Nat} {row i x y L W : Int32} {M : qM} (hx : (if ((row >>> (i &&& 31)) &&& 1) = 1 then (1 : Int32) else 0) = x) (hy : (if ((row >>> (((1 : Int32) - i) &&& 31)) &&& 1) = 1 then (1 : Int32) else 0) = y) (hx2 : x = 0 ∨ x = 1) (hy2 : y = 0 ∨ y = 1) : f_X12_gainOf n row i L W M = some (pv x y L W, M) := by
  unfold f_X12_gainOf
  rw [h0v]
  simp only [qc]
  rw [h0v, hx]
  simp only []
  rw [hy]
  rcases hx2 with rfl | rfl <;> rcases hy2 with rfl | rfl
  · rw [if_pos rfl, if_pos rfl, pv00]
  · rw [if_pos rfl, if_neg (by decide), pv01]
  · rw [if_neg (by decide), if_pos rfl, pv10]
  · rw [if_neg (by decide), if_neg (by decide), pv11]
theorem rC_step {n k : Nat} {L W w c b r r' v : Int32} {M : qM} (hr : ¬ r < 0) (hr' : r + -1 = r') (h : f_X11_isSettled n r L W M = some (v, M)) : f_X11_rivals_43 n (k + 1) L W w c b r M = if v = 0 then f_X11_rivals_43 n k L W w c b r' M else f_X11_rivals_43 n k L W w (c + 1) r r' M := by
  subst hr'
  show b_X11_rivals_43 n (f_X11_rivals_43 n k) L W w c b r M = _
  unfold b_X11_rivals_43
  rw [if_neg hr, h]
  rfl
theorem rC_end {n k : Nat} {L W w c b r : Int32} {M : qM} (hr : r < 0) : f_X11_rivals_43 n (k + 1) L W w c b r M = some (if w = 0 then c else b, M) := by
  show b_X11_rivals_43 n (f_X11_rivals_43 n k) L W w c b r M = _
  unfold b_X11_rivals_43
  rw [if_pos hr]
  by_cases h : w = 0 <;> simp [h]
theorem rM_step {n k : Nat} {L W w c b r r' g1 g2 g3 g4 : Int32} {M : qM} (hr : ¬ (4 : Int32) ≤ r) (hr' : r + 1 = r') (h1 : f_X12_gainOf n (r ^^^ 1) 0 L W M = some (g1, M)) (h2 : f_X12_gainOf n r 0 L W M = some (g2, M)) (h3 : f_X12_gainOf n (r ^^^ 2) 1 L W M = some (g3, M)) (h4 : f_X12_gainOf n r 1 L W M = some (g4, M)) :
    f_X12_rivals_43 n (k + 1) L W w c b r M = if g2 < g1 ∨ g4 < g3 then f_X12_rivals_43 n k L W w c b r' M else f_X12_rivals_43 n k L W w (c + 1) (if c = 0 then r else b) r' M := by
  subst hr'
  show b_X12_rivals_43 n (f_X12_rivals_43 n k) L W w c b r M = _
  unfold b_X12_rivals_43 f_X12_rivals_106
  rw [if_neg hr, h1]
  simp only [qc, h2, h3, h4, ql]
  by_cases c1 : g2 < g1
  · simp [c1]
  · by_cases c2 : g4 < g3
    · simp [c1, c2, Int32.not_le.mpr c2]
    · by_cases c3 : c = 0 <;> simp [c1, c2, c3, Int32.not_lt.mp c2]
theorem rM_end {n k : Nat} {L W w c b r : Int32} {M : qM} (hr : (4 : Int32) ≤ r) : f_X12_rivals_43 n (k + 1) L W w c b r M = some (if w = 0 then c else b, M) := by
  show b_X12_rivals_43 n (f_X12_rivals_43 n k) L W w c b r M = _
  unfold b_X12_rivals_43
  rw [if_pos hr]
  by_cases h : w = 0 <;> simp [h]
theorem p1_rivals {n : Nat} (hn : 6 ≤ n) {M : qM} (L W w : Int32) : Pr (f_X11_rivals n L W w) (f_X12_rivals n L W w) M := by
  obtain ⟨k, rfl⟩ : ∃ k, n = k + 5 := ⟨n - 5, by omega⟩
  by_cases c1 : L < 0
  · exact Pr.same (v := -1) (by simp [f_X11_rivals, c1]) (by simp [f_X12_rivals, in_eq, qc, c1])
  by_cases c2 : (999 : Int32) < L
  · exact Pr.same (v := -1) (by simp [f_X11_rivals, c1, c2]) (by simp [f_X12_rivals, in_eq, qc, c2])
  by_cases c3 : W < 0
  · exact Pr.same (v := -1) (by simp [f_X11_rivals, c1, c2, c3]) (by simp [f_X12_rivals, in_eq, qc, c1, c2, c3])
  by_cases c4 : (999 : Int32) < W
  · exact Pr.same (v := -1) (by simp [f_X11_rivals, c1, c2, c3, c4]) (by simp [f_X12_rivals, in_eq, qc, c1, c2, c4])
  by_cases c5 : w < 0
  · exact Pr.same (v := -1) (by simp [f_X11_rivals, c1, c2, c3, c4, c5]) (by simp [f_X12_rivals, in_eq, qc, c1, c2, c3, c4, c5])
  by_cases c6 : (1 : Int32) < w
  · exact Pr.same (v := -1) (by simp [f_X11_rivals, c1, c2, c3, c4, c5, Int32.not_le.mpr c6]) (by simp [f_X12_rivals, in_eq, qc, c1, c2, c3, c4, c6])
  have hA : f_X11_rivals (k + 5) L W w M = f_X11_rivals_43 (k + 5) (k + 5) L W w 0 (-2) 3 M := by
    unfold f_X11_rivals
    simp [c1, c2, c3, c4, c5, Int32.not_lt.mp c6]
  have hB : f_X12_rivals (k + 5) L W w M = f_X12_rivals_43 (k + 5) (k + 5) L W w 0 (-2) 0 M := by
    unfold f_X12_rivals
    simp [in_eq, qc, c1, c2, c3, c4, c5, c6]
  have key : ∃ v, f_X11_rivals_43 (k + 5) (k + 5) L W w 0 (-2) 3 M = some (v, M) ∧ f_X12_rivals_43 (k + 5) (k + 5) L W w 0 (-2) 0 M = some (v, M) := by
    have s3 := fun c b => rC_step (n := k + 5) (k := k + 4) (L := L) (W := W) (w := w) (c := c) (b := b) (r := 3) (r' := 2) (M := M) (by decide) (by decide) (set3 _ _ _ _)
    have s2 := fun c b => rC_step (n := k + 5) (k := k + 3) (L := L) (W := W) (w := w) (c := c) (b := b) (r := 2) (r' := 1) (M := M) (by decide) (by decide) (set2 _ _ _ _)
    have s1 := fun c b => rC_step (n := k + 5) (k := k + 2) (L := L) (W := W) (w := w) (c := c) (b := b) (r := 1) (r' := 0) (M := M) (by decide) (by decide) (set1 _ _ _ _)
    have s0 := fun c b => rC_step (n := k + 5) (k := k + 1) (L := L) (W := W) (w := w) (c := c) (b := b) (r := 0) (r' := -1) (M := M) (by decide) (by decide) (set0 _ _ _ _)
    have se := fun c b => rC_end (n := k + 5) (k := k) (L := L) (W := W) (w := w) (c := c) (b := b) (r := -1) (M := M) (by decide)
    have m0 := fun c b => rM_step (n := k + 5) (k := k + 4) (L := L) (W := W) (w := w) (c := c) (b := b) (r := 0) (r' := 1) (g1 := pv 1 0 L W) (g2 := pv 0 0 L W) (g3 := pv 1 0 L W) (g4 := pv 0 0 L W) (M := M) (by decide) (by decide) (gn (by decide) (by decide) (by decide) (by decide)) (gn (by decide) (by decide) (by decide) (by decide)) (gn (by decide) (by decide) (by decide) (by decide)) (gn (by decide) (by decide) (by decide) (by decide))
    have m1 := fun c b => rM_step (n := k + 5) (k := k + 3) (L := L) (W := W) (w := w) (c := c) (b := b) (r := 1) (r' := 2) (g1 := pv 0 0 L W) (g2 := pv 1 0 L W) (g3 := pv 1 1 L W) (g4 := pv 0 1 L W) (M := M) (by decide) (by decide) (gn (by decide) (by decide) (by decide) (by decide)) (gn (by decide) (by decide) (by decide) (by decide)) (gn (by decide) (by decide) (by decide) (by decide)) (gn (by decide) (by decide) (by decide) (by decide))
    have m2 := fun c b => rM_step (n := k + 5) (k := k + 2) (L := L) (W := W) (w := w) (c := c) (b := b) (r := 2) (r' := 3) (g1 := pv 1 1 L W) (g2 := pv 0 1 L W) (g3 := pv 0 0 L W) (g4 := pv 1 0 L W) (M := M) (by decide) (by decide) (gn (by decide) (by decide) (by decide) (by decide)) (gn (by decide) (by decide) (by decide) (by decide)) (gn (by decide) (by decide) (by decide) (by decide)) (gn (by decide) (by decide) (by decide) (by decide))
    have m3 := fun c b => rM_step (n := k + 5) (k := k + 1) (L := L) (W := W) (w := w) (c := c) (b := b) (r := 3) (r' := 4) (g1 := pv 0 1 L W) (g2 := pv 1 1 L W) (g3 := pv 0 1 L W) (g4 := pv 1 1 L W) (M := M) (by decide) (by decide) (gn (by decide) (by decide) (by decide) (by decide)) (gn (by decide) (by decide) (by decide) (by decide)) (gn (by decide) (by decide) (by decide) (by decide)) (gn (by decide) (by decide) (by decide) (by decide))
    have me := fun c b => rM_end (n := k + 5) (k := k) (L := L) (W := W) (w := w) (c := c) (b := b) (r := 4) (M := M) (by decide)
    simp only [pv00, pv01, pv10, pv11] at m0 m1 m2 m3
    have k2 : f_X12_rivals_43 (k + 5) (k + 5) L W w 0 (-2) 0 M = f_X11_rivals_43 (k + 5) (k + 5) L W w 0 (-2) 3 M := by
      by_cases A : (-1 : Int32) < -L <;> by_cases B : -L < (-1 : Int32) <;> by_cases C : W < -(L / 2) <;> by_cases D : -(L / 2) < W <;> simp only [s3, s2, s1, s0, se, m0, m1, m2, m3, me, A, B, C, D, or_self, or_true, true_or, or_false, if_true, if_false, show ¬ ((1 : Int32) = 0) from by decide, show (0 : Int32) + 1 = 1 from by decide, show (1 : Int32) + 1 = 2 from by decide, show ¬ ((2 : Int32) = 0) from by decide, show (2 : Int32) + 1 = 3 from by decide, show ¬ ((3 : Int32) = 0) from by decide]
    have k1 : ∃ v, f_X11_rivals_43 (k + 5) (k + 5) L W w 0 (-2) 3 M = some (v, M) := by
      by_cases A : (-1 : Int32) < -L <;> by_cases B : -L < (-1 : Int32) <;> by_cases C : W < -(L / 2) <;> by_cases D : -(L / 2) < W <;> simp only [s3, s2, s1, s0, se, m0, m1, m2, m3, me, A, B, C, D, or_self, or_true, true_or, or_false, if_true, if_false, show ¬ ((1 : Int32) = 0) from by decide, show (0 : Int32) + 1 = 1 from by decide, show (1 : Int32) + 1 = 2 from by decide, show ¬ ((2 : Int32) = 0) from by decide, show (2 : Int32) + 1 = 3 from by decide, show ¬ ((3 : Int32) = 0) from by decide] <;> exact ⟨_, rfl⟩
    obtain ⟨v, k1⟩ := k1
    exact ⟨v, k1, k2.trans k1⟩
  obtain ⟨v, k1, k2⟩ := key
  exact Pr.same (by rw [hA]; exact k1) (by rw [hB]; exact k2)
