/-! game: the class's side -/
def cNext (a0 a1 : Int32) : Int32 := if (((a0 ^^^ (a0 >>> ((3 : Int32) &&& 31))) ^^^ (a0 >>> ((6 : Int32) &&& 31))) &&& (3 : Int32)) = (0 : Int32) then (if a1 = 0 then (if a0 = 0 then 0 else 1) else 0) else (if a1 = 0 then 0 else 1)
theorem nx_val (n : Nat) (a0 a1 : Int32) (M : qM) : f_X11_nextOneWins n a0 a1 M = some (cNext a0 a1, M) := by
  unfold f_X11_nextOneWins f_X11_nextOneWins_20 cNext
  generalize (((a0 ^^^ (a0 >>> ((3 : Int32) &&& 31))) ^^^ (a0 >>> ((6 : Int32) &&& 31))) &&& (3 : Int32)) = z
  by_cases h1 : z = 0
  · rw [if_pos h1, if_pos h1]
    by_cases h2 : a1 = 0
    · rw [if_pos h2, if_pos h2]
      by_cases h3 : a0 = 0
      · rw [if_pos h3, if_pos h3]
      · rw [if_neg h3, if_neg h3, if_pos rfl]
    · rw [if_neg h2, if_neg h2]
      rfl
  · rw [if_neg h1, if_neg h1]
    by_cases h2 : a1 = 0
    · rw [if_pos h2, if_pos h2]
      by_cases h3 : a0 = 0
      · rw [if_pos h3]
      · rw [if_neg h3, if_neg (by decide)]
    · rw [if_neg h2, if_neg h2]
      rfl
def cLf (a0 a1 a3 t : Int32) : Int32 := if a1 = 0 then a0 else a0 - (t <<< (((3 : Int32) * a3) &&& 31))
def cT (a0 a1 a2 a3 a4 t : Int32) (r : Option Int32) : Option Int32 := if a4 < t then none else if cNext (cLf a0 a1 a3 t) a2 = 0 then some ((10 : Int32) * a3 + t) else r
def cH (a0 a1 a2 a3 a4 : Int32) : Option Int32 := cT a0 a1 a2 a3 a4 1 (cT a0 a1 a2 a3 a4 2 (cT a0 a1 a2 a3 a4 3 none))
def oM (o : Option Int32) (M : qM) (E : qR) : qR := match o with
  | some v => some (v, M)
  | none => E
theorem bm_step {n k : Nat} {K2 : Int32 → Int32 → Int32 → Int32 → qM → qR} {a0 a1 a2 a3 a4 t t' : Int32} {M : qM} {r : Option Int32} (h3 : ¬ (3 : Int32) < t) (ht : t + 1 = t') (h : f_X11_bestMove_20 n K2 k a0 a1 a2 a3 a4 t' M = oM r M (K2 a0 a1 a2 (a3 + 1) M)) : f_X11_bestMove_20 n K2 (k + 1) a0 a1 a2 a3 a4 t M = oM (cT a0 a1 a2 a3 a4 t r) M (K2 a0 a1 a2 (a3 + 1) M) := by
  subst ht
  show b_X11_bestMove_20 n K2 (f_X11_bestMove_20 n K2 k) a0 a1 a2 a3 a4 t M = _
  unfold b_X11_bestMove_20 f_X11_bestMove_49 cT cLf
  rw [if_neg h3]
  by_cases c1 : a4 < t
  · rw [if_pos c1, if_pos c1, ql_v]
    rfl
  · rw [if_neg c1, if_neg c1]
    by_cases c2 : a1 = 0
    · rw [if_pos c2, if_pos c2, nx_val, qc_v]
      by_cases c3 : cNext a0 a2 = 0
      · rw [if_pos c3, if_pos c3]
        rfl
      · rw [if_neg c3, if_neg c3, ql_v, h]
    · rw [if_neg c2, if_neg c2, nx_val, qc_v]
      by_cases c3 : cNext (a0 - (t <<< (((3 : Int32) * a3) &&& 31))) a2 = 0
      · rw [if_pos c3, if_pos c3]
        rfl
      · rw [if_neg c3, if_neg c3, ql_v, h]
theorem bm_heap {n : Nat} (hn : 10 ≤ n) {K2 : Int32 → Int32 → Int32 → Int32 → qM → qR} {a0 a1 a2 a3 a4 : Int32} {M : qM} : f_X11_bestMove_20 n K2 n a0 a1 a2 a3 a4 1 M = oM (cH a0 a1 a2 a3 a4) M (K2 a0 a1 a2 (a3 + 1) M) := by
  obtain ⟨k, rfl⟩ : ∃ k, n = k + 4 := ⟨n - 4, by omega⟩
  have e4 : f_X11_bestMove_20 (k + 4) K2 (k + 1) a0 a1 a2 a3 a4 4 M = oM none M (K2 a0 a1 a2 (a3 + 1) M) := by
    show b_X11_bestMove_20 (k + 4) K2 (f_X11_bestMove_20 (k + 4) K2 k) a0 a1 a2 a3 a4 4 M = _
    unfold b_X11_bestMove_20
    rw [if_pos (by decide), ql_v]
    rfl
  exact bm_step (k := k + 3) (t := 1) (t' := 2) (by decide) (by decide) (bm_step (k := k + 2) (t := 2) (t' := 3) (by decide) (by decide) (bm_step (k := k + 1) (t := 3) (t' := 4) (by decide) (by decide) e4))
def cLie (a0 a3 : Int32) : Int32 := (a0 >>> (((3 : Int32) * a3) &&& 31)) &&& (7 : Int32)
def cBest (a0 a1 a2 : Int32) : Int32 := match cH a0 a1 a2 0 (cLie a0 0) with
  | some v => v
  | none => match cH a0 a1 a2 1 (cLie a0 1) with
    | some v => v
    | none => match cH a0 a1 a2 2 (cLie a0 2) with
      | some v => v
      | none => -2
theorem bm2_step {n k : Nat} (hn : 10 ≤ n) {a0 a1 a2 a3 a3' : Int32} {M : qM} (h : ¬ (3 : Int32) ≤ a3) (ha : a3 + 1 = a3') : f_X11_bestMove_2 n (k + 1) a0 a1 a2 a3 M = oM (cH a0 a1 a2 a3 (cLie a0 a3)) M (f_X11_bestMove_2 n k a0 a1 a2 a3' M) := by
  subst ha
  show b_X11_bestMove_2 n (f_X11_bestMove_2 n k) a0 a1 a2 a3 M = _
  unfold b_X11_bestMove_2
  rw [if_neg h, ql_v, bm_heap hn]
  rfl
theorem bm_val {n : Nat} (hn : 10 ≤ n) (a0 a1 a2 : Int32) (M : qM) : f_X11_bestMove n a0 a1 a2 M = some (cBest a0 a1 a2, M) := by
  obtain ⟨k, rfl⟩ : ∃ k, n = k + 4 := ⟨n - 4, by omega⟩
  unfold f_X11_bestMove
  rw [bm2_step (k := k + 3) (a3 := 0) (a3' := 1) hn (by decide) (by decide), bm2_step (k := k + 2) (a3 := 1) (a3' := 2) hn (by decide) (by decide), bm2_step (k := k + 1) (a3 := 2) (a3' := 3) hn (by decide) (by decide)]
  have e3 : f_X11_bestMove_2 (k + 4) (k + 1) a0 a1 a2 3 M = some (-2, M) := by
    show b_X11_bestMove_2 (k + 4) (f_X11_bestMove_2 (k + 4) k) a0 a1 a2 3 M = _
    unfold b_X11_bestMove_2
    rw [if_pos (by decide)]
  rw [e3]
  unfold cBest
  cases cH a0 a1 a2 0 (cLie a0 0) with
  | some v => rfl
  | none =>
    cases cH a0 a1 a2 1 (cLie a0 1) with
    | some v => rfl
    | none =>
      cases cH a0 a1 a2 2 (cLie a0 2) with
      | some v => rfl
      | none => rfl
/-! the model's side: rd is what winsAt holds -/
def mSt (h a b : Int32) : Int32 := (4 * h + (if a = 0 then 0 else 2)) + (if b = 0 then 0 else 1)
theorem gs_val (n : Nat) (h a b : Int32) (M : qM) : f_X12_gameState n h a b M = some (mSt h a b, M) := by
  unfold f_X12_gameState f_X12_gameState_12 mSt
  by_cases c1 : a = 0 <;> by_cases c2 : b = 0 <;> simp [c1, c2]
def mIn (h i : Int32) : Int32 := if i = 0 then h / 64 else if i = 1 then (h / 8) - (h / 8) / 8 * 8 else h - h / 8 * 8
theorem hi_val (n : Nat) (h i : Int32) (M : qM) : f_X12_heapIn n h i M = some (mIn h i, M) := by
  unfold f_X12_heapIn mIn
  by_cases c1 : i = 0
  · rw [if_pos c1, if_pos c1]
  · rw [if_neg c1, if_neg c1]
    by_cases c2 : i = 1
    · rw [if_pos c2, if_pos c2]
    · rw [if_neg c2, if_neg c2]
def mUn (i : Int32) : Int32 := if i = 0 then 64 else if i = 1 then 8 else 1
theorem hu_val (n : Nat) (i : Int32) (M : qM) : f_X12_heapUnit n i M = some (mUn i, M) := by
  unfold f_X12_heapUnit mUn
  by_cases c1 : i = 0
  · rw [if_pos c1, if_pos c1]
  · rw [if_neg c1, if_neg c1]
    by_cases c2 : i = 1
    · rw [if_pos c2, if_pos c2]
    · rw [if_neg c2, if_neg c2]
def mLf (h m i t : Int32) : Int32 := if m = 0 then h else h - t * mUn i
theorem wn_val {n : Nat} {h m o i t v : Int32} {M : qM} (hx : ¬ (mSt (mLf h m i t) o 1 < 0 ∨ 2048 ≤ (mSt (mLf h m i t) o 1).toNatClampNeg)) (hv : M 120 (mSt (mLf h m i t) o 1).toNatClampNeg = v) : f_X12_wins n h m o i t M = some (if v = 0 then 1 else 0, M) := by
  unfold f_X12_wins f_X12_wins_22
  unfold mLf at hx hv
  by_cases c1 : m = 0
  · rw [if_pos c1] at hx hv
    rw [if_pos c1, gs_val, qc_v, qg_in hx, hv]
    by_cases c2 : v = 0
    · rw [if_pos c2, if_pos c2]
    · rw [if_neg c2, if_neg c2]
  · rw [if_neg c1] at hx hv
    rw [if_neg c1, hu_val, qc_v, gs_val, qc_v, qg_in hx, hv]
    by_cases c2 : v = 0
    · rw [if_pos c2, if_pos c2]
    · rw [if_neg c2, if_neg c2]
