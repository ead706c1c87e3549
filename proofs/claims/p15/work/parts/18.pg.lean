def conv (h : Int32) : Int32 := (mIn h 0 ||| (mIn h 1 <<< ((3 : Int32) &&& 31))) ||| (mIn h 2 <<< ((6 : Int32) &&& 31))
def mNx (h o : Int32) : Int32 := cNext (conv h) o
def mT (h m o i t : Int32) (r : Option Int32) : Option Int32 := if mIn h i < t then r else if mNx (mLf h m i t) o = 0 then some ((10 : Int32) * i + t) else r
def mH (h m o i : Int32) : Option Int32 := mT h m o i 1 (mT h m o i 2 (mT h m o i 3 none))
/-- what is read at a move is right -/
def mRd (M : qM) (h m o i t : Int32) : Prop := ¬ mIn h i < t → ¬ (mSt (mLf h m i t) o 1 < 0 ∨ 2048 ≤ (mSt (mLf h m i t) o 1).toNatClampNeg) ∧ M 120 (mSt (mLf h m i t) o 1).toNatClampNeg = mNx (mLf h m i t) o
theorem cNext01 (a b : Int32) : cNext a b = 0 ∨ cNext a b = 1 := by
  unfold cNext
  split
  · split
    · split
      · exact Or.inl rfl
      · exact Or.inr rfl
    · exact Or.inl rfl
  · split
    · exact Or.inl rfl
    · exact Or.inr rfl
theorem wm_step {n k : Nat} {K3 : Int32 → Int32 → Int32 → Int32 → qM → qR} {h m o i t t' : Int32} {M : qM} {r : Option Int32} (h3 : ¬ (3 : Int32) < t) (ht : t + 1 = t') (hr : mRd M h m o i t) (e : f_X12_winningMove_12 n K3 k h m o i t' M = oM r M (K3 h m o (i + 1) M)) : f_X12_winningMove_12 n K3 (k + 1) h m o i t M = oM (mT h m o i t r) M (K3 h m o (i + 1) M) := by
  subst ht
  show b_X12_winningMove_12 n K3 (f_X12_winningMove_12 n K3 k) h m o i t M = _
  unfold b_X12_winningMove_12 mT
  rw [if_neg h3, hi_val, qc_v]
  by_cases c1 : mIn h i < t
  · rw [if_pos c1, if_pos c1, ql_v, e]
  · rw [if_neg c1, if_neg c1]
    obtain ⟨g1, g2⟩ := hr c1
    rw [wn_val g1 g2, qc_v]
    by_cases c2 : mNx (mLf h m i t) o = 0
    · rw [if_pos c2, if_neg (by decide), if_pos c2]
      rfl
    · rw [if_neg c2, if_pos rfl, if_neg c2, ql_v, e]
theorem wm_heap {n : Nat} (hn : 10 ≤ n) {K3 : Int32 → Int32 → Int32 → Int32 → qM → qR} {h m o i : Int32} {M : qM} (r1 : mRd M h m o i 1) (r2 : mRd M h m o i 2) (r3 : mRd M h m o i 3) : f_X12_winningMove_12 n K3 n h m o i 1 M = oM (mH h m o i) M (K3 h m o (i + 1) M) := by
  obtain ⟨k, rfl⟩ : ∃ k, n = k + 4 := ⟨n - 4, by omega⟩
  have e4 : f_X12_winningMove_12 (k + 4) K3 (k + 1) h m o i 4 M = oM none M (K3 h m o (i + 1) M) := by
    show b_X12_winningMove_12 (k + 4) K3 (f_X12_winningMove_12 (k + 4) K3 k) h m o i 4 M = _
    unfold b_X12_winningMove_12
    rw [if_pos (by decide), ql_v]
    rfl
  exact wm_step (k := k + 3) (t := 1) (t' := 2) (by decide) (by decide) r1 (wm_step (k := k + 2) (t := 2) (t' := 3) (by decide) (by decide) r2 (wm_step (k := k + 1) (t := 3) (t' := 4) (by decide) (by decide) r3 e4))
def mBest (h m o : Int32) : Int32 := match mH h m o 0 with
  | some v => v
  | none => match mH h m o 1 with
    | some v => v
    | none => match mH h m o 2 with
      | some v => v
      | none => -1
def mRdA (M : qM) (h m o : Int32) : Prop := ∀ i t : Int32, (i = 0 ∨ i = 1 ∨ i = 2) → (t = 1 ∨ t = 2 ∨ t = 3) → mRd M h m o i t
theorem wm3_step {n k : Nat} (hn : 10 ≤ n) {h m o i i' : Int32} {M : qM} (hi : ¬ (3 : Int32) ≤ i) (hi2 : i = 0 ∨ i = 1 ∨ i = 2) (ha : i + 1 = i') (hr : mRdA M h m o) : f_X12_winningMove_3 n (k + 1) h m o i M = oM (mH h m o i) M (f_X12_winningMove_3 n k h m o i' M) := by
  subst ha
  show b_X12_winningMove_3 n (f_X12_winningMove_3 n k) h m o i M = _
  unfold b_X12_winningMove_3
  rw [if_neg hi, wm_heap hn (hr i 1 hi2 (by decide)) (hr i 2 hi2 (by decide)) (hr i 3 hi2 (by decide))]
theorem wm_val {n : Nat} (hn : 10 ≤ n) {h m o : Int32} {M : qM} (hr : mRdA M h m o) : f_X12_winningMove n h m o M = some (mBest h m o, M) := by
  obtain ⟨k, rfl⟩ : ∃ k, n = k + 4 := ⟨n - 4, by omega⟩
  unfold f_X12_winningMove
  rw [wm3_step (k := k + 3) (i := 0) (i' := 1) hn (by decide) (by decide) (by decide) hr, wm3_step (k := k + 2) (i := 1) (i' := 2) hn (by decide) (by decide) (by decide) hr, wm3_step (k := k + 1) (i := 2) (i' := 3) hn (by decide) (by decide) (by decide) hr]
  have e3 : f_X12_winningMove_3 (k + 4) (k + 1) h m o 3 M = some (-1, M) := by
    show b_X12_winningMove_3 (k + 4) (f_X12_winningMove_3 (k + 4) k) h m o 3 M = _
    unfold b_X12_winningMove_3
    rw [if_pos (by decide)]
  rw [e3]
  unfold mBest
  cases mH h m o 0 with
  | some v => rfl
  | none =>
    cases mH h m o 1 with
    | some v => rfl
    | none =>
      cases mH h m o 2 with
      | some v => rfl
      | none => rfl
/-! finite facts -/
def uN : Nat → Nat
  | 0 => 64
  | 1 => 8
  | _ => 1
set_option maxRecDepth 100000 in
theorem fa_move : ∀ h, h < 512 → ∀ i, i < 3 → ∀ t, t < 3 → mIn (nI h) (nI i) < nI (t + 1) ∨ ((t + 1) * uN i ≤ h ∧ nI h - nI (t + 1) * mUn (nI i) = nI (h - (t + 1) * uN i)) := by decide +kernel
set_option maxRecDepth 100000 in
theorem fa_st : ∀ h, h < 512 → mSt (nI h) 0 1 = nI (4 * h + 1) ∧ mSt (nI h) 1 1 = nI (4 * h + 3) ∧ mSt (nI h) 0 0 = nI (4 * h) ∧ mSt (nI h) 1 0 = nI (4 * h + 2) := by decide +kernel
set_option maxRecDepth 100000 in
theorem fa_win : ∀ h, h < 512 → mNx (nI h) 1 = (if mBest (nI h) 1 1 = -1 then 0 else 1) ∧ mNx (nI h) 0 = (if mBest (nI h) 0 1 = -1 then 0 else 1) := by decide +kernel
set_option maxRecDepth 100000 in
theorem fa_best : ∀ a, a < 8 → ∀ b, b < 8 → ∀ c, c < 8 → ∀ m, m < 2 → ∀ o, o < 2 → cBest ((nI a ||| (nI b <<< ((3 : Int32) &&& 31))) ||| (nI c <<< ((6 : Int32) &&& 31))) (nI m) (nI o) = (if mBest (nI (64 * a + 8 * b + c)) (nI m) (nI o) = -1 then -2 else mBest (nI (64 * a + 8 * b + c)) (nI m) (nI o)) := by decide +kernel
set_option maxRecDepth 100000 in
theorem fa_ne : ∀ T, T < 512 → ∀ m, m < 2 → ∀ o, o < 2 → ¬ mBest (nI T) (nI m) (nI o) = -2 := by decide +kernel
