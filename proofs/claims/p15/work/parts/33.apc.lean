/-! the least price of a kind's go -/
def lpF (far : Int32) (sel : Nat → Bool) (pr : Nat → Int32) : Nat → Int32
  | 0 => far
  | s + 1 => if sel s = true then qmin (lpF far sel pr s) (pr s) else lpF far sel pr s
def selP (b : Int32) (T : Nat → Int32) (p k s : Nat) : Bool := decide (s ≠ p ∧ bitI b s ∧ 0 < (T (12 * s + k)).toInt)
theorem selP_y {b : Int32} {T : Nat → Int32} {p k s : Nat} : selP b T p k s = true ↔ (s ≠ p ∧ bitI b s ∧ 0 < (T (12 * s + k)).toInt) := decide_eq_true_iff
theorem lpF_2 {sel : Nat → Bool} {pr : Nat → Int32} (h : ∀ s, s < 8 → sel s = true → 0 ≤ (pr s).toInt ∧ (pr s).toInt ≤ 999) : ∀ s, s ≤ 8 → (lpF 1048576 sel pr s = 1048576 ∧ lpF 1000000000 sel pr s = 1000000000) ∨ ∃ x, x ≤ 999 ∧ lpF 1048576 sel pr s = nI x ∧ lpF 1000000000 sel pr s = nI x := by
  intro s
  induction s with
  | zero => intro _; exact Or.inl ⟨rfl, rfl⟩
  | succ s ih =>
    intro hs
    have ih := ih (by omega)
    by_cases c : sel s = true
    · obtain ⟨p0, p1⟩ := h s (by omega) c
      obtain ⟨y, hy, ey⟩ : ∃ y : Nat, y ≤ 999 ∧ pr s = nI y := ⟨(pr s).toInt.toNat, by omega, nI_i (by omega)⟩
      have ty : (nI y).toInt = (y : Int) := nI_toInt (by omega)
      refine Or.inr ?_
      show ∃ x, x ≤ 999 ∧ (if sel s = true then qmin (lpF 1048576 sel pr s) (pr s) else _) = nI x ∧ (if sel s = true then qmin (lpF 1000000000 sel pr s) (pr s) else _) = nI x
      rw [if_pos c, if_pos c, ey]
      rcases ih with ⟨e1, e2⟩ | ⟨x, hx, e1, e2⟩
      · rw [e1, e2]
        exact ⟨y, hy, nI_i (by have := i_min (show (1048576 : Int32).toInt = 1048576 from rfl) ty; omega), nI_i (by have := i_min (show (1000000000 : Int32).toInt = 1000000000 from rfl) ty; omega)⟩
      · rw [e1, e2]
        exact ⟨min x y, by omega, nI_i (by have := i_min (nI_toInt (n := x) (by omega)) ty; omega), nI_i (by have := i_min (nI_toInt (n := x) (by omega)) ty; omega)⟩
    · show ((if sel s = true then _ else lpF 1048576 sel pr s) = _ ∧ (if sel s = true then _ else lpF 1000000000 sel pr s) = _) ∨ ∃ x, x ≤ 999 ∧ (if sel s = true then _ else lpF 1048576 sel pr s) = nI x ∧ (if sel s = true then _ else lpF 1000000000 sel pr s) = nI x
      rw [if_neg c, if_neg c]
      exact ih
theorem c_lp7 {n : Nat} (hn : 200000 ≤ n) {j p k : Nat} (hj : q_isLaw j) (hp : p < 8) (hk : k < 12) {C : List Int} {K : List Kl} (hK : Kg (cdl C) C.length K) {M0 : qM} {sel : Nat → Bool} {pr : Nat → Int32} (hsel : sel = selP (M0 7 8) (M0 9) p k) (hpr : ∀ s, pr s = csV C K n (M0 4) (M0 5) (M0 7 9) p k (nI s) (M0 9) (M0 11)) : ∀ (m s : Nat) (M : qM), s ≤ 8 → G M → LJ j M C K → (∀ c, c ≠ 34 → c ≠ 35 → c ≠ 36 → M c = M0 c) → qP (f_X7_leastPrice_7 n 7 j m (nI p) (nI k) (lpF 1048576 sel pr s) (nI s) M) (fun v m' => v = lpF 1048576 sel pr 8 ∧ G m' ∧ LJ j m' C K ∧ ∀ c, c ≠ 34 → c ≠ 35 → c ≠ 36 → m' c = M0 c) := by
  intro m
  induction m with
  | zero => intro s M _ _ _ _; exact P_none
  | succ m ih =>
    intro s M hs hG hL hf
    show qP (b_X7_leastPrice_7 n 7 j (f_X7_leastPrice_7 n 7 j m) (nI p) (nI k) (lpF 1048576 sel pr s) (nI s) M) _
    unfold b_X7_leastPrice_7
    have ts : (nI s).toInt = (s : Int) := nI_toInt (by omega)
    refine P_le l_8 ts (fun c => P_ret ⟨by rw [show s = 8 by omega], hG, hL, hf⟩) (fun c => ?_)
    have hs8 : s < 8 := by omega
    have nxt : ∀ (v x : Int32) (M' : qM), x.toInt = (s : Int) + 1 → v = lpF 1048576 sel pr (s + 1) → G M' → LJ j M' C K → (∀ c, c ≠ 34 → c ≠ 35 → c ≠ 36 → M' c = M0 c) → qP (f_X7_leastPrice_7 n 7 j m (nI p) (nI k) v x M') (fun v m' => v = lpF 1048576 sel pr 8 ∧ G m' ∧ LJ j m' C K ∧ ∀ c, c ≠ 34 → c ≠ 35 → c ≠ 36 → m' c = M0 c) := by
      intro v x M' hx hv g l f
      rw [hv, nI_i (a := x) (k := s + 1) (by rw [hx]; omega)]
      exact ih (s + 1) M' (by omega) g l f
    have skip : ¬ sel s = true → ∀ x : Int32, x.toInt = (s : Int) + 1 → qP (f_X7_leastPrice_7 n 7 j m (nI p) (nI k) (lpF 1048576 sel pr s) x M) (fun v m' => v = lpF 1048576 sel pr 8 ∧ G m' ∧ LJ j m' C K ∧ ∀ c, c ≠ 34 → c ≠ 35 → c ≠ 36 → m' c = M0 c) := by
      intro w x hx
      refine nxt _ x M hx ?_ hG hL hf
      show _ = (if sel s = true then _ else _)
      rw [if_neg w]
    have hsy : sel s = true ↔ (s ≠ p ∧ bitI (M0 7 8) s ∧ 0 < (M0 9 (12 * s + k)).toInt) := by rw [hsel]; exact selP_y
    refine P_if (fun z => P_ql (i_add ts l_1 (by omega) (by omega)) (fun x hx => skip (fun w => (hsy.mp w).1 ?_) x hx)) (fun z => ?_)
    · have := congrArg Int32.toInt z
      rw [ts, nI_toInt (by omega)] at this
      omega
    · rw [c_knp hs8, qc_v, hf 7 (by decide) (by decide) (by decide)]
      by_cases cb : bitI (M0 7 8) s
      · rw [if_pos cb]
        refine P_if (fun z => absurd z (by decide)) (fun _ => P_qg (fun _ _ => ?_))
        have ei : (nI s * (12 : Int32) + nI k).toNatClampNeg = 12 * s + k := by
          rw [tnc, i_add (i_mul ts l_12 (by omega) (by omega)) (nI_toInt (by omega)) (by omega) (by omega)]; omega
        rw [ei, hf (7 + 2) (by decide) (by decide) (by decide)]
        refine P_le rfl l_0 (fun c4 => P_ql (i_add ts l_1 (by omega) (by omega)) (fun x hx => skip (fun w => by have h9 : 0 < (M0 (7 + 2) (12 * s + k)).toInt := (hsy.mp w).2.2; omega) x hx)) (fun c4 => ?_)
        refine P_qc (c_price hn hj hp hk hK (nI s) (by rw [ts]; omega) M hG hL) ?_
        rintro r6 m7 ⟨hr, g7, o7⟩
        have l7 : LJ j m7 C K := LJ_cg hL (fun q hq => by rcases hj with rfl | rfl <;> exact o7 _ (by omega) (by omega) (by omega))
        refine P_ql rfl (fun x8 hx8 => P_ql (i_add ts l_1 (by omega) (by omega)) (fun x9 hx9 => nxt x8 x9 m7 hx9 ?_ g7 l7 (fun c q1 q2 q3 => by rw [o7 c q1 q2 q3, hf c q1 q2 q3])))
        show _ = (if sel s = true then _ else _)
        rw [if_pos (hsy.mpr ⟨fun e => z (by rw [e]), cb, show 0 < (M0 (7 + 2) (12 * s + k)).toInt by omega⟩), Int32.toInt_inj.mp hx8, hr, hpr s, hf 4 (by decide) (by decide) (by decide), hf 5 (by decide) (by decide) (by decide), hf 7 (by decide) (by decide) (by decide), hf 9 (by decide) (by decide) (by decide), hf 11 (by decide) (by decide) (by decide)]
      · rw [if_neg cb]
        exact P_if (fun _ => P_ql (i_add ts l_1 (by omega) (by omega)) (fun x hx => skip (fun w => cb (hsy.mp w).2.1) x hx)) (fun z => absurd rfl z)
