/-! the same of the reference -/
theorem d_lp7 {n : Nat} (hn : 200000 ≤ n) {p k : Nat} (hp : p < 8) (hk : k < 12) {C : List Int} {K : List Kl} (hK : Kg (cdl C) C.length K) (h240 : C.length ≤ 240) {M0 : qM} {sel : Nat → Bool} {pr : Nat → Int32} (hsel : sel = selP (M0 78 312) (M0 78) p k) (hpr : ∀ s, pr s = csV C K n (M0 81) (M0 82) (M0 78 313) p k (nI s) (M0 78) (fun i => M0 78 (192 + i))) : ∀ (m s : Nat) (M : qM), s ≤ 8 → G M → LM M C K → (∀ c, c ≠ 96 → c ≠ 97 → M c = M0 c) → qP (f_X12_leastPrice_7 n m (nI p) (nI k) (lpF 1000000000 sel pr s) (nI s) M) (fun v m' => v = lpF 1000000000 sel pr 8 ∧ G m' ∧ LM m' C K ∧ ∀ c, c ≠ 96 → c ≠ 97 → m' c = M0 c) := by
  intro m
  induction m with
  | zero => intro s M _ _ _ _; exact P_none
  | succ m ih =>
    intro s M hs hG hL hf
    show qP (b_X12_leastPrice_7 n (f_X12_leastPrice_7 n m) (nI p) (nI k) (lpF 1000000000 sel pr s) (nI s) M) _
    unfold b_X12_leastPrice_7
    have ts : (nI s).toInt = (s : Int) := nI_toInt (by omega)
    refine P_le l_8 ts (fun c => P_ret ⟨by rw [show s = 8 by omega], hG, hL, hf⟩) (fun c => ?_)
    have hs8 : s < 8 := by omega
    have nxt : ∀ (v x : Int32) (M' : qM), x.toInt = (s : Int) + 1 → v = lpF 1000000000 sel pr (s + 1) → G M' → LM M' C K → (∀ c, c ≠ 96 → c ≠ 97 → M' c = M0 c) → qP (f_X12_leastPrice_7 n m (nI p) (nI k) v x M') (fun v m' => v = lpF 1000000000 sel pr 8 ∧ G m' ∧ LM m' C K ∧ ∀ c, c ≠ 96 → c ≠ 97 → m' c = M0 c) := by
      intro v x M' hx hv g l f
      rw [hv, nI_i (a := x) (k := s + 1) (by rw [hx]; omega)]
      exact ih (s + 1) M' (by omega) g l f
    have skip : ¬ sel s = true → ∀ x : Int32, x.toInt = (s : Int) + 1 → qP (f_X12_leastPrice_7 n m (nI p) (nI k) (lpF 1000000000 sel pr s) x M) (fun v m' => v = lpF 1000000000 sel pr 8 ∧ G m' ∧ LM m' C K ∧ ∀ c, c ≠ 96 → c ≠ 97 → m' c = M0 c) := by
      intro w x hx
      refine nxt _ x M hx ?_ hG hL hf
      show _ = (if sel s = true then _ else _)
      rw [if_neg w]
    have hsy : sel s = true ↔ (s ≠ p ∧ bitI (M0 78 312) s ∧ 0 < (M0 78 (12 * s + k)).toInt) := by rw [hsel]; exact selP_y
    rw [d_knp hs8, qc_v, hf 78 (by decide) (by decide)]
    by_cases cb : bitI (M0 78 312) s
    · rw [if_pos cb]
      refine P_if (fun z => absurd z (by decide)) (fun _ => ?_)
      refine P_if (fun z => P_ql (i_add ts l_1 (by omega) (by omega)) (fun x hx => skip (fun w => (hsy.mp w).1 ?_) x hx)) (fun z => ?_)
      · have := congrArg Int32.toInt z
        rw [ts, nI_toInt (by omega)] at this
        omega
      · unfold f_X12_at
        rw [qc_v]
        refine P_qg (fun _ _ => ?_)
        rw [(ixm (p := s) (k := k) (by omega) (by omega)).1, hf 78 (by decide) (by decide)]
        refine P_le rfl l_0 (fun c4 => P_ql (i_add ts l_1 (by omega) (by omega)) (fun x hx => skip (fun w => by have h9 := (hsy.mp w).2.2; omega) x hx)) (fun c4 => ?_)
        refine P_qc (d_costOf hn hp hk hK h240 (nI s) (by rw [ts]; omega) M hG hL) ?_
        rintro r8 m9 ⟨hr, g9, o9⟩
        have l9 : LM m9 C K := LM_cg hL (fun c q1 q2 => o9 c (by omega) (by omega)) (by rw [o9 77 (by decide) (by decide)])
        rw [d_min, qc_v]
        refine P_ql (i_add ts l_1 (by omega) (by omega)) (fun x hx => nxt _ x m9 hx ?_ g9 l9 (fun c q1 q2 => by rw [o9 c q1 q2, hf c q1 q2]))
        show _ = (if sel s = true then _ else _)
        rw [if_pos (hsy.mpr ⟨fun e => z (by rw [e]), cb, by omega⟩), hr, hpr s, hf 81 (by decide) (by decide), hf 82 (by decide) (by decide), hf 78 (by decide) (by decide)]
    · rw [if_neg cb]
      exact P_if (fun _ => P_ql (i_add ts l_1 (by omega) (by omega)) (fun x hx => skip (fun w => cb (hsy.mp w).2.1) x hx)) (fun z => absurd rfl z)
