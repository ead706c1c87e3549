/-! the reference's coins of a state -/
abbrev cnS (pn : Nat → Nat) (S t : Nat) : Nat := smN (fun i => wyG (dgS t i) * pn i) S
theorem cnS_le {pn : Nat → Nat} {t : Nat} {S : Nat} (h : ∀ i, i < S → wyG (dgS t i) = 0 ∨ pn i ≤ 999) : cnS pn S t ≤ 2997 * S := smN_le (fun q hq => by
  have h1 := wy_f (dgS t q) (dg_lt t q)
  rcases h q hq with z | z
  · rw [z, Nat.zero_mul]; omega
  · have : wyG (dgS t q) * pn q ≤ 3 * 999 := Nat.mul_le_mul (by omega) z
    omega)
theorem d_coins4 {n S t : Nat} (hS : S ≤ 4) {pn : Nat → Nat} {M : qM} (h43 : M 77 43 = nI S) (hW : WT M) (hR : RwT S t M) (hpn : ∀ i, i < S → M 109 i = nI (pn i) ∧ (wyG (dgS t i) = 0 ∨ pn i ≤ 999)) : ∀ (m i : Nat), i ≤ S → qP (f_X12_coinsNow_4 n m (nI (cnS pn i t)) (nI i) M) (fun v m' => v = nI (cnS pn S t) ∧ m' = M) := by
  intro m
  induction m with
  | zero => intro i _; exact P_none
  | succ m ih =>
    intro i hi
    show qP (b_X12_coinsNow_4 n (f_X12_coinsNow_4 n m) (nI (cnS pn i t)) (nI i) M) _
    unfold b_X12_coinsNow_4
    have ti : (nI i).toInt = (i : Int) := nI_toInt (by omega)
    have ei : (nI i).toNatClampNeg = i := by rw [tnc, ti]; rfl
    have hb : cnS pn i t ≤ 2997 * i := cnS_le (fun q hq => (hpn q (by omega)).2)
    have hw := wy_f (dgS t i) (dg_lt t i)
    rw [h43]
    refine P_le (nI_toInt (by omega)) ti (fun c => P_ret ⟨by rw [show i = S by omega], rfl⟩) (fun c => P_qg (fun _ _ => ?_))
    have hiS : i < S := by omega
    obtain ⟨c1, c2⟩ := hpn i hiS
    have ed : (nI (dgS t i)).toNatClampNeg = dgS t i := by rw [tnc, nI_toInt (by have := dg_lt t i; omega)]; rfl
    rw [ei, hR i hiS]
    refine P_qg (fun _ _ => ?_)
    rw [ed, (hW _ (dg_lt t i)).2.1]
    have go : ∀ s1 : Int32, s1.toInt = ((wyG (dgS t i) * pn i : Nat) : Int) → wyG (dgS t i) * pn i ≤ 2997 → qP (f_X12_coinsNow_49 n (f_X12_coinsNow_4 n m) (nI i) (nI (cnS pn i t)) s1 M) (fun v m' => v = nI (cnS pn S t) ∧ m' = M) := by
      intro s1 h1 h2
      unfold f_X12_coinsNow_49
      refine P_ql (x := ((cnS pn (i + 1) t : Nat) : Int)) (by rw [i_add (nI_toInt (n := cnS pn i t) (by omega)) h1 (by omega) (by omega)]; show _ = ((cnS pn i t + wyG (dgS t i) * pn i : Nat) : Int); omega) (fun x1 hx1 => P_ql (i_add ti l_1 (by omega) (by omega)) (fun x2 hx2 => ?_))
      rw [nI_i hx1, nI_i (a := x2) (k := i + 1) (by rw [hx2]; omega)]
      exact ih (i + 1) (by omega)
    refine P_le (nI_toInt (n := wyG (dgS t i)) (by omega)) l_0 (fun z => ?_) (fun z => P_qg (fun _ _ => P_qg (fun _ _ => P_qg (fun _ _ => ?_))))
    · have z0 : wyG (dgS t i) = 0 := by omega
      exact go 0 (by rw [z0, Nat.zero_mul]; rfl) (by rw [z0, Nat.zero_mul]; omega)
    · have hp : pn i ≤ 999 := by
        rcases c2 with y | y
        · omega
        · exact y
      have hm : wyG (dgS t i) * pn i ≤ 3 * 999 := Nat.mul_le_mul (by omega) hp
      rw [c1]
      refine go _ ?_ (by omega)
      have e1 : ((wyG (dgS t i) : Int)) * (pn i : Int) = ((wyG (dgS t i) * pn i : Nat) : Int) := by push_cast; rfl
      rw [i_mul (nI_toInt (n := wyG (dgS t i)) (by omega)) (nI_toInt (n := pn i) (by omega)) (by rw [e1]; omega) (by rw [e1]; omega), e1]
theorem d_coinsN {n S t : Nat} (hS : S ≤ 4) {pn : Nat → Nat} {M : qM} (h43 : M 77 43 = nI S) (hW : WT M) (hR : RwT S t M) (hpn : ∀ i, i < S → M 109 i = nI (pn i) ∧ (wyG (dgS t i) = 0 ∨ pn i ≤ 999)) : qP (f_X12_coinsNow n M) (fun v m' => v = nI (cnS pn S t) ∧ m' = M) := by
  unfold f_X12_coinsNow
  exact d_coins4 hS h43 hW hR hpn n 0 (Nat.zero_le _)
