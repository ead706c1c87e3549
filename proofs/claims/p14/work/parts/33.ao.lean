/-! the model's ways, and codes of its states -/
def wyA (w : Nat) : Nat := [0, 0, 1, 1, 0, 1, 1, 2, 2, 2, 0, 1, 1, 2, 2, 2, 3, 3, 3, 3].getD w 0
def wyG (w : Nat) : Nat := [0, 1, 0, 0, 2, 1, 1, 0, 0, 0, 3, 2, 2, 1, 1, 1, 0, 0, 0, 0].getD w 0
def wyC (w : Nat) : Nat := [0, 0, 0, 1, 0, 0, 1, 0, 1, 2, 0, 0, 1, 0, 1, 2, 0, 1, 2, 3].getD w 0
abbrev WT (M : qM) : Prop := ∀ w, w < 20 → M 102 w = nI (wyA w) ∧ M 103 w = nI (wyG w) ∧ M 104 w = nI (wyC w)
def ckW (E : qR) : Bool := match E with
  | some (_, M) => (List.range 20).all fun w => decide (M 102 w = nI (wyA w)) && (decide (M 103 w = nI (wyG w)) && decide (M 104 w = nI (wyC w)))
  | none => false
theorem ckW_ok : ckW (f_model 200000 q0) = true := by decide +kernel
theorem freshW {M0 : qM} (e : f_model 200000 q0 = some (0, M0)) : WT M0 := by
  intro w hw
  have h := ckW_ok
  rw [e] at h
  have h2 : ((List.range 20).all fun w => decide (M0 102 w = nI (wyA w)) && (decide (M0 103 w = nI (wyG w)) && decide (M0 104 w = nI (wyC w)))) = true := h
  rw [List.all_eq_true] at h2
  have h3 := h2 w (List.mem_range.mpr hw)
  rw [Bool.and_eq_true, Bool.and_eq_true, decide_eq_true_eq, decide_eq_true_eq, decide_eq_true_eq] at h3
  exact h3
theorem wy_f : ∀ w, w < 20 → wyA w + wyG w ≤ 3 ∧ wyC w ≤ wyA w := by decide +kernel
theorem wy_try : ∀ w, w < 20 → wyA w + wyG w < 3 → ∀ c, c < 2 → ∃ w', w' < 20 ∧ w < w' ∧ wyA w' = wyA w + 1 ∧ wyG w' = wyG w ∧ wyC w' = wyC w + c := by
  intro w hw h c hc
  have := (by decide +kernel : ∀ w, w < 20 → wyA w + wyG w < 3 → ∀ c, c < 2 → (List.range 20).any (fun w' => decide (w < w') && (decide (wyA w' = wyA w + 1) && (decide (wyG w' = wyG w) && decide (wyC w' = wyC w + c)))) = true) w hw h c hc
  rw [List.any_eq_true] at this
  obtain ⟨w', h1, h2⟩ := this
  simp only [Bool.and_eq_true, decide_eq_true_eq] at h2
  exact ⟨w', List.mem_range.mp h1, h2⟩
theorem wy_buy : ∀ w, w < 20 → wyA w + wyG w < 3 → ∃ w', w' < 20 ∧ w < w' ∧ wyA w' = wyA w ∧ wyG w' = wyG w + 1 ∧ wyC w' = wyC w := by
  intro w hw h
  have := (by decide +kernel : ∀ w, w < 20 → wyA w + wyG w < 3 → (List.range 20).any (fun w' => decide (w < w') && (decide (wyA w' = wyA w) && (decide (wyG w' = wyG w + 1) && decide (wyC w' = wyC w)))) = true) w hw h
  rw [List.any_eq_true] at this
  obtain ⟨w', h1, h2⟩ := this
  simp only [Bool.and_eq_true, decide_eq_true_eq] at h2
  exact ⟨w', List.mem_range.mp h1, h2⟩
theorem wy_inj : ∀ w, w < 20 → ∀ w', w' < 20 → wyA w = wyA w' → wyG w = wyG w' → wyC w = wyC w' → w = w' := by decide +kernel
theorem d_way3 {n w : Nat} (hw : w < 20) {M : qM} (hW : WT M) : ∀ (m i : Nat), i ≤ w → qP (f_X12_wayWith_3 n m (nI (wyA w)) (nI (wyG w)) (nI (wyC w)) (nI i) M) (fun v m' => v = nI w ∧ m' = M) := by
  intro m
  induction m with
  | zero => intro i _; exact P_none
  | succ m ih =>
    intro i hi
    show qP (b_X12_wayWith_3 n (f_X12_wayWith_3 n m) (nI (wyA w)) (nI (wyG w)) (nI (wyC w)) (nI i) M) _
    unfold b_X12_wayWith_3
    have ti : (nI i).toInt = (i : Int) := nI_toInt (by omega)
    have ei : (nI i).toNatClampNeg = i := by rw [tnc, ti]; rfl
    have hi20 : i < 20 := by omega
    have fi := wy_f i hi20
    have fw := wy_f w hw
    have nx : ¬ i = w → qP (ql (nI i + (1 : Int32)) (fun x => f_X12_wayWith_3 n m (nI (wyA w)) (nI (wyG w)) (nI (wyC w)) x M)) (fun v m' => v = nI w ∧ m' = M) := fun hne => P_ql (i_add ti l_1 (by omega) (by omega)) (fun x hx => by
      rw [nI_i (a := x) (k := i + 1) (by rw [hx]; omega)]
      exact ih (i + 1) (by omega))
    refine P_le (show (20 : Int32).toInt = 20 from rfl) ti (fun z => by omega) (fun _ => P_qg (fun _ _ => ?_))
    obtain ⟨h1, h2, h3⟩ := hW i hi20
    rw [ei, h1, h2, h3]
    refine P_if (fun c1 => P_qg (fun _ _ => P_if (fun c2 => P_qg (fun _ _ => P_if (fun c3 => P_ret ⟨?_, rfl⟩) (fun c3 => nx (fun e => c3 (by rw [e]))))) (fun c2 => nx (fun e => c2 (by rw [e]))))) (fun c1 => nx (fun e => c1 (by rw [e])))
    rw [wy_inj i hi20 w hw (nI_inj (by omega) (by omega) c1) (nI_inj (by omega) (by omega) c2) (nI_inj (by omega) (by omega) c3)]
theorem d_way {n w : Nat} (hw : w < 20) {M : qM} (hW : WT M) {a1 a2 a3 : Int32} (h1 : a1 = nI (wyA w)) (h2 : a2 = nI (wyG w)) (h3 : a3 = nI (wyC w)) : qP (f_X12_wayWith n a1 a2 a3 M) (fun v m' => v = nI w ∧ m' = M) := by
  unfold f_X12_wayWith
  rw [h1, h2, h3]
  exact d_way3 hw hW n 0 (Nat.zero_le _)
/-! digits to the base 20 -/
def dgS (t i : Nat) : Nat := t / 20 ^ i % 20
def cdS (f : Nat → Nat) : Nat → Nat
  | 0 => 0
  | i + 1 => cdS f i + f i * 20 ^ i
theorem cdS_cg {f g : Nat → Nat} : ∀ {i : Nat}, (∀ q, q < i → f q = g q) → cdS f i = cdS g i := by
  intro i
  induction i with
  | zero => intro _; rfl
  | succ i ih =>
    intro h
    show cdS f i + f i * 20 ^ i = cdS g i + g i * 20 ^ i
    rw [ih (fun q hq => h q (by omega)), h i (by omega)]
theorem cdS_lt {f : Nat → Nat} : ∀ {i : Nat}, (∀ q, q < i → f q < 20) → cdS f i < 20 ^ i := by
  intro i
  induction i with
  | zero => intro _; exact (by decide : 0 < 1)
  | succ i ih =>
    intro h
    show cdS f i + f i * 20 ^ i < 20 ^ (i + 1)
    have h1 := ih (fun q hq => h q (by omega))
    have h2 : f i ≤ 19 := by have := h i (by omega); omega
    have h3 : f i * 20 ^ i ≤ 19 * 20 ^ i := Nat.mul_le_mul_right _ h2
    rw [Nat.pow_succ]
    omega
theorem dg_lt (t i : Nat) : dgS t i < 20 := Nat.mod_lt _ (by decide)
theorem cdS_dg {t : Nat} : ∀ {i : Nat}, cdS (dgS t) i = t % 20 ^ i := by
  intro i
  induction i with
  | zero => show 0 = t % 1; omega
  | succ i ih =>
    show cdS (dgS t) i + t / 20 ^ i % 20 * 20 ^ i = t % 20 ^ (i + 1)
    rw [ih, Nat.pow_succ, Nat.mod_mul, Nat.mul_comm]
theorem cdS_t {t S : Nat} (h : t < 20 ^ S) : cdS (dgS t) S = t := by rw [cdS_dg, Nat.mod_eq_of_lt h]
theorem dg_cd {f : Nat → Nat} : ∀ {S : Nat}, (∀ q, q < S → f q < 20) → ∀ i, i < S → dgS (cdS f S) i = f i := by
  intro S
  induction S with
  | zero => intro _ i hi; omega
  | succ S ih =>
    intro h i hi
    show (cdS f S + f S * 20 ^ S) / 20 ^ i % 20 = f i
    have hS := cdS_lt (f := f) (i := S) (fun q hq => h q (by omega))
    by_cases c : i = S
    · subst c
      rw [Nat.add_mul_div_right _ _ (Nat.pow_pos (by decide)), Nat.div_eq_of_lt hS, Nat.zero_add, Nat.mod_eq_of_lt (h i (by omega))]
    · have e : f S * 20 ^ S = f S * 20 ^ (S - i - 1) * 20 * 20 ^ i := by
        rw [show (20 : Nat) ^ S = 20 ^ (S - i - 1) * 20 * 20 ^ i by
          rw [Nat.mul_assoc, ← Nat.pow_succ', ← Nat.pow_add]
          congr 1
          omega]
        rw [Nat.mul_assoc, Nat.mul_assoc, Nat.mul_assoc]
      rw [e, Nat.add_mul_div_right _ _ (Nat.pow_pos (by decide)), Nat.add_mul_mod_self_right]
      exact ih (fun q hq => h q (by omega)) i (by omega)
theorem dg_out {t S i : Nat} (h : t < 20 ^ S) (hi : S ≤ i) : dgS t i = 0 := by
  unfold dgS
  rw [Nat.div_eq_of_lt (Nat.lt_of_lt_of_le h (Nat.pow_le_pow_right (by decide) hi))]
/-- a digit changed -/
def stS (t i w : Nat) : Nat → Nat := fun q => if q = i then w else dgS t q
def rpS (S t i w : Nat) : Nat := cdS (stS t i w) S
theorem rp_f {S t i w : Nat} (hw : w < 20) (hi : i < S) : rpS S t i w < 20 ^ S ∧ dgS (rpS S t i w) i = w ∧ ∀ q, q < S → q ≠ i → dgS (rpS S t i w) q = dgS t q := by
  have hd : ∀ q, q < S → stS t i w q < 20 := by
    intro q _
    unfold stS
    by_cases c : q = i
    · rw [if_pos c]; exact hw
    · rw [if_neg c]; exact dg_lt t q
  refine ⟨cdS_lt hd, ?_, fun q hq hne => ?_⟩
  · unfold rpS
    rw [dg_cd hd i hi]
    unfold stS
    rw [if_pos rfl]
  · unfold rpS
    rw [dg_cd hd q hq]
    unfold stS
    rw [if_neg hne]
theorem cd_mono {f g : Nat → Nat} {i : Nat} (hlt : f i < g i) : ∀ {S : Nat}, i < S → (∀ q, q < S → q ≠ i → f q = g q) → cdS f S < cdS g S := by
  intro S
  induction S with
  | zero => intro h; omega
  | succ S ih =>
    intro h he
    show cdS f S + f S * 20 ^ S < cdS g S + g S * 20 ^ S
    by_cases c : i = S
    · subst c
      rw [cdS_cg (fun q hq => he q (by omega) (by omega))]
      have : f i * 20 ^ i < g i * 20 ^ i := Nat.mul_lt_mul_of_pos_right hlt (Nat.pow_pos (by decide))
      omega
    · rw [he S (by omega) (fun z => c z.symm)]
      have := ih (by omega) (fun q hq => he q (by omega))
      omega
theorem rp_gt {S t i w : Nat} (ht : t < 20 ^ S) (hi : i < S) (hw : dgS t i < w) : t < rpS S t i w := by
  have := cd_mono (f := dgS t) (g := stS t i w) (i := i) (by unfold stS; rw [if_pos rfl]; exact hw) (S := S) hi (fun q _ hne => by unfold stS; rw [if_neg hne])
  rw [cdS_t ht] at this
  exact this
/-! a state's code among the class's states -/
def eWy (w : Nat) : Nat := wyA w + wyG w
def bWy (w : Nat) : Nat := if wyC w = 0 then 0 else 1
def enS (e0 e1 e2 e3 b0 b1 b2 : Nat) : Nat := e0 + 4 * e1 + 16 * e2 + 64 * e3 + 256 * b0 + 512 * b1 + 1024 * b2
def piS (t : Nat) : Nat := enS (eWy (dgS t 0)) (eWy (dgS t 1)) (eWy (dgS t 2)) (eWy (dgS t 3)) (bWy (dgS t 0)) (bWy (dgS t 1)) (bWy (dgS t 2))
theorem en_f : ∀ e0, e0 < 4 → ∀ e1, e1 < 4 → ∀ e2, e2 < 4 → ∀ e3, e3 < 4 → ∀ b0, b0 < 2 → ∀ b1, b1 < 2 → ∀ b2, b2 < 2 → enS e0 e1 e2 e3 b0 b1 b2 < 2048 ∧ exS (enS e0 e1 e2 e3 b0 b1 b2) 0 = e0 ∧ exS (enS e0 e1 e2 e3 b0 b1 b2) 1 = e1 ∧ exS (enS e0 e1 e2 e3 b0 b1 b2) 2 = e2 ∧ exS (enS e0 e1 e2 e3 b0 b1 b2) 3 = e3 ∧ btS (enS e0 e1 e2 e3 b0 b1 b2) 0 = b0 ∧ btS (enS e0 e1 e2 e3 b0 b1 b2) 1 = b1 ∧ btS (enS e0 e1 e2 e3 b0 b1 b2) 2 = b2 := by
  intro e0 h0 e1 h1 e2 h2 e3 h3 b0 g0 b1 g1 b2 g2
  unfold enS exS btS
  refine ⟨by omega, ?_, ?_, ?_, ?_, ?_, ?_, ?_⟩
  · show _ / 1 % 4 = _; omega
  · show _ / 4 % 4 = _; omega
  · show _ / 16 % 4 = _; omega
  · show _ / 64 % 4 = _; omega
  · show _ / 256 % 2 = _; omega
  · show _ / 512 % 2 = _; omega
  · show _ / 1024 % 2 = _; omega
theorem or_n8 : ∀ x, x < 2112 → ∀ k, k < 3 → x ||| 2 ^ (8 + k) = x + (1 - x / 2 ^ (8 + k) % 2) * 2 ^ (8 + k) := by decide +kernel
theorem pi_f (t : Nat) : piS t < 2048 ∧ (∀ i, i < 4 → exS (piS t) i = eWy (dgS t i)) ∧ ∀ i, i < 3 → btS (piS t) i = bWy (dgS t i) := by
  have he : ∀ i, eWy (dgS t i) < 4 := fun i => by unfold eWy; have := (wy_f (dgS t i) (dg_lt t i)).1; omega
  have hb : ∀ i, bWy (dgS t i) < 2 := fun i => by
    unfold bWy
    by_cases c : wyC (dgS t i) = 0
    · rw [if_pos c]; decide
    · rw [if_neg c]; decide
  obtain ⟨h, h0, h1, h2, h3, g0, g1, g2⟩ := en_f _ (he 0) _ (he 1) _ (he 2) _ (he 3) _ (hb 0) _ (hb 1) _ (hb 2)
  refine ⟨h, fun i hi => ?_, fun i hi => ?_⟩
  · rcases (show i = 0 ∨ i = 1 ∨ i = 2 ∨ i = 3 by omega) with rfl | rfl | rfl | rfl
    · exact h0
    · exact h1
    · exact h2
    · exact h3
  · rcases (show i = 0 ∨ i = 1 ∨ i = 2 by omega) with rfl | rfl | rfl
    · exact g0
    · exact g1
    · exact g2
theorem pi_rp {S t i w : Nat} (hS : S ≤ 4) (ht : t < 20 ^ S) (hi : i < S) (hw : w < 20) (he : eWy w = eWy (dgS t i) + 1) : (bWy w = bWy (dgS t i) ∨ 3 ≤ i → piS (rpS S t i w) = nxS (piS t) i) ∧ (i < 3 → bWy w = 1 → piS (rpS S t i w) = thS (piS t) i) := by
  obtain ⟨r1, r2, r3⟩ := rp_f (t := t) hw hi
  have ro : ∀ q, q ≠ i → dgS (rpS S t i w) q = dgS t q := fun q hq => by
    by_cases c : q < S
    · exact r3 q c hq
    · rw [dg_out r1 (by omega), dg_out ht (by omega)]
  have p0 := pi_f t
  have hb : bWy (dgS t i) ≤ 1 := by
    unfold bWy
    by_cases c : wyC (dgS t i) = 0
    · rw [if_pos c]; decide
    · rw [if_neg c]; decide
  constructor
  · intro h
    unfold nxS
    rcases (show i = 0 ∨ i = 1 ∨ i = 2 ∨ i = 3 by omega) with rfl | rfl | rfl | rfl
    · have hb0 := h.resolve_right (by omega)
      unfold piS enS
      rw [r2, ro 1 (by decide), ro 2 (by decide), ro 3 (by decide), he, hb0]; omega
    · have hb0 := h.resolve_right (by omega)
      unfold piS enS
      rw [r2, ro 0 (by decide), ro 2 (by decide), ro 3 (by decide), he, hb0]; omega
    · have hb0 := h.resolve_right (by omega)
      unfold piS enS
      rw [r2, ro 0 (by decide), ro 1 (by decide), ro 3 (by decide), he, hb0]; omega
    · unfold piS enS
      rw [r2, ro 0 (by decide), ro 1 (by decide), ro 2 (by decide), he]; omega
  · intro hi3 hw1
    have e3 : exS (piS t) i < 3 := by
      rw [p0.2.1 i (by omega)]
      have := (wy_f w hw).1
      unfold eWy at he ⊢
      omega
    have hbt : bWy (dgS t i) = (piS t + 4 ^ i) / 2 ^ (8 + i) % 2 := by
      have h5 := p0.2.2 i hi3
      rw [← h5]
      have q := p0.1
      have h6 := p0.2.1
      have a0 := h6 0 (by decide)
      have a1 := h6 1 (by decide)
      have a2 := h6 2 (by decide)
      have a3 := h6 3 (by decide)
      unfold btS
      unfold exS at e3
      generalize piS t = x at *
      rcases (show i = 0 ∨ i = 1 ∨ i = 2 by omega) with rfl | rfl | rfl
      · show x / 256 % 2 = (x + 1) / 256 % 2
        have e3' : x / 1 % 4 < 3 := e3
        omega
      · show x / 512 % 2 = (x + 4) / 512 % 2
        have e3' : x / 4 % 4 < 3 := e3
        omega
      · show x / 1024 % 2 = (x + 16) / 1024 % 2
        have e3' : x / 16 % 4 < 3 := e3
        omega
    have p64 : 4 ^ i ≤ 16 := Nat.le_trans (Nat.pow_le_pow_right (by decide) (show i ≤ 2 by omega)) (by decide)
    unfold thS
    rw [if_pos hi3, or_n8 (piS t + 4 ^ i) (by have := p0.1; omega) i hi3, ← hbt]
    rcases (show i = 0 ∨ i = 1 ∨ i = 2 by omega) with rfl | rfl | rfl
    · unfold piS enS
      rw [r2, ro 1 (by decide), ro 2 (by decide), ro 3 (by decide), he, hw1]; omega
    · unfold piS enS
      rw [r2, ro 0 (by decide), ro 2 (by decide), ro 3 (by decide), he, hw1]; omega
    · unfold piS enS
      rw [r2, ro 0 (by decide), ro 1 (by decide), ro 3 (by decide), he, hw1]; omega
/-! the model's states -/
def smN (f : Nat → Nat) : Nat → Nat
  | 0 => 0
  | i + 1 => smN f i + f i
theorem smN_cg {f g : Nat → Nat} : ∀ {i : Nat}, (∀ q, q < i → f q = g q) → smN f i = smN g i := by
  intro i
  induction i with
  | zero => intro _; rfl
  | succ i ih =>
    intro h
    show smN f i + f i = smN g i + g i
    rw [ih (fun q hq => h q (by omega)), h i (by omega)]
theorem smN_le {f : Nat → Nat} {b : Nat} : ∀ {i : Nat}, (∀ q, q < i → f q ≤ b) → smN f i ≤ b * i := by
  intro i
  induction i with
  | zero => intro _; exact Nat.zero_le _
  | succ i ih =>
    intro h
    show smN f i + f i ≤ b * (i + 1)
    have h1 := ih (fun q hq => h q (by omega))
    have h2 := h i (by omega)
    rw [Nat.mul_succ]
    omega
/-- one term changed -/
theorem smN_up {f g : Nat → Nat} {i d : Nat} (hi : g i = f i + d) : ∀ {S : Nat}, i < S → (∀ q, q < S → q ≠ i → g q = f q) → smN g S = smN f S + d := by
  intro S
  induction S with
  | zero => intro h; omega
  | succ S ih =>
    intro h he
    show smN g S + g S = smN f S + f S + d
    by_cases c : i = S
    · subst c
      rw [smN_cg (fun q hq => he q (by omega) (by omega)), hi]; omega
    · rw [ih (by omega) (fun q hq => he q (by omega)), he S (by omega) (fun z => c z.symm)]; omega
abbrev gaS (S t : Nat) : Nat := smN (fun i => wyG (dgS t i)) S
abbrev hoS (hr : Nat → Nat) (S t : Nat) : Nat := smN (fun i => wyA (dgS t i) * hr i) S
abbrev maS (S t : Nat) : Nat := smN (fun i => wyA (dgS t i)) S
abbrev coS (hr : Nat → Nat) (S t : Nat) : Nat := smN (fun i => (16 * hr i + 1) * wyA (dgS t i)) S
theorem co_hm (hr : Nat → Nat) (t : Nat) : ∀ S, coS hr S t = 16 * hoS hr S t + maS S t := by
  intro S
  induction S with
  | zero => rfl
  | succ S ih =>
    show coS hr S t + (16 * hr S + 1) * wyA (dgS t S) = 16 * (hoS hr S t + wyA (dgS t S) * hr S) + (maS S t + wyA (dgS t S))
    rw [ih, Nat.add_mul, Nat.one_mul, Nat.mul_assoc, Nat.mul_comm (hr S), Nat.mul_add]
    omega
abbrev RwT (S t : Nat) (M : qM) : Prop := ∀ i, i < S → M 108 i = nI (dgS t i)
theorem d_tk4 {n S t : Nat} (hS : S ≤ 4) (ht : t < 160000) {M0 : qM} (h43 : M0 77 43 = nI S) : ∀ (m i : Nat) (M : qM), i ≤ S → (∀ c, c ≠ 108 → M c = M0 c) → (∀ q, q < i → M 108 q = nI (dgS t q)) → qP (f_X12_takesState_4 n m (nI (t / 20 ^ i)) (nI i) M) (fun _ m' => RwT S t m' ∧ ∀ c, c ≠ 108 → m' c = M0 c) := by
  intro m
  induction m with
  | zero => intro i M _ _ _; exact P_none
  | succ m ih =>
    intro i M hi hf hlo
    show qP (b_X12_takesState_4 n (f_X12_takesState_4 n m) (nI (t / 20 ^ i)) (nI i) M) _
    unfold b_X12_takesState_4
    have ti : (nI i).toInt = (i : Int) := nI_toInt (by omega)
    have ei : (nI i).toNatClampNeg = i := by rw [tnc, ti]; rfl
    have hq := Nat.div_le_self t (20 ^ i)
    have tl : (nI (t / 20 ^ i)).toInt = ((t / 20 ^ i : Nat) : Int) := nI_toInt (by omega)
    have l20 : (20 : Int32).toInt = 20 := rfl
    rw [hf 77 (by decide), h43]
    refine P_le (nI_toInt (by omega)) ti (fun c => P_ret ⟨fun q hq => hlo q (by omega), hf⟩) (fun c => P_qg (fun _ _ => ?_))
    rw [ei]
    have gen : ∀ w : Nat, w < 160000 → nI w - nI w / (20 : Int32) * (20 : Int32) = nI (w % 20) ∧ (nI w / (20 : Int32)).toInt = ((w / 20 : Nat) : Int) := by
      intro w hw
      have tw : (nI w).toInt = (w : Int) := nI_toInt (by omega)
      exact ⟨nI_i (by rw [i_rem tw l20 (by omega) (by decide)]; omega), by rw [i_div tw l20 (by omega) (by decide)]; omega⟩
    have g2 := gen (t / 20 ^ i) (by omega)
    have em : nI (t / 20 ^ i) - nI (t / 20 ^ i) / (20 : Int32) * (20 : Int32) = nI (dgS t i) := g2.1
    have ed : (nI (t / 20 ^ i) / (20 : Int32)).toInt = ((t / 20 ^ (i + 1) : Nat) : Int) := by
      rw [g2.2, Nat.pow_succ, ← Nat.div_div_eq_div_mul]
    rw [em]
    refine P_m (fun m1 a1 a2 a3 => P_ql ed (fun x2 hx2 => P_ql (i_add ti l_1 (by omega) (by omega)) (fun x3 hx3 => ?_)))
    rw [nI_i hx2, nI_i (a := x3) (k := i + 1) (by rw [hx3]; omega)]
    refine ih (i + 1) m1 (by omega) (fun c hc => by rw [a3 c hc, hf c hc]) (fun q hq => ?_)
    by_cases z : q = i
    · rw [z]; exact a1
    · rw [a2 q z]; exact hlo q (by omega)
theorem d_tk {n S t : Nat} (hS : S ≤ 4) (ht : t < 160000) {M : qM} (h43 : M 77 43 = nI S) : qP (f_X12_takesState n (nI t) M) (fun _ m' => RwT S t m' ∧ ∀ c, c ≠ 108 → m' c = M c) := by
  unfold f_X12_takesState
  have := d_tk4 (n := n) hS ht h43 n 0 M (Nat.zero_le _) (fun _ _ => rfl) (fun q hq => absurd hq (by omega))
  rw [Nat.pow_zero, Nat.div_one] at this
  exact this
theorem p20 {S : Nat} (hS : S ≤ 4) : 20 ^ S ≤ 160000 := Nat.le_trans (Nat.pow_le_pow_right (by decide) hS) (by decide)
theorem d_sn9 {n S : Nat} (hS : S ≤ 4) {f : Nat → Nat} (hf : ∀ q, q < S → f q < 20) {M : qM} (h : ∀ q, q < S → M 108 q = nI (f q)) : ∀ (m r acc : Nat) (a2 : Int32), r ≤ S → a2.toInt = (r : Int) - 1 → acc * 20 ^ r + cdS f r = cdS f S → qP (f_X12_stateNow_9 n m (nI acc) a2 M) (fun v m' => v = nI (cdS f S) ∧ m' = M) := by
  intro m
  induction m with
  | zero => intro r acc a2 _ _ _; exact P_none
  | succ m ih =>
    intro r acc a2 hr h2 he
    show qP (b_X12_stateNow_9 n (f_X12_stateNow_9 n m) (nI acc) a2 M) _
    unfold b_X12_stateNow_9
    have hc := cdS_lt hf
    have p4 := p20 hS
    refine P_lt h2 l_0 (fun c => P_ret ⟨?_, rfl⟩) (fun c => P_qg (fun _ _ => ?_))
    · have e : r = 0 := by omega
      subst e
      rw [← he]
      show nI acc = nI (acc * 1 + 0)
      rw [Nat.mul_one, Nat.add_zero]
    · obtain ⟨i, rfl⟩ : ∃ i, r = i + 1 := ⟨r - 1, by omega⟩
      have ei : a2.toNatClampNeg = i := by rw [tnc, h2]; omega
      have hfi := hf i (by omega)
      have he2 : (20 * acc + f i) * 20 ^ i + cdS f i = cdS f S := by
        rw [← he]
        show _ = acc * 20 ^ (i + 1) + (cdS f i + f i * 20 ^ i)
        rw [Nat.pow_succ, Nat.add_mul, Nat.mul_comm (20 ^ i) 20, ← Nat.mul_assoc, Nat.mul_comm acc 20]
        omega
      have hpos : 0 < 20 ^ i := Nat.pow_pos (by decide)
      have hb : 20 * acc + f i ≤ cdS f S := by
        have : 20 * acc + f i ≤ (20 * acc + f i) * 20 ^ i := Nat.le_mul_of_pos_right _ hpos
        omega
      rw [ei, h i (by omega)]
      have l20 : (20 : Int32).toInt = 20 := rfl
      refine P_ql (x := ((20 * acc + f i : Nat) : Int)) (by rw [i_add (i_mul l20 (nI_toInt (n := acc) (by omega)) (by omega) (by omega)) (nI_toInt (by omega)) (by omega) (by omega)]; omega) (fun x1 hx1 => P_ql (i_add h2 l_m1 (by omega) (by omega)) (fun x2 hx2 => ?_))
      rw [nI_i hx1]
      exact ih i (20 * acc + f i) x2 (by omega) (by omega) he2
theorem d_sn {n S : Nat} (hS : S ≤ 4) (hS1 : 1 ≤ S) {f : Nat → Nat} (hf : ∀ q, q < S → f q < 20) {M : qM} (h43 : M 77 43 = nI S) (h : ∀ q, q < S → M 108 q = nI (f q)) : qP (f_X12_stateNow n M) (fun v m' => v = nI (cdS f S) ∧ m' = M) := by
  unfold f_X12_stateNow
  rw [h43]
  refine P_ql (i_sub (nI_toInt (by omega)) l_1 (by omega) (by omega)) (fun x hx => ?_)
  exact d_sn9 hS hf h n S 0 x (Nat.le_refl _) hx (by rw [Nat.zero_mul, Nat.zero_add])
theorem d_marks {n S t i w : Nat} (hS : S ≤ 4) (hi : i < S) (hw : w < 20) {M : qM} (h43 : M 77 43 = nI S) (hR : RwT S t M) : qP (f_X12_marks n (nI i) (nI w) M) (fun _ m' => m' 110 (rpS S t i w) = 1 ∧ (∀ s, s ≠ rpS S t i w → m' 110 s = M 110 s) ∧ RwT S t m' ∧ ∀ c, c ≠ 108 → c ≠ 110 → m' c = M c) := by
  have ei : (nI i).toNatClampNeg = i := by rw [tnc, nI_toInt (by omega)]; rfl
  unfold f_X12_marks
  refine P_qg (fun _ _ => ?_)
  rw [ei, hR i hi]
  refine P_ql rfl (fun x1 hx1 => P_qg (fun _ _ => P_m (fun m2 a1 a2 a3 => ?_)))
  have ex1 : x1 = nI (dgS t i) := Int32.toInt_inj.mp hx1
  have hd : ∀ q, q < S → stS t i w q < 20 := by
    intro q _
    unfold stS
    by_cases c : q = i
    · rw [if_pos c]; exact hw
    · rw [if_neg c]; exact dg_lt t q
  refine P_qc (d_sn (n := n) (f := stS t i w) hS (by omega) hd (by rw [a3 77 (by decide)]; exact h43) (fun q hq => ?_)) ?_
  · unfold stS
    by_cases c : q = i
    · rw [if_pos c, c]; exact a1
    · rw [if_neg c, a2 q c]; exact hR q hq
  rintro r3 m4 ⟨rfl, rfl⟩
  have hlt : rpS S t i w < 20 ^ S := (rp_f (t := t) hw hi).1
  have p4 := p20 hS
  have er : (nI (cdS (stS t i w) S)).toNatClampNeg = rpS S t i w := by
    show (nI (rpS S t i w)).toNatClampNeg = _
    rw [tnc, nI_toInt (by omega)]; rfl
  refine P_qg (fun _ _ => ?_)
  rw [er]
  refine P_m (fun m5 b1 b2 b3 => P_qg (fun _ _ => P_m (fun m6 c1 c2 c3 => P_ret ⟨?_, fun s hs => ?_, fun q hq => ?_, fun c h8 h0 => ?_⟩)))
  · rw [c3 110 (by decide), b1]; rfl
  · rw [c3 110 (by decide), b2 s hs, a3 110 (by decide)]
  · by_cases z : q = i
    · rw [z, c1, ex1]
    · rw [c2 q z, b3 108 (by decide), a2 q z]; exact hR q hq
  · rw [c3 c h8, b3 c h0, a3 c h8]
theorem d_goes4 {n S t : Nat} (hS : S ≤ 4) {M : qM} (h43 : M 77 43 = nI S) (hW : WT M) (hR : RwT S t M) : ∀ (m i : Nat), i ≤ S → qP (f_X12_goesNow_4 n m (nI (gaS i t)) (nI i) M) (fun v m' => v = nI (gaS S t) ∧ m' = M) := by
  intro m
  induction m with
  | zero => intro i _; exact P_none
  | succ m ih =>
    intro i hi
    show qP (b_X12_goesNow_4 n (f_X12_goesNow_4 n m) (nI (gaS i t)) (nI i) M) _
    unfold b_X12_goesNow_4
    have ti : (nI i).toInt = (i : Int) := nI_toInt (by omega)
    have ei : (nI i).toNatClampNeg = i := by rw [tnc, ti]; rfl
    have hb : gaS i t ≤ 3 * i := smN_le (fun q _ => by have := (wy_f (dgS t q) (dg_lt t q)).1; omega)
    have hw := wy_f (dgS t i) (dg_lt t i)
    rw [h43]
    refine P_le (nI_toInt (by omega)) ti (fun c => P_ret ⟨by rw [show i = S by omega], rfl⟩) (fun c => P_qg (fun _ _ => ?_))
    have ed : (nI (dgS t i)).toNatClampNeg = dgS t i := by rw [tnc, nI_toInt (by have := dg_lt t i; omega)]; rfl
    rw [ei, hR i (by omega)]
    refine P_qg (fun _ _ => ?_)
    rw [ed, (hW _ (dg_lt t i)).2.1]
    refine P_ql (x := ((gaS (i + 1) t : Nat) : Int)) (by rw [i_add (nI_toInt (by omega)) (nI_toInt (by omega)) (by omega) (by omega)]; show _ = ((gaS i t + wyG (dgS t i) : Nat) : Int); omega) (fun x1 hx1 => P_ql (i_add ti l_1 (by omega) (by omega)) (fun x2 hx2 => ?_))
    rw [nI_i hx1, nI_i (a := x2) (k := i + 1) (by rw [hx2]; omega)]
    exact ih (i + 1) (by omega)
theorem d_goesN {n S t : Nat} (hS : S ≤ 4) {M : qM} (h43 : M 77 43 = nI S) (hW : WT M) (hR : RwT S t M) : qP (f_X12_goesNow n M) (fun v m' => v = nI (gaS S t) ∧ m' = M) := by
  unfold f_X12_goesNow
  exact d_goes4 hS h43 hW hR n 0 (Nat.zero_le _)
theorem d_made4 {n S t : Nat} (hS : S ≤ 4) {M : qM} (h43 : M 77 43 = nI S) (hW : WT M) (hR : RwT S t M) : ∀ (m i : Nat), i ≤ S → qP (f_X12_madeNow_4 n m (nI (maS i t)) (nI i) M) (fun v m' => v = nI (maS S t) ∧ m' = M) := by
  intro m
  induction m with
  | zero => intro i _; exact P_none
  | succ m ih =>
    intro i hi
    show qP (b_X12_madeNow_4 n (f_X12_madeNow_4 n m) (nI (maS i t)) (nI i) M) _
    unfold b_X12_madeNow_4
    have ti : (nI i).toInt = (i : Int) := nI_toInt (by omega)
    have ei : (nI i).toNatClampNeg = i := by rw [tnc, ti]; rfl
    have hb : maS i t ≤ 3 * i := smN_le (fun q _ => by have := (wy_f (dgS t q) (dg_lt t q)).1; omega)
    have hw := wy_f (dgS t i) (dg_lt t i)
    rw [h43]
    refine P_le (nI_toInt (by omega)) ti (fun c => P_ret ⟨by rw [show i = S by omega], rfl⟩) (fun c => P_qg (fun _ _ => ?_))
    have ed : (nI (dgS t i)).toNatClampNeg = dgS t i := by rw [tnc, nI_toInt (by have := dg_lt t i; omega)]; rfl
    rw [ei, hR i (by omega)]
    refine P_qg (fun _ _ => ?_)
    rw [ed, (hW _ (dg_lt t i)).1]
    refine P_ql (x := ((maS (i + 1) t : Nat) : Int)) (by rw [i_add (nI_toInt (by omega)) (nI_toInt (by omega)) (by omega) (by omega)]; show _ = ((maS i t + wyA (dgS t i) : Nat) : Int); omega) (fun x1 hx1 => P_ql (i_add ti l_1 (by omega) (by omega)) (fun x2 hx2 => ?_))
    rw [nI_i hx1, nI_i (a := x2) (k := i + 1) (by rw [hx2]; omega)]
    exact ih (i + 1) (by omega)
theorem d_madeN {n S t : Nat} (hS : S ≤ 4) {M : qM} (h43 : M 77 43 = nI S) (hW : WT M) (hR : RwT S t M) : qP (f_X12_madeNow n M) (fun v m' => v = nI (maS S t) ∧ m' = M) := by
  unfold f_X12_madeNow
  exact d_made4 hS h43 hW hR n 0 (Nat.zero_le _)
theorem d_hours4 {n S t : Nat} (hS : S ≤ 4) {ch hr : Nat → Nat} {M : qM} (h43 : M 77 43 = nI S) (hW : WT M) (hR : RwT S t M) (hch : ∀ i, i < S → M 105 i = nI (ch i) ∧ ch i < 12 ∧ M 81 (ch i) = nI (hr i) ∧ hr i ≤ 12) : ∀ (m i : Nat), i ≤ S → qP (f_X12_hoursNow_4 n m (nI (hoS hr i t)) (nI i) M) (fun v m' => v = nI (hoS hr S t) ∧ m' = M) := by
  intro m
  induction m with
  | zero => intro i _; exact P_none
  | succ m ih =>
    intro i hi
    show qP (b_X12_hoursNow_4 n (f_X12_hoursNow_4 n m) (nI (hoS hr i t)) (nI i) M) _
    unfold b_X12_hoursNow_4
    have ti : (nI i).toInt = (i : Int) := nI_toInt (by omega)
    have ei : (nI i).toNatClampNeg = i := by rw [tnc, ti]; rfl
    have hb : hoS hr i t ≤ 36 * i := smN_le (fun q hq => by
      have h1 := wy_f (dgS t q) (dg_lt t q)
      have h2 := (hch q (by omega)).2.2.2
      have : wyA (dgS t q) * hr q ≤ 3 * 12 := Nat.mul_le_mul (by omega) h2
      omega)
    have hw := wy_f (dgS t i) (dg_lt t i)
    rw [h43]
    refine P_le (nI_toInt (by omega)) ti (fun c => P_ret ⟨by rw [show i = S by omega], rfl⟩) (fun c => P_qg (fun _ _ => ?_))
    have hiS : i < S := by omega
    obtain ⟨c1, c2, c3, c4⟩ := hch i hiS
    have ed : (nI (dgS t i)).toNatClampNeg = dgS t i := by rw [tnc, nI_toInt (by have := dg_lt t i; omega)]; rfl
    have ec : (nI (ch i)).toNatClampNeg = ch i := by rw [tnc, nI_toInt (by omega)]; rfl
    rw [ei, hR i hiS, c1]
    refine P_qg (fun _ _ => P_qg (fun _ _ => P_qg (fun _ _ => ?_)))
    rw [ed, ec, (hW _ (dg_lt t i)).1, c3]
    have hm : wyA (dgS t i) * hr i ≤ 3 * 12 := Nat.mul_le_mul (by omega) c4
    have hmi : (nI (wyA (dgS t i)) * nI (hr i)).toInt = ((wyA (dgS t i) * hr i : Nat) : Int) := by
      have e1 : ((wyA (dgS t i) : Int)) * (hr i : Int) = ((wyA (dgS t i) * hr i : Nat) : Int) := by push_cast; rfl
      rw [i_mul (nI_toInt (n := wyA (dgS t i)) (by omega)) (nI_toInt (n := hr i) (by omega)) (by rw [e1]; omega) (by rw [e1]; omega), e1]
    refine P_ql (x := ((hoS hr (i + 1) t : Nat) : Int)) (by rw [i_add (nI_toInt (n := hoS hr i t) (by omega)) hmi (by omega) (by omega)]; show _ = ((hoS hr i t + wyA (dgS t i) * hr i : Nat) : Int); omega) (fun x1 hx1 => P_ql (i_add ti l_1 (by omega) (by omega)) (fun x2 hx2 => ?_))
    rw [nI_i hx1, nI_i (a := x2) (k := i + 1) (by rw [hx2]; omega)]
    exact ih (i + 1) (by omega)
theorem d_hoursN {n S t : Nat} (hS : S ≤ 4) {ch hr : Nat → Nat} {M : qM} (h43 : M 77 43 = nI S) (hW : WT M) (hR : RwT S t M) (hch : ∀ i, i < S → M 105 i = nI (ch i) ∧ ch i < 12 ∧ M 81 (ch i) = nI (hr i) ∧ hr i ≤ 12) : qP (f_X12_hoursNow n M) (fun v m' => v = nI (hoS hr S t) ∧ m' = M) := by
  unfold f_X12_hoursNow
  exact d_hours4 hS h43 hW hR hch n 0 (Nat.zero_le _)
theorem d_all4 {n S : Nat} (hS : S ≤ 4) {M : qM} (h43 : M 77 43 = nI S) : ∀ (m i : Nat), i ≤ S → qP (f_X12_statesAll_4 n m (nI (20 ^ i)) (nI i) M) (fun v m' => v = nI (20 ^ S) ∧ m' = M) := by
  intro m
  induction m with
  | zero => intro i _; exact P_none
  | succ m ih =>
    intro i hi
    show qP (b_X12_statesAll_4 n (f_X12_statesAll_4 n m) (nI (20 ^ i)) (nI i) M) _
    unfold b_X12_statesAll_4
    have ti : (nI i).toInt = (i : Int) := nI_toInt (by omega)
    have l20 : (20 : Int32).toInt = 20 := rfl
    rw [h43]
    refine P_le (nI_toInt (by omega)) ti (fun c => P_ret ⟨by rw [show i = S by omega], rfl⟩) (fun c => ?_)
    have p4 : 20 ^ i ≤ 8000 := Nat.le_trans (Nat.pow_le_pow_right (by decide) (show i ≤ 3 by omega)) (by decide)
    have gen : ∀ v : Nat, v ≤ 8000 → (nI v * (20 : Int32)).toInt = ((v * 20 : Nat) : Int) := by
      intro v hv
      rw [i_mul (nI_toInt (n := v) (by omega)) l20 (by omega) (by omega)]; omega
    refine P_ql (x := ((20 ^ (i + 1) : Nat) : Int)) (by rw [gen _ p4, Nat.pow_succ]) (fun x1 hx1 => P_ql (i_add ti l_1 (by omega) (by omega)) (fun x2 hx2 => ?_))
    rw [nI_i hx1, nI_i (a := x2) (k := i + 1) (by rw [hx2]; omega)]
    exact ih (i + 1) (by omega)
theorem d_all {n S : Nat} (hS : S ≤ 4) {M : qM} (h43 : M 77 43 = nI S) : qP (f_X12_statesAll n M) (fun v m' => v = nI (20 ^ S) ∧ m' = M) := by
  unfold f_X12_statesAll
  exact d_all4 hS h43 n 0 (Nat.zero_le _)
/-! the model lays a search -/
abbrev Ch105 (b : Int32) (q : Nat) (M : qM) : Prop := M 77 43 = nI (cntR b q) ∧ ∀ i, i < cntR b q → M 105 i = nI (chR b q i)
theorem d_own12 {n : Nat} {b a1 : Int32} (h4 : cntR b 12 ≤ 4) {M0 : qM} {Q : Int32 → qM → Prop} (hK : ∀ M : qM, G M → Ch105 b 12 M → (∀ c, c ≠ 77 → c ≠ 105 → M c = M0 c) → (∀ s, s ≠ 43 → M 77 s = M0 77 s) → qP (f_X12_laysOwn_57 n n a1 0 M) Q) : ∀ (m q : Nat) (M : qM), q ≤ 12 → G M → Ch105 b q M → (∀ c, c ≠ 77 → c ≠ 105 → M c = M0 c) → (∀ s, s ≠ 43 → M 77 s = M0 77 s) → qP (f_X12_laysOwn_12 n m a1 b (nI q) M) Q := by
  intro m
  induction m with
  | zero => intro q M _ _ _ _ _; exact P_none
  | succ m ih =>
    intro q M hq hG hC hf h77
    show qP (b_X12_laysOwn_12 n (f_X12_laysOwn_12 n m) a1 b (nI q) M) _
    unfold b_X12_laysOwn_12
    obtain ⟨h43, h105⟩ := hC
    have tq' : (nI q).toInt = (q : Int) := nI_toInt (by omega)
    refine P_le l_12 tq' (fun c => ?_) (fun c => ?_)
    · have e : q = 12 := by omega
      subst e
      exact hK M hG ⟨h43, h105⟩ hf h77
    · have hle := cntR_le (b := b) (q := q + 1) (d := 12 - (q + 1))
      rw [show q + 1 + (12 - (q + 1)) = 12 by omega] at hle
      rw [d_h0, qc_v]
      by_cases cb : bitI b q
      · have e1 : cntR b (q + 1) = cntR b q + 1 := by show (if bitI b q then _ else _) = _; rw [if_pos cb]
        rw [if_pos cb]
        refine P_if (fun z => absurd z (by decide)) (fun _ => ?_)
        rw [h43]
        have ec : (nI (cntR b q)).toNatClampNeg = cntR b q := by rw [tnc, nI_toInt (by omega)]; rfl
        refine P_qg (fun _ _ => ?_)
        rw [ec]
        refine P_g hG (show 0 ≤ (nI q).toInt ∧ (nI q).toInt ≤ 11 by omega) (nw_105 _) ?_
        intro m2 b1 b2 b3 g2
        rw [b3 77 (by decide), h43]
        have es : nI (cntR b q) + (1 : Int32) = nI (cntR b (q + 1)) := nI_i (by rw [i_add (nI_toInt (by omega)) l_1 (by omega) (by omega), e1]; omega)
        rw [es]
        refine P_g g2 (show 0 ≤ (nI (cntR b (q + 1))).toInt ∧ (nI (cntR b (q + 1))).toInt ≤ 4 by rw [nI_toInt (by omega)]; omega) (by unfold nW; decide) ?_
        intro m3 c1 c2 c3 g3
        refine P_ql (i_add tq' l_1 (by omega) (by omega)) (fun x hx => ?_)
        rw [nI_i (a := x) (k := q + 1) (by rw [hx]; omega)]
        refine ih (q + 1) m3 (by omega) g3 ⟨c1, fun i hi => ?_⟩ (fun c h6 h7 => by rw [c3 c h6, b3 c h7]; exact hf c h6 h7) (fun s hs => by rw [c2 s hs, b3 77 (by decide)]; exact h77 s hs)
        show m3 105 i = nI (if bitI b q ∧ i = cntR b q then q else chR b q i)
        rw [c3 105 (by decide)]
        by_cases z : i = cntR b q
        · rw [if_pos (And.intro cb z), z, b1]
        · rw [if_neg (fun w => z w.2), b2 i z]
          exact h105 i (by omega)
      · have e1 : cntR b (q + 1) = cntR b q := by show (if bitI b q then _ else _) = _; rw [if_neg cb]
        rw [if_neg cb]
        refine P_if (fun _ => P_ql (i_add tq' l_1 (by omega) (by omega)) (fun x hx => ?_)) (fun z => absurd rfl z)
        rw [nI_i (a := x) (k := q + 1) (by rw [hx]; omega)]
        refine ih (q + 1) M (by omega) hG ⟨by rw [e1]; exact h43, fun i hi => ?_⟩ hf h77
        show M 105 i = nI (if bitI b q ∧ i = cntR b q then q else chR b q i)
        rw [if_neg (fun w => cb w.1)]
        exact h105 i (by omega)
abbrev FoS (A M : qM) : Prop := ∀ c, c ≠ 96 → c ≠ 97 → c ≠ 106 → c ≠ 107 → M c = A c
abbrev lk_S (C : List Int) (K : List Kl) (n : Nat) (b : Int32) (A : qM) (i j : Nat) : Int32 := lkv C K n (A 81) (A 82) (A 78 313) (chR b 12 i) (chR b 12 j)
theorem d_own92 {n : Nat} (hn : 200000 ≤ n) {C : List Int} {K : List Kl} (hK : Kg (cdl C) C.length K) (h240 : C.length ≤ 240) {b a1 : Int32} (h4 : cntR b 12 ≤ 4) {i : Nat} (hi : i < cntR b 12) {A : qM} (hA : Ch105 b 12 A) {K57 : Int32 → Int32 → qM → qR} {Q : Int32 → qM → Prop} : ∀ (m j c : Nat) (M : qM), j ≤ cntR b 12 → c < 4096 → G M → LM M C K → FoS A M → M 107 i = nI c → (∀ q, q < j → (bitI (nI c) q ↔ lk_S C K n b A i q ≠ 0)) → (∀ q, j ≤ q → q < 12 → ¬ bitI (nI c) q) → (∀ M' : qM, G M' → LM M' C K → FoS A M' → M' 106 = M 106 → (∀ q, q ≠ i → M' 107 q = M 107 q) → (∀ q, q < cntR b 12 → (bitI (M' 107 i) q ↔ lk_S C K n b A i q ≠ 0)) → qP (K57 a1 (nI (i + 1)) M') Q) → qP (f_X12_laysOwn_92 n K57 m a1 (nI i) (nI j) M) Q := by
  intro m
  induction m with
  | zero => intro j c M _ _ _ _ _ _ _ _ _; exact P_none
  | succ m ih =>
    intro j c M hj hc hG hL hf h107 hlo hhi hK2
    show qP (b_X12_laysOwn_92 n K57 (f_X12_laysOwn_92 n K57 m) a1 (nI i) (nI j) M) _
    unfold b_X12_laysOwn_92
    have tj' : (nI j).toInt = (j : Int) := nI_toInt (by omega)
    have ej : (nI j).toNatClampNeg = j := by rw [tnc, tj']; rfl
    have ti : (nI i).toInt = (i : Int) := nI_toInt (by omega)
    have ei : (nI i).toNatClampNeg = i := by rw [tnc, ti]; rfl
    have h105 : ∀ q, q < cntR b 12 → M 105 q = nI (chR b 12 q) := fun q hq => by rw [hf 105 (by decide) (by decide) (by decide) (by decide)]; exact hA.2 q hq
    have h43 : M 77 43 = nI (cntR b 12) := by rw [hf 77 (by decide) (by decide) (by decide) (by decide)]; exact hA.1
    rw [h43]
    refine P_le (nI_toInt (by omega)) tj' (fun z => P_ql (i_add ti l_1 (by omega) (by omega)) (fun x hx => ?_)) (fun z => P_qg (fun _ _ => P_qg (fun _ _ => ?_)))
    · rw [nI_i (a := x) (k := i + 1) (by rw [hx]; omega)]
      exact hK2 M hG hL hf rfl (fun _ _ => rfl) (fun q hq => by rw [h107]; exact hlo q (by omega))
    · have hjS : j < cntR b 12 := by omega
      have ki := (chR_lt hi).1
      have kj := (chR_lt hjS).1
      rw [ei, ej, h105 i hi, h105 j hjS]
      refine P_qc (P_and (d_isLike hn hK h240 (k := chR b 12 i) (i := chR b 12 j) (by omega) kj M hG hL) (P_T (t_X12_isLike hn (nI (chR b 12 i)) (nI (chR b 12 j)) M hG (by rw [nI_toInt (by omega)]; omega) (by rw [nI_toInt (by omega)]; omega)))) ?_
      rintro r2 m3 ⟨hr, _, g3, s3⟩
      have o3 : ∀ c, c ≠ 96 → c ≠ 97 → m3 c = M c := fun c q1 q2 => funext (fun s_ => s3 c s_ (out3 q1 q2))
      have l3 : LM m3 C K := LM_cg hL (fun c q1 q2 => o3 c (by omega) (by omega)) (by rw [o3 77 (by decide) (by decide)])
      have f3 : FoS A m3 := fun c q1 q2 q3 q4 => by rw [o3 c q1 q2]; exact hf c q1 q2 q3 q4
      rw [hf 81 (by decide) (by decide) (by decide) (by decide), hf 82 (by decide) (by decide) (by decide) (by decide), hf 78 (by decide) (by decide) (by decide) (by decide)] at hr
      have hr' : r2 = lk_S C K n b A i j := hr
      refine P_if (fun z2 => P_ql (i_add tj' l_1 (by omega) (by omega)) (fun x hx => ?_)) (fun z2 => P_qg (fun _ _ => P_qg (fun _ _ => ?_)))
      · rw [nI_i (a := x) (k := j + 1) (by rw [hx]; omega)]
        refine ih (j + 1) c m3 (by omega) hc g3 l3 f3 (by rw [o3 107 (by decide) (by decide)]; exact h107) (fun q hq => ?_) (fun q h1 h2 => hhi q (by omega) h2) (fun M' a1 a2 a3 a4 a5 a6 => hK2 M' a1 a2 a3 (by rw [a4, o3 106 (by decide) (by decide)]) (fun q hq => by rw [a5 q hq, o3 107 (by decide) (by decide)]) a6)
        by_cases e : q = j
        · rw [e]
          exact ⟨fun w => absurd w (hhi j (Nat.le_refl _) (by omega)), fun w => absurd (by rw [← hr']; exact z2) w⟩
        · exact hlo q (by omega)
      · rw [o3 107 (by decide) (by decide), h107]
        obtain ⟨_, c', hc', ec⟩ := bit_or (i := 0) hc (by decide) (show j < 12 by omega)
        have bo : ∀ q, q < 12 → (bitI (nI c') q ↔ (q = j ∨ bitI (nI c) q)) := fun q hq => by rw [← ec]; exact (bit_or hc hq (by omega)).1
        rw [ec]
        refine P_g g3 (rn_107 _ _) (nw_107 _) ?_
        intro m5 b1 b2 b3 g5
        refine P_ql (i_add tj' l_1 (by omega) (by omega)) (fun x hx => ?_)
        rw [nI_i (a := x) (k := j + 1) (by rw [hx]; omega)]
        refine ih (j + 1) c' m5 (by omega) hc' g5 (LM_cg l3 (fun c q1 q2 => b3 c (by omega)) (by rw [b3 77 (by decide)])) (fun c q1 q2 q3 q4 => by rw [b3 c q4]; exact f3 c q1 q2 q3 q4) b1 (fun q hq => ?_) (fun q h1 h2 => ?_) (fun M' a1 a2 a3 a4 a5 a6 => hK2 M' a1 a2 a3 (by rw [a4, b3 106 (by decide), o3 106 (by decide) (by decide)]) (fun q hq => by rw [a5 q hq, b2 q hq, o3 107 (by decide) (by decide)]) a6)
        · rw [bo q (by omega)]
          by_cases e : q = j
          · rw [e]
            exact ⟨fun _ => by rw [← hr']; exact z2, fun _ => Or.inl rfl⟩
          · rw [← hlo q (by omega)]
            exact ⟨fun w => w.resolve_left e, fun w => Or.inr w⟩
        · rw [bo q h2]
          rintro (w | w)
          · omega
          · exact hhi q (by omega) h2 w
abbrev RyS (C : List Int) (K : List Kl) (n : Nat) (b : Int32) (p : Nat) (zz : Nat → Int32) (A M : qM) (i : Nat) : Prop := M 106 i = smB (A 78) p (zz i) 12 ∧ ∀ q, q < cntR b 12 → (bitI (M 107 i) q ↔ lk_S C K n b A i q ≠ 0)
theorem d_own57 {n : Nat} (hn : 200000 ≤ n) {C : List Int} {K : List Kl} (hK : Kg (cdl C) C.length K) (h240 : C.length ≤ 240) {p : Nat} (hp : p < 8) {b : Int32} (h4 : cntR b 12 ≤ 4) {A : qM} (hA : Ch105 b 12 A) {zz : Nat → Int32} (hz : ∀ i, i < cntR b 12 → ∀ q, q < 12 → (bitI (zz i) q ↔ mA (A 77 6) C K n (A 81) (A 82) (A 78 313) (chR b 12 i) q)) (hT : ∀ i, i < 96 → 0 ≤ (A 78 i).toInt) : ∀ (m i : Nat) (M : qM), i ≤ cntR b 12 → G M → LM M C K → FoS A M → (∀ q, q < i → RyS C K n b p zz A M q) → qP (f_X12_laysOwn_57 n m (nI p) (nI i) M) (fun _ m' => G m' ∧ FoS A m' ∧ ∀ q, q < cntR b 12 → RyS C K n b p zz A m' q) := by
  intro m
  induction m with
  | zero => intro i M _ _ _ _ _; exact P_none
  | succ m ih =>
    intro i M hi hG hL hf hlo
    show qP (b_X12_laysOwn_57 n (f_X12_laysOwn_57 n m) (nI p) (nI i) M) _
    unfold b_X12_laysOwn_57
    have ti : (nI i).toInt = (i : Int) := nI_toInt (by omega)
    have ei : (nI i).toNatClampNeg = i := by rw [tnc, ti]; rfl
    have h105 : ∀ q, q < cntR b 12 → M 105 q = nI (chR b 12 q) := fun q hq => by rw [hf 105 (by decide) (by decide) (by decide) (by decide)]; exact hA.2 q hq
    have h43 : M 77 43 = nI (cntR b 12) := by rw [hf 77 (by decide) (by decide) (by decide) (by decide)]; exact hA.1
    rw [h43]
    refine P_le (nI_toInt (by omega)) ti (fun c => P_ret ⟨hG, hf, fun q hq => hlo q (by omega)⟩) (fun c => P_qg (fun _ _ => ?_))
    have hiS : i < cntR b 12 := by omega
    have ki := (chR_lt hiS).1
    rw [ei, h105 i hiS]
    have q78 : M 78 = A 78 := hf 78 (by decide) (by decide) (by decide) (by decide)
    refine P_qc (d_old hn hp ki hK h240 M (b := zz i) (by rw [hf 77 (by decide) (by decide) (by decide) (by decide), hf 81 (by decide) (by decide) (by decide) (by decide), hf 82 (by decide) (by decide) (by decide) (by decide), q78]; exact hz i hiS) (by rw [q78]; exact hT) hG hL) ?_
    rintro r1 m2 ⟨hr, o2, g2⟩
    rw [q78] at hr
    refine P_qg (fun _ _ => P_g g2 (rn_106 _ _) (nw_106 _) ?_)
    intro m3 a1 a2 a3 g3
    refine P_qg (fun _ _ => P_g g3 (rn_107 _ _) (nw_107 _) ?_)
    intro m4 b1 b2 b3 g4
    have o4 : ∀ c, c ≠ 96 → c ≠ 97 → c ≠ 106 → c ≠ 107 → m4 c = M c := fun c q1 q2 q3 q4 => by rw [b3 c q4, a3 c q3, o2 c q1 q2]
    have f4 : FoS A m4 := fun c q1 q2 q3 q4 => by rw [o4 c q1 q2 q3 q4]; exact hf c q1 q2 q3 q4
    refine d_own92 hn hK h240 h4 hiS hA n 0 0 m4 (Nat.zero_le _) (by decide) g4 (LM_cg hL (fun c q1 q2 => o4 c (by omega) (by omega) (by omega) (by omega)) (by rw [o4 77 (by decide) (by decide) (by decide) (by decide)])) f4 b1 (fun q hq => absurd hq (by omega)) (fun q _ h2 => bit_0 h2) (fun M' c1 c2 c3 c4 c5 c6 => ?_)
    refine ih (i + 1) M' (by omega) c1 c2 c3 (fun q hq => ?_)
    by_cases e : q = i
    · rw [e]
      exact ⟨by rw [c4, b3 106 (by decide), a1]; exact hr, c6⟩
    · have := hlo q (by omega)
      exact ⟨by rw [c4, b3 106 (by decide), a2 q e, o2 106 (by decide) (by decide)]; exact this.1, fun s hs => by rw [c5 q e, b2 q e, a3 107 (by decide), o2 107 (by decide) (by decide)]; exact this.2 s hs⟩
theorem d_own {n : Nat} (hn : 200000 ≤ n) {C : List Int} {K : List Kl} (hK : Kg (cdl C) C.length K) (h240 : C.length ≤ 240) {p : Nat} (hp : p < 8) {b : Int32} (h4 : cntR b 12 ≤ 4) (A : qM) (hG : G A) (hL : LM A C K) {zz : Nat → Int32} (hz : ∀ i, i < cntR b 12 → ∀ q, q < 12 → (bitI (zz i) q ↔ mA (A 77 6) C K n (A 81) (A 82) (A 78 313) (chR b 12 i) q)) (hT : ∀ i, i < 96 → 0 ≤ (A 78 i).toInt) : qP (f_X12_laysOwn n (nI p) b A) (fun _ m => G m ∧ (m 77 43 = nI (cntR b 12) ∧ m 77 44 = nI p) ∧ (∀ i, i < cntR b 12 → m 105 i = nI (chR b 12 i)) ∧ (∀ i, i < cntR b 12 → RyS C K n b p zz A m i) ∧ (∀ c, c ≠ 77 → c ≠ 96 → c ≠ 97 → c ≠ 105 → c ≠ 106 → c ≠ 107 → m c = A c) ∧ ∀ s, s ≠ 43 → s ≠ 44 → m 77 s = A 77 s) := by
  unfold f_X12_laysOwn
  refine P_g hG (show 0 ≤ (nI p).toInt ∧ (nI p).toInt ≤ 7 by rw [nI_toInt (by omega)]; omega) (by unfold nW; decide) ?_
  intro m1 a1 a2 a3 g1
  refine P_g g1 (show 0 ≤ (0 : Int32).toInt ∧ (0 : Int32).toInt ≤ 4 by decide) (by unfold nW; decide) ?_
  intro m2 b1 b2 b3 g2
  have o2 : ∀ c, c ≠ 77 → m2 c = A c := fun c hc => by rw [b3 c hc, a3 c hc]
  refine d_own12 h4 (M0 := m2) (fun M hGM hC hf h77 => ?_) n 0 m2 (Nat.zero_le _) g2 ⟨b1, fun i hi => absurd hi (Nat.not_lt_zero _)⟩ (fun _ _ _ => rfl) (fun _ _ => rfl)
  have oM : ∀ c, c ≠ 77 → c ≠ 105 → M c = A c := fun c q1 q2 => by rw [hf c q1 q2, o2 c q1]
  have s77 : ∀ s, s ≠ 43 → s ≠ 44 → M 77 s = A 77 s := fun s q1 q2 => by rw [h77 s q1, b2 s q1, a2 s q2]
  refine P_mono (d_own57 hn hK h240 hp h4 hC (zz := zz) (by rw [s77 6 (by decide) (by decide), oM 81 (by decide) (by decide), oM 82 (by decide) (by decide), oM 78 (by decide) (by decide)]; exact hz) (by rw [oM 78 (by decide) (by decide)]; exact hT) n 0 M (Nat.zero_le _) hGM (LM_cg hL (fun c q1 q2 => oM c (by omega) (by omega)) (s77 17 (by decide) (by decide))) (fun _ _ _ _ _ => rfl) (fun q hq => absurd hq (by omega))) (fun _ m h => ?_)
  obtain ⟨h1, h2, h3⟩ := h
  have e77 : m 77 = M 77 := h2 77 (by decide) (by decide) (by decide) (by decide)
  refine ⟨h1, ⟨by rw [e77]; exact hC.1, by rw [e77, h77 44 (by decide), b2 44 (by decide)]; exact a1⟩, fun i hi => by rw [h2 105 (by decide) (by decide) (by decide) (by decide)]; exact hC.2 i hi, fun i hi => ?_, fun c q1 q2 q3 q4 q5 q6 => by rw [h2 c q2 q3 q5 q6, oM c q1 q4], fun s q1 q2 => by rw [e77]; exact s77 s q1 q2⟩
  have := h3 i hi
  unfold RyS lk_S at this ⊢
  rw [oM 81 (by decide) (by decide), oM 82 (by decide) (by decide), oM 78 (by decide) (by decide)] at this
  exact this
/-! whether a try would count, by the model -/
abbrev nmC (S t j : Nat) (ch : Nat → Nat) : Nat := smN (fun i => if ch i = j then wyC (dgS t i) else 0) S
abbrev AcS (nd : Int32) (S t p : Nat) (ch : Nat → Nat) (N : Nat → Int32) : Prop := ∀ j, j < 12 → bitI nd j → N (12 * p + j) ≠ 0 ∨ nmC S t j ch ≠ 0
theorem d_ac45 {n S t p j : Nat} (hS : S ≤ 4) {ch : Nat → Nat} {M : qM} (h43 : M 77 43 = nI S) (hW : WT M) (hR : RwT S t M) (hch : ∀ i, i < S → M 105 i = nI (ch i) ∧ ch i < 12) (hj : j < 12) {k1 v0 : Int32} {K2 : Int32 → Int32 → qM → qR} {Q : Int32 → qM → Prop} (h0 : 0 ≤ v0.toInt ∧ v0.toInt ≤ 999) (hz : v0 = 0 → nmC S t j ch = 0 → Q 0 M) (hn : (v0 ≠ 0 ∨ nmC S t j ch ≠ 0) → qP (K2 k1 (nI (j + 1)) M) Q) : ∀ (m i : Nat) (x : Int32), i ≤ S → x.toInt = v0.toInt + (nmC i t j ch : Int) → qP (f_X12_areCounted_45 n K2 m k1 (nI j) x (nI i) M) Q := by
  intro m
  induction m with
  | zero => intro i x _ _; exact P_none
  | succ m ih =>
    intro i x hi hx
    show qP (b_X12_areCounted_45 n K2 (f_X12_areCounted_45 n K2 m) k1 (nI j) x (nI i) M) _
    unfold b_X12_areCounted_45
    have ti : (nI i).toInt = (i : Int) := nI_toInt (by omega)
    have ei : (nI i).toNatClampNeg = i := by rw [tnc, ti]; rfl
    have hb : nmC i t j ch ≤ 3 * i := smN_le (fun q _ => by
      have := wy_f (dgS t q) (dg_lt t q)
      by_cases c : ch q = j
      · rw [if_pos c]; omega
      · rw [if_neg c]; omega)
    rw [h43]
    refine P_le (nI_toInt (by omega)) ti (fun c => ?_) (fun c => P_qg (fun _ _ => ?_))
    · have e : i = S := by omega
      subst e
      refine P_eq hx l_0 (fun z => ?_) (fun z => P_ql (i_add (nI_toInt (n := j) (by omega)) l_1 (by omega) (by omega)) (fun y hy => ?_))
      · have z1 : v0 = 0 := Int32.toInt_inj.mp (by rw [l_0]; omega)
        exact P_ret (hz z1 (by omega))
      · rw [nI_i (a := y) (k := j + 1) (by rw [hy]; omega)]
        refine hn ?_
        by_cases z1 : v0 = 0
        · refine Or.inr (fun z2 => z ?_)
          rw [z1, l_0, z2]; rfl
        · exact Or.inl z1
    · have hiS : i < S := by omega
      obtain ⟨c1, c2⟩ := hch i hiS
      have hw := wy_f (dgS t i) (dg_lt t i)
      have go : ∀ (z : Nat), z = (if ch i = j then wyC (dgS t i) else 0) → qP (f_X12_areCounted_82 n K2 (f_X12_areCounted_45 n K2 m) k1 (nI j) (nI i) x (nI z) M) Q := by
        intro z hz2
        have hz3 : z ≤ 3 := by
          rw [hz2]
          by_cases c : ch i = j
          · rw [if_pos c]; omega
          · rw [if_neg c]; omega
        unfold f_X12_areCounted_82
        refine P_ql (x := v0.toInt + (nmC (i + 1) t j ch : Int)) (by
          rw [i_add hx (nI_toInt (n := z) (by omega)) (by omega) (by omega), hz2]
          show _ = v0.toInt + ((nmC i t j ch + (if ch i = j then wyC (dgS t i) else 0) : Nat) : Int)
          omega) (fun x1 hx1 => P_ql (i_add ti l_1 (by omega) (by omega)) (fun x2 hx2 => ?_))
        rw [nI_i (a := x2) (k := i + 1) (by rw [hx2]; omega)]
        exact ih (i + 1) x1 (by omega) hx1
      rw [ei, c1]
      refine P_if (fun e => P_qg (fun _ _ => ?_)) (fun e => go 0 (by rw [if_neg (fun w => e (by rw [w]))]))
      rw [hR i hiS]
      have ed : (nI (dgS t i)).toNatClampNeg = dgS t i := by rw [tnc, nI_toInt (by have := dg_lt t i; omega)]; rfl
      refine P_qg (fun _ _ => ?_)
      rw [ed, (hW _ (dg_lt t i)).2.2]
      exact go _ (by rw [if_pos (nI_inj (by omega) (by omega) e)])
theorem d_ac2 {n S t p k : Nat} (hS : S ≤ 4) (hp : p < 8) (hk : k < 12) {ch : Nat → Nat} {M : qM} (h43 : M 77 43 = nI S) (h44 : M 77 44 = nI p) (hW : WT M) (hR : RwT S t M) (hch : ∀ i, i < S → M 105 i = nI (ch i) ∧ ch i < 12) (hN : ∀ i, i < 96 → 0 ≤ (M 78 (192 + i)).toInt ∧ (M 78 (192 + i)).toInt ≤ 999) : ∀ (m j : Nat), j ≤ 12 → (∀ q, q < j → bitI (M 83 k) q → M 78 (192 + (12 * p + q)) ≠ 0 ∨ nmC S t q ch ≠ 0) → qP (f_X12_areCounted_2 n m (nI k) (nI j) M) (fun v m' => ((v = 1 ∧ AcS (M 83 k) S t p ch (fun i => M 78 (192 + i))) ∨ (v = 0 ∧ ¬ AcS (M 83 k) S t p ch (fun i => M 78 (192 + i)))) ∧ m' = M) := by
  intro m
  induction m with
  | zero => intro j _ _; exact P_none
  | succ m ih =>
    intro j hj hlo
    show qP (b_X12_areCounted_2 n (f_X12_areCounted_2 n m) (nI k) (nI j) M) _
    unfold b_X12_areCounted_2
    have tj' : (nI j).toInt = (j : Int) := nI_toInt (by omega)
    have ek : (nI k).toNatClampNeg = k := by rw [tnc, nI_toInt (by omega)]; rfl
    refine P_le l_12 tj' (fun c => P_ret ⟨Or.inl ⟨rfl, fun q hq => hlo q (by omega)⟩, rfl⟩) (fun c => P_qg (fun _ _ => ?_))
    have hj12 : j < 12 := by omega
    rw [ek, d_h0, qc_v]
    by_cases cb : bitI (M 83 k) j
    · rw [if_pos cb]
      refine P_if (fun z => absurd z (by decide)) (fun _ => ?_)
      unfold f_X12_at
      rw [h44, qc_v]
      refine P_qg (fun _ _ => ?_)
      rw [(ixm (p := p) (k := j) (by omega) (by omega)).2.2]
      refine P_ql rfl (fun x5 hx5 => ?_)
      rw [Int32.toInt_inj.mp hx5]
      refine d_ac45 (p := p) hS h43 hW hR hch hj12 (hN (12 * p + j) (by omega)) (fun z1 z2 => ⟨Or.inr ⟨rfl, fun h => ?_⟩, rfl⟩) (fun h => ih (j + 1) (by omega) (fun q hq hb => ?_)) n 0 _ (Nat.zero_le _) (by show _ = _ + ((0 : Nat) : Int); omega)
      · by_cases e : q = j
        · rw [e]; exact h
        · exact hlo q (by omega) hb
      · rcases h j hj12 cb with w | w
        · exact w z1
        · exact w z2
    · rw [if_neg cb]
      refine P_if (fun _ => P_ql (i_add tj' l_1 (by omega) (by omega)) (fun x hx => ?_)) (fun z => absurd rfl z)
      rw [nI_i (a := x) (k := j + 1) (by rw [hx]; omega)]
      refine ih (j + 1) (by omega) (fun q hq hb => ?_)
      by_cases e : q = j
      · rw [e] at hb; exact absurd hb cb
      · exact hlo q (by omega) hb
theorem d_ac {n S t p k : Nat} (hS : S ≤ 4) (hp : p < 8) (hk : k < 12) {ch : Nat → Nat} {M : qM} (h43 : M 77 43 = nI S) (h44 : M 77 44 = nI p) (hW : WT M) (hR : RwT S t M) (hch : ∀ i, i < S → M 105 i = nI (ch i) ∧ ch i < 12) (hN : ∀ i, i < 96 → 0 ≤ (M 78 (192 + i)).toInt ∧ (M 78 (192 + i)).toInt ≤ 999) : qP (f_X12_areCounted n (nI k) M) (fun v m' => ((v = 1 ∧ AcS (M 83 k) S t p ch (fun i => M 78 (192 + i))) ∨ (v = 0 ∧ ¬ AcS (M 83 k) S t p ch (fun i => M 78 (192 + i)))) ∧ m' = M) := by
  unfold f_X12_areCounted
  exact d_ac2 hS hp hk h43 h44 hW hR hch hN n 0 (Nat.zero_le _) (fun q hq => absurd hq (by omega))
/-- what is void of kind k behind ways a, g, c of it -/
def vdY (C : List Int) (K : List Kl) (n : Nat) (H X : Nat → Int32) (d : Int32) (p k : Nat) (T N : Nat → Int32) (a g c : Nat) : Int32 := amtL C n (fx (nI k) (H k) (X k) 0 0 0 d (nI p) 8 ((T (12 * p + k) + nI a) + nI g) ((byA T k 8 + nI a) + nI g) (N (12 * p + k) + nI c)) 118 99 K 1
theorem add_nI (x : Int32) {a g : Nat} (h : a + g < 2 ^ 31) : (x + nI a) + nI g = x + nI (a + g) := by
  rw [Int32.add_assoc]
  congr 1
  exact nI_i (by rw [i_add (nI_toInt (n := a) (by omega)) (nI_toInt (n := g) (by omega)) (by omega) (by omega)]; omega)
theorem vdY_0 {C : List Int} {K : List Kl} {n : Nat} {H X : Nat → Int32} {d : Int32} {p k : Nat} {T N : Nat → Int32} {a g : Nat} (h : a + g < 2 ^ 31) : vdY C K n H X d p k T N a g 0 = vdX C K n H X d p k T N (a + g) := by
  unfold vdY vdX
  rw [add_nI _ h, add_nI _ h, show nI 0 = (0 : Int32) from rfl, Int32.add_zero]
abbrev wMS (C : List Int) (K : List Kl) (n S p : Nat) (ch : Nat → Nat) (M : qM) (t i : Nat) : Prop := ¬ odS (M 106) (M 107) (piS t) i S < vdY C K n (M 81) (M 82) (M 78 313) p (ch i) (M 78) (fun i => M 78 (192 + i)) (wyA (dgS t i)) (wyG (dgS t i)) (wyC (dgS t i)) ∧ AcS (M 83 (ch i)) S t p ch (fun i => M 78 (192 + i))
theorem d_wd17 {n : Nat} (hn : 200000 ≤ n) {C : List Int} {K : List Kl} (hK : Kg (cdl C) C.length K) (h240 : C.length ≤ 240) {S t p i : Nat} (hS : S ≤ 4) (hp : p < 8) (hi : i < S) {ch : Nat → Nat} {M : qM} (hG : G M) (hL : LM M C K) (h43 : M 77 43 = nI S) (h44 : M 77 44 = nI p) (hW : WT M) (hR : RwT S t M) (hch : ∀ i, i < S → M 105 i = nI (ch i) ∧ ch i < 12) (hN : ∀ i, i < 96 → 0 ≤ (M 78 (192 + i)).toInt ∧ (M 78 (192 + i)).toInt ≤ 999) : ∀ (m q : Nat), q ≤ S → qP (f_X12_wouldCount_17 n m (nI i) (nI (ch i)) (odS (M 106) (M 107) (piS t) i q) (nI q) M) (fun v m' => ((v = 1 ∧ wMS C K n S p ch M t i) ∨ (v = 0 ∧ ¬ wMS C K n S p ch M t i)) ∧ (∀ c, c ≠ 96 → c ≠ 97 → m' c = M c) ∧ G m') := by
  intro m
  induction m with
  | zero => intro q _; exact P_none
  | succ m ih =>
    intro q hq
    show qP (b_X12_wouldCount_17 n (f_X12_wouldCount_17 n m) (nI i) (nI (ch i)) (odS (M 106) (M 107) (piS t) i q) (nI q) M) _
    unfold b_X12_wouldCount_17
    have tq' : (nI q).toInt = (q : Int) := nI_toInt (by omega)
    have eq' : (nI q).toNatClampNeg = q := by rw [tnc, tq']; rfl
    have ei : (nI i).toNatClampNeg = i := by rw [tnc, nI_toInt (by omega)]; rfl
    have edq : ∀ s, (nI (dgS t s)).toNatClampNeg = dgS t s := fun s => by rw [tnc, nI_toInt (by have := dg_lt t s; omega)]; rfl
    have hpi := (pi_f t).2.1
    have hci := hch i hi
    rw [h43]
    refine P_le (nI_toInt (by omega)) tq' (fun c => ?_) (fun c => P_qg (fun _ _ => ?_))
    · have e : q = S := by omega
      subst e
      rw [h44]
      refine P_qc (P_and (d_tell hp hci.2 8 M) (P_T (t_X12_feels hn (nI p) (nI (ch i)) 8 M hG (by rw [nI_toInt (by omega)]; omega) (by rw [nI_toInt (by omega)]; omega) (by decide)))) ?_
      rintro _ m1 ⟨⟨hF, e1⟩, _, g1, _⟩
      have w1 : WT m1 := fun w hw => by rw [e1 102 (by decide), e1 103 (by decide), e1 104 (by decide)]; exact hW w hw
      have r1 : m1 108 i = nI (dgS t i) := by rw [e1 108 (by decide)]; exact hR i hi
      obtain ⟨wa, wg, wc⟩ := w1 (dgS t i) (dg_lt t i)
      refine P_qg (fun _ _ => ?_)
      rw [ei, r1]
      refine P_qg (fun _ _ => P_qg (fun _ _ => P_qg (fun _ _ => ?_)))
      rw [edq, wa, wg]
      refine P_g g1 (rn_97 _ _) (nw_97 _) ?_
      intro m2 a1 a2 a3 g2
      refine P_qg (fun _ _ => ?_)
      rw [a3 108 (by decide), r1]
      refine P_qg (fun _ _ => P_qg (fun _ _ => P_qg (fun _ _ => ?_)))
      rw [edq, a3 102 (by decide), a3 103 (by decide), wa, wg]
      refine P_g g2 (rn_97 _ _) (nw_97 _) ?_
      intro m3 b1 b2 b3 g3
      refine P_qg (fun _ _ => ?_)
      rw [b3 108 (by decide), a3 108 (by decide), r1]
      refine P_qg (fun _ _ => ?_)
      rw [edq, b3 104 (by decide), a3 104 (by decide), wc]
      refine P_g g3 (rn_97 _ _) (nw_97 _) ?_
      intro m4 c1 c2 c3 g4
      have o4 : ∀ c, c ≠ 97 → m4 c = M c := fun c hc => by rw [c3 c hc, b3 c hc, a3 c hc, e1 c hc]
      have hF4 : FE (m4 97) (fx (nI (ch i)) (M 81 (ch i)) (M 82 (ch i)) 0 0 0 (M 78 313) (nI p) 8 ((M 78 (12 * p + ch i) + nI (wyA (dgS t i))) + nI (wyG (dgS t i))) ((byA (M 78) (ch i) 8 + nI (wyA (dgS t i))) + nI (wyG (dgS t i))) (M 78 (192 + (12 * p + ch i)) + nI (wyC (dgS t i)))) := by
        have o : ∀ s, s ≠ 9 → s ≠ 10 → s ≠ 11 → m4 97 s = m1 97 s := fun s q9 q10 q11 => by rw [c2 s q11, b2 s q10, a2 s q9]
        refine FE_mk ?_ ?_ ?_ ?_ ?_ ?_ ?_ ?_ ?_ ?_ ?_ ?_
        · rw [o 0 (by decide) (by decide) (by decide)]; exact hF 0 (by decide)
        · rw [o 1 (by decide) (by decide) (by decide)]; exact hF 1 (by decide)
        · rw [o 2 (by decide) (by decide) (by decide)]; exact hF 2 (by decide)
        · rw [o 3 (by decide) (by decide) (by decide)]; exact hF 3 (by decide)
        · rw [o 4 (by decide) (by decide) (by decide)]; exact hF 4 (by decide)
        · rw [o 5 (by decide) (by decide) (by decide)]; exact hF 5 (by decide)
        · rw [o 6 (by decide) (by decide) (by decide)]; exact hF 6 (by decide)
        · rw [o 7 (by decide) (by decide) (by decide)]; exact hF 7 (by decide)
        · rw [o 8 (by decide) (by decide) (by decide)]; exact hF 8 (by decide)
        · rw [c2 9 (by decide), b2 9 (by decide), a1, show m1 97 9 = M 78 (12 * p + ch i) from hF 9 (by decide)]
        · rw [c2 10 (by decide), b1, a2 10 (by decide), show m1 97 10 = byA (M 78) (ch i) 8 from hF 10 (by decide)]
        · rw [c1, b2 11 (by decide), a2 11 (by decide), show m1 97 11 = M 78 (192 + (12 * p + ch i)) from hF 11 (by decide)]
      have l4 : LM m4 C K := LM_cg hL (fun c q1 q2 => o4 c (by omega)) (by rw [o4 77 (by decide)])
      refine P_qc (P_and (d_amt hn hK h240 118 99 1 m4 g4 l4 (by rw [l_118]; decide) (by decide)) (P_T (t_X12_byLaw hn 118 99 1 m4 g4 (by decide) (by decide) (by decide)))) ?_
      rintro r5 m6 ⟨hr5, _, g6, s6⟩
      have hv : r5 = vdY C K n (M 81) (M 82) (M 78 313) p (ch i) (M 78) (fun i => M 78 (192 + i)) (wyA (dgS t i)) (wyG (dgS t i)) (wyC (dgS t i)) := by
        rw [hr5, l_118, amtL_F hF4 (by decide) hK]
        rfl
      have o6 : ∀ c, c ≠ 96 → c ≠ 97 → m6 c = M c := fun c q1 q2 => by rw [← o4 c q2]; exact funext (fun s_ => s6 c s_ (out96 q1))
      have hv2 := congrArg (fun y => odS (M 106) (M 107) (piS t) i q < y) hv
      refine P_if (fun z => P_ret ⟨Or.inr ⟨rfl, fun w => w.1 (Eq.mp hv2 z)⟩, o6, g6⟩) (fun z => ?_)
      have q78 : m6 78 = M 78 := o6 78 (by decide) (by decide)
      have q83 : m6 83 = M 83 := o6 83 (by decide) (by decide)
      refine P_qc (d_ac (n := n) (S := q) (t := t) (ch := ch) hS hp hci.2 (M := m6) (by rw [o6 77 (by decide) (by decide)]; exact h43) (by rw [o6 77 (by decide) (by decide)]; exact h44) (fun w hw => by rw [o6 102 (by decide) (by decide), o6 103 (by decide) (by decide), o6 104 (by decide) (by decide)]; exact hW w hw) (fun s hs => by rw [o6 108 (by decide) (by decide)]; exact hR s hs) (fun s hs => by rw [o6 105 (by decide) (by decide)]; exact hch s hs) (by rw [q78]; exact hN)) ?_
      rintro r7 m8 ⟨hr7, rfl⟩
      rw [q78, q83] at hr7
      rcases hr7 with ⟨rfl, h7⟩ | ⟨rfl, h7⟩
      · exact P_if (fun z => absurd z (by decide)) (fun _ => P_ret ⟨Or.inl ⟨rfl, fun y => z (Eq.mpr hv2 y), h7⟩, o6, g6⟩)
      · exact P_if (fun _ => P_ret ⟨Or.inr ⟨rfl, fun w => h7 w.2⟩, o6, g6⟩) (fun z => absurd rfl z)
    · have hqS : q < S := by omega
      have go : ∀ z : Int32, z = (if bitI (M 107 i) q then nI (exS (piS t) q) else 0) → qP (f_X12_wouldCount_70 n (f_X12_wouldCount_17 n m) (nI i) (nI (ch i)) (nI q) (odS (M 106) (M 107) (piS t) i q) z M) (fun v m' => ((v = 1 ∧ wMS C K n S p ch M t i) ∨ (v = 0 ∧ ¬ wMS C K n S p ch M t i)) ∧ (∀ c, c ≠ 96 → c ≠ 97 → m' c = M c) ∧ G m') := by
        intro z hz
        unfold f_X12_wouldCount_70
        refine P_ql rfl (fun x1 hx1 => P_ql (i_add tq' l_1 (by omega) (by omega)) (fun x2 hx2 => ?_))
        have e1 : x1 = odS (M 106) (M 107) (piS t) i (q + 1) := by rw [Int32.toInt_inj.mp hx1, hz]; rfl
        rw [e1, nI_i (a := x2) (k := q + 1) (by rw [hx2]; omega)]
        exact ih (q + 1) (by omega)
      rw [ei, d_h0, qc_v]
      by_cases cb : bitI (M 107 i) q
      · rw [if_pos cb]
        refine P_if (fun z => absurd z (by decide)) (fun _ => P_qg (fun _ _ => ?_))
        rw [eq', hR q hqS]
        refine P_qg (fun _ _ => P_qg (fun _ _ => P_qg (fun _ _ => ?_)))
        obtain ⟨wa, wg, _⟩ := hW (dgS t q) (dg_lt t q)
        have hw := wy_f (dgS t q) (dg_lt t q)
        rw [edq, wa, wg]
        refine go _ ?_
        rw [if_pos cb, hpi q (by omega)]
        exact nI_i (by rw [i_add (nI_toInt (n := wyA (dgS t q)) (by omega)) (nI_toInt (n := wyG (dgS t q)) (by omega)) (by omega) (by omega)]; unfold eWy; omega)
      · rw [if_neg cb]
        exact P_if (fun _ => go 0 (by rw [if_neg cb])) (fun z => absurd rfl z)
theorem d_wd {n : Nat} (hn : 200000 ≤ n) {C : List Int} {K : List Kl} (hK : Kg (cdl C) C.length K) (h240 : C.length ≤ 240) {S t p i : Nat} (hS : S ≤ 4) (hp : p < 8) (hi : i < S) {ch : Nat → Nat} {M : qM} (hG : G M) (hL : LM M C K) (h43 : M 77 43 = nI S) (h44 : M 77 44 = nI p) (hW : WT M) (hR : RwT S t M) (hch : ∀ i, i < S → M 105 i = nI (ch i) ∧ ch i < 12) (hN : ∀ i, i < 96 → 0 ≤ (M 78 (192 + i)).toInt ∧ (M 78 (192 + i)).toInt ≤ 999) : qP (f_X12_wouldCount n (nI i) M) (fun v m' => ((v = 1 ∧ wMS C K n S p ch M t i) ∨ (v = 0 ∧ ¬ wMS C K n S p ch M t i)) ∧ (∀ c, c ≠ 96 → c ≠ 97 → m' c = M c) ∧ G m') := by
  have ei : (nI i).toNatClampNeg = i := by rw [tnc, nI_toInt (by omega)]; rfl
  unfold f_X12_wouldCount
  refine P_qg (fun _ _ => ?_)
  rw [ei, (hch i hi).1]
  refine P_ql rfl (fun x1 hx1 => P_qg (fun _ _ => P_ql rfl (fun x2 hx2 => ?_)))
  rw [Int32.toInt_inj.mp hx1, Int32.toInt_inj.mp hx2]
  exact d_wd17 hn hK h240 hS hp hi hG hL h43 h44 hW hR hch hN n 0 (Nat.zero_le _)
/-! the model goes on from a state -/
def trS (wM : Nat → Nat → Prop) (S u i t : Nat) : Prop := eWy (dgS u i) < 3 ∧ ∃ w, w < 20 ∧ wyA w = wyA (dgS u i) + 1 ∧ wyG w = wyG (dgS u i) ∧ ((wM u i ∧ wyC w = wyC (dgS u i) + 1) ∨ (¬ wM u i ∧ wyC w = wyC (dgS u i))) ∧ t = rpS S u i w
def buS (S G u i t : Nat) : Prop := eWy (dgS u i) < 3 ∧ gaS S u < G ∧ ∃ w, w < 20 ∧ wyA w = wyA (dgS u i) ∧ wyG w = wyG (dgS u i) + 1 ∧ wyC w = wyC (dgS u i) ∧ t = rpS S u i w
def suS (wM : Nat → Nat → Prop) (S G u t : Nat) : Prop := u < 20 ^ S ∧ ∃ i, i < S ∧ (trS wM S u i t ∨ buS S G u i t)
/-- what stands while the model searches: M0 is the memory behind what it laid -/
abbrev MX (M0 M : qM) : Prop := G M ∧ ∀ c, c ≠ 96 → c ≠ 97 → c ≠ 108 → c ≠ 110 → M c = M0 c
abbrev SoM (C : List Int) (K : List Kl) (n S p : Nat) (ch hr : Nat → Nat) (M0 : qM) : Prop := LM M0 C K ∧ WT M0 ∧ (M0 77 43 = nI S ∧ M0 77 44 = nI p) ∧ (∀ i, i < S → M0 105 i = nI (ch i) ∧ ch i < 12 ∧ M0 81 (ch i) = nI (hr i) ∧ hr i ≤ 12) ∧ ∀ i, i < 96 → 0 ≤ (M0 78 (192 + i)).toInt ∧ (M0 78 (192 + i)).toInt ≤ 999
theorem SoM_M {C : List Int} {K : List Kl} {n S p : Nat} {ch hr : Nat → Nat} {M0 M : qM} (h : SoM C K n S p ch hr M0) (k : MX M0 M) : LM M C K ∧ WT M ∧ (M 77 43 = nI S ∧ M 77 44 = nI p) ∧ (∀ i, i < S → M 105 i = nI (ch i) ∧ ch i < 12 ∧ M 81 (ch i) = nI (hr i) ∧ hr i ≤ 12) ∧ (∀ i, i < 96 → 0 ≤ (M 78 (192 + i)).toInt ∧ (M 78 (192 + i)).toInt ≤ 999) ∧ wMS C K n S p ch M = wMS C K n S p ch M0 := by
  obtain ⟨h1, h2, h3, h4, h5⟩ := h
  have o := k.2
  refine ⟨LM_cg h1 (fun c q1 q2 => o c (by omega) (by omega) (by omega) (by omega)) (by rw [o 77 (by decide) (by decide) (by decide) (by decide)]), fun w hw => by rw [o 102 (by decide) (by decide) (by decide) (by decide), o 103 (by decide) (by decide) (by decide) (by decide), o 104 (by decide) (by decide) (by decide) (by decide)]; exact h2 w hw, by rw [o 77 (by decide) (by decide) (by decide) (by decide)]; exact h3, fun i hi => by rw [o 105 (by decide) (by decide) (by decide) (by decide), o 81 (by decide) (by decide) (by decide) (by decide)]; exact h4 i hi, fun i hi => by rw [o 78 (by decide) (by decide) (by decide) (by decide)]; exact h5 i hi, ?_⟩
  funext t i
  unfold wMS
  rw [o 106 (by decide) (by decide) (by decide) (by decide), o 107 (by decide) (by decide) (by decide) (by decide), o 81 (by decide) (by decide) (by decide) (by decide), o 82 (by decide) (by decide) (by decide) (by decide), o 78 (by decide) (by decide) (by decide) (by decide), o 83 (by decide) (by decide) (by decide) (by decide)]
theorem d_mkG {n S t i w : Nat} (hn : 200000 ≤ n) (hS : S ≤ 4) (hi : i < S) (hw : w < 20) {M0 M : qM} (h43 : M 77 43 = nI S) (hR : RwT S t M) (hX : MX M0 M) : qP (f_X12_marks n (nI i) (nI w) M) (fun _ m' => (∀ s, m' 110 s ≠ 0 ↔ (M 110 s ≠ 0 ∨ s = rpS S t i w)) ∧ RwT S t m' ∧ MX M0 m') := by
  refine P_mono (P_and (d_marks hS hi hw h43 hR) (P_T (t_X12_marks hn (nI i) (nI w) M hX.1 (by rw [nI_toInt (by omega)]; omega) (by rw [nI_toInt (by omega)]; omega)))) (fun v m h => ?_)
  obtain ⟨⟨h1, h2, h3, h4⟩, h5⟩ := h
  have g : G m := by first | exact h5.1 | exact h5.2.1 | exact h5.2.2.1
  refine ⟨fun s => ?_, h3, g, fun c q1 q2 q3 q4 => by rw [h4 c q3 q4]; exact hX.2 c q1 q2 q3 q4⟩
  by_cases c : s = rpS S t i w
  · rw [c, h1]
    exact ⟨fun _ => Or.inr rfl, fun _ => by decide⟩
  · rw [h2 s c]
    exact ⟨fun z => Or.inl z, fun z => z.resolve_right c⟩
theorem d_spr7 {n : Nat} (hn : 200000 ≤ n) {C : List Int} {K : List Kl} (hK : Kg (cdl C) C.length K) (h240 : C.length ≤ 240) {S p u g : Nat} (hS : S ≤ 4) (hp : p < 8) (hu : u < 20 ^ S) (hg : g ≤ 3) {ch hr : Nat → Nat} {M0 : qM} (hM0 : SoM C K n S p ch hr M0) {M1 : qM} : ∀ (m i : Nat) (M : qM), i ≤ S → RwT S u M → MX M0 M → (∀ s, M 110 s ≠ 0 ↔ (M1 110 s ≠ 0 ∨ ∃ q, q < i ∧ (trS (wMS C K n S p ch M0) S u q s ∨ buS S g u q s))) → qP (f_X12_spreads_7 n m (nI g) (nI (gaS S u)) (nI i) M) (fun _ m' => MX M0 m' ∧ ∀ s, m' 110 s ≠ 0 ↔ (M1 110 s ≠ 0 ∨ suS (wMS C K n S p ch M0) S g u s)) := by
  intro m
  induction m with
  | zero => intro i M _ _ _ _; exact P_none
  | succ m ih =>
    intro i M hi hR hX hmk
    show qP (b_X12_spreads_7 n (f_X12_spreads_7 n m) (nI g) (nI (gaS S u)) (nI i) M) _
    unfold b_X12_spreads_7
    have ti : (nI i).toInt = (i : Int) := nI_toInt (by omega)
    have ei : (nI i).toNatClampNeg = i := by rw [tnc, ti]; rfl
    obtain ⟨hL, hW, ⟨h43, h44⟩, hch, hN, hwm⟩ := SoM_M hM0 hX
    rw [h43]
    refine P_le (nI_toInt (by omega)) ti (fun c => P_ret ⟨hX, fun s => ?_⟩) (fun c => P_qg (fun _ _ => ?_))
    · rw [hmk s, show i = S by omega]
      constructor
      · rintro (z | z)
        · exact Or.inl z
        · exact Or.inr ⟨hu, z⟩
      · rintro (z | z)
        · exact Or.inl z
        · exact Or.inr z.2
    · have hiS : i < S := by omega
      have hd := dg_lt u i
      have ed : (nI (dgS u i)).toNatClampNeg = dgS u i := by rw [tnc, nI_toInt (by omega)]; rfl
      obtain ⟨wa, wg, wc⟩ := hW (dgS u i) hd
      have hf := wy_f (dgS u i) hd
      rw [ei, hR i hiS]
      refine P_qg (fun _ _ => ?_)
      rw [ed, wa]
      refine P_ql rfl (fun x1 hx1 => P_qg (fun _ _ => P_qg (fun _ _ => ?_)))
      rw [Int32.toInt_inj.mp hx1, wg]
      refine P_ql rfl (fun x2 hx2 => ?_)
      rw [Int32.toInt_inj.mp hx2]
      have hsum : (nI (wyA (dgS u i)) + nI (wyG (dgS u i))).toInt = ((eWy (dgS u i) : Nat) : Int) := by
        rw [i_add (nI_toInt (n := wyA (dgS u i)) (by omega)) (nI_toInt (n := wyG (dgS u i)) (by omega)) (by omega) (by omega)]
        unfold eWy
        omega
      have nx : ∀ (x : Int32) (m' : qM), x.toInt = (i : Int) + 1 → RwT S u m' → MX M0 m' → (∀ s, m' 110 s ≠ 0 ↔ (M 110 s ≠ 0 ∨ (trS (wMS C K n S p ch M0) S u i s ∨ buS S g u i s))) → qP (f_X12_spreads_7 n m (nI g) (nI (gaS S u)) x m') (fun _ m' => MX M0 m' ∧ ∀ s, m' 110 s ≠ 0 ↔ (M1 110 s ≠ 0 ∨ suS (wMS C K n S p ch M0) S g u s)) := by
        intro x m' hx r' x' k'
        rw [nI_i (a := x) (k := i + 1) (by rw [hx]; omega)]
        refine ih (i + 1) m' (by omega) r' x' (fun s => ?_)
        rw [k' s, hmk s]
        constructor
        · rintro ((z | ⟨q, hq, z⟩) | z)
          · exact Or.inl z
          · exact Or.inr ⟨q, by omega, z⟩
          · exact Or.inr ⟨i, by omega, z⟩
        · rintro (z | ⟨q, hq, z⟩)
          · exact Or.inl (Or.inl z)
          · by_cases e : q = i
            · rw [e] at z; exact Or.inr z
            · exact Or.inl (Or.inr ⟨q, by omega, z⟩)
      refine P_eq hsum l_3 (fun z3 => P_ql (i_add ti l_1 (by omega) (by omega)) (fun x hx => nx x M hx hR hX (fun s => ⟨fun w => Or.inl w, fun w => ?_⟩))) (fun z3 => P_qg (fun _ _ => P_qg (fun _ _ => ?_)))
      · rcases w with w | w | w
        · exact w
        · exact absurd w.1 (by omega)
        · exact absurd w.1 (by omega)
      · have he : eWy (dgS u i) < 3 := by unfold eWy at z3 ⊢; omega
        rw [wc]
        refine P_qc (d_wd hn hK h240 hS hp hiS hX.1 hL h43 h44 hW hR (fun i hi => ⟨(hch i hi).1, (hch i hi).2.1⟩) hN) ?_
        rintro r3 m4 ⟨hr3, o4, g4⟩
        rw [hwm] at hr3
        have X4 : MX M0 m4 := ⟨g4, fun c q1 q2 q3 q4 => by rw [o4 c q1 q2]; exact hX.2 c q1 q2 q3 q4⟩
        have R4 : RwT S u m4 := fun q hq => by rw [o4 108 (by decide) (by decide)]; exact hR q hq
        have e110 : m4 110 = M 110 := o4 110 (by decide) (by decide)
        have go : ∀ cc : Nat, cc < 2 → ((wMS C K n S p ch M0 u i ∧ cc = 1) ∨ (¬ wMS C K n S p ch M0 u i ∧ cc = 0)) → qP (f_X12_spreads_86 n (f_X12_spreads_7 n m) (nI g) (nI (gaS S u)) (nI i) (nI (wyA (dgS u i))) (nI (wyG (dgS u i))) (nI i) (nI (wyA (dgS u i)) + (1 : Int32)) (nI (wyG (dgS u i))) (nI (wyC (dgS u i))) (nI cc) m4) (fun _ m' => MX M0 m' ∧ ∀ s, m' 110 s ≠ 0 ↔ (M1 110 s ≠ 0 ∨ suS (wMS C K n S p ch M0) S g u s)) := by
          intro cc hcc hwc
          obtain ⟨w', b1, b2, b3, b4, b5⟩ := wy_try (dgS u i) hd he cc hcc
          obtain ⟨_, W4, ⟨h43', _⟩, _, _, _⟩ := SoM_M hM0 X4
          have hf' := wy_f w' b1
          unfold f_X12_spreads_86
          refine P_qc (d_way b1 W4 (nI_i (by rw [i_add (nI_toInt (n := wyA (dgS u i)) (by omega)) l_1 (by omega) (by omega), b3]; omega)) (by rw [b4]) (nI_i (by rw [i_add (nI_toInt (n := wyC (dgS u i)) (by omega)) (nI_toInt (n := cc) (by omega)) (by omega) (by omega), b5]; omega))) ?_
          rintro r1 m5 ⟨rfl, rfl⟩
          refine P_qc (d_mkG hn hS hiS b1 h43' R4 X4) ?_
          rintro _ m6 ⟨k6, R6, X6⟩
          have htr : ∀ s, trS (wMS C K n S p ch M0) S u i s ↔ s = rpS S u i w' := by
            intro s
            constructor
            · rintro ⟨_, w2, c1, c2, c3, c4, c5⟩
              have : w2 = w' := wy_inj w2 c1 w' b1 (by rw [c2, b3]) (by rw [c3, b4]) (by
                rcases hwc with ⟨a1, a2⟩ | ⟨a1, a2⟩ <;> rcases c4 with ⟨d1, d2⟩ | ⟨d1, d2⟩
                · rw [d2, b5, a2]
                · exact absurd a1 d1
                · exact absurd d1 a1
                · rw [d2, b5, a2]; rfl)
              rw [c5, this]
            · intro e
              refine ⟨he, w', b1, b3, b4, ?_, e⟩
              rcases hwc with ⟨a1, a2⟩ | ⟨a1, a2⟩
              · exact Or.inl ⟨a1, by rw [b5, a2]⟩
              · exact Or.inr ⟨a1, by rw [b5, a2]; rfl⟩
          have hgb : gaS S u ≤ 3 * S := smN_le (fun q _ => by have := (wy_f (dgS u q) (dg_lt u q)).1; omega)
          refine P_le (nI_toInt (by omega)) (nI_toInt (by omega)) (fun z => P_ql (i_add ti l_1 (by omega) (by omega)) (fun x hx => nx x m6 hx R6 X6 (fun s => ?_))) (fun z => P_qg (fun _ _ => ?_))
          · rw [k6 s, e110, htr s]
            constructor
            · rintro (w | w)
              · exact Or.inl w
              · exact Or.inr (Or.inl w)
            · rintro (w | w | w)
              · exact Or.inl w
              · exact Or.inr w
              · exact absurd w.2.1 (by omega)
          · obtain ⟨_, W6, ⟨h43'', _⟩, _, _, _⟩ := SoM_M hM0 X6
            rw [ei, R6 i hiS]
            refine P_qg (fun _ _ => ?_)
            rw [ed, (W6 (dgS u i) hd).2.2]
            obtain ⟨w2, e1, e2, e3, e4, e5⟩ := wy_buy (dgS u i) hd he
            refine P_qc (d_way e1 W6 (by rw [e3]) (nI_i (by rw [i_add (nI_toInt (n := wyG (dgS u i)) (by omega)) l_1 (by omega) (by omega), e4]; omega)) (by rw [e5])) ?_
            rintro r5 m7 ⟨rfl, rfl⟩
            refine P_qc (d_mkG hn hS hiS e1 h43'' R6 X6) ?_
            rintro _ m8 ⟨k8, R8, X8⟩
            refine P_ql (i_add ti l_1 (by omega) (by omega)) (fun x hx => nx x m8 hx R8 X8 (fun s => ?_))
            rw [k8 s, k6 s, e110, htr s]
            have hbu : buS S g u i s ↔ s = rpS S u i w2 := by
              constructor
              · rintro ⟨_, _, w3, c1, c2, c3, c4, c5⟩
                have : w3 = w2 := wy_inj w3 c1 w2 e1 (by rw [c2, e3]) (by rw [c3, e4]) (by rw [c4, e5])
                rw [c5, this]
              · intro e
                exact ⟨he, by omega, w2, e1, e3, e4, e5, e⟩
            rw [hbu]
            constructor
            · rintro ((w | w) | w)
              · exact Or.inl w
              · exact Or.inr (Or.inl w)
              · exact Or.inr (Or.inr w)
            · rintro (w | w | w)
              · exact Or.inl (Or.inl w)
              · exact Or.inl (Or.inr w)
              · exact Or.inr w
        rcases hr3 with ⟨rfl, hw⟩ | ⟨rfl, hw⟩
        · exact P_if (fun z => absurd z (by decide)) (fun _ => go 1 (by decide) (Or.inl ⟨hw, rfl⟩))
        · exact P_if (fun _ => go 0 (by decide) (Or.inr ⟨hw, rfl⟩)) (fun z => absurd rfl z)
theorem d_spr {n : Nat} (hn : 200000 ≤ n) {C : List Int} {K : List Kl} (hK : Kg (cdl C) C.length K) (h240 : C.length ≤ 240) {S p u g : Nat} (hS : S ≤ 4) (hp : p < 8) (hu : u < 20 ^ S) (hg : g ≤ 3) {ch hr : Nat → Nat} {M0 : qM} (hM0 : SoM C K n S p ch hr M0) {M : qM} (hR : RwT S u M) (hX : MX M0 M) : qP (f_X12_spreads n (nI g) M) (fun _ m' => MX M0 m' ∧ ∀ s, m' 110 s ≠ 0 ↔ (M 110 s ≠ 0 ∨ suS (wMS C K n S p ch M0) S g u s)) := by
  obtain ⟨hL, hW, ⟨h43, h44⟩, hch, hN, hwm⟩ := SoM_M hM0 hX
  unfold f_X12_spreads
  refine P_qc (d_goesN hS h43 hW hR) ?_
  rintro r1 m2 ⟨rfl, rfl⟩
  exact d_spr7 hn hK h240 hS hp hu hg hM0 n 0 m2 (Nat.zero_le _) hR hX (fun s => ⟨fun z => Or.inl z, fun z => z.resolve_right (fun ⟨q, hq, _⟩ => by omega)⟩)
/-! the model's search through its states is the class's -/
theorem wy_gt : ∀ w, w < 20 → ∀ w', w' < 20 → eWy w' = eWy w + 1 → w < w' := by decide +kernel
theorem smN_0 {f : Nat → Nat} : ∀ {i : Nat}, (∀ q, q < i → f q = 0) → smN f i = 0 := by
  intro i
  induction i with
  | zero => intro _; rfl
  | succ i ih =>
    intro h
    show smN f i + f i = 0
    rw [ih (fun q hq => h q (by omega)), h i (by omega)]
theorem dg_0 (i : Nat) : dgS 0 i = 0 := by unfold dgS; rw [Nat.zero_div]
abbrev tmS (aim t : Nat) : Prop := wyC (dgS t aim) ≠ 0
abbrev inS (t : Nat) : Prop := t = 0
theorem su_lt {wM : Nat → Nat → Prop} {S G u t : Nat} (h : suS wM S G u t) : u < t ∧ t < 20 ^ S := by
  obtain ⟨hu, i, hi, h | h⟩ := h
  · obtain ⟨_, w, w1, w2, w3, _, rfl⟩ := h
    have e : eWy w = eWy (dgS u i) + 1 := by unfold eWy; omega
    exact ⟨rp_gt hu hi (wy_gt _ (dg_lt u i) _ w1 e), (rp_f w1 hi).1⟩
  · obtain ⟨_, _, w, w1, w2, w3, _, rfl⟩ := h
    have e : eWy w = eWy (dgS u i) + 1 := by unfold eWy; omega
    exact ⟨rp_gt hu hi (wy_gt _ (dg_lt u i) _ w1 e), (rp_f w1 hi).1⟩
theorem rp_sm {S u i w d : Nat} {F : Nat → Nat → Nat} (hi : i < S) (hw : w < 20) (h : F i w = F i (dgS u i) + d) : smN (fun q => F q (dgS (rpS S u i w) q)) S = smN (fun q => F q (dgS u q)) S + d := by
  obtain ⟨_, r2, r3⟩ := rp_f (S := S) (t := u) hw hi
  refine smN_up (f := fun q => F q (dgS u q)) (g := fun q => F q (dgS (rpS S u i w) q)) (i := i) ?_ hi (fun q hq hne => ?_)
  · show F i (dgS (rpS S u i w) i) = F i (dgS u i) + d
    rw [r2]; exact h
  · show F q (dgS (rpS S u i w) q) = F q (dgS u q)
    rw [r3 q hq hne]
theorem ok_b {wM : Nat → Nat → Prop} {S G aim : Nat} {ini : Nat → Prop} (hin : ∀ t, ini t → t < 20 ^ S ∧ gaS S t ≤ G) : ∀ N t, t < N → okS ini (tmS aim) (suS wM S G) t → t < 20 ^ S ∧ gaS S t ≤ G := by
  intro N
  induction N with
  | zero => intro t h _; omega
  | succ N ih =>
    intro t ht hok
    rcases ok_ex hok with hi | ⟨u, hu, hou, _, hsu⟩
    · exact hin t hi
    · have hl := su_lt hsu
      have hg := (ih u (by omega) hou).2
      refine ⟨hl.2, ?_⟩
      obtain ⟨_, i, hi, h | h⟩ := hsu
      · obtain ⟨_, w, w1, w2, w3, _, rfl⟩ := h
        have := rp_sm (u := u) (d := 0) (F := fun _ w => wyG w) hi w1 (by show wyG w = wyG (dgS u i) + 0; omega)
        show smN (fun q => wyG (dgS (rpS S u i w) q)) S ≤ G
        rw [this]
        exact hg
      · obtain ⟨_, hlt, w, w1, w2, w3, _, rfl⟩ := h
        have := rp_sm (u := u) (d := 1) (F := fun _ w => wyG w) hi w1 (by show wyG w = wyG (dgS u i) + 1; omega)
        show smN (fun q => wyG (dgS (rpS S u i w) q)) S ≤ G
        rw [this]
        exact hlt
theorem bW1 {w : Nat} : bWy w = 1 ↔ wyC w ≠ 0 := by
  unfold bWy
  by_cases c : wyC w = 0
  · rw [if_pos c]; exact ⟨fun z => absurd z (by decide), fun z => absurd c z⟩
  · rw [if_neg c]; exact ⟨fun _ => c, fun _ => rfl⟩
theorem bW0 {w : Nat} (h : wyC w = 0) : bWy w = 0 := by unfold bWy; rw [if_pos h]
theorem th3 {st i : Nat} (h : ¬ i < 3) : thS st i = nxS st i := by unfold thS nxS; rw [if_neg h]
/-- a try's step, seen by the class -/
theorem st_try {S aim u i w : Nat} {hr : Nat → Nat} {W : Nat → Nat → Bool} {wM : Nat → Nat → Prop} (hS : S ≤ 4) (hu : u < 20 ^ S) (hi : i < S) (haim : aim < S) (htm : ¬ tmS aim u) (hW : wyC (dgS u i) = 0 → (W (piS u) i = true ↔ wM u i)) (w1 : w < 20) (w2 : wyA w = wyA (dgS u i) + 1) (w3 : wyG w = wyG (dgS u i)) (w4 : (wM u i ∧ wyC w = wyC (dgS u i) + 1) ∨ (¬ wM u i ∧ wyC w = wyC (dgS u i))) : coS hr S (rpS S u i w) = coS hr S u + (16 * hr i + 1) ∧ gaS S (rpS S u i w) = gaS S u ∧ (tmS aim (rpS S u i w) ↔ (W (piS u) i = true ∧ i = aim)) ∧ (¬ tmS aim (rpS S u i w) → piS (rpS S u i w) = (if W (piS u) i = true then thS (piS u) i else nxS (piS u) i)) := by
  have e : eWy w = eWy (dgS u i) + 1 := by unfold eWy; omega
  obtain ⟨_, r2, r3⟩ := rp_f (S := S) (t := u) w1 hi
  obtain ⟨p1, p2⟩ := pi_rp hS hu hi w1 e
  refine ⟨?_, ?_, ?_, fun hnt => ?_⟩
  · exact rp_sm (u := u) (d := 16 * hr i + 1) (F := fun q w => (16 * hr q + 1) * wyA w) hi w1 (by show (16 * hr i + 1) * wyA w = (16 * hr i + 1) * wyA (dgS u i) + (16 * hr i + 1); rw [w2, Nat.mul_succ])
  · exact rp_sm (u := u) (d := 0) (F := fun _ w => wyG w) hi w1 (by show wyG w = wyG (dgS u i) + 0; omega)
  · by_cases c : i = aim
    · subst c
      have h0 : wyC (dgS u i) = 0 := Classical.byContradiction (fun z => htm z)
      have hw := hW h0
      show wyC (dgS (rpS S u i w) i) ≠ 0 ↔ _
      rw [r2]
      rcases w4 with ⟨a, b⟩ | ⟨a, b⟩
      · exact ⟨fun _ => ⟨hw.mpr a, rfl⟩, fun _ => by omega⟩
      · exact ⟨fun z => absurd (by omega) z, fun z => absurd (hw.mp z.1) a⟩
    · show wyC (dgS (rpS S u i w) aim) ≠ 0 ↔ _
      rw [r3 aim haim (fun z => c z.symm)]
      exact ⟨fun z => absurd z htm, fun z => absurd z.2 c⟩
  · by_cases h0 : wyC (dgS u i) = 0
    · have hw := hW h0
      rcases w4 with ⟨a, b⟩ | ⟨a, b⟩
      · rw [if_pos (hw.mpr a)]
        by_cases c3 : i < 3
        · exact p2 c3 (bW1.mpr (by omega))
        · rw [th3 c3]; exact p1 (Or.inr (by omega))
      · rw [if_neg (fun z => a (hw.mp z))]
        exact p1 (Or.inl (by rw [bW0 (by omega), bW0 h0]))
    · have hb : bWy w = 1 := bW1.mpr (by omega)
      have hb2 : bWy (dgS u i) = 1 := bW1.mpr h0
      by_cases cw : W (piS u) i = true
      · rw [if_pos cw]
        by_cases c3 : i < 3
        · exact p2 c3 hb
        · rw [th3 c3]; exact p1 (Or.inr (by omega))
      · rw [if_neg cw]
        exact p1 (Or.inl (by rw [hb, hb2]))
theorem st_buy {S aim u i w : Nat} {hr : Nat → Nat} (hS : S ≤ 4) (hu : u < 20 ^ S) (hi : i < S) (haim : aim < S) (htm : ¬ tmS aim u) (w1 : w < 20) (w2 : wyA w = wyA (dgS u i)) (w3 : wyG w = wyG (dgS u i) + 1) (w4 : wyC w = wyC (dgS u i)) : coS hr S (rpS S u i w) = coS hr S u ∧ gaS S (rpS S u i w) = gaS S u + 1 ∧ ¬ tmS aim (rpS S u i w) ∧ piS (rpS S u i w) = nxS (piS u) i := by
  have e : eWy w = eWy (dgS u i) + 1 := by unfold eWy; omega
  obtain ⟨_, r2, r3⟩ := rp_f (S := S) (t := u) w1 hi
  refine ⟨?_, ?_, ?_, ?_⟩
  · exact rp_sm (u := u) (d := 0) (F := fun q w => (16 * hr q + 1) * wyA w) hi w1 (congrArg (fun y => (16 * hr i + 1) * y) w2)
  · exact rp_sm (u := u) (d := 1) (F := fun _ w => wyG w) hi w1 w3
  · show ¬ wyC (dgS (rpS S u i w) aim) ≠ 0
    by_cases c : i = aim
    · subst c
      rw [r2, w4]; exact htm
    · rw [r3 aim haim (fun z => c z.symm)]; exact htm
  · exact (pi_rp hS hu hi w1 e).1 (Or.inl (by unfold bWy; rw [w4]))
abbrev Bst (ini tm : Nat → Prop) (suc : Nat → Nat → Prop) (co : Nat → Nat) (s x : Nat) : Prop := (x = 1000000000 ∨ ∃ t, t < s ∧ okS ini tm suc t ∧ tm t ∧ x = co t) ∧ (∀ t, t < s → okS ini tm suc t → tm t → x ≤ co t) ∧ x ≤ 1000000000
theorem co_le {hr : Nat → Nat} {S t : Nat} (hS : S ≤ 4) (hh : ∀ i, i < S → hr i ≤ 12) : coS hr S t ≤ 2400 := by
  have : coS hr S t ≤ 600 * S := smN_le (fun q hq => by
    have h1 := (wy_f (dgS t q) (dg_lt t q)).1
    have h2 := hh q hq
    have h3 : (16 * hr q + 1) * wyA (dgS t q) ≤ 193 * 3 := Nat.mul_le_mul (by omega) (by omega)
    omega)
  omega
theorem soon_eq {S aim G x : Nat} {hr : Nat → Nat} {W : Nat → Nat → Bool} {wM : Nat → Nat → Prop} (hS : S ≤ 4) (haim : aim < S) (hh : ∀ i, i < S → hr i ≤ 12) (hW : ∀ u i, u < 20 ^ S → i < S → wyC (dgS u i) = 0 → (W (piS u) i = true ↔ wM u i)) (hx : Bst inS (tmS aim) (suS wM S G) (coS hr S) (20 ^ S) x) : (vS S hr aim W 0 G = 1048576 ∧ x = 1000000000) ∨ (vS S hr aim W 0 G < 1048576 ∧ x = vS S hr aim W 0 G) := by
  have hlt : ∀ s t, suS wM S G s t → s < t := fun s t h => (su_lt h).1
  have p0 : piS 0 = 0 := by unfold piS enS; rw [dg_0, dg_0, dg_0, dg_0]; rfl
  have g0 : gaS S 0 = 0 := smN_0 (fun q _ => by rw [dg_0]; rfl)
  have c0 : coS hr S 0 = 0 := smN_0 (fun q _ => by rw [dg_0]; exact Nat.mul_zero _)
  have t0 : ¬ tmS aim 0 := by show ¬ wyC (dgS 0 aim) ≠ 0; rw [dg_0]; decide
  have hob := ok_b (wM := wM) (S := S) (G := G) (aim := aim) (ini := inS) (fun t h => by
    have h' : t = 0 := h
    subst h'
    exact ⟨Nat.pow_pos (by decide), by rw [g0]; exact Nat.zero_le _⟩)
  have hp : ∀ t, okS inS (tmS aim) (suS wM S G) t → ¬ tmS aim t → piS t < 2048 ∧ gaS S t ≤ G := fun t h _ => ⟨(pi_f t).1, (hob (t + 1) t (by omega) h).2⟩
  have hin : ∀ t, inS t → ¬ tmS aim t := fun t h => by
    have h' : t = 0 := h
    subst h'
    exact t0
  have low := sr_low hS (hr := hr) (aim := aim) (G := G) (wc := W) (pi := piS) (ga := gaS S) (co := coS hr S) hp hin (fun u t _ htm hsu => by
    obtain ⟨hu, i, hi, h | h⟩ := hsu
    · obtain ⟨he, w, w1, w2, w3, w4, rfl⟩ := h
      exact ⟨i, hi, by rw [(pi_f u).2.1 i (by omega)]; exact he, Or.inl (st_try hS hu hi haim htm (hW u i hu hi) w1 w2 w3 w4)⟩
    · obtain ⟨he, hlt, w, w1, w2, w3, w4, rfl⟩ := h
      exact ⟨i, hi, by rw [(pi_f u).2.1 i (by omega)]; exact he, Or.inr ⟨hlt, st_buy hS hu hi haim htm w1 w2 w3 w4⟩⟩)
  have upp := sr_upp hS (hr := hr) (aim := aim) (G := G) (wc := W) (ini := inS) (tm := tmS aim) (suc := suS wM S G) (pi := piS) (ga := gaS S) (co := coS hr S) hlt hp (fun u i hok htm hi he => by
    have hu := (hob (u + 1) u (by omega) hok).1
    rw [(pi_f u).2.1 i (by omega)] at he
    have hd := dg_lt u i
    refine ⟨?_, fun hg => ?_⟩
    · by_cases c : wM u i
      · obtain ⟨w, w1, _, w2, w3, w4⟩ := wy_try (dgS u i) hd he 1 (by decide)
        have w4' : (wM u i ∧ wyC w = wyC (dgS u i) + 1) ∨ (¬ wM u i ∧ wyC w = wyC (dgS u i)) := Or.inl ⟨c, w4⟩
        exact ⟨rpS S u i w, ⟨hu, i, hi, Or.inl ⟨he, w, w1, w2, w3, w4', rfl⟩⟩, st_try hS hu hi haim htm (hW u i hu hi) w1 w2 w3 w4'⟩
      · obtain ⟨w, w1, _, w2, w3, w4⟩ := wy_try (dgS u i) hd he 0 (by decide)
        have w4' : (wM u i ∧ wyC w = wyC (dgS u i) + 1) ∨ (¬ wM u i ∧ wyC w = wyC (dgS u i)) := Or.inr ⟨c, w4⟩
        exact ⟨rpS S u i w, ⟨hu, i, hi, Or.inl ⟨he, w, w1, w2, w3, w4', rfl⟩⟩, st_try hS hu hi haim htm (hW u i hu hi) w1 w2 w3 w4'⟩
    · obtain ⟨w, w1, _, w2, w3, w4⟩ := wy_buy (dgS u i) hd he
      exact ⟨rpS S u i w, ⟨hu, i, hi, Or.inr ⟨he, hg, w, w1, w2, w3, w4, rfl⟩⟩, st_buy hS hu hi haim htm w1 w2 w3 w4⟩)
  obtain ⟨hx1, hx2, hx3⟩ := hx
  have hVN := vS_N (S := S) (hr := hr) (aim := aim) (wc := W) (st := 0) (g := G)
  have lowt : ∀ t, okS inS (tmS aim) (suS wM S G) t → tmS aim t → vS S hr aim W 0 G ≤ coS hr S t := by
    intro t hok ht
    obtain ⟨r, hr0, h1, _⟩ := low (t + 1) t (by omega) hok
    have hr' : r = 0 := hr0
    subst hr'
    have h2 := h1 ht
    rw [p0, g0, c0, Nat.sub_zero] at h2
    omega
  by_cases c : vS S hr aim W 0 G < 1048576
  · obtain ⟨t, t1, t2, t3⟩ := upp (13 - totS (piS 0)) 0 (by have := tot12 (piS 0) (pi_f 0).1; omega) (ok_ini rfl) t0 (by rw [p0, g0, Nat.sub_zero]; exact c)
    rw [p0, g0, c0, Nat.sub_zero, Nat.zero_add] at t3
    have h1 := hx2 t (hob (t + 1) t (by omega) t1).1 t1 t2
    refine Or.inr ⟨c, ?_⟩
    rcases hx1 with h | ⟨t', _, u1, u2, u3⟩
    · have := co_le (t := t) hS hh
      omega
    · have := lowt t' u1 u2
      omega
  · refine Or.inl ⟨by omega, ?_⟩
    rcases hx1 with h | ⟨t', _, u1, u2, u3⟩
    · exact h
    · have h1 := lowt t' u1 u2
      have := co_le (t := t') hS hh
      omega
/-! soonest, by the model -/
theorem d_plc {n S aim k : Nat} (hS : S ≤ 4) (haim : aim < S) {ch : Nat → Nat} {M : qM} (hk : k < 12) (hch : ∀ i, i < S → M 105 i = nI (ch i) ∧ ch i < 12) (hka : ch aim = k) (hne : ∀ i, i < aim → ch i ≠ k) : qP (f_X12_placeOf n (nI k) M) (fun v m' => v = nI aim ∧ m' = M) := by
  have lp : ∀ (m i : Nat), i ≤ aim → qP (f_X12_placeOf_2 n m (nI k) (nI i) M) (fun v m' => v = nI aim ∧ m' = M) := by
    intro m
    induction m with
    | zero => intro i _; exact P_none
    | succ m ih =>
      intro i hi
      show qP (b_X12_placeOf_2 n (f_X12_placeOf_2 n m) (nI k) (nI i) M) _
      unfold b_X12_placeOf_2
      have ti : (nI i).toInt = (i : Int) := nI_toInt (by omega)
      have ei : (nI i).toNatClampNeg = i := by rw [tnc, ti]; rfl
      have hci := hch i (by omega)
      refine P_qg (fun _ _ => ?_)
      rw [ei, hci.1]
      refine P_if (fun z => P_ret ⟨?_, rfl⟩) (fun z => P_ql (i_add ti l_1 (by omega) (by omega)) (fun x hx => ?_))
      · have e : ch i = k := nI_inj (by omega) (by omega) z
        by_cases c : i = aim
        · rw [c]
        · exact absurd e (hne i (by omega))
      · rw [nI_i (a := x) (k := i + 1) (by rw [hx]; omega)]
        refine ih (i + 1) ?_
        by_cases c : i = aim
        · exact absurd (by rw [c, hka]) z
        · omega
  unfold f_X12_placeOf
  exact lp n 0 (Nat.zero_le _)
def ansS (x : Nat) (what : Int32) : Int32 := if x = 1000000000 then -2 else if what = 0 then nI (x / 16) else nI (x % 16)
theorem d_so92 {n : Nat} (hn : 200000 ≤ n) {C : List Int} {K : List Kl} (hK : Kg (cdl C) C.length K) (h240 : C.length ≤ 240) {S p g aim : Nat} (hS : S ≤ 4) (hp : p < 8) (hg : g ≤ 3) (haim : aim < S) {ch hr : Nat → Nat} {M0 : qM} (hM0 : SoM C K n S p ch hr M0) (what : Int32) {ini : Nat → Prop} : ∀ (m s x : Nat) (M : qM), s ≤ 20 ^ S → MX M0 M → (∀ t, t < 20 ^ S → (M 110 t ≠ 0 ↔ bA ini (tmS aim) (suS (wMS C K n S p ch M0) S g) s t)) → Bst ini (tmS aim) (suS (wMS C K n S p ch M0) S g) (coS hr S) s x → qP (f_X12_soonest_92 n m (nI g) what (nI (20 ^ S)) (nI aim) (nI x) (nI s) M) (fun v _ => ∃ y, v = ansS y what ∧ Bst ini (tmS aim) (suS (wMS C K n S p ch M0) S g) (coS hr S) (20 ^ S) y) := by
  intro m
  induction m with
  | zero => intro s x M _ _ _ _; exact P_none
  | succ m ih =>
    intro s x M hs hX hmk hB
    show qP (b_X12_soonest_92 n (f_X12_soonest_92 n m) (nI g) what (nI (20 ^ S)) (nI aim) (nI x) (nI s) M) _
    unfold b_X12_soonest_92
    have p4 := p20 hS
    have ts : (nI s).toInt = (s : Int) := nI_toInt (by omega)
    have es : (nI s).toNatClampNeg = s := by rw [tnc, ts]; rfl
    have hx3 := hB.2.2
    have tx : (nI x).toInt = (x : Int) := nI_toInt (by omega)
    have lF : (1000000000 : Int32).toInt = 1000000000 := rfl
    refine P_le (nI_toInt (by omega)) ts (fun c => ?_) (fun c => P_qg (fun _ _ => ?_))
    · have e : s = 20 ^ S := by omega
      rw [e] at hB
      refine P_eq tx lF (fun z => P_ret ⟨x, ?_, hB⟩) (fun z => P_if (fun w => P_ret ⟨x, ?_, hB⟩) (fun w => P_ret ⟨x, ?_, hB⟩))
      · unfold ansS; rw [if_pos (by omega)]
      · unfold ansS
        rw [if_neg (by omega), if_pos w]
        exact nI_i (by rw [i_div tx l_16 (by omega) (by decide)]; omega)
      · unfold ansS
        rw [if_neg (by omega), if_neg w]
        exact nI_i (by rw [i_rem tx l_16 (by omega) (by decide)]; omega)
    · have hlt : ∀ a b, suS (wMS C K n S p ch M0) S g a b → a < b := fun a b h => (su_lt h).1
      have hsA : s < 20 ^ S := by omega
      have hbs : bA ini (tmS aim) (suS (wMS C K n S p ch M0) S g) s s ↔ okS ini (tmS aim) (suS (wMS C K n S p ch M0) S g) s := Iff.rfl
      have nxB : ∀ y, y ≤ 1000000000 → (y = x ∨ (okS ini (tmS aim) (suS (wMS C K n S p ch M0) S g) s ∧ tmS aim s ∧ y = coS hr S s)) → y ≤ x → (okS ini (tmS aim) (suS (wMS C K n S p ch M0) S g) s → tmS aim s → y ≤ coS hr S s) → Bst ini (tmS aim) (suS (wMS C K n S p ch M0) S g) (coS hr S) (s + 1) y := by
        intro y h0 h1 h2 h3
        refine ⟨?_, fun t ht hok htm => ?_, h0⟩
        · rcases h1 with h1 | ⟨a, b, d⟩
          · rw [h1]
            rcases hB.1 with e | ⟨t, a, b⟩
            · exact Or.inl e
            · exact Or.inr ⟨t, by omega, b⟩
          · exact Or.inr ⟨s, by omega, a, b, d⟩
        · by_cases e : t = s
          · rw [e] at hok htm ⊢; exact h3 hok htm
          · have := hB.2.1 t (by omega) hok htm
            omega
      rw [es]
      refine P_if (fun z => P_ql (i_add ts l_1 (by omega) (by omega)) (fun x2 hx2 => ?_)) (fun z => ?_)
      · rw [nI_i (a := x2) (k := s + 1) (by rw [hx2]; omega)]
        have hno : ¬ bA ini (tmS aim) (suS (wMS C K n S p ch M0) S g) s s := fun w => (hmk s hsA).mpr w z
        refine ih (s + 1) x M (by omega) hX (fun t ht => ?_) (nxB x hx3 (Or.inl rfl) (Nat.le_refl _) (fun w _ => absurd w hno))
        rw [hmk t ht]
        exact ⟨fun w => Or.inl w, fun w => w.elim (fun w => w) (fun w => absurd w.1 hno)⟩
      · have hyes := (hmk s hsA).mp z
        obtain ⟨hL, hW, ⟨h43, h44⟩, hch, hN, hwm⟩ := SoM_M hM0 hX
        refine P_qc (P_and (d_tk hS (t := s) (by omega) h43) (P_T (t_X12_takesState hn (nI s) M hX.1 (by omega)))) ?_
        rintro _ m1 ⟨⟨hR, o1⟩, hp1⟩
        have g1 : G m1 := by first | exact hp1.1 | exact hp1.2.1 | exact hp1.2.2.1
        have X1 : MX M0 m1 := ⟨g1, fun c q1 q2 q3 q4 => by rw [o1 c q3]; exact hX.2 c q1 q2 q3 q4⟩
        have e110 : m1 110 = M 110 := o1 110 (by decide)
        obtain ⟨hL1, hW1, ⟨h431, _⟩, hch1, _, _⟩ := SoM_M hM0 X1
        have ea : (nI aim).toNatClampNeg = aim := by rw [tnc, nI_toInt (by omega)]; rfl
        have hd := dg_lt s aim
        refine P_qg (fun _ _ => ?_)
        rw [ea, hR aim haim]
        refine P_qg (fun _ _ => ?_)
        rw [show (nI (dgS s aim)).toNatClampNeg = dgS s aim by rw [tnc, nI_toInt (by omega)]; rfl, (hW1 (dgS s aim) hd).2.2]
        have hf := wy_f (dgS s aim) hd
        refine P_le (nI_toInt (by omega)) l_0 (fun z0 => ?_) (fun z0 => ?_)
        · have htm : ¬ tmS aim s := fun w => w (by omega)
          refine P_qc (d_spr hn hK h240 hS hp hsA hg hM0 hR X1) ?_
          rintro _ m2 ⟨X2, k2⟩
          refine P_ql (i_add ts l_1 (by omega) (by omega)) (fun x3 hx3' => ?_)
          rw [nI_i (a := x3) (k := s + 1) (by rw [hx3']; omega)]
          refine ih (s + 1) x m2 (by omega) X2 (fun t ht => ?_) (nxB x hx3 (Or.inl rfl) (Nat.le_refl _) (fun _ w => absurd w htm))
          rw [k2 t, e110, hmk t ht]
          exact ⟨fun w => w.elim (fun w => Or.inl w) (fun w => Or.inr ⟨hyes, htm, w⟩), fun w => w.elim (fun w => Or.inl w) (fun w => Or.inr w.2.2)⟩
        · have htm : tmS aim s := fun w => by omega
          refine P_qc (d_hoursN (ch := ch) (hr := hr) hS h431 hW1 hR hch1) ?_
          rintro r4 m5 ⟨rfl, rfl⟩
          refine P_qc (d_madeN hS h431 hW1 hR) ?_
          rintro r6 m7 ⟨rfl, rfl⟩
          have hco := co_hm hr s S
          have hcl := co_le (t := s) (hr := hr) hS (fun i hi => (hch i hi).2.2.2)
          have eco : (16 : Int32) * nI (hoS hr S s) + nI (maS S s) = nI (coS hr S s) := nI_i (by
            rw [i_add (i_mul l_16 (nI_toInt (n := hoS hr S s) (by omega)) (by omega) (by omega)) (nI_toInt (n := maS S s) (by omega)) (by omega) (by omega), hco]; omega)
          rw [eco, d_min, n_min (by omega) (by omega), qc_v]
          refine P_ql (i_add ts l_1 (by omega) (by omega)) (fun x10 hx10 => ?_)
          rw [nI_i (a := x10) (k := s + 1) (by rw [hx10]; omega)]
          refine ih (s + 1) (min x (coS hr S s)) m7 (by omega) X1 (fun t ht => ?_) (nxB _ (by omega) ?_ (by omega) (fun _ _ => by omega))
          · rw [e110, hmk t ht]
            exact ⟨fun w => Or.inl w, fun w => w.elim (fun w => w) (fun w => absurd htm w.2.1)⟩
          · by_cases c5 : x ≤ coS hr S s
            · exact Or.inl (by omega)
            · exact Or.inr ⟨hyes, htm, by omega⟩
theorem d_so59 {n : Nat} (hn : 200000 ≤ n) {C : List Int} {K : List Kl} (hK : Kg (cdl C) C.length K) (h240 : C.length ≤ 240) {S p g aim : Nat} (hS : S ≤ 4) (hp : p < 8) (hg : g ≤ 3) (haim : aim < S) {ch hr : Nat → Nat} {M0 : qM} (hM0 : SoM C K n S p ch hr M0) (what : Int32) : ∀ (m s : Nat) (M : qM), s ≤ 20 ^ S → MX M0 M → (∀ t, t < s → (M 110 t ≠ 0 ↔ t = 0)) → qP (f_X12_soonest_59 n m (nI g) what (nI (20 ^ S)) (nI aim) (1000000000 : Int32) (nI s) M) (fun v _ => ∃ y, v = ansS y what ∧ Bst inS (tmS aim) (suS (wMS C K n S p ch M0) S g) (coS hr S) (20 ^ S) y) := by
  intro m
  induction m with
  | zero => intro s M _ _ _; exact P_none
  | succ m ih =>
    intro s M hs hX hlo
    show qP (b_X12_soonest_59 n (f_X12_soonest_59 n m) (nI g) what (nI (20 ^ S)) (nI aim) (1000000000 : Int32) (nI s) M) _
    unfold b_X12_soonest_59
    have p4 := p20 hS
    have ts : (nI s).toInt = (s : Int) := nI_toInt (by omega)
    have es : (nI s).toNatClampNeg = s := by rw [tnc, ts]; rfl
    refine P_le (nI_toInt (by omega)) ts (fun c => ?_) (fun c => ?_)
    · have e : s = 20 ^ S := by omega
      refine d_so92 hn hK h240 hS hp hg haim hM0 what n 0 1000000000 M (Nat.zero_le _) hX (fun t ht => hlo t (by omega)) ⟨Or.inl rfl, fun t ht => absurd ht (by omega), Nat.le_refl _⟩
    · have go : ∀ z : Int32, (z = 0 ∨ z = 1) → (z ≠ 0 ↔ s = 0) → qP (qg (nI s) 160000 (qlm (mu M 110 (nI s).toNatClampNeg (vp_nar .boolean z)) (fun m1 => ql (nI s + (1 : Int32)) (fun x2 => f_X12_soonest_59 n m (nI g) what (nI (20 ^ S)) (nI aim) (1000000000 : Int32) x2 m1)))) (fun v _ => ∃ y, v = ansS y what ∧ Bst inS (tmS aim) (suS (wMS C K n S p ch M0) S g) (coS hr S) (20 ^ S) y) := by
        intro z hz hz2
        have ez : vp_nar .boolean z = z := by rcases hz with rfl | rfl <;> rfl
        refine P_qg (fun _ _ => ?_)
        rw [es, ez]
        refine P_g hX.1 (show 0 ≤ z.toInt ∧ z.toInt ≤ 1 by rcases hz with rfl | rfl <;> decide) (nw_110 _) ?_
        intro m1 a1 a2 a3 g1
        refine P_ql (i_add ts l_1 (by omega) (by omega)) (fun x hx => ?_)
        rw [nI_i (a := x) (k := s + 1) (by rw [hx]; omega)]
        refine ih (s + 1) m1 (by omega) ⟨g1, fun c q1 q2 q3 q4 => by rw [a3 c q4]; exact hX.2 c q1 q2 q3 q4⟩ (fun t ht => ?_)
        by_cases e : t = s
        · rw [e, a1]; exact hz2
        · rw [a2 t e]; exact hlo t (by omega)
      refine P_eq ts l_0 (fun z => go 1 (Or.inr rfl) ⟨fun _ => by omega, fun _ => by decide⟩) (fun z => go 0 (Or.inl rfl) ⟨fun w => absurd rfl w, fun w => absurd (by omega) z⟩)
/-! what a search is asked -/
theorem fa_bc3 : ∀ a, a < 64 → ∀ b, b < 64 → bcv (nI (64 * a + b)) = mbs (nI (64 * a + b)) 12 := by decide +kernel
theorem fa_bc2 : ∀ j, j < 4096 → bcv (nI j) = mbs (nI j) 12 := by
  intro j hj
  have h := fa_bc3 (j / 64) (by omega) (j % 64) (by omega)
  rw [show 64 * (j / 64) + j % 64 = j by omega] at h
  exact h
theorem cntR_q (b : Int32) : ∀ q, cntR b q ≤ q := by
  intro q
  induction q with
  | zero => exact Nat.le_refl _
  | succ q ih =>
    show (if bitI b q then cntR b q + 1 else cntR b q) ≤ q + 1
    by_cases c : bitI b q
    · rw [if_pos c]; omega
    · rw [if_neg c]; omega
theorem cnt_m (b : Int32) : ∀ {q : Nat}, q ≤ 12 → mbs b q = nI (cntR b q) := by
  intro q
  induction q with
  | zero => intro _; rfl
  | succ q ih =>
    intro hq
    have hc := cntR_q b q
    show mbs b q + ((b >>> (nI q &&& 31)) &&& (1 : Int32)) = nI (if bitI b q then cntR b q + 1 else cntR b q)
    rw [ih (by omega)]
    by_cases c : bitI b q
    · rw [if_pos c]
      have c' : (b >>> (nI q &&& 31)) &&& (1 : Int32) = 1 := c
      rw [c']
      exact nI_i (by rw [i_add (nI_toInt (n := cntR b q) (by omega)) l_1 (by omega) (by omega)]; omega)
    · rw [if_neg c]
      have c' : (b >>> (nI q &&& 31)) &&& (1 : Int32) = 0 := (and01 _).resolve_right c
      rw [c', Int32.add_zero]
theorem can_2 {n : Nat} (hn : 200000 ≤ n) {A B : qM} (hD : KD A B) (h8 : A 7 8 = B 78 312) (hT : KT A) (a1 a2 a3 : Int32) : ∃ r : Int32, f_X11_canChoose n a1 a2 a3 A = some (r, A) ∧ f_X12_areSome n a1 a2 a3 B = some (r, B) ∧ (r = 0 ∨ (r = 1 ∧ ∃ p k : Nat, (p < 8 ∧ k < 12) ∧ (a1 = nI p ∧ a3 = nI k) ∧ cntR a2 12 ≤ 4 ∧ bitI a2 k ∧ ∀ q, q < 12 → bitI a2 q → bitI (A 3 3) q)) := by
  have z0 : (0 : Int32) = 0 := rfl
  have z1 : ¬ (1 : Int32) = 0 := by decide
  obtain ⟨t, ht, et⟩ := KT_ex hT
  unfold f_X11_canChoose f_X12_areSome f_X2_knowsAll
  obtain ⟨r1, p1, p2, hr1⟩ := pn_2 (n := n) h8 a1
  obtain ⟨r3, k1, k2, hr3⟩ := kn_2 (n := n) hD a3
  rw [bc_val, qc_v, p1, p2, qc_v, qc_v]
  rcases hr1 with rfl | ⟨rfl, p, hp, rfl⟩
  · exact ⟨0, by rw [if_pos z0], by rw [if_pos z0], Or.inl rfl⟩
  rw [if_neg z1, if_neg z1, ← hD.1]
  by_cases c1 : a2 &&& (A 3 3 ^^^ (-1 : Int32)) = 0
  · rw [if_pos c1, if_pos c1, qc_v, if_neg z1, bits_val (by omega), qc_v]
    have c1' := c1
    rw [et] at c1'
    obtain ⟨w, hw, ew⟩ := know_n ht c1'
    have hcm := cnt_m a2 (q := 12) (Nat.le_refl _)
    have hbc : bcv a2 = nI (cntR a2 12) := by rw [ew, fa_bc2 w hw, ← ew, hcm]
    have hle := cntR_q a2 12
    rw [hbc, hcm]
    have tw : a2.toInt = (w : Int) := by rw [ew, nI_toInt (by omega)]
    by_cases c2 : cntR a2 12 < 1
    · have hw0 : a2 ≤ (0 : Int32) := by
        rw [Int32.le_iff_toInt_le, l_0, tw]
        have : w = 0 := by
          apply Nat.eq_of_testBit_eq
          intro i
          rw [Nat.zero_testBit]
          by_cases ci : i < 12
          · cases hb : w.testBit i with
            | false => rfl
            | true =>
              have h1 : bitI a2 i := by rw [ew, bit_n (by omega) (by omega)]; exact hb
              have := (chR_in ci h1).1
              omega
          · exact Nat.testBit_lt_two_pow (Nat.lt_of_lt_of_le hw (Nat.pow_le_pow_right (n := 2) (by decide) (show 12 ≤ i by omega)))
        omega
      exact ⟨0, by rw [if_pos (show nI (cntR a2 12) < (1 : Int32) by rw [Int32.lt_iff_toInt_lt, nI_toInt (by omega), l_1]; omega)], by rw [if_pos hw0], Or.inl rfl⟩
    · have hpos : ¬ a2 ≤ (0 : Int32) := by
        rw [Int32.le_iff_toInt_le, l_0, tw]
        intro z
        have : w = 0 := by omega
        rw [this] at ew
        have h2 := chR_lt (b := a2) (q := 12) (i := 0) (by omega)
        obtain ⟨i, hi, hbi⟩ : ∃ i, i < 12 ∧ bitI a2 i := ⟨_, h2.1, h2.2.1⟩
        rw [ew] at hbi
        exact bit_0 hi hbi
      rw [if_neg (show ¬ nI (cntR a2 12) < (1 : Int32) by rw [Int32.lt_iff_toInt_lt, nI_toInt (by omega), l_1]; omega), if_neg hpos]
      by_cases c3 : 4 < cntR a2 12
      · have c3' : (4 : Int32) < nI (cntR a2 12) := by rw [Int32.lt_iff_toInt_lt, nI_toInt (by omega), l_4]; omega
        exact ⟨0, by rw [if_pos c3'], by rw [if_pos c3'], Or.inl rfl⟩
      · have c3' : ¬ (4 : Int32) < nI (cntR a2 12) := by rw [Int32.lt_iff_toInt_lt, nI_toInt (by omega), l_4]; omega
        rw [if_neg c3', if_neg c3', k1, k2, qc_v, qc_v]
        rcases hr3 with ⟨rfl, _⟩ | ⟨rfl, k, hk, rfl, hb⟩
        · exact ⟨0, by rw [if_pos z0], by rw [if_pos z0], Or.inl rfl⟩
        · rw [if_neg z1, if_neg z1, d_h0, qc_v]
          by_cases cb : bitI a2 k
          · refine ⟨1, by rw [if_pos cb], by rw [if_pos cb, if_neg z1], Or.inr ⟨rfl, p, k, ⟨hp, hk⟩, ⟨rfl, rfl⟩, by omega, cb, fun q hq hbq => ?_⟩⟩
            rw [ew, et] at c1
            rw [et]
            rw [ew] at hbq
            exact (nsub hw ht).mp c1 q hq hbq
          · exact ⟨0, by rw [if_neg cb], by rw [if_neg cb, if_pos z0], Or.inl rfl⟩
  · rw [if_neg c1, if_neg c1, qc_v, if_pos z0]
    refine ⟨0, rfl, ?_, Or.inl rfl⟩
    by_cases c2 : a2 ≤ (0 : Int32)
    · rw [if_pos c2]
    · rw [if_neg c2]
/-! soonest: both sides -/
abbrev HKd (A : qM) : Prop := ∀ q, q < 12 → 0 ≤ (A 4 q).toInt ∧ (A 4 q).toInt ≤ 12
/-- the rows of both sides say the same of a try -/
theorem W_wM {C : List Int} {K : List Kl} {n : Nat} {j : Nat} {A B mA' mB : qM} {b : Int32} {p : Nat} (hp : p < 8) (h4 : cntR b 12 ≤ 4) (hE : RE 7 j C K A B) (hN : NKd A) {zz : Nat → Int32} (hzz : ∀ i, i < cntR b 12 → ∀ q, q < 12 → (bitI (zz i) q ↔ (q = chR b 12 i ∨ (bitI (A 3 3) q ∧ lkv C K n (A 4) (A 5) (A 7 9) (chR b 12 i) q ≠ 0)))) (htold : ∀ i, i < cntR b 12 → bitI (A 3 3) (chR b 12 i)) (hrw : ∀ i, i < cntR b 12 → mA' 58 i = smB (A 9) p (zz i) 12 ∧ (∀ q, q < cntR b 12 → (bitI (mA' 59 i) q ↔ bitI (zz i) (chR b 12 q))) ∧ LkS b (A 6 (chR b 12 i)) p (A 11) (mA' 60 i) ∧ ∀ e, e < 4 → mA' 62 (4 * i + e) = vdX C K n (A 4) (A 5) (A 7 9) p (chR b 12 i) (A 9) (A 11) e) (hry : ∀ i, i < cntR b 12 → RyS C K n b p zz B mB i) (h81 : mB 81 = B 81) (h82 : mB 82 = B 82) (h83 : mB 83 = B 83) (h78 : mB 78 = B 78) {u i : Nat} (hu : u < 20 ^ cntR b 12) (hi : i < cntR b 12) (hc : wyC (dgS u i) = 0) : wcS (mA' 60) (mA' 58) (mA' 59) (mA' 62) (cntR b 12) (piS u) i = true ↔ wMS C K n (cntR b 12) p (chR b 12) mB u i := by
  obtain ⟨_, _, hD, hR, hO⟩ := hE
  obtain ⟨r58, r59, r60, r62⟩ := hrw i hi
  obtain ⟨s106, s107⟩ := hry i hi
  obtain ⟨hk, hbk, _⟩ := chR_lt hi
  have hd := dg_lt u i
  have hf := wy_f (dgS u i) hd
  have hpi := pi_f u
  have rT : ∀ q, q < 96 → A 9 q = B 78 q := fun q hq => (hR.1 q hq).1
  have rN : ∀ q, q < 96 → A 11 q = B 78 (192 + q) := fun q hq => (hR.2 q hq).1
  -- old ones
  have e0 : mA' 58 i = mB 106 i := by
    rw [r58, s106]
    exact smB_cg hp (fun _ _ => Iff.rfl) rT (Nat.le_refl _)
  have eb : ∀ q, q < cntR b 12 → (bitI (mA' 59 i) q ↔ bitI (mB 107 i) q) := by
    intro q hq
    obtain ⟨hkq, _, hcq⟩ := chR_lt hq
    rw [r59 q hq, hzz i hi _ hkq, s107 q hq]
    have el : lkv C K n (A 4) (A 5) (A 7 9) (chR b 12 i) (chR b 12 q) = lk_S C K n b B i q := by
      unfold lk_S
      rw [hO.2.1]
      exact lkv_cg (hD.2.2 _ hk).1 (hD.2.2 _ hk).2.1 (hD.2.2 _ hkq).2.1
    rw [el]
    constructor
    · rintro (z | z)
      · unfold lk_S
        rw [z]
        unfold lkv
        rw [if_pos rfl]
        decide
      · exact z.2
    · intro z; exact Or.inr ⟨htold q hq, z⟩
  have eod : ∀ s, s ≤ cntR b 12 → odS (mA' 58) (mA' 59) (piS u) i s = odS (mB 106) (mB 107) (piS u) i s := by
    intro s
    induction s with
    | zero => intro _; exact e0
    | succ s ih =>
      intro hs
      show odS (mA' 58) (mA' 59) (piS u) i s + (if bitI (mA' 59 i) s then nI (exS (piS u) s) else 0) = odS (mB 106) (mB 107) (piS u) i s + (if bitI (mB 107 i) s then nI (exS (piS u) s) else 0)
      rw [ih (by omega)]
      by_cases c : bitI (mB 107 i) s
      · rw [if_pos c, if_pos ((eb s (by omega)).mpr c)]
      · rw [if_neg c, if_neg (fun z => c ((eb s (by omega)).mp z))]
  have ev : mA' 62 (4 * i + exS (piS u) i) = vdY C K n (mB 81) (mB 82) (mB 78 313) p (chR b 12 i) (mB 78) (fun i => mB 78 (192 + i)) (wyA (dgS u i)) (wyG (dgS u i)) (wyC (dgS u i)) := by
    rw [r62 _ (ex3 _ _), hc, vdY_0 (by omega), hpi.2.1 i (by omega), h81, h82, h78, ← hO.2.1]
    unfold vdX eWy
    rw [(hD.2.2 _ hk).1, (hD.2.2 _ hk).2.1, rT (12 * p + chR b 12 i) (by omega), rN (12 * p + chR b 12 i) (by omega), byA_cg hk (Nat.le_refl _) (fun q hq => (rT q hq))]
  rw [wcS_y, eod _ (Nat.le_refl _), ev]
  obtain ⟨w, hw, ew⟩ := hN _ hk
  have ew2 : mB 83 (chR b 12 i) = A 6 (chR b 12 i) := by rw [h83]; exact (hD.2.2 _ hk).2.2.symm
  have inj : ∀ s r, s < cntR b 12 → r < cntR b 12 → chR b 12 s = chR b 12 r → s = r := by
    intro s r hs hr e
    have h1 := (chR_lt hs).2.2
    have h2 := (chR_lt hr).2.2
    rw [← h1, ← h2, e]
  have nm0 : ∀ q, nmC (cntR b 12) u q (chR b 12) ≠ 0 → ∃ s, s < cntR b 12 ∧ chR b 12 s = q ∧ wyC (dgS u s) ≠ 0 := by
    intro q h
    apply Classical.byContradiction
    intro hno
    refine h (smN_0 (fun s hs => ?_))
    by_cases c : chR b 12 s = q
    · rw [if_pos c]
      exact Classical.byContradiction (fun z => hno ⟨s, hs, c, z⟩)
    · rw [if_neg c]
  have nm1 : ∀ s, s < cntR b 12 → wyC (dgS u s) ≠ 0 → nmC (cntR b 12) u (chR b 12 s) (chR b 12) ≠ 0 := by
    intro s hs hcs
    have lp : ∀ r, s < r → wyC (dgS u s) ≤ nmC r u (chR b 12 s) (chR b 12) := by
      intro r
      induction r with
      | zero => intro h; omega
      | succ r ih =>
        intro h
        show _ ≤ nmC r u (chR b 12 s) (chR b 12) + (if chR b 12 r = chR b 12 s then wyC (dgS u r) else 0)
        by_cases e : s = r
        · rw [← e, if_pos rfl]; omega
        · have := ih (by omega); omega
    have := lp _ hs
    omega
  -- what is lacked
  have eac : (¬ mA' 60 i = (-1 : Int32) ∧ (mA' 60 i &&& ((nI (piS u) >>> ((8 : Int32) &&& 31)) ^^^ (-1 : Int32))) = 0) ↔ AcS (mB 83 (chR b 12 i)) (cntR b 12) u p (chR b 12) (fun i => mB 78 (192 + i)) := by
    rw [ew2]
    have eN : ∀ q, q < 12 → (fun i => mB 78 (192 + i)) (12 * p + q) = A 11 (12 * p + q) := fun q hq => by
      show mB 78 (192 + (12 * p + q)) = _
      rw [h78]; exact (rN _ (by omega)).symm
    have e8 : nI (piS u) >>> ((8 : Int32) &&& 31) = nI (piS u / 256) := by
      have := n_shr (p := piS u) (m := 8) (by have := hpi.1; omega) (by decide)
      rw [Nat.shiftRight_eq_div_pow] at this
      exact this
    rcases r60 with ⟨e1, q, q1, q2, q3, q4⟩ | ⟨l, l1, l2, l3, l4⟩
    · constructor
      · intro h; exact absurd e1 h.1
      · intro h
        exfalso
        rcases h q q1 q2 with z | z
        · rw [eN q q1] at z; exact z q3
        · obtain ⟨s, hs, e, _⟩ := nm0 q z
          have := (chR_lt hs).2.1
          rw [e] at this
          exact q4 this
    · have hl1 : ¬ mA' 60 i = (-1 : Int32) := by
        rw [l2]
        intro z
        have := congrArg Int32.toInt z
        rw [nI_toInt (by omega), l_m1] at this
        omega
      rw [l2, e8, nsub l1 (by have := hpi.1; omega)]
      have hbit : ∀ s, s < 3 → (bitI (nI (piS u / 256)) s ↔ wyC (dgS u s) ≠ 0) := by
        intro s hs
        have hb := hpi.2.2 s hs
        rw [bit_n (by have := hpi.1; omega) (by omega), Nat.testBit_eq_decide_div_mod_eq, decide_eq_true_eq, Nat.div_div_eq_div_mul, ← bW1, ← hb]
        unfold btS
        rw [Nat.pow_add]
      have hlow : ∀ s, s < 12 → bitI (nI l) s → s < cntR b 12 ∧ s < i ∧ s < 3 := by
        intro s hs hb
        obtain ⟨a1, a2, a3⟩ := (l4 s hs).mp hb
        have hlt : chR b 12 s < chR b 12 i := by
          apply Classical.byContradiction
          intro hge
          rw [ew, bit_n (by have : w < 2 ^ 12 := Nat.lt_of_lt_of_le hw (Nat.pow_le_pow_right (by decide) (by omega)); omega) (by have := (chR_lt a1).1; omega)] at a2
          rw [Nat.testBit_lt_two_pow (Nat.lt_of_lt_of_le hw (Nat.pow_le_pow_right (n := 2) (by decide) (show chR b 12 i ≤ chR b 12 s by omega)))] at a2
          exact absurd a2 (by decide)
        have hsi : s < i := by
          apply Classical.byContradiction
          intro hge
          by_cases e : s = i
          · rw [e] at hlt; omega
          · have := chR_mono (b := b) (i := i) (j := s) (by omega) a1
            omega
        exact ⟨a1, hsi, by omega⟩
      constructor
      · rintro ⟨_, h⟩ q hq hbq
        by_cases c : A 11 (12 * p + q) = 0
        · have hbb := l3 q hq hbq c
          obtain ⟨hin1, hin2⟩ := chR_in hq hbb
          have hbs := (l4 (cntR b q) (by omega)).mpr ⟨hin1, by rw [hin2]; exact hbq, by rw [hin2]; exact c⟩
          obtain ⟨_, _, h3⟩ := hlow _ (by omega) hbs
          have := (hbit _ h3).mp (h _ (by omega) hbs)
          have h5 := nm1 _ hin1 this
          rw [hin2] at h5
          exact Or.inr h5
        · exact Or.inl (by rw [eN q hq]; exact c)
      · intro h
        refine ⟨by rw [← l2]; exact hl1, fun s hs hb => ?_⟩
        obtain ⟨a1, a2, a3⟩ := (l4 s hs).mp hb
        obtain ⟨_, _, h3⟩ := hlow s hs hb
        obtain ⟨hks, _, _⟩ := chR_lt a1
        rcases h _ hks a2 with z | z
        · rw [eN _ hks] at z; exact absurd a3 z
        · obtain ⟨r, hr, e, hcr⟩ := nm0 _ z
          have : r = s := inj r s hr a1 e
          rw [this] at hcr
          exact (hbit s h3).mpr hcr
  constructor
  · rintro ⟨h1, h2, h3⟩
    exact ⟨h3, eac.mp ⟨h1, h2⟩⟩
  · rintro ⟨h3, h⟩
    have := eac.mpr h
    exact ⟨this.1, this.2, h3⟩
/-! what kinds keep to -/
def WKS (M : qM) : Prop := KT M ∧ HKd M ∧ NKd M ∧ WT M
theorem WKS_cg {M m : qM} (h : WKS M) (e33 : m 3 3 = M 3 3) (e4 : m 4 = M 4) (e6 : m 6 = M 6) (e102 : m 102 = M 102) (e103 : m 103 = M 103) (e104 : m 104 = M 104) : WKS m := by
  obtain ⟨h1, h2, h3, h4⟩ := h
  refine ⟨KT_cg h1 e33, ?_, ?_, ?_⟩
  · unfold HKd; rw [e4]; exact h2
  · unfold NKd; rw [e6]; exact h3
  · unfold WT; rw [e102, e103, e104]; exact h4
theorem WKS_S {l : List Bx} {M m : qM} (h : WKS M) (hs : Sm l M m) (e33 : m 3 3 = M 3 3) (h1 : l.all (fun q => decide (q.2.1 ≤ 4) || decide (6 < q.1)) = true) (h2 : l.all (fun q => decide (q.2.1 ≤ 102) || decide (104 < q.1)) = true) : WKS m :=
  WKS_cg h e33 (funext (fun s => hs 4 s (outTN (by decide) (by decide) h1))) (funext (fun s => hs 6 s (outTN (by decide) (by decide) h1))) (funext (fun s => hs 102 s (outTN (by decide) (by decide) h2))) (funext (fun s => hs 103 s (outTN (by decide) (by decide) h2))) (funext (fun s => hs 104 s (outTN (by decide) (by decide) h2)))
theorem WKS_0 {M : qM} (hF : Fr M) (hW : WT M) : WKS M := by
  have z : (0 : Int32).toInt = 0 := rfl
  exact ⟨KT_0 hF, fun q _ => by rw [hF.1 4 q (by decide), z]; omega, fun q _ => ⟨0, Nat.two_pow_pos q, by rw [hF.1 6 q (by decide)]; rfl⟩, hW⟩
theorem kind_WKS {n : Nat} {M m1 : qM} {a1 a2 a3 a4 v1 : Int32} (h : WKS M) (e1 : f_X11_kind n a1 a2 a3 a4 M = some (v1, m1)) : WKS m1 := by
  have key : qP (f_X11_kind n a1 a2 a3 a4 M) (fun _ m => WKS m) := by
    unfold f_X11_kind f_X2_tell
    refine P_qc (Q := fun _ m => WKS m) ?_ (fun v m hm => P_qb (P_ret hm))
    refine P_lt rfl l_0 (fun _ => P_ret h) (fun c1 => ?_)
    refine P_le l_12 rfl (fun _ => P_ret h) (fun c2 => ?_)
    obtain ⟨k, hk, rfl⟩ := in12 (a := a1) ⟨c1, c2⟩
    have ek : (nI k).toNatClampNeg = k := by rw [tnc, nI_toInt (by omega)]; rfl
    rw [c_kn hk, qc_v]
    refine P_if (fun _ => ?_) (fun _ => P_ret h)
    refine P_lt rfl l_1 (fun _ => P_ret h) (fun d1 => ?_)
    refine P_le rfl l_12 (fun d2 => ?_) (fun _ => P_ret h)
    refine P_lt rfl l_0 (fun _ => P_ret h) (fun _ => ?_)
    refine P_lt l_255 rfl (fun _ => P_ret h) (fun _ => ?_)
    refine P_if (fun d3 => ?_) (fun _ => P_ret h)
    unfold f_X2_knowsAll
    refine P_qc (Q := fun r m => m = M ∧ (r ≠ 0 → a4 &&& (M 3 3 ^^^ (-1 : Int32)) = 0)) (P_if (fun q => P_ret ⟨rfl, fun _ => q⟩) (fun _ => P_ret ⟨rfl, fun q => absurd rfl q⟩)) ?_
    rintro r3 m4 ⟨rfl, hq⟩
    refine P_if (fun _ => P_ret h) (fun d4 => ?_)
    have hq := hq d4
    obtain ⟨h1, h2, h3, h4⟩ := h
    obtain ⟨t, ht, et⟩ := KT_ex h1
    rw [et] at hq
    obtain ⟨w, hw, ew⟩ := know_n ht hq
    have hw2 : w < 2 ^ k := by
      rw [ew, n_shr (by omega) (by omega)] at d3
      have := congrArg Int32.toInt d3
      have hle : w >>> k ≤ w := Nat.shiftRight_le w k
      rw [nI_toInt (by omega), l_0, Nat.shiftRight_eq_div_pow] at this
      have h0 : w / 2 ^ k = 0 := by omega
      exact (Nat.div_eq_zero_iff_lt (Nat.two_pow_pos k)).mp h0
    refine P_qg (fun _ _ => ?_)
    rw [ek]
    refine P_m (fun m5 a1' a2' a3' => P_qg (fun _ _ => P_m (fun m6 b1 b2 b3 => P_qg (fun _ _ => P_m (fun m7 f1 f2 f3 => P_m (fun m8 g1 g2 g3 => P_ret ?_))))))
    obtain ⟨c, hc, e⟩ := (bit_or (b := t) (i := 0) (a := k) ht (by decide) hk).2
    refine ⟨KT_mk hc (by rw [g1, f3 3 (by decide), b3 3 (by decide), a3' 3 (by decide), et, e]), fun q hq2 => ?_, fun q hq2 => ?_, fun w hw => ?_⟩
    · rw [g3 4 (by decide), f3 4 (by decide), b3 4 (by decide)]
      by_cases z : q = k
      · rw [z, a1']; omega
      · rw [a2' q z]; exact h2 q hq2
    · rw [g3 6 (by decide)]
      by_cases z : q = k
      · exact ⟨w, by rw [z]; exact hw2, by rw [z, f1]; exact ew⟩
      · rw [f2 q z, b3 6 (by decide), a3' 6 (by decide)]; exact h3 q hq2
    · rw [g3 102 (by decide), f3 102 (by decide), b3 102 (by decide), a3' 102 (by decide), g3 103 (by decide), f3 103 (by decide), b3 103 (by decide), a3' 103 (by decide), g3 104 (by decide), f3 104 (by decide), b3 104 (by decide), a3' 104 (by decide)]
      exact h4 w hw
  exact key v1 m1 e1
/-! soonest -/
theorem q2_p2 {v1 : Int32} {m1 : qM} {E2 : qR} {Q : Int32 → qM → Int32 → qM → Prop} (h : qP E2 (fun v2 m2 => Q v1 m1 v2 m2)) : q2 (some (v1, m1)) E2 Q := by
  intro a b c d e1 e2
  cases e1
  exact h c d e2
theorem choose_i {S : Nat} {P : Nat → Int32 → Prop} (h : ∀ i, i < S → ∃ z, P i z) : ∃ zz : Nat → Int32, ∀ i, i < S → P i (zz i) := by
  have h2 : ∀ i, ∃ z, i < S → P i z := by
    intro i
    by_cases c : i < S
    · obtain ⟨z, hz⟩ := h i c
      exact ⟨z, fun _ => hz⟩
    · exact ⟨0, fun w => absurd w c⟩
  exact ⟨fun i => Classical.choose (h2 i), fun i hi => Classical.choose_spec (h2 i) hi⟩
abbrev hrA (A : qM) (b : Int32) (i : Nat) : Nat := (A 4 (chR b 12 i)).toInt.toNat
/-- both sides have laid a search: what each one needs -/
theorem lay_2 {n : Nat} (hn : 200000 ≤ n) {j p k : Nat} (hj : q_isLaw j) (hp : p < 8) (hk : k < 12) {C : List Int} {K : List Kl} (hK : Kg (cdl C) C.length K) (h240 : C.length ≤ 240) {A B : qM} (hE : RE 7 j C K A B) (hT : KT A) (hH : HKd A) (hN : NKd A) (hW : WT B) {b : Int32} (h4 : cntR b 12 ≤ 4) (hbk : bitI b k) (hbt : ∀ q, q < 12 → bitI b q → bitI (A 3 3) q) {E1 E2 : qM → qR} {Q : Int32 → qM → Int32 → qM → Prop} (h : ∀ m1 m2 : qM, SrS (cntR b 12) (cntR b k) (chR b 12) (hrA A b) (wcS (m1 60) (m1 58) (m1 59) (m1 62) (cntR b 12)) m1 m1 → (∀ c, c ≠ 34 → c ≠ 35 → c ≠ 36 → (c < 56 ∨ 63 < c) → m1 c = A c) → MX m2 m2 → SoM C K n (cntR b 12) p (chR b 12) (hrA A b) m2 → (∀ c, c ≠ 77 → c ≠ 96 → c ≠ 97 → c ≠ 105 → c ≠ 106 → c ≠ 107 → m2 c = B c) → (∀ u i, u < 20 ^ cntR b 12 → i < cntR b 12 → wyC (dgS u i) = 0 → (wcS (m1 60) (m1 58) (m1 59) (m1 62) (cntR b 12) (piS u) i = true ↔ wMS C K n (cntR b 12) p (chR b 12) m2 u i)) → q2 (E1 m1) (E2 m2) Q) : q2 (qc (f_X7_prepare n 7 j (nI p) b (nI k) A) (fun _ m => E1 m)) (qc (f_X12_laysOwn n (nI p) b B) (fun _ m => E2 m)) Q := by
  have hE' := hE
  obtain ⟨⟨gA, gB⟩, ⟨hL, hM⟩, hD, hR, hO⟩ := hE'
  have hin := chR_in hk hbk
  have htold : ∀ i, i < cntR b 12 → bitI (A 3 3) (chR b 12 i) := fun i hi => hbt _ (chR_lt hi).1 (chR_lt hi).2.1
  refine q2_c1 (c_prep hn hj hp hk h4 hbk hK A gA hL hD.2.1 hN) ?_
  rintro _ m1 ⟨⟨h10, h11⟩, hrows, h63, hfr⟩
  obtain ⟨zz, hzz⟩ := choose_i (S := cntR b 12) (P := fun i z => (∀ q, q < 12 → (bitI z q ↔ (q = chR b 12 i ∨ (bitI (A 3 3) q ∧ lkv C K n (A 4) (A 5) (A 7 9) (chR b 12 i) q ≠ 0)))) ∧ m1 58 i = smB (A 9) p z 12 ∧ ∀ q, q < cntR b 12 → (bitI (m1 59 i) q ↔ bitI z (chR b 12 q))) (fun i hi => (hrows i hi).2.1)
  have hzB : ∀ i, i < cntR b 12 → ∀ q, q < 12 → (bitI (zz i) q ↔ mA (B 77 6) C K n (B 81) (B 82) (B 78 313) (chR b 12 i) q) := by
    intro i hi q hq
    rw [(hzz i hi).1 q hq]
    have := cA_iff hD (C := C) (K := K) (n := n) (d := A 7 9) (chR_lt hi).1 hq (htold i hi)
    rw [← hO.2.1]
    exact this
  refine q2_c2 (d_own hn hK h240 hp h4 B gB hM (zz := zz) hzB (fun i hi => by rw [← (hR.1 i hi).1]; exact (hR.1 i hi).2.1)) ?_
  rintro _ m2 ⟨g2, ⟨h43, h44⟩, h105, hry, hfB, h77⟩
  have e81 : m2 81 = B 81 := hfB 81 (by decide) (by decide) (by decide) (by decide) (by decide) (by decide)
  have e82 : m2 82 = B 82 := hfB 82 (by decide) (by decide) (by decide) (by decide) (by decide) (by decide)
  have e83 : m2 83 = B 83 := hfB 83 (by decide) (by decide) (by decide) (by decide) (by decide) (by decide)
  have e78 : m2 78 = B 78 := hfB 78 (by decide) (by decide) (by decide) (by decide) (by decide) (by decide)
  have hhr : ∀ i, i < cntR b 12 → A 4 (chR b 12 i) = nI (hrA A b i) ∧ hrA A b i ≤ 12 := fun i hi => by
    have := hH _ (chR_lt hi).1
    exact ⟨nI_i (by show _ = (((A 4 (chR b 12 i)).toInt.toNat : Nat) : Int); omega), by show (A 4 (chR b 12 i)).toInt.toNat ≤ 12; omega⟩
  refine h m1 m2 ⟨⟨h10, h11⟩, fun i hi => ⟨(hrows i hi).1, (chR_lt hi).1, ?_, (hhr i hi).2⟩, fun _ _ => rfl, fun g st hg hst => Or.inl (h63 _ (by omega))⟩ hfr ⟨g2, fun _ _ _ _ _ => rfl⟩ ⟨LM_cg hM (fun c q1 q2 => hfB c (by omega) (by omega) (by omega) (by omega) (by omega) (by omega)) (h77 17 (by decide) (by decide)), fun w hw => ?_, ⟨h43, h44⟩, fun i hi => ⟨h105 i hi, (chR_lt hi).1, ?_, (hhr i hi).2⟩, fun i hi => ?_⟩ hfB (fun u i hu hi hc => ?_)
  · rw [hfr 4 (by decide) (by decide) (by decide) (by decide)]; exact (hhr i hi).1
  · rw [hfB 102 (by decide) (by decide) (by decide) (by decide) (by decide) (by decide), hfB 103 (by decide) (by decide) (by decide) (by decide) (by decide) (by decide), hfB 104 (by decide) (by decide) (by decide) (by decide) (by decide) (by decide)]
    exact hW w hw
  · rw [e81, ← (hD.2.2 _ (chR_lt hi).1).1]; exact (hhr i hi).1
  · rw [e78, ← (hR.2 i hi).1]; exact (hR.2 i hi).2
  · exact W_wM hp h4 hE hN (zz := zz) (fun i hi => (hzz i hi).1) htold (fun i hi => ⟨(hzz i hi).2.1, (hzz i hi).2.2, (hrows i hi).2.2.1, (hrows i hi).2.2.2⟩) hry e81 e82 e83 e78 hu hi hc
theorem soonest_2 {n : Nat} (hn : 200000 ≤ n) {j : Nat} (hj : q_isLaw j) {C : List Int} {K : List Kl} (hK : Kg (cdl C) C.length K) (h240 : C.length ≤ 240) (a1 a2 a3 a4 a5 : Int32) (A B : qM) (hE : RE 7 j C K A B) (hT : KT A) (hH : HKd A) (hN : NKd A) (hW : WT B) : q2 (f_X11_soonest n j a1 a2 a3 a4 a5 A) (f_X12_soonest n a1 a2 a3 a4 a5 B) (fun v1 _ v2 _ => v1 = v2) := by
  have z0 : (0 : Int32) = 0 := rfl
  have z1 : ¬ (1 : Int32) = 0 := by decide
  have bad : q2 (some ((-1 : Int32), A)) (some ((-1 : Int32), B)) (fun v1 _ v2 _ => v1 = v2) := q2_ret rfl
  unfold f_X11_soonest f_X12_soonest
  obtain ⟨r, c1, c2, hr⟩ := can_2 hn hE.2.2.1 hE.2.2.2.2.1 hT a1 a2 a3
  rw [c1, c2, qc_v, qc_v]
  rcases hr with rfl | ⟨rfl, p, k, ⟨hp, hk⟩, ⟨rfl, rfl⟩, h4, hbk, hbt⟩
  · rw [if_pos z0, if_pos z0]; exact bad
  rw [if_neg z1, if_neg z1]
  by_cases d1 : 0 ≤ a4.toInt ∧ a4.toInt ≤ 3
  · by_cases d2 : 0 ≤ a5.toInt ∧ a5.toInt ≤ 1
    · rw [in_y rfl l_0 l_3 d1, qc_v, if_neg z1, in_y rfl l_0 l_1 d2, qc_v, if_neg z1, if_neg (show ¬ a4 < (0 : Int32) by rw [Int32.lt_iff_toInt_lt, l_0]; omega), if_neg (show ¬ (3 : Int32) < a4 by rw [Int32.lt_iff_toInt_lt, l_3]; omega), if_neg (show ¬ a5 < (0 : Int32) by rw [Int32.lt_iff_toInt_lt, l_0]; omega), if_pos (show a5 ≤ (1 : Int32) by rw [Int32.le_iff_toInt_le, l_1]; omega)]
      obtain ⟨g, hg, rfl⟩ : ∃ g : Nat, g ≤ 3 ∧ a4 = nI g := ⟨a4.toInt.toNat, by omega, nI_i (by omega)⟩
      refine lay_2 hn hj hp hk hK h240 hE hT hH hN hW h4 hbk hbt (E1 := fun m3 => qc (f_X7_soonestWay n (nI g) m3) (fun r4 m5 => (if r4 < (1048576 : Int32) then (if a5 = (0 : Int32) then some ((r4 / (16 : Int32)), m5) else some ((r4 - r4 / (16 : Int32) * (16 : Int32)), m5)) else some ((-2 : Int32), m5)))) (fun m1 m2 hSr hfr hX hSo hfB hWw => ?_)
      have hin := chR_in hk hbk
      have hhh : ∀ i, i < cntR a2 12 → hrA A a2 i ≤ 12 := fun i hi => (hSo.2.2.2.1 i hi).2.2.2
      unfold f_X7_soonestWay f_X7_bestWay
      refine q2_c1 (R := fun v _ => v = nI (vS (cntR a2 12) (hrA A a2) (cntR a2 k) (wcS (m1 60) (m1 58) (m1 59) (m1 62) (cntR a2 12)) 0 g)) (P_qc (c_bw (n := n) h4 hin.1 rfl 16 0 g 0 m1 (by decide) hg (Nat.zero_le _) hSr) (fun v m h => P_ret h.1)) ?_
      rintro _ m5 rfl
      refine q2_c2 (d_all h4 hSo.2.2.1.1) ?_
      rintro r8 m9 ⟨rfl, rfl⟩
      refine q2_c2 (d_plc h4 hin.1 hk (ch := chR a2 12) (fun i hi => ⟨(hSo.2.2.2.1 i hi).1, (hSo.2.2.2.1 i hi).2.1⟩) hin.2 (fun i hi e => ?_)) ?_
      · have h1 := (chR_lt (b := a2) (q := 12) (i := i) (by omega)).2.2
        rw [e] at h1
        omega
      rintro r10 m11 ⟨rfl, rfl⟩
      have key := d_so59 hn hK h240 h4 hp hg hin.1 hSo a5 n 0 m11 (Nat.zero_le _) hX (fun t ht => absurd ht (by omega))
      have hVN := vS_N (S := cntR a2 12) (hr := hrA A a2) (aim := cntR a2 k) (wc := wcS (m1 60) (m1 58) (m1 59) (m1 62) (cntR a2 12)) (st := 0) (g := g)
      have fin : ∀ v2 m2', f_X12_soonest_59 n n (nI g) a5 (nI (20 ^ cntR a2 12)) (nI (cntR a2 k)) (1000000000 : Int32) (0 : Int32) m11 = some (v2, m2') → (vS (cntR a2 12) (hrA A a2) (cntR a2 k) (wcS (m1 60) (m1 58) (m1 59) (m1 62) (cntR a2 12)) 0 g = 1048576 ∧ v2 = -2) ∨ (vS (cntR a2 12) (hrA A a2) (cntR a2 k) (wcS (m1 60) (m1 58) (m1 59) (m1 62) (cntR a2 12)) 0 g < 1048576 ∧ v2 = (if a5 = 0 then nI (vS (cntR a2 12) (hrA A a2) (cntR a2 k) (wcS (m1 60) (m1 58) (m1 59) (m1 62) (cntR a2 12)) 0 g / 16) else nI (vS (cntR a2 12) (hrA A a2) (cntR a2 k) (wcS (m1 60) (m1 58) (m1 59) (m1 62) (cntR a2 12)) 0 g % 16))) := by
        intro v2 m2' e
        obtain ⟨y, hy, hB⟩ := key v2 m2' e
        rcases soon_eq h4 hin.1 hhh hWw hB with ⟨s1, s2⟩ | ⟨s1, s2⟩
        · exact Or.inl ⟨s1, by rw [hy, s2]; rfl⟩
        · refine Or.inr ⟨s1, ?_⟩
          rw [hy, s2]
          unfold ansS
          rw [if_neg (by omega)]
      generalize vS (cntR a2 12) (hrA A a2) (cntR a2 k) (wcS (m1 60) (m1 58) (m1 59) (m1 62) (cntR a2 12)) 0 g = V at *
      have tV : (nI V).toInt = (V : Int) := nI_toInt (by omega)
      have lN : (1048576 : Int32).toInt = 1048576 := rfl
      by_cases c : V < 1048576
      · rw [if_pos (show nI V < (1048576 : Int32) by rw [Int32.lt_iff_toInt_lt, tV, lN]; omega)]
        by_cases c5 : a5 = 0
        · rw [if_pos c5]
          refine q2_p2 (fun v2 m2' e => ?_)
          rcases fin v2 m2' e with ⟨s1, _⟩ | ⟨_, s2⟩
          · omega
          · rw [s2, if_pos c5]
            exact nI_i (by rw [i_div tV l_16 (by omega) (by decide)]; omega)
        · rw [if_neg c5]
          refine q2_p2 (fun v2 m2' e => ?_)
          rcases fin v2 m2' e with ⟨s1, _⟩ | ⟨_, s2⟩
          · omega
          · rw [s2, if_neg c5]
            exact nI_i (by rw [i_rem tV l_16 (by omega) (by decide)]; omega)
      · rw [if_neg (show ¬ nI V < (1048576 : Int32) by rw [Int32.lt_iff_toInt_lt, tV, lN]; omega)]
        refine q2_p2 (fun v2 m2' e => ?_)
        rcases fin v2 m2' e with ⟨_, s2⟩ | ⟨s1, _⟩
        · exact s2.symm
        · omega
    · rw [in_y rfl l_0 l_3 d1, qc_v, if_neg z1, in_n rfl l_0 l_1 d2, qc_v, if_pos z0, if_neg (show ¬ a4 < (0 : Int32) by rw [Int32.lt_iff_toInt_lt, l_0]; omega), if_neg (show ¬ (3 : Int32) < a4 by rw [Int32.lt_iff_toInt_lt, l_3]; omega)]
      by_cases e : a5 < (0 : Int32)
      · rw [if_pos e]; exact bad
      · rw [if_neg e]
        rw [Int32.lt_iff_toInt_lt, l_0] at e
        rw [if_neg (show ¬ a5 ≤ (1 : Int32) by rw [Int32.le_iff_toInt_le, l_1]; omega)]
        exact bad
  · rw [in_n rfl l_0 l_3 d1, qc_v, if_pos z0]
    by_cases e : a4 < (0 : Int32)
    · rw [if_pos e]; exact bad
    · rw [if_neg e]
      rw [Int32.lt_iff_toInt_lt, l_0] at e
      rw [if_pos (show (3 : Int32) < a4 by rw [Int32.lt_iff_toInt_lt, l_3]; omega)]
      exact bad
theorem soonest_st {n : Nat} (hn : 200000 ≤ n) {j : Nat} (hj : q_isLaw j) {a1 a2 a3 a4 a5 v1 v2 : Int32} {M m1 m2 : qM} (hG : G M) (hG1 : G m1) (hD : KD M M) (hL : LR j M M) (hT : TN 7 78 M M) (e77 : ∀ c, 77 ≤ c → m1 c = M c) (e1 : f_X11_soonest n j a1 a2 a3 a4 a5 M = some (v1, m1)) (e2 : f_X12_soonest n a1 a2 a3 a4 a5 m1 = some (v2, m2)) (hS : WKS M) : v1 = v2 := by
  obtain ⟨C, K, ⟨hK, h240⟩, hE, _⟩ := RE_of hG hG1 hD hL hT e77
  obtain ⟨h1, h2, h3, h4⟩ := hS
  exact soonest_2 hn hj hK h240 a1 a2 a3 a4 a5 M m1 hE h1 h2 h3 (fun w hw => by rw [e77 102 (by decide), e77 103 (by decide), e77 104 (by decide)]; exact h4 w hw) v1 m1 v2 m2 e1 e2
