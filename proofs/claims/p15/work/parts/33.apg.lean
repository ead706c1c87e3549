/-! the ways to buy are the reference's first states -/
def smR (f : Nat → Nat) : Nat → Nat → Nat
  | _, 0 => 0
  | i, r + 1 => f i + smR f (i + 1) r
theorem smR_cg {f g : Nat → Nat} : ∀ {r i : Nat}, (∀ q, i ≤ q → q < i + r → f q = g q) → smR f i r = smR g i r := by
  intro r
  induction r with
  | zero => intro i _; rfl
  | succ r ih =>
    intro i h
    show f i + smR f (i + 1) r = g i + smR g (i + 1) r
    rw [h i (Nat.le_refl _) (by omega), ih (fun q h1 h2 => h q (by omega) (by omega))]
theorem smR_N {f : Nat → Nat} : ∀ {r i : Nat}, smN f (i + r) = smN f i + smR f i r := by
  intro r
  induction r with
  | zero => intro i; rfl
  | succ r ih =>
    intro i
    rw [show i + (r + 1) = (i + 1) + r by omega, ih]
    show smN f i + f i + smR f (i + 1) r = smN f i + (f i + smR f (i + 1) r)
    omega
theorem smR_0 {f : Nat → Nat} {S : Nat} : smR f 0 S = smN f S := by
  have h := smR_N (f := f) (r := S) (i := 0)
  rw [Nat.zero_add] at h
  rw [h]
  show _ = 0 + _
  omega
theorem smN_m {f : Nat → Nat} : ∀ {S q : Nat}, q < S → f q ≤ smN f S := by
  intro S
  induction S with
  | zero => intro q h; omega
  | succ S ih =>
    intro q h
    show f q ≤ smN f S + f S
    by_cases c : q = S
    · rw [c]; omega
    · have := ih (q := q) (by omega)
      omega
theorem smN_hi {f : Nat → Nat} {S : Nat} (h : ∀ q, S ≤ q → f q = 0) : ∀ d, smN f (S + d) = smN f S := by
  intro d
  induction d with
  | zero => rfl
  | succ d ih =>
    show smN f (S + d) + f (S + d) = smN f S
    rw [ih, h (S + d) (by omega)]
    rfl
theorem cpl_ex {pn vf : Nat → Nat} : ∀ {r i st c g c' h' : Nat}, cpl pn vf r i st c g c' h' ↔ ∃ f : Nat → Nat, (∀ q, i ≤ q → q < i + r → (f q = 0 ∨ pn q < 1048576)) ∧ smR f i r ≤ g ∧ c' = c + smR (fun q => f q * pn q) i r ∧ h' = vf (st + smR (fun q => f q * 4 ^ q) i r) / 16 := by
  intro r
  induction r with
  | zero =>
    intro i st c g c' h'
    constructor
    · rintro ⟨h1, h2⟩
      exact ⟨fun _ => 0, fun q h3 h4 => by omega, Nat.zero_le _, h1, h2⟩
    · rintro ⟨f, _, _, h1, h2⟩
      exact ⟨h1, h2⟩
  | succ r ih =>
    intro i st c g c' h'
    constructor
    · rintro ⟨b, b1, b2, b3⟩
      obtain ⟨f, f1, f2, f3, f4⟩ := ih.mp b3
      have key : ∀ w : Nat → Nat, smR (fun q => (if q = i then b else f q) * w q) i (r + 1) = b * w i + smR (fun q => f q * w q) (i + 1) r := by
        intro w
        show (if i = i then b else f i) * w i + smR (fun q => (if q = i then b else f q) * w q) (i + 1) r = _
        rw [if_pos rfl, smR_cg (f := fun q => (if q = i then b else f q) * w q) (g := fun q => f q * w q) (fun q h1 h2 => by show (if q = i then b else f q) * w q = f q * w q; rw [if_neg (by omega)])]
      have key1 : smR (fun q => if q = i then b else f q) i (r + 1) = b + smR f (i + 1) r := by
        show (if i = i then b else f i) + smR (fun q => if q = i then b else f q) (i + 1) r = _
        rw [if_pos rfl, smR_cg (f := fun q => if q = i then b else f q) (g := f) (fun q h1 h2 => by show (if q = i then b else f q) = f q; rw [if_neg (by omega)])]
      refine ⟨fun q => if q = i then b else f q, fun q h1 h2 => ?_, ?_, ?_, ?_⟩
      · show (if q = i then b else f q) = 0 ∨ _
        by_cases c : q = i
        · rw [if_pos c, c]; exact b2
        · rw [if_neg c]; exact f1 q (by omega) (by omega)
      · rw [key1]; omega
      · have k2 : smR (fun q => (if q = i then b else f q) * pn q) i (r + 1) = b * pn i + smR (fun q => f q * pn q) (i + 1) r := key pn
        rw [k2, f3, Nat.add_assoc]
      · have k2 : smR (fun q => (if q = i then b else f q) * 4 ^ q) i (r + 1) = b * 4 ^ i + smR (fun q => f q * 4 ^ q) (i + 1) r := key (fun q => 4 ^ q)
        rw [k2, f4, Nat.add_assoc]
    · rintro ⟨f, f1, f2, f3, f4⟩
      have f2' : f i + smR f (i + 1) r ≤ g := f2
      have f3' : c' = c + (f i * pn i + smR (fun q => f q * pn q) (i + 1) r) := f3
      have f4' : h' = vf (st + (f i * 4 ^ i + smR (fun q => f q * 4 ^ q) (i + 1) r)) / 16 := f4
      exact ⟨f i, by omega, f1 i (Nat.le_refl _) (by omega), ih.mpr ⟨f, fun q h1 h2 => f1 q (by omega) (by omega), by omega, by rw [Nat.add_assoc]; exact f3', by rw [Nat.add_assoc]; exact f4'⟩⟩
def gw (b : Nat) : Nat := [0, 1, 4, 10].getD b 0
theorem gw_f : ∀ b, b < 4 → gw b < 20 ∧ wyA (gw b) = 0 ∧ wyG (gw b) = b ∧ wyC (gw b) = 0 := by decide +kernel
abbrev inG (pm : Nat → Nat) (S t : Nat) : Prop := t < 20 ^ S ∧ maS S t = 0 ∧ gaS S t ≤ 3 ∧ ∀ i, i < S → wyG (dgS t i) = 0 ∨ pm i < 1000000000
theorem ma_0 {S t : Nat} (h : maS S t = 0) {q : Nat} (hq : q < S) : wyA (dgS t q) = 0 ∧ wyC (dgS t q) = 0 := by
  have h1 := smN_m (f := fun i => wyA (dgS t i)) hq
  have h2 : wyA (dgS t q) ≤ 0 := Nat.le_trans h1 (Nat.le_of_eq h)
  have h3 := (wy_f (dgS t q) (dg_lt t q)).2
  exact ⟨by omega, by omega⟩
theorem pi_G {S t : Nat} (hS : S ≤ 4) (ht : t < 20 ^ S) (h : maS S t = 0) : piS t = smN (fun q => wyG (dgS t q) * 4 ^ q) S := by
  have he : ∀ q, eWy (dgS t q) = wyG (dgS t q) ∧ bWy (dgS t q) = 0 := by
    intro q
    by_cases c : q < S
    · obtain ⟨h1, h2⟩ := ma_0 h c
      exact ⟨by unfold eWy; omega, bW0 h2⟩
    · rw [dg_out ht (by omega)]
      exact ⟨rfl, rfl⟩
  have hi := smN_hi (f := fun q => wyG (dgS t q) * 4 ^ q) (S := S) (fun q hq => by
    show wyG (dgS t q) * 4 ^ q = 0
    rw [dg_out ht hq]
    exact Nat.zero_mul _) (4 - S)
  rw [show S + (4 - S) = 4 by omega] at hi
  rw [← hi]
  show _ = 0 + wyG (dgS t 0) * 1 + wyG (dgS t 1) * 4 + wyG (dgS t 2) * 16 + wyG (dgS t 3) * 64
  unfold piS enS
  rw [(he 0).1, (he 1).1, (he 2).1, (he 3).1, (he 0).2, (he 1).2, (he 2).2]
  omega
abbrev pmV (pn : Nat → Nat) (i : Nat) : Nat := if pn i = 1048576 then 1000000000 else pn i
theorem cpl_st {S : Nat} (hS : S ≤ 4) {pn vf : Nat → Nat} (hpn : ∀ i, i < S → pn i ≤ 999 ∨ pn i = 1048576) {c h : Nat} : cpl pn vf S 0 0 0 3 c h ↔ ∃ r, inG (pmV pn) S r ∧ c = cnS (pmV pn) S r ∧ h = vf (piS r) / 16 := by
  have hpe : ∀ q, pn q < 1048576 → pmV pn q = pn q := fun q hq => by unfold pmV; rw [if_neg (by omega)]
  rw [cpl_ex]
  constructor
  · rintro ⟨f, f1, f2, f3, f4⟩
    rw [smR_0] at f2 f3 f4
    have hf3 : ∀ q, q < S → f q < 4 := fun q hq => by have := smN_m (f := f) hq; omega
    have hd : ∀ q, q < S → dgS (cdS (fun q => gw (f q)) S) q = gw (f q) := dg_cd (fun q hq => (gw_f _ (hf3 q hq)).1)
    have hA : maS S (cdS (fun q => gw (f q)) S) = 0 := smN_0 (fun q hq => by rw [hd q hq]; exact (gw_f _ (hf3 q hq)).2.1)
    have hlt : cdS (fun q => gw (f q)) S < 20 ^ S := cdS_lt (fun q hq => (gw_f _ (hf3 q hq)).1)
    have hgq : ∀ q, q < S → wyG (dgS (cdS (fun q => gw (f q)) S) q) = f q := fun q hq => by rw [hd q hq]; exact (gw_f _ (hf3 q hq)).2.2.1
    refine ⟨cdS (fun q => gw (f q)) S, ⟨hlt, hA, ?_, fun i hi => ?_⟩, ?_, ?_⟩
    · show smN (fun i => wyG (dgS (cdS (fun q => gw (f q)) S) i)) S ≤ 3
      rw [smN_cg (g := f) hgq]; exact f2
    · rw [hgq i hi]
      rcases f1 i (Nat.zero_le _) (by omega) with z | z
      · exact Or.inl z
      · exact Or.inr (by rw [hpe i z]; omega)
    · rw [f3, Nat.zero_add]
      refine smN_cg (fun q hq => ?_)
      show f q * pn q = wyG (dgS (cdS (fun q => gw (f q)) S) q) * pmV pn q
      rw [hgq q hq]
      rcases f1 q (Nat.zero_le _) (by omega) with z | z
      · rw [z, Nat.zero_mul, Nat.zero_mul]
      · rw [hpe q z]
    · rw [f4, Nat.zero_add, pi_G hS hlt hA]
      rw [smN_cg (f := fun q => f q * 4 ^ q) (g := fun q => wyG (dgS (cdS (fun q => gw (f q)) S) q) * 4 ^ q) (fun q hq => by
        show f q * 4 ^ q = wyG (dgS (cdS (fun q => gw (f q)) S) q) * 4 ^ q
        rw [hgq q hq])]
  · rintro ⟨r, ⟨r1, r2, r3, r4⟩, r5, r6⟩
    have hok : ∀ q, q < S → (wyG (dgS r q) = 0 ∨ pn q < 1048576) := by
      intro q hq
      rcases r4 q hq with z | z
      · exact Or.inl z
      · refine Or.inr ?_
        unfold pmV at z
        by_cases c : pn q = 1048576
        · rw [if_pos c] at z; omega
        · have := hpn q hq
          omega
    refine ⟨fun q => wyG (dgS r q), fun q _ h2 => hok q (by omega), ?_, ?_, ?_⟩
    · rw [smR_0]; exact r3
    · rw [smR_0, r5, Nat.zero_add]
      refine smN_cg (fun q hq => ?_)
      show wyG (dgS r q) * pmV pn q = wyG (dgS r q) * pn q
      rcases hok q hq with z | z
      · rw [z, Nat.zero_mul, Nat.zero_mul]
      · rw [hpe q z]
    · rw [smR_0, r6, Nat.zero_add, pi_G hS r1 r2]
/-! cheapest: both ways find the same -/
abbrev suC (wM : Nat → Nat → Prop) (hr : Nat → Nat) (H S u t : Nat) : Prop := hoS hr S u ≤ H ∧ suS wM S 0 u t
theorem suC_i {wM : Nat → Nat → Prop} {hr : Nat → Nat} {H S u t : Nat} (h : suC wM hr H S u t) : ∃ i, i < S ∧ trS wM S u i t := by
  obtain ⟨_, _, i, hi, h | h⟩ := h
  · exact ⟨i, hi, h⟩
  · exact absurd h.2.1 (Nat.not_lt_zero _)
theorem ok_bC {wM : Nat → Nat → Prop} {hr pm : Nat → Nat} {H S aim : Nat} : ∀ N t, t < N → okS (inG pm S) (tmS aim) (suC wM hr H S) t → t < 20 ^ S ∧ ∀ i, i < S → wyG (dgS t i) = 0 ∨ pm i < 1000000000 := by
  intro N
  induction N with
  | zero => intro t h _; omega
  | succ N ih =>
    intro t ht hok
    rcases ok_ex hok with hi | ⟨u, hu, hou, _, hsu⟩
    · exact ⟨hi.1, hi.2.2.2⟩
    · have hl := su_lt hsu.2
      refine ⟨hl.2, fun q hq => ?_⟩
      have hgq := (ih u (by omega) hou).2 q hq
      obtain ⟨i, hi, _, w, w1, w2, w3, _, e⟩ := suC_i hsu
      obtain ⟨_, r2, r3⟩ := rp_f (S := S) (t := u) w1 hi
      rw [e]
      by_cases c : q = i
      · rw [c, r2, w3]; rw [c] at hgq; exact hgq
      · rw [r3 q hq c]; exact hgq
theorem ma_le {S t : Nat} : maS S t ≤ 3 * S := smN_le (fun q _ => by have := (wy_f (dgS t q) (dg_lt t q)).1; omega)
theorem cheap_fin {S aim H : Nat} (hS : S ≤ 4) (haim : aim < S) (hH : H ≤ 200) {hr pn : Nat → Nat} {W : Nat → Nat → Bool} {wM : Nat → Nat → Prop} (hW : ∀ u i, u < 20 ^ S → i < S → wyC (dgS u i) = 0 → (W (piS u) i = true ↔ wM u i)) (hpn : ∀ i, i < S → pn i ≤ 999 ∨ pn i = 1048576) {c h x : Nat} (h1 : LBs H (cpl pn (fun s => vS S hr aim W s 0) S 0 0 0 3) c h) (h2 : BCs H (inG (pmV pn) S) (tmS aim) (suC wM hr H S) (coS hr S) (cnS (pmV pn) S) (20 ^ S) x) : (c = 1048576 ∧ x = 1000000000) ∨ (c < 1048576 ∧ x = 256 * c + h ∧ h < 256) := by
  have hlt : ∀ s t, suC wM hr H S s t → s < t := fun s t h => (su_lt h.2).1
  have hob : ∀ t, okS (inG (pmV pn) S) (tmS aim) (suC wM hr H S) t → t < 20 ^ S := fun t h => (ok_bC (t + 1) t (by omega) h).1
  have hp : ∀ t, okS (inG (pmV pn) S) (tmS aim) (suC wM hr H S) t → ¬ tmS aim t → piS t < 2048 := fun t _ _ => (pi_f t).1
  have hin : ∀ t, inG (pmV pn) S t → ¬ tmS aim t := fun t h w => w (ma_0 h.2.1 haim).2
  have hcn : ∀ u i w, i < S → w < 20 → wyG w = wyG (dgS u i) → cnS (pmV pn) S (rpS S u i w) = cnS (pmV pn) S u := fun u i w hi w1 w3 => rp_sm (u := u) (d := 0) (F := fun q w => wyG w * pmV pn q) hi w1 (by show wyG w * pmV pn i = wyG (dgS u i) * pmV pn i + 0; rw [w3, Nat.add_zero])
  have low := sr_lowC hS (hr := hr) (aim := aim) (wc := W) (pi := piS) (co := coS hr S) (cn := cnS (pmV pn) S) hp hin (fun u t _ htm hsu => by
    have hu := hsu.2.1
    obtain ⟨i, hi, he, w, w1, w2, w3, w4, rfl⟩ := suC_i hsu
    obtain ⟨k1, _, k3, k4⟩ := st_try (hr := hr) hS hu hi haim htm (hW u i hu hi) w1 w2 w3 w4
    exact ⟨hcn u i w hi w1 w3, i, hi, by rw [(pi_f u).2.1 i (by omega)]; exact he, k1, k3, k4⟩)
  have upp := sr_uppC hS (hr := hr) (aim := aim) (cap := 16 * (H + 1)) (wc := W) (ini := inG (pmV pn) S) (tm := tmS aim) (suc := suC wM hr H S) (pi := piS) (co := coS hr S) (cn := cnS (pmV pn) S) hlt hp (fun u i hok htm hcu hi he => by
    have hu := hob u hok
    rw [(pi_f u).2.1 i (by omega)] at he
    have hho : hoS hr S u ≤ H := by
      have h3 := co_hm hr u S
      omega
    have hd := dg_lt u i
    by_cases c : wM u i
    · obtain ⟨w, w1, _, w2, w3, w4⟩ := wy_try (dgS u i) hd he 1 (by decide)
      have w4' : (wM u i ∧ wyC w = wyC (dgS u i) + 1) ∨ (¬ wM u i ∧ wyC w = wyC (dgS u i)) := Or.inl ⟨c, w4⟩
      obtain ⟨k1, _, k3, k4⟩ := st_try (hr := hr) hS hu hi haim htm (hW u i hu hi) w1 w2 w3 w4'
      exact ⟨rpS S u i w, ⟨hho, hu, i, hi, Or.inl ⟨he, w, w1, w2, w3, w4', rfl⟩⟩, hcn u i w hi w1 w3, k1, k3, k4⟩
    · obtain ⟨w, w1, _, w2, w3, w4⟩ := wy_try (dgS u i) hd he 0 (by decide)
      have w4' : (wM u i ∧ wyC w = wyC (dgS u i) + 1) ∨ (¬ wM u i ∧ wyC w = wyC (dgS u i)) := Or.inr ⟨c, w4⟩
      obtain ⟨k1, _, k3, k4⟩ := st_try (hr := hr) hS hu hi haim htm (hW u i hu hi) w1 w2 w3 w4'
      exact ⟨rpS S u i w, ⟨hho, hu, i, hi, Or.inl ⟨he, w, w1, w2, w3, w4', rfl⟩⟩, hcn u i w hi w1 w3, k1, k3, k4⟩)
  have c0 : ∀ r, inG (pmV pn) S r → coS hr S r = 0 := fun r h => smN_0 (fun q hq => by rw [(ma_0 h.2.1 hq).1]; exact Nat.mul_zero _)
  refine cheap_eq (ini := inG (pmV pn) S) (tm := tmS aim) (suc := suC wM hr H S) (co := coS hr S) (cn := cnS (pmV pn) S) (v := fun r => vS S hr aim W (piS r) 0) hH (fun t ht hok htm => ?_) (fun r hi hv => ?_) (fun c h => cpl_st (vf := fun s => vS S hr aim W s 0) hS hpn) (fun r hi => ?_) h1 h2
  · obtain ⟨r, q1, q2, q3, _⟩ := low (t + 1) t (by omega) hok
    exact ⟨r, q1, q2, by have := q3 htm; show vS S hr aim W (piS r) 0 ≤ _; omega⟩
  · have hv' : vS S hr aim W (piS r) 0 < 16 * (H + 1) := hv
    have e0 := c0 r hi
    obtain ⟨t, t1, t2, t3, t4⟩ := upp (13 - totS (piS r)) r (by have := tot12 (piS r) (pi_f r).1; omega) (ok_ini hi) (hin r hi) (by omega) (by rw [e0]; omega)
    exact ⟨t, hob t t1, t1, t2, t3, by rw [t4, e0, Nat.zero_add]⟩
  · have := cnS_le (pn := pmV pn) (t := r) (S := S) (fun i h3 => by
      rcases hi.2.2.2 i h3 with z | z
      · exact Or.inl z
      · refine Or.inr ?_
        have h4 := hpn i h3
        unfold pmV at z ⊢
        by_cases c : pn i = 1048576
        · rw [if_pos c] at z; omega
        · rw [if_neg c]; omega)
    omega
