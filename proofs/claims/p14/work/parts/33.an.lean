/-! THE SEARCH, by itself: codes of states; a state's extras are its digits to the base 4, its counted kinds bits above them -/
def exS (st i : Nat) : Nat := st / 4 ^ i % 4
def btS (st i : Nat) : Nat := st / 2 ^ (8 + i) % 2
def totS (st : Nat) : Nat := exS st 0 + exS st 1 + exS st 2 + exS st 3
def nxS (st i : Nat) : Nat := st + 4 ^ i
def thS (st i : Nat) : Nat := if i < 3 then (st + 4 ^ i) ||| 2 ^ (8 + i) else st + 4 ^ i
/-- the best of the first i places -/
def vIS (hr : Nat → Nat) (aim : Nat) (wc : Nat → Nat → Bool) (F : Nat → Nat → Nat) (st g : Nat) : Nat → Nat
  | 0 => 1048576
  | i + 1 => if exS st i < 3 then min (min (vIS hr aim wc F st g i) (16 * hr i + 1 + (if wc st i = true ∧ i = aim then 0 else F (if wc st i = true then thS st i else nxS st i) g))) (if 0 < g then F (nxS st i) (g - 1) else 1048576) else vIS hr aim wc F st g i
def vFS (S : Nat) (hr : Nat → Nat) (aim : Nat) (wc : Nat → Nat → Bool) : Nat → Nat → Nat → Nat
  | 0, _, _ => 1048576
  | f + 1, st, g => vIS hr aim wc (vFS S hr aim wc f) st g S
def vS (S : Nat) (hr : Nat → Nat) (aim : Nat) (wc : Nat → Nat → Bool) (st g : Nat) : Nat := vFS S hr aim wc (13 - totS st) st g
theorem codeS : ∀ st, st < 2048 → ∀ i, i < 4 → exS st i < 3 → totS (nxS st i) = totS st + 1 ∧ totS (thS st i) = totS st + 1 ∧ nxS st i < 2048 ∧ thS st i < 2048 ∧ totS st < 12 := by decide +kernel
theorem tot12 : ∀ st, st < 2048 → totS st ≤ 12 := by decide +kernel
theorem vIS_cg {hr : Nat → Nat} {aim : Nat} {wc : Nat → Nat → Bool} {F F' : Nat → Nat → Nat} {st : Nat} {g : Nat} : ∀ {i : Nat}, (∀ q g', q < i → exS st q < 3 → g' ≤ g → F (nxS st q) g' = F' (nxS st q) g' ∧ F (thS st q) g' = F' (thS st q) g') → vIS hr aim wc F st g i = vIS hr aim wc F' st g i := by
  intro i
  induction i with
  | zero => intro _; rfl
  | succ i ih =>
    intro h
    show (if exS st i < 3 then min (min (vIS hr aim wc F st g i) (16 * hr i + 1 + (if wc st i = true ∧ i = aim then 0 else F (if wc st i = true then thS st i else nxS st i) g))) (if 0 < g then F (nxS st i) (g - 1) else 1048576) else vIS hr aim wc F st g i) = (if exS st i < 3 then min (min (vIS hr aim wc F' st g i) (16 * hr i + 1 + (if wc st i = true ∧ i = aim then 0 else F' (if wc st i = true then thS st i else nxS st i) g))) (if 0 < g then F' (nxS st i) (g - 1) else 1048576) else vIS hr aim wc F' st g i)
    rw [ih (fun q g' hq => h q g' (by omega))]
    by_cases c : exS st i < 3
    · have h1 := h i g (by omega) c (Nat.le_refl _)
      have h2 := h i (g - 1) (by omega) c (by omega)
      rw [if_pos c, if_pos c, h2.1]
      by_cases w : wc st i = true
      · rw [if_pos w, h1.2]
      · rw [if_neg w, h1.1]
    · rw [if_neg c, if_neg c]
theorem vS_eq {S : Nat} (hS : S ≤ 4) {hr : Nat → Nat} {aim : Nat} {wc : Nat → Nat → Bool} {st g : Nat} (hst : st < 2048) : vS S hr aim wc st g = vIS hr aim wc (vS S hr aim wc) st g S := by
  have ht := tot12 st hst
  show vFS S hr aim wc (13 - totS st) st g = _
  rw [show 13 - totS st = (12 - totS st) + 1 by omega]
  show vIS hr aim wc (vFS S hr aim wc (12 - totS st)) st g S = _
  refine vIS_cg (fun q g' hq he _ => ?_)
  have hc := codeS st hst q (by omega) he
  refine ⟨?_, ?_⟩
  · show _ = vFS S hr aim wc (13 - totS (nxS st q)) (nxS st q) g'
    rw [hc.1, show 13 - (totS st + 1) = 12 - totS st by omega]
  · show _ = vFS S hr aim wc (13 - totS (thS st q)) (thS st q) g'
    rw [hc.2.1, show 13 - (totS st + 1) = 12 - totS st by omega]
theorem vIS_N {hr : Nat → Nat} {aim : Nat} {wc : Nat → Nat → Bool} {F : Nat → Nat → Nat} {st g : Nat} : ∀ i, vIS hr aim wc F st g i ≤ 1048576 := by
  intro i
  induction i with
  | zero => exact Nat.le_refl _
  | succ i ih =>
    show (if exS st i < 3 then min (min (vIS hr aim wc F st g i) _) _ else vIS hr aim wc F st g i) ≤ _
    by_cases c : exS st i < 3
    · rw [if_pos c]; omega
    · rw [if_neg c]; exact ih
theorem vFS_N {S : Nat} {hr : Nat → Nat} {aim : Nat} {wc : Nat → Nat → Bool} : ∀ f st g, vFS S hr aim wc f st g ≤ 1048576 := by
  intro f st g
  cases f with
  | zero => exact Nat.le_refl _
  | succ f => exact vIS_N S
theorem vS_N {S : Nat} {hr : Nat → Nat} {aim : Nat} {wc : Nat → Nat → Bool} {st g : Nat} : vS S hr aim wc st g ≤ 1048576 := vFS_N _ _ _
/-- what is best is no dearer than any one step and what is best behind it -/
theorem vIS_le {hr : Nat → Nat} {aim : Nat} {wc : Nat → Nat → Bool} {F : Nat → Nat → Nat} {st g q : Nat} (he : exS st q < 3) : ∀ i, q < i → vIS hr aim wc F st g i ≤ 16 * hr q + 1 + (if wc st q = true ∧ q = aim then 0 else F (if wc st q = true then thS st q else nxS st q) g) ∧ (0 < g → vIS hr aim wc F st g i ≤ F (nxS st q) (g - 1)) := by
  intro i
  induction i with
  | zero => intro h; omega
  | succ i ih =>
    intro h
    show (if exS st i < 3 then min (min (vIS hr aim wc F st g i) (16 * hr i + 1 + (if wc st i = true ∧ i = aim then 0 else F (if wc st i = true then thS st i else nxS st i) g))) (if 0 < g then F (nxS st i) (g - 1) else 1048576) else vIS hr aim wc F st g i) ≤ _ ∧ (0 < g → (if exS st i < 3 then min (min (vIS hr aim wc F st g i) (16 * hr i + 1 + (if wc st i = true ∧ i = aim then 0 else F (if wc st i = true then thS st i else nxS st i) g))) (if 0 < g then F (nxS st i) (g - 1) else 1048576) else vIS hr aim wc F st g i) ≤ _)
    by_cases c : q = i
    · subst c
      rw [if_pos he]
      refine ⟨by omega, fun hg => ?_⟩
      rw [if_pos hg]; omega
    · obtain ⟨h1, h2⟩ := ih (by omega)
      by_cases d : exS st i < 3
      · rw [if_pos d]
        refine ⟨by omega, fun hg => ?_⟩
        have := h2 hg
        omega
      · rw [if_neg d]
        exact ⟨h1, h2⟩
/-- it is some step's -/
theorem vIS_at {hr : Nat → Nat} {aim : Nat} {wc : Nat → Nat → Bool} {F : Nat → Nat → Nat} {st g : Nat} : ∀ i, vIS hr aim wc F st g i < 1048576 → ∃ q, q < i ∧ exS st q < 3 ∧ (vIS hr aim wc F st g i = 16 * hr q + 1 + (if wc st q = true ∧ q = aim then 0 else F (if wc st q = true then thS st q else nxS st q) g) ∨ (0 < g ∧ vIS hr aim wc F st g i = F (nxS st q) (g - 1))) := by
  intro i
  induction i with
  | zero => intro h; exact absurd h (by show ¬ 1048576 < 1048576; omega)
  | succ i ih =>
    show (if exS st i < 3 then min (min (vIS hr aim wc F st g i) (16 * hr i + 1 + (if wc st i = true ∧ i = aim then 0 else F (if wc st i = true then thS st i else nxS st i) g))) (if 0 < g then F (nxS st i) (g - 1) else 1048576) else vIS hr aim wc F st g i) < 1048576 → ∃ q, q < i + 1 ∧ exS st q < 3 ∧ ((if exS st i < 3 then min (min (vIS hr aim wc F st g i) (16 * hr i + 1 + (if wc st i = true ∧ i = aim then 0 else F (if wc st i = true then thS st i else nxS st i) g))) (if 0 < g then F (nxS st i) (g - 1) else 1048576) else vIS hr aim wc F st g i) = _ ∨ (0 < g ∧ (if exS st i < 3 then min (min (vIS hr aim wc F st g i) (16 * hr i + 1 + (if wc st i = true ∧ i = aim then 0 else F (if wc st i = true then thS st i else nxS st i) g))) (if 0 < g then F (nxS st i) (g - 1) else 1048576) else vIS hr aim wc F st g i) = _))
    by_cases d : exS st i < 3
    · rw [if_pos d]
      generalize hA : (16 * hr i + 1 + (if wc st i = true ∧ i = aim then 0 else F (if wc st i = true then thS st i else nxS st i) g)) = A
      by_cases hg : 0 < g
      · rw [if_pos hg]
        generalize hB : F (nxS st i) (g - 1) = B
        intro h
        by_cases c1 : min (min (vIS hr aim wc F st g i) A) B = A
        · exact ⟨i, by omega, d, Or.inl (by rw [c1, ← hA])⟩
        · by_cases c2 : min (min (vIS hr aim wc F st g i) A) B = B
          · exact ⟨i, by omega, d, Or.inr ⟨hg, by rw [c2, ← hB]⟩⟩
          · have e : min (min (vIS hr aim wc F st g i) A) B = vIS hr aim wc F st g i := by omega
            rw [e] at h ⊢
            obtain ⟨q, q1, q2, q3⟩ := ih h
            exact ⟨q, by omega, q2, q3⟩
      · rw [if_neg hg]
        intro h
        by_cases c1 : min (min (vIS hr aim wc F st g i) A) 1048576 = A
        · exact ⟨i, by omega, d, Or.inl (by rw [c1, ← hA])⟩
        · have e : min (min (vIS hr aim wc F st g i) A) 1048576 = vIS hr aim wc F st g i := by omega
          rw [e] at h ⊢
          obtain ⟨q, q1, q2, q3⟩ := ih h
          exact ⟨q, by omega, q2, q3⟩
    · rw [if_neg d]
      intro h
      obtain ⟨q, q1, q2, q3⟩ := ih h
      exact ⟨q, by omega, q2, q3⟩
/-! the other way: states marked in the order of their codes -/
def bA (ini tm : Nat → Prop) (suc : Nat → Nat → Prop) : Nat → Nat → Prop
  | 0, t => ini t
  | s + 1, t => bA ini tm suc s t ∨ (bA ini tm suc s s ∧ ¬ tm s ∧ suc s t)
def okS (ini tm : Nat → Prop) (suc : Nat → Nat → Prop) (t : Nat) : Prop := bA ini tm suc t t
theorem bA_up {ini tm : Nat → Prop} {suc : Nat → Nat → Prop} {t : Nat} : ∀ {s d : Nat}, bA ini tm suc s t → bA ini tm suc (s + d) t := by
  intro s d
  induction d with
  | zero => exact fun h => h
  | succ d ih => exact fun h => Or.inl (ih h)
theorem bA_dn {ini tm : Nat → Prop} {suc : Nat → Nat → Prop} (hlt : ∀ s t, suc s t → s < t) {t : Nat} : ∀ {d : Nat}, bA ini tm suc (t + d) t → bA ini tm suc t t := by
  intro d
  induction d with
  | zero => exact fun h => h
  | succ d ih =>
    intro h
    rcases h with h | ⟨_, _, h⟩
    · exact ih h
    · have : t + d < t := hlt _ _ h
      omega
theorem ok_ex {ini tm : Nat → Prop} {suc : Nat → Nat → Prop} {t : Nat} : ∀ {s : Nat}, bA ini tm suc s t → ini t ∨ ∃ u, u < s ∧ okS ini tm suc u ∧ ¬ tm u ∧ suc u t := by
  intro s
  induction s with
  | zero => exact fun h => Or.inl h
  | succ s ih =>
    rintro (h | ⟨h1, h2, h3⟩)
    · rcases ih h with h | ⟨u, h1, h2⟩
      · exact Or.inl h
      · exact Or.inr ⟨u, by omega, h2⟩
    · exact Or.inr ⟨s, by omega, h1, h2, h3⟩
theorem ok_suc {ini tm : Nat → Prop} {suc : Nat → Nat → Prop} (hlt : ∀ s t, suc s t → s < t) {u t : Nat} (h : okS ini tm suc u) (h1 : ¬ tm u) (h2 : suc u t) : okS ini tm suc t := by
  have := hlt u t h2
  have h3 : bA ini tm suc (u + 1) t := Or.inr ⟨h, h1, h2⟩
  have h4 := bA_up (d := t - (u + 1)) h3
  rw [show u + 1 + (t - (u + 1)) = t by omega] at h4
  exact h4
theorem ok_ini {ini tm : Nat → Prop} {suc : Nat → Nat → Prop} {t : Nat} (h : ini t) : okS ini tm suc t := by
  have h4 := bA_up (d := t) (show bA ini tm suc 0 t from h)
  rw [Nat.zero_add] at h4
  exact h4
/-- what stands at a state's turn is what stands for good -/
theorem bA_ok {ini tm : Nat → Prop} {suc : Nat → Nat → Prop} (hlt : ∀ s t, suc s t → s < t) {s t : Nat} (h : t ≤ s) : bA ini tm suc s t ↔ okS ini tm suc t := by
  constructor
  · intro k
    rw [show s = t + (s - t) by omega] at k
    exact bA_dn hlt k
  · intro k
    have := bA_up (d := s - t) k
    rw [show t + (s - t) = s by omega] at this
    exact this
/-! both ways find the same. A state of the marked ones: ex its extras' code (with bits), ga its goes, co its cost; a step from it keeps to the search's steps -/
abbrev StS (S : Nat) (hr : Nat → Nat) (aim G : Nat) (wc : Nat → Nat → Bool) (tm : Nat → Prop) (pi ga co : Nat → Nat) (u t : Nat) : Prop := ∃ i, i < S ∧ exS (pi u) i < 3 ∧ ((co t = co u + (16 * hr i + 1) ∧ ga t = ga u ∧ (tm t ↔ (wc (pi u) i = true ∧ i = aim)) ∧ (¬ tm t → pi t = (if wc (pi u) i = true then thS (pi u) i else nxS (pi u) i))) ∨ (ga u < G ∧ co t = co u ∧ ga t = ga u + 1 ∧ ¬ tm t ∧ pi t = nxS (pi u) i))
theorem sr_low {S : Nat} (hS : S ≤ 4) {hr : Nat → Nat} {aim G : Nat} {wc : Nat → Nat → Bool} {ini tm : Nat → Prop} {suc : Nat → Nat → Prop} {pi ga co : Nat → Nat} (hp : ∀ t, okS ini tm suc t → ¬ tm t → pi t < 2048 ∧ ga t ≤ G) (hin : ∀ t, ini t → ¬ tm t) (hst : ∀ u t, okS ini tm suc u → ¬ tm u → suc u t → StS S hr aim G wc tm pi ga co u t) : ∀ N t, t < N → okS ini tm suc t → ∃ r, ini r ∧ (tm t → vS S hr aim wc (pi r) (G - ga r) + co r ≤ co t) ∧ (¬ tm t → vS S hr aim wc (pi r) (G - ga r) + co r ≤ co t + vS S hr aim wc (pi t) (G - ga t)) := by
  intro N
  induction N with
  | zero => intro t h _; omega
  | succ N ih =>
    intro t ht hok
    rcases ok_ex hok with hi | ⟨u, hu, hou, htu, hsu⟩
    · exact ⟨t, hi, fun w => absurd w (hin t hi), fun _ => by omega⟩
    · obtain ⟨r, hri, _, hle⟩ := ih u (by omega) hou
      have hle := hle htu
      refine ⟨r, hri, ?_⟩
      obtain ⟨pu, gu⟩ := hp u hou htu
      obtain ⟨i, hiS, he, hcase⟩ := hst u t hou htu hsu
      have hb := vIS_le (hr := hr) (aim := aim) (wc := wc) (F := vS S hr aim wc) (g := G - ga u) he S hiS
      rw [← vS_eq hS pu] at hb
      rcases hcase with ⟨c1, c2, c3, c4⟩ | ⟨c0, c1, c2, c3, c4⟩
      · have h1 := hb.1
        refine ⟨fun w => ?_, fun w => ?_⟩
        · rw [if_pos (c3.mp w)] at h1
          omega
        · rw [if_neg (fun z => w (c3.mpr z)), ← c4 w] at h1
          rw [c2]
          omega
      · have h1 := hb.2 (by omega)
        rw [← c4, show G - ga u - 1 = G - ga t by omega] at h1
        exact ⟨fun w => absurd w c3, fun _ => by omega⟩
theorem sr_upp {S : Nat} (hS : S ≤ 4) {hr : Nat → Nat} {aim G : Nat} {wc : Nat → Nat → Bool} {ini tm : Nat → Prop} {suc : Nat → Nat → Prop} {pi ga co : Nat → Nat} (hlt : ∀ s t, suc s t → s < t) (hp : ∀ t, okS ini tm suc t → ¬ tm t → pi t < 2048 ∧ ga t ≤ G) (hex : ∀ u i, okS ini tm suc u → ¬ tm u → i < S → exS (pi u) i < 3 → (∃ t, suc u t ∧ co t = co u + (16 * hr i + 1) ∧ ga t = ga u ∧ (tm t ↔ (wc (pi u) i = true ∧ i = aim)) ∧ (¬ tm t → pi t = (if wc (pi u) i = true then thS (pi u) i else nxS (pi u) i))) ∧ (ga u < G → ∃ t, suc u t ∧ co t = co u ∧ ga t = ga u + 1 ∧ ¬ tm t ∧ pi t = nxS (pi u) i)) : ∀ d u, 12 - totS (pi u) < d → okS ini tm suc u → ¬ tm u → vS S hr aim wc (pi u) (G - ga u) < 1048576 → ∃ t, okS ini tm suc t ∧ tm t ∧ co t = co u + vS S hr aim wc (pi u) (G - ga u) := by
  intro d
  induction d with
  | zero => intro u h; omega
  | succ d ih =>
    intro u hd hok htu hv
    obtain ⟨pu, gu⟩ := hp u hok htu
    rw [vS_eq hS pu] at hv ⊢
    obtain ⟨i, hiS, he, hc⟩ := vIS_at S hv
    obtain ⟨⟨t, s1, s2, s3, s4, s5⟩, hbuy⟩ := hex u i hok htu hiS he
    have hcd := codeS (pi u) pu i (by omega) he
    rcases hc with hc | ⟨hg, hc⟩
    · rw [hc] at hv ⊢
      have hot := ok_suc hlt hok htu s1
      by_cases w : tm t
      · refine ⟨t, hot, w, ?_⟩
        rw [if_pos (s4.mp w)]; omega
      · rw [if_neg (fun z => w (s4.mpr z)), ← s5 w, ← s3] at hv ⊢
        have htot : totS (pi t) = totS (pi u) + 1 := by
          rw [s5 w]
          by_cases w2 : wc (pi u) i = true
          · rw [if_pos w2]; exact hcd.2.1
          · rw [if_neg w2]; exact hcd.1
        clear hbuy
        have hi2 := ih t (by omega) hot w (by omega)
        obtain ⟨t2, q1, q2, q3⟩ := hi2
        exact ⟨t2, q1, q2, by rw [q3]; omega⟩
    · rw [hc] at hv ⊢
      obtain ⟨t', u1, u2, u3, u4, u5⟩ := hbuy (by omega)
      have hot := ok_suc hlt hok htu u1
      rw [← u5, show G - ga u - 1 = G - ga t' by omega] at hv ⊢
      have ht2 : totS (pi t') = totS (pi u) + 1 := by rw [u5]; exact hcd.1
      clear hbuy
      have hi2 := ih t' (by omega) hot u4 hv
      obtain ⟨t2, q1, q2, q3⟩ := hi2
      exact ⟨t2, q1, q2, by rw [q3, u2]⟩
/-! the class's search -/
theorem n_ex {st q : Nat} (hst : st < 2 ^ 31) (hq : q < 4) : (nI st >>> (((2 : Int32) * nI q) &&& 31)) &&& (3 : Int32) = nI (exS st q) := by
  have e2 : (2 : Int32) * nI q = nI (2 * q) := nI_i (by rw [i_mul l_2 (nI_toInt (by omega)) (by omega) (by omega)]; omega)
  rw [e2, n_shr hst (by omega), show (3 : Int32) = nI 3 from rfl, n_and, show (3 : Nat) = 2 ^ 2 - 1 from rfl, Nat.and_two_pow_sub_one_eq_mod, Nat.shiftRight_eq_div_pow, Nat.pow_mul]
  rfl
theorem n_4i {i : Nat} (hi : i < 4) : (1 : Int32) <<< (((2 : Int32) * nI i) &&& 31) = nI (4 ^ i) := (by decide +kernel : ∀ i, i < 4 → (1 : Int32) <<< (((2 : Int32) * nI i) &&& 31) = nI (4 ^ i)) i hi
theorem n_8i {i : Nat} (hi : i < 3) : (1 : Int32) <<< (((8 : Int32) + nI i) &&& 31) = nI (2 ^ (8 + i)) := (by decide +kernel : ∀ i, i < 3 → (1 : Int32) <<< (((8 : Int32) + nI i) &&& 31) = nI (2 ^ (8 + i))) i hi
theorem n_min {a b : Nat} (ha : a < 2 ^ 31) (hb : b < 2 ^ 31) : qmin (nI a) (nI b) = nI (min a b) := by
  have := i_min (a := nI a) (b := nI b) (nI_toInt ha) (nI_toInt hb)
  exact nI_i (by omega)
theorem ex3 (st q : Nat) : exS st q < 4 := Nat.mod_lt _ (by decide)
def odS (H Al : Nat → Int32) (st i : Nat) : Nat → Int32
  | 0 => H i
  | q + 1 => odS H Al st i q + (if bitI (Al i) q then nI (exS st q) else 0)
def wcS (L H Al V : Nat → Int32) (S st i : Nat) : Bool := decide (¬ L i = (-1 : Int32)) && (decide ((L i &&& ((nI st >>> ((8 : Int32) &&& 31)) ^^^ (-1 : Int32))) = 0) && decide (¬ odS H Al st i S < V (4 * i + exS st i)))
theorem wcS_y {L H Al V : Nat → Int32} {S st i : Nat} : wcS L H Al V S st i = true ↔ (¬ L i = (-1 : Int32) ∧ (L i &&& ((nI st >>> ((8 : Int32) &&& 31)) ^^^ (-1 : Int32))) = 0 ∧ ¬ odS H Al st i S < V (4 * i + exS st i)) := by
  unfold wcS
  rw [Bool.and_eq_true, Bool.and_eq_true, decide_eq_true_eq, decide_eq_true_eq, decide_eq_true_eq]
theorem c_wd38 {n S st i : Nat} (hS : S ≤ 4) (hi : i < S) (hst : st < 2048) {M : qM} (h10 : M 56 10 = nI S) : ∀ (m q : Nat), q ≤ S → qP (f_X7_wouldCount_38 n m (nI st) (nI i) (odS (M 58) (M 59) st i q) (nI q) M) (fun v m' => v = (if odS (M 58) (M 59) st i S < M 62 (4 * i + exS st i) then 0 else 1) ∧ m' = M) := by
  intro m
  induction m with
  | zero => intro q _; exact P_none
  | succ m ih =>
    intro q hq
    show qP (b_X7_wouldCount_38 n (f_X7_wouldCount_38 n m) (nI st) (nI i) (odS (M 58) (M 59) st i q) (nI q) M) _
    unfold b_X7_wouldCount_38 f_X7_extraAt
    have tq' : (nI q).toInt = (q : Int) := nI_toInt (by omega)
    have eq' : (nI q).toNatClampNeg = q := by rw [tnc, tq']; rfl
    have ei : (nI i).toNatClampNeg = i := by rw [tnc, nI_toInt (by omega)]; rfl
    rw [h10]
    refine P_le (nI_toInt (by omega)) tq' (fun c => ?_) (fun c => P_qg (fun _ _ => ?_))
    · have e : q = S := by omega
      subst e
      rw [qc_v, n_ex (by omega) (by omega)]
      have ex := ex3 st i
      have eix : (nI i * (4 : Int32) + nI (exS st i)).toNatClampNeg = 4 * i + exS st i := by
        rw [tnc, i_add (i_mul (nI_toInt (n := i) (by omega)) l_4 (by omega) (by omega)) (nI_toInt (n := exS st i) (by omega)) (by omega) (by omega)]; omega
      refine P_qg (fun _ _ => ?_)
      rw [eix]
      exact P_if (fun z => P_ret ⟨by rw [if_pos z], rfl⟩) (fun z => P_ret ⟨by rw [if_neg z], rfl⟩)
    · have go : ∀ z : Int32, z = (if bitI (M 59 i) q then nI (exS st q) else 0) → qP (f_X7_wouldCount_73 n (f_X7_wouldCount_38 n m) (nI st) (nI i) (nI q) (odS (M 58) (M 59) st i q) z M) (fun v m' => v = (if odS (M 58) (M 59) st i S < M 62 (4 * i + exS st i) then 0 else 1) ∧ m' = M) := by
        intro z hz
        unfold f_X7_wouldCount_73
        refine P_ql rfl (fun x1 hx1 => P_ql (i_add tq' l_1 (by omega) (by omega)) (fun x2 hx2 => ?_))
        have e1 : x1 = odS (M 58) (M 59) st i (q + 1) := by rw [Int32.toInt_inj.mp hx1, hz]; rfl
        rw [e1, nI_i (a := x2) (k := q + 1) (by rw [hx2]; omega)]
        exact ih (q + 1) (by omega)
      rw [ei]
      refine P_if (fun z => ?_) (fun z => go 0 (by rw [if_neg z]))
      rw [qc_v, n_ex (by omega) (by omega)]
      exact go _ (by rw [if_pos z])
theorem c_wd {n S st i : Nat} (hS : S ≤ 4) (hi : i < S) (hst : st < 2048) {M : qM} (h10 : M 56 10 = nI S) : qP (f_X7_wouldCount n (nI st) (nI i) M) (fun v m' => v = (if wcS (M 60) (M 58) (M 59) (M 62) S st i = true then 1 else 0) ∧ m' = M) := by
  have ei : (nI i).toNatClampNeg = i := by rw [tnc, nI_toInt (by omega)]; rfl
  unfold f_X7_wouldCount
  refine P_qg (fun _ _ => ?_)
  rw [ei]
  refine P_if (fun z => P_ret ⟨by rw [if_neg (fun w => (wcS_y.mp w).1 z)], rfl⟩) (fun z => P_qg (fun _ _ => P_if (fun z2 => P_qg (fun _ _ => P_ql rfl (fun x hx => ?_))) (fun z2 => P_ret ⟨by rw [if_neg (fun w => z2 (wcS_y.mp w).2.1)], rfl⟩)))
  rw [Int32.toInt_inj.mp hx]
  refine P_mono (c_wd38 hS hi hst h10 n 0 (Nat.zero_le _)) (fun v m' h => ⟨?_, h.2⟩)
  rw [h.1]
  by_cases c : odS (M 58) (M 59) st i S < M 62 (4 * i + exS st i)
  · rw [if_pos c, if_neg (fun w => (wcS_y.mp w).2.2 c)]
  · rw [if_neg c, if_pos (wcS_y.mpr ⟨z, z2, c⟩)]
/-- what a search has laid: its rows, and of the best ways either nothing or what is best -/
abbrev SrS (S aim : Nat) (ch hr : Nat → Nat) (W : Nat → Nat → Bool) (M0 M : qM) : Prop := (M0 56 10 = nI S ∧ M0 56 11 = nI aim) ∧ (∀ i, i < S → M0 57 i = nI (ch i) ∧ ch i < 12 ∧ M0 4 (ch i) = nI (hr i) ∧ hr i ≤ 12) ∧ (∀ c, c ≠ 63 → M c = M0 c) ∧ ∀ g st, g ≤ 3 → st < 2048 → M 63 (2048 * g + st) = -1 ∨ M 63 (2048 * g + st) = nI (vS S hr aim W st g)
theorem c_bw {n S aim : Nat} (hS : S ≤ 4) (haim : aim < S) {ch hr : Nat → Nat} {M0 : qM} {W : Nat → Nat → Bool} (hW : wcS (M0 60) (M0 58) (M0 59) (M0 62) S = W) : ∀ (k : Nat) (st g d : Nat) (M : qM), st < 2048 → g ≤ 3 → d ≤ totS st → SrS S aim ch hr W M0 M → qP (rc_X7_bestWay n k (nI st) (nI g) (nI d) M) (fun v m' => v = nI (vS S hr aim W st g) ∧ SrS S aim ch hr W M0 m') := by
  intro k
  induction k with
  | zero => intro st g d M _ _ _ _; exact P_none
  | succ k ihk =>
    intro st g d M hst hg hd hM
    show qP (fo_X7_bestWay n (rc_X7_bestWay n k) (nI st) (nI g) (nI d) M) _
    unfold fo_X7_bestWay
    have tst : (nI st).toInt = (st : Int) := nI_toInt (by omega)
    have tg : (nI g).toInt = (g : Int) := nI_toInt (by omega)
    have td : (nI d).toInt = (d : Int) := nI_toInt (by have := tot12 st hst; omega)
    have t12 := tot12 st hst
    refine P_ql (x := ((2048 * g + st : Nat) : Int)) (by rw [i_add (i_mul tg l_2048 (by omega) (by omega)) tst (by omega) (by omega)]; omega) (fun x hx => ?_)
    have exx : x = nI (2048 * g + st) := nI_i hx
    have enx : x.toNatClampNeg = 2048 * g + st := by rw [tnc, hx]; rfl
    refine P_lt hx l_0 (fun z => by omega) (fun _ => P_le l_8192 hx (fun z => by omega) (fun _ => P_le td l_12 (fun _ => P_qg (fun _ _ => ?_)) (fun z => by omega)))
    rw [enx]
    refine P_if (fun z => ?_) (fun z => P_qg (fun _ _ => P_ret ⟨?_, hM⟩))
    · have lp : ∀ (m i b : Nat) (M' : qM), i ≤ S → b = vIS hr aim W (vS S hr aim W) st g i → SrS S aim ch hr W M0 M' → qP (f_X7_bestWay_59 n (rc_X7_bestWay n k) m (nI st) (nI g) (nI d) x (nI b) (nI i) M') (fun v m' => v = nI (vS S hr aim W st g) ∧ SrS S aim ch hr W M0 m') := by
        intro m
        induction m with
        | zero => intro i b M' _ _ _; exact P_none
        | succ m ih =>
          intro i b M' hi hb hM'
          show qP (b_X7_bestWay_59 n (rc_X7_bestWay n k) (f_X7_bestWay_59 n (rc_X7_bestWay n k) m) (nI st) (nI g) (nI d) x (nI b) (nI i) M') _
          unfold b_X7_bestWay_59 f_X7_extraAt
          have ti : (nI i).toInt = (i : Int) := nI_toInt (by omega)
          have ei : (nI i).toNatClampNeg = i := by rw [tnc, ti]; rfl
          obtain ⟨⟨s10, s11⟩, srow, sfr, sme⟩ := hM'
          have e10 : M' 56 10 = nI S := by rw [sfr 56 (by decide)]; exact s10
          have e11 : M' 56 11 = nI aim := by rw [sfr 56 (by decide)]; exact s11
          have bN : b ≤ 1048576 := by rw [hb]; exact vIS_N i
          rw [e10]
          refine P_le (nI_toInt (by omega)) ti (fun c => P_qg (fun _ _ => ?_)) (fun c => ?_)
          · have e : i = S := by omega
            have hv : b = vS S hr aim W st g := by rw [hb, e, ← vS_eq hS hst]
            rw [enx]
            refine P_m (fun m1 a1 a2 a3 => P_ret ⟨by rw [hv], ⟨s10, s11⟩, srow, fun c hc => by rw [a3 c hc, sfr c hc], fun g' st' hg' hst' => ?_⟩)
            by_cases q : 2048 * g' + st' = 2048 * g + st
            · have q1 : g' = g := by omega
              have q2 : st' = st := by omega
              subst q1
              subst q2
              exact Or.inr (by rw [a1, hv])
            · rw [a2 _ q]; exact sme g' st' hg' hst'
          · have hiS : i < S := by omega
            obtain ⟨r57, rch, r4, rh⟩ := srow i hiS
            have M57 : M' 57 i = nI (ch i) := by rw [sfr 57 (by decide)]; exact r57
            have M4 : M' 4 (ch i) = nI (hr i) := by rw [sfr 4 (by decide)]; exact r4
            have hMM : SrS S aim ch hr W M0 M' := ⟨⟨s10, s11⟩, srow, sfr, sme⟩
            have x3 := ex3 st i
            have nxt : ∀ (y : Nat) (x2 : Int32) (m' : qM), x2.toInt = (i : Int) + 1 → y = vIS hr aim W (vS S hr aim W) st g (i + 1) → SrS S aim ch hr W M0 m' → qP (f_X7_bestWay_59 n (rc_X7_bestWay n k) m (nI st) (nI g) (nI d) x (nI y) x2 m') (fun v m' => v = nI (vS S hr aim W st g) ∧ SrS S aim ch hr W M0 m') := by
              intro y x2 m' h2 hy hm'
              rw [nI_i (a := x2) (k := i + 1) (by rw [h2]; omega)]
              exact ih (i + 1) y m' (by omega) hy hm'
            rw [qc_v, n_ex (by omega) (by omega)]
            refine P_le l_3 (nI_toInt (by omega)) (fun z3 => P_ql (i_add ti l_1 (by omega) (by omega)) (fun x2 hx2 => nxt b x2 M' hx2 ?_ hMM)) (fun z3 => ?_)
            · rw [hb]
              show _ = (if exS st i < 3 then _ else _)
              rw [if_neg (by omega)]
            · have he : exS st i < 3 := by omega
              have hcd := codeS st hst i (by omega) he
              have p4 : 4 ^ i ≤ 64 := Nat.le_trans (Nat.pow_le_pow_right (by decide) (show i ≤ 3 by omega)) (by decide)
              have enxt : nI st + (1 : Int32) <<< (((2 : Int32) * nI i) &&& 31) = nI (nxS st i) := by
                rw [n_4i (by omega)]
                unfold nxS
                generalize 4 ^ i = v at p4 ⊢
                refine nI_i ?_
                rw [i_add tst (nI_toInt (by omega)) (by omega) (by omega)]
                omega
              have hvi : vIS hr aim W (vS S hr aim W) st g (i + 1) = min (min b (16 * hr i + 1 + (if W st i = true ∧ i = aim then 0 else vS S hr aim W (if W st i = true then thS st i else nxS st i) g))) (if 0 < g then vS S hr aim W (nxS st i) (g - 1) else 1048576) := by
                rw [hb]
                show (if exS st i < 3 then _ else _) = _
                rw [if_pos he]
              have ed : nI d + (1 : Int32) = nI (d + 1) := nI_i (by rw [i_add td l_1 (by omega) (by omega)]; omega)
              have k153 : ∀ (s : Nat) (m' : qM), s ≤ 1048576 → s = (if W st i = true ∧ i = aim then 0 else vS S hr aim W (if W st i = true then thS st i else nxS st i) g) → SrS S aim ch hr W M0 m' → qP (f_X7_bestWay_153 n (rc_X7_bestWay n k) (f_X7_bestWay_59 n (rc_X7_bestWay n k) m) (nI st) (nI g) (nI d) x (nI b) (nI i) (nI (nxS st i)) (nI s) m') (fun v m' => v = nI (vS S hr aim W st g) ∧ SrS S aim ch hr W M0 m') := by
                intro s m' hs1 hs2 hm'
                unfold f_X7_bestWay_153
                have f' := hm'.2.2.1
                refine P_qg (fun _ _ => ?_)
                rw [ei, f' 57 (by decide), r57]
                have ec : (nI (ch i)).toNatClampNeg = ch i := by rw [tnc, nI_toInt (by omega)]; rfl
                refine P_qg (fun _ _ => ?_)
                rw [ec, f' 4 (by decide), r4]
                have ea : ((16 : Int32) * nI (hr i) + (1 : Int32)) + nI s = nI (16 * hr i + 1 + s) := nI_i (by
                  rw [i_add (i_add (i_mul l_16 (nI_toInt (by omega)) (by omega) (by omega)) l_1 (by omega) (by omega)) (nI_toInt (by omega)) (by omega) (by omega)]; omega)
                rw [ea, n_min (by omega) (by omega)]
                refine P_ql rfl (fun x1 hx1 => ?_)
                rw [Int32.toInt_inj.mp hx1]
                refine P_le tg l_0 (fun zg => P_ql (i_add ti l_1 (by omega) (by omega)) (fun x2 hx2 => nxt _ x2 m' hx2 ?_ hm')) (fun zg => ?_)
                · rw [hvi, if_neg (show ¬ 0 < g by omega), ← hs2]; omega
                · have eg : nI g - (1 : Int32) = nI (g - 1) := nI_i (by rw [i_sub tg l_1 (by omega) (by omega)]; omega)
                  rw [eg, ed]
                  refine P_qc (ihk (nxS st i) (g - 1) (d + 1) m' hcd.2.2.1 (by omega) (by rw [hcd.1]; omega) hm') ?_
                  rintro r3 m4 ⟨hr3, hm4⟩
                  have vN : vS S hr aim W (nxS st i) (g - 1) ≤ 1048576 := vS_N
                  rw [hr3, n_min (by omega) (by omega)]
                  refine P_ql rfl (fun x5 hx5 => P_ql (i_add ti l_1 (by omega) (by omega)) (fun x2 hx2 => ?_))
                  rw [Int32.toInt_inj.mp hx5]
                  refine nxt _ x2 m4 hx2 ?_ hm4
                  rw [hvi, if_pos (show 0 < g by omega), ← hs2]
              have k143 : ∀ (y : Nat), y = (if W st i = true then thS st i else nxS st i) → ¬ (W st i = true ∧ i = aim) → qP (f_X7_bestWay_143 n (rc_X7_bestWay n k) (f_X7_bestWay_59 n (rc_X7_bestWay n k) m) (nI st) (nI g) (nI d) x (nI b) (nI i) (nI (nxS st i)) (nI y) M') (fun v m' => v = nI (vS S hr aim W st g) ∧ SrS S aim ch hr W M0 m') := by
                intro y hy hno
                unfold f_X7_bestWay_143
                rw [ed]
                have hy2 : y < 2048 ∧ totS y = totS st + 1 := by
                  rw [hy]
                  by_cases w : W st i = true
                  · rw [if_pos w]; exact ⟨hcd.2.2.2.1, hcd.2.1⟩
                  · rw [if_neg w]; exact ⟨hcd.2.2.1, hcd.1⟩
                refine P_qc (ihk y g (d + 1) M' hy2.1 hg (by rw [hy2.2]; omega) hMM) ?_
                rintro r1 m2 ⟨hr1, hm2⟩
                rw [hr1]
                exact k153 _ m2 vS_N (by rw [if_neg hno, hy]) hm2
              rw [enxt]
              refine P_ql rfl (fun x5 hx5 => ?_)
              rw [Int32.toInt_inj.mp hx5]
              refine P_qc (c_wd hS hiS hst e10) ?_
              rintro r6 m7 ⟨hr6, rfl⟩
              rw [sfr 60 (by decide), sfr 58 (by decide), sfr 59 (by decide), sfr 62 (by decide), hW] at hr6
              by_cases w : W st i = true
              · rw [if_pos w] at hr6
                rw [hr6]
                refine P_if (fun q => absurd q (by decide)) (fun _ => ?_)
                have k123 : ∀ y : Nat, y = thS st i → qP (f_X7_bestWay_123 n (rc_X7_bestWay n k) (f_X7_bestWay_59 n (rc_X7_bestWay n k) m) (nI st) (nI g) (nI d) x (nI b) (nI i) (nI (nxS st i)) 1 (nI y) m7) (fun v m' => v = nI (vS S hr aim W st g) ∧ SrS S aim ch hr W M0 m') := by
                  intro y hy
                  unfold f_X7_bestWay_123
                  refine P_if (fun q => absurd q (by decide)) (fun _ => ?_)
                  rw [e11]
                  refine P_eq ti (nI_toInt (by omega)) (fun q => ?_) (fun q => k143 y (by rw [if_pos w]; exact hy) (fun z => q (by omega)))
                  exact k153 0 m7 (by decide) (by rw [if_pos ⟨w, by omega⟩]) hMM
                refine P_le l_3 ti (fun q => ?_) (fun q => ?_)
                · unfold f_X7_bestWay_121
                  refine k123 (nxS st i) ?_
                  unfold thS nxS
                  rw [if_neg (by omega)]
                · rw [n_8i (by omega), n_or]
                  refine k123 _ ?_
                  unfold thS nxS
                  rw [if_pos (by omega)]
              · rw [if_neg w] at hr6
                rw [hr6]
                refine P_if (fun _ => ?_) (fun q => absurd rfl q)
                unfold f_X7_bestWay_121 f_X7_bestWay_123
                exact P_if (fun _ => k143 (nxS st i) (by rw [if_neg w]) (fun z => w z.1)) (fun q => absurd rfl q)
      exact lp n 0 1048576 M (Nat.zero_le _) rfl hM
    · exact (hM.2.2.2 g st hg hst).resolve_left z
/-! the kinds of a choice in their order -/
def cntR (b : Int32) : Nat → Nat
  | 0 => 0
  | q + 1 => if bitI b q then cntR b q + 1 else cntR b q
def chR (b : Int32) : Nat → Nat → Nat
  | 0, _ => 0
  | q + 1, i => if bitI b q ∧ i = cntR b q then q else chR b q i
theorem cntR_le {b : Int32} : ∀ {q d : Nat}, cntR b q ≤ cntR b (q + d) := by
  intro q d
  induction d with
  | zero => exact Nat.le_refl _
  | succ d ih =>
    show _ ≤ (if bitI b (q + d) then cntR b (q + d) + 1 else cntR b (q + d))
    by_cases c : bitI b (q + d)
    · rw [if_pos c]; omega
    · rw [if_neg c]; exact ih
theorem chR_lt {b : Int32} : ∀ {q i : Nat}, i < cntR b q → chR b q i < q ∧ bitI b (chR b q i) ∧ cntR b (chR b q i) = i := by
  intro q
  induction q with
  | zero => intro i h; exact absurd h (Nat.not_lt_zero _)
  | succ q ih =>
    intro i h
    show (if bitI b q ∧ i = cntR b q then q else chR b q i) < q + 1 ∧ bitI b (if bitI b q ∧ i = cntR b q then q else chR b q i) ∧ cntR b (if bitI b q ∧ i = cntR b q then q else chR b q i) = i
    by_cases c : bitI b q ∧ i = cntR b q
    · rw [if_pos c]
      exact ⟨by omega, c.1, c.2.symm⟩
    · rw [if_neg c]
      have h2 : i < cntR b q := by
        have h3 : i < (if bitI b q then cntR b q + 1 else cntR b q) := h
        by_cases d : bitI b q
        · rw [if_pos d] at h3
          have : i ≠ cntR b q := fun z => c ⟨d, z⟩
          omega
        · rw [if_neg d] at h3; exact h3
      have := ih h2
      exact ⟨by omega, this.2⟩
theorem chR_up {b : Int32} {q i : Nat} (h : i < cntR b q) : ∀ {d : Nat}, chR b (q + d) i = chR b q i := by
  intro d
  induction d with
  | zero => rfl
  | succ d ih =>
    show (if bitI b (q + d) ∧ i = cntR b (q + d) then q + d else chR b (q + d) i) = _
    have := cntR_le (b := b) (q := q) (d := d)
    rw [if_neg (fun z => by have := z.2; omega)]
    exact ih
theorem chR_at {b : Int32} {q : Nat} (hb : bitI b q) {d : Nat} : chR b (q + 1 + d) (cntR b q) = q ∧ cntR b q < cntR b (q + 1 + d) := by
  have h1 : cntR b (q + 1) = cntR b q + 1 := by show (if bitI b q then _ else _) = _; rw [if_pos hb]
  have h2 := cntR_le (b := b) (q := q + 1) (d := d)
  have h3 : chR b (q + 1) (cntR b q) = q := by show (if bitI b q ∧ cntR b q = cntR b q then q else _) = q; rw [if_pos (And.intro hb rfl)]
  exact ⟨(chR_up (by omega)).trans h3, by omega⟩
theorem chR_in {b : Int32} {k : Nat} (hk : k < 12) (hb : bitI b k) : cntR b k < cntR b 12 ∧ chR b 12 (cntR b k) = k := by
  have := chR_at (d := 12 - (k + 1)) hb
  rw [show k + 1 + (12 - (k + 1)) = 12 by omega] at this
  exact ⟨this.2, this.1⟩
theorem chR_mono {b : Int32} {i j : Nat} (hij : i < j) (hj : j < cntR b 12) : chR b 12 i < chR b 12 j := by
  obtain ⟨a1, a2, a3⟩ := chR_lt (b := b) (q := 12) (i := i) (by omega)
  obtain ⟨b1, b2, b3⟩ := chR_lt (b := b) (q := 12) (i := j) hj
  apply Classical.byContradiction
  intro h
  have h2 := cntR_le (b := b) (q := chR b 12 j) (d := chR b 12 i - chR b 12 j)
  rw [show chR b 12 j + (chR b 12 i - chR b 12 j) = chR b 12 i by omega] at h2
  omega
/-! rows of bits -/
theorem bitI_and1 (b : Int32) {i j : Nat} (hi : i < 12) (hj : j < 12) {w : Nat} (hw : w < 4096) (e : b = nI w) : bitI (b &&& ((1 : Int32) <<< (nI j &&& 31))) i ↔ (i = j ∧ bitI b j) := by
  have e1 : (1 : Int32) <<< (nI j &&& 31) = nI (2 ^ j) := (by decide +kernel : ∀ a, a < 12 → (1 : Int32) <<< (nI a &&& 31) = nI (2 ^ a)) j hj
  have h4 : w &&& 2 ^ j ≤ w := Nat.and_le_left
  rw [e, e1, n_and, bit_n (by omega) (by omega), bit_n (by omega) (by omega), Nat.testBit_and, Nat.testBit_two_pow]
  simp only [Bool.and_eq_true, decide_eq_true_eq]
  constructor
  · rintro ⟨h1, h2⟩; exact ⟨h2.symm, by rw [h2]; exact h1⟩
  · rintro ⟨h1, h2⟩; exact ⟨by rw [h1]; exact h2, h1.symm⟩
theorem and01 (x : Int32) : x &&& (1 : Int32) = 0 ∨ x &&& (1 : Int32) = 1 := by
  have h := i_and (a := x) (b := 1) l_1 (by decide)
  rcases (show (x &&& (1 : Int32)).toInt = 0 ∨ (x &&& (1 : Int32)).toInt = 1 by omega) with e | e
  · exact Or.inl (Int32.toInt_inj.mp (by rw [e]; rfl))
  · exact Or.inr (Int32.toInt_inj.mp (by rw [e]; rfl))
theorem shz0 {k : Nat} (hk : k < 12) : (0 : Int32) <<< (nI k &&& 31) = 0 := (by decide +kernel : ∀ k, k < 12 → (0 : Int32) <<< (nI k &&& 31) = 0) k hk
theorem orz0 (x : Int32) : x ||| (0 : Int32) = x := by
  apply Int32.toBitVec_inj.mp
  simp
theorem nsub {l s : Nat} (hl : l < 4096) (hs : s < 4096) : nI l &&& (nI s ^^^ (-1 : Int32)) = 0 ↔ ∀ q, q < 12 → bitI (nI l) q → bitI (nI s) q := by
  constructor
  · intro h q hq hb
    obtain ⟨w, hw, ew⟩ := know_n hs h
    have hb' : (nI l).toBitVec &&& (BitVec.ofNat 32 s ^^^ BitVec.allOnes 32) = 0#32 := congrArg Int32.toBitVec h
    rw [BitVec.xor_allOnes] at hb'
    rw [bit_n (by omega) (by omega)] at hb ⊢
    have q2 := congrArg (fun x => BitVec.getLsbD x q) hb'
    have hl2 : (nI l).toBitVec.getLsbD q = l.testBit q := by
      show (BitVec.ofNat 32 l).getLsbD q = _
      rw [BitVec.getLsbD_ofNat]
      simp [show q < 32 by omega]
    have hs2 : (BitVec.ofNat 32 s).getLsbD q = s.testBit q := by
      rw [BitVec.getLsbD_ofNat]
      simp [show q < 32 by omega]
    simp only [BitVec.getLsbD_and, BitVec.getLsbD_not, BitVec.getLsbD_zero, hl2, hs2, hb, show q < 32 by omega, decide_true, Bool.true_and] at q2
    revert q2
    cases s.testBit q <;> simp
  · intro h
    apply Int32.toBitVec_inj.1
    show BitVec.ofNat 32 l &&& (BitVec.ofNat 32 s ^^^ BitVec.allOnes 32) = 0#32
    rw [BitVec.xor_allOnes]
    apply BitVec.eq_of_getLsbD_eq
    intro q hq
    simp only [BitVec.getLsbD_and, BitVec.getLsbD_not, BitVec.getLsbD_zero, BitVec.getLsbD_ofNat, hq, decide_true, Bool.true_and]
    by_cases c : q < 12
    · have := h q c
      rw [bit_n (by omega) (by omega), bit_n (by omega) (by omega)] at this
      revert this
      cases l.testBit q <;> cases s.testBit q <;> simp
    · have : l.testBit q = false := Nat.testBit_lt_two_pow (Nat.lt_of_lt_of_le hl (Nat.pow_le_pow_right (n := 2) (by decide) (show 12 ≤ q by omega)))
      rw [this]
      simp
/-! the class lays a search: the choice -/
abbrev Ch57 (b : Int32) (k q : Nat) (M : qM) : Prop := M 56 10 = nI (cntR b q) ∧ (∀ i, i < cntR b q → M 57 i = nI (chR b q i)) ∧ (k < q → M 56 11 = nI (cntR b k))
theorem c_pr8 {n j k : Nat} (hk : k < 12) {b a2 : Int32} (h4 : cntR b 12 ≤ 4) (hb : bitI b k) {M0 : qM} {Q : Int32 → qM → Prop} (hK : ∀ M : qM, G M → Ch57 b k 12 M → (∀ c, c ≠ 56 → c ≠ 57 → M c = M0 c) → qP (f_X7_prepare_85 n 7 j n a2 0 M) Q) : ∀ (m q : Nat) (M : qM), q ≤ 12 → G M → Ch57 b k q M → (∀ c, c ≠ 56 → c ≠ 57 → M c = M0 c) → qP (f_X7_prepare_8 n 7 j m a2 b (nI k) (nI q) M) Q := by
  intro m
  induction m with
  | zero => intro q M _ _ _ _; exact P_none
  | succ m ih =>
    intro q M hq hG hC hf
    show qP (b_X7_prepare_8 n 7 j (f_X7_prepare_8 n 7 j m) a2 b (nI k) (nI q) M) _
    unfold b_X7_prepare_8
    obtain ⟨h10, h57, h11⟩ := hC
    have tq' : (nI q).toInt = (q : Int) := nI_toInt (by omega)
    refine P_le l_12 tq' (fun c => ?_) (fun c => ?_)
    · have e : q = 12 := by omega
      subst e
      exact hK M hG ⟨h10, h57, h11⟩ hf
    · have hle := cntR_le (b := b) (q := q) (d := 12 - q)
      rw [show q + (12 - q) = 12 by omega] at hle
      rw [h10]
      refine P_le l_4 (nI_toInt (by omega)) (fun c4 => ?_) (fun c4 => ?_)
      · have hkq : k < q := by
          apply Classical.byContradiction
          intro z
          have h1 := (chR_in hk hb).1
          have h2 := cntR_le (b := b) (q := q) (d := k - q)
          rw [show q + (k - q) = k by omega] at h2
          omega
        refine hK M hG ⟨by rw [h10, show cntR b 12 = cntR b q by omega], fun i hi => ?_, fun _ => h11 hkq⟩ hf
        rw [h57 i (by omega)]
        have := chR_up (b := b) (q := q) (i := i) (by omega) (d := 12 - q)
        rw [show q + (12 - q) = 12 by omega] at this
        rw [this]
      · refine P_if (fun cb => ?_) (fun cb => P_ql (i_add tq' l_1 (by omega) (by omega)) (fun x hx => ?_))
        · have e1 : cntR b (q + 1) = cntR b q + 1 := by show (if bitI b q then _ else _) = _; rw [if_pos cb]
          have go : ∀ s1 : Int32, (k < q + 1 → s1 = nI (cntR b k)) → qP (f_X7_prepare_52 n 7 j (f_X7_prepare_8 n 7 j m) a2 b (nI k) (nI q) s1 M) Q := by
            intro s1 hs
            unfold f_X7_prepare_52
            refine P_g hG (rn_56_11 _) (nw_56 _) ?_
            intro m1 a1 a2' a3 g1
            rw [a2' 10 (by decide), h10]
            have ec : (nI (cntR b q)).toNatClampNeg = cntR b q := by rw [tnc, nI_toInt (by omega)]; rfl
            refine P_qg (fun _ _ => ?_)
            rw [ec]
            refine P_g g1 (show 0 ≤ (nI q).toInt ∧ (nI q).toInt ≤ 11 by omega) (nw_57 _) ?_
            intro m2 b1 b2 b3 g2
            rw [b3 56 (by decide), a2' 10 (by decide), h10]
            have es : nI (cntR b q) + (1 : Int32) = nI (cntR b (q + 1)) := nI_i (by rw [i_add (nI_toInt (by omega)) l_1 (by omega) (by omega), e1]; omega)
            rw [es]
            refine P_g g2 (show 0 ≤ (nI (cntR b (q + 1))).toInt ∧ (nI (cntR b (q + 1))).toInt ≤ 4 by rw [nI_toInt (by omega)]; omega) (nw_56 _) ?_
            intro m3 c1 c2 c3 g3
            refine P_ql (i_add tq' l_1 (by omega) (by omega)) (fun x hx => ?_)
            rw [nI_i (a := x) (k := q + 1) (by rw [hx]; omega)]
            refine ih (q + 1) m3 (by omega) g3 ⟨c1, fun i hi => ?_, fun h => ?_⟩ (fun c h6 h7 => by rw [c3 c h6, b3 c h7, a3 c h6]; exact hf c h6 h7)
            · show m3 57 i = nI (if bitI b q ∧ i = cntR b q then q else chR b q i)
              rw [c3 57 (by decide)]
              by_cases z : i = cntR b q
              · rw [if_pos (And.intro cb z), z, b1]
              · rw [if_neg (fun w => z w.2), b2 i z, a3 57 (by decide)]
                exact h57 i (by omega)
            · rw [c2 11 (by decide), b3 56 (by decide), a1]; exact hs h
          refine P_if (fun z => go _ (fun _ => ?_)) (fun z => go _ (fun h => ?_))
          · rw [nI_inj (by omega) (by omega) z]
          · exact h11 (by
              have : q ≠ k := fun w => z (by rw [w])
              omega)
        · rw [nI_i (a := x) (k := q + 1) (by rw [hx]; omega)]
          have e1 : cntR b (q + 1) = cntR b q := by show (if bitI b q then _ else _) = _; rw [if_neg cb]
          refine ih (q + 1) M (by omega) hG ⟨by rw [e1]; exact h10, fun i hi => ?_, fun h => ?_⟩ hf
          · show M 57 i = nI (if bitI b q ∧ i = cntR b q then q else chR b q i)
            rw [if_neg (fun w => cb w.1)]
            exact h57 i (by omega)
          · by_cases z : k < q
            · exact h11 z
            · have : k = q := by omega
              rw [this] at hb
              exact absurd hb cb
/-! the class lays a search: its rows -/
theorem c_fillL {n c len : Nat} (hl : len ≤ 10000) (a1 : Int32) : ∀ (m : Nat) (a2 a3 : Int32) (M : qM), 0 ≤ a2.toInt → a3.toInt = (len : Int) → qP (f_J7_fill_53178_5 n c len m a1 a2 a3 M) (fun _ m' => (∀ c2, c2 ≠ c → m' c2 = M c2) ∧ ∀ i : Nat, ((i : Int) < a2.toInt → m' c i = M c i) ∧ (a2.toInt ≤ (i : Int) → i < len → m' c i = a1)) := by
  intro m
  induction m with
  | zero => intro a2 a3 M _ _; exact P_none
  | succ m ih =>
    intro a2 a3 M h0 h3
    show qP (b_J7_fill_53178_5 n c len (f_J7_fill_53178_5 n c len m) a1 a2 a3 M) _
    unfold b_J7_fill_53178_5
    refine P_le rfl rfl (fun h => P_ret ⟨fun _ _ => rfl, fun i => ⟨fun _ => rfl, fun h1 h2 => by omega⟩⟩) (fun hlt => ?_)
    refine P_qg (fun _ hg => P_m (fun m1 b1 b2 b3 => P_ql (i_add rfl l_1 (by omega) (by omega)) (fun x hx => ?_)))
    refine P_mono (ih x a3 m1 (by omega) h3) (fun v m' h => ?_)
    obtain ⟨e1, e2⟩ := h
    refine ⟨fun c2 hc => by rw [e1 c2 hc, b3 c2 hc], fun i => ⟨fun hi => ?_, fun h1 h2 => ?_⟩⟩
    · rw [(e2 i).1 (by omega), b2 i (by rw [tnc]; omega)]
    · by_cases q : i = a2.toNatClampNeg
      · rw [(e2 i).1 (by rw [q, tnc]; omega), q, b1]
      · exact (e2 i).2 (by rw [tnc] at q; omega) h2
abbrev Ch5 (b : Int32) (M : qM) : Prop := M 56 10 = nI (cntR b 12) ∧ ∀ i, i < cntR b 12 → M 57 i = nI (chR b 12 i)
theorem c_plc4 {n : Nat} {b a1 : Int32} (h4 : cntR b 12 ≤ 4) {M : qM} (hC : Ch5 b M) : ∀ (m i c : Nat), i ≤ cntR b 12 → c < 4096 → (∀ q, q < i → (bitI (nI c) q ↔ bitI a1 (chR b 12 q))) → (∀ q, i ≤ q → q < 12 → ¬ bitI (nI c) q) → qP (f_X7_toPlaces_4 n m a1 (nI c) (nI i) M) (fun v m' => (∃ c, c < 4096 ∧ v = nI c) ∧ (∀ q, q < cntR b 12 → (bitI v q ↔ bitI a1 (chR b 12 q))) ∧ (∀ q, cntR b 12 ≤ q → q < 12 → ¬ bitI v q) ∧ m' = M) := by
  intro m
  induction m with
  | zero => intro i c _ _ _ _; exact P_none
  | succ m ih =>
    intro i c hi hc hlo hhi
    show qP (b_X7_toPlaces_4 n (f_X7_toPlaces_4 n m) a1 (nI c) (nI i) M) _
    unfold b_X7_toPlaces_4
    have ti : (nI i).toInt = (i : Int) := nI_toInt (by omega)
    have ei : (nI i).toNatClampNeg = i := by rw [tnc, ti]; rfl
    rw [hC.1]
    refine P_le (nI_toInt (by omega)) ti (fun z => P_ret ⟨⟨c, hc, rfl⟩, fun q hq => hlo q (by omega), fun q h1 h2 => hhi q (by omega) h2, rfl⟩) (fun z => P_qg (fun _ _ => ?_))
    have hiS : i < cntR b 12 := by omega
    have hch := chR_lt hiS
    rw [ei, hC.2 i hiS]
    have nx : ∀ x1 x2 : Int32, ∀ c', c' < 4096 → x1 = nI c' → x2.toInt = (i : Int) + 1 → (∀ q, q < 12 → (bitI (nI c') q ↔ ((q = i ∧ bitI a1 (chR b 12 i)) ∨ bitI (nI c) q))) → qP (f_X7_toPlaces_4 n m a1 x1 x2 M) (fun v m' => (∃ c, c < 4096 ∧ v = nI c) ∧ (∀ q, q < cntR b 12 → (bitI v q ↔ bitI a1 (chR b 12 q))) ∧ (∀ q, cntR b 12 ≤ q → q < 12 → ¬ bitI v q) ∧ m' = M) := by
      intro x1 x2 c' hc' e1 e2 hbo
      rw [e1, nI_i (a := x2) (k := i + 1) (by rw [e2]; omega)]
      refine ih (i + 1) c' (by omega) hc' (fun q hq => ?_) (fun q h1 h2 => ?_)
      · rw [hbo q (by omega)]
        by_cases e : q = i
        · rw [e]
          exact ⟨fun w => w.elim (fun w => w.2) (fun w => absurd w (hhi i (Nat.le_refl _) (by omega))), fun w => Or.inl ⟨rfl, w⟩⟩
        · rw [← hlo q (by omega)]
          exact ⟨fun w => w.elim (fun w => absurd w.1 e) (fun w => w), fun w => Or.inr w⟩
      · rw [hbo q h2]
        rintro (w | w)
        · omega
        · exact hhi q (by omega) h2 w
    rcases and01 (a1 >>> (nI (chR b 12 i) &&& 31)) with e0 | e1
    · rw [e0, shz0 (show i < 12 by omega), orz0]
      refine P_ql rfl (fun x1 hx1 => P_ql (i_add ti l_1 (by omega) (by omega)) (fun x2 hx2 => nx x1 x2 c hc (Int32.toInt_inj.mp hx1) hx2 (fun q hq => ?_)))
      constructor
      · exact fun w => Or.inr w
      · rintro (w | w)
        · have := w.2
          have h2 : (a1 >>> (nI (chR b 12 i) &&& 31)) &&& (1 : Int32) = 1 := this
          rw [e0] at h2
          exact absurd h2 (by decide)
        · exact w
    · rw [e1]
      obtain ⟨_, c', hc', ec⟩ := bit_or (i := 0) hc (by decide) (show i < 12 by omega)
      refine P_ql rfl (fun x1 hx1 => P_ql (i_add ti l_1 (by omega) (by omega)) (fun x2 hx2 => nx x1 x2 c' hc' (by rw [Int32.toInt_inj.mp hx1, ec]) hx2 (fun q hq => ?_)))
      rw [← ec, (bit_or hc hq (by omega)).1]
      constructor
      · rintro (w | w)
        · exact Or.inl ⟨w, e1⟩
        · exact Or.inr w
      · rintro (w | w)
        · exact Or.inl w.1
        · exact Or.inr w
theorem c_plc {n : Nat} {b : Int32} (h4 : cntR b 12 ≤ 4) (a1 : Int32) {M : qM} (hC : Ch5 b M) : qP (f_X7_toPlaces n a1 M) (fun v m' => (∃ c, c < 4096 ∧ v = nI c) ∧ (∀ q, q < cntR b 12 → (bitI v q ↔ bitI a1 (chR b 12 q))) ∧ (∀ q, cntR b 12 ≤ q → q < 12 → ¬ bitI v q) ∧ m' = M) := by
  unfold f_X7_toPlaces
  exact c_plc4 h4 hC n 0 0 (Nat.zero_le _) (by decide) (fun q hq => absurd hq (by omega)) (fun q _ h2 => bit_0 h2)
theorem hcv_0 {N : Nat → Int32} {p : Nat} {b : Int32} : ∀ {e : Nat}, e ≤ 12 → (hcv N p b e = 0 ↔ ∃ q, 12 - e ≤ q ∧ q < 12 ∧ bitI b q ∧ N (12 * p + q) = 0) := by
  intro e
  induction e with
  | zero =>
    intro _
    constructor
    · intro h; exact absurd h (by show ¬ (1 : Int32) = 0; decide)
    · rintro ⟨q, h1, h2, _⟩; omega
  | succ e ih =>
    intro he
    show (if bitI b (11 - e) ∧ N (12 * p + (11 - e)) = 0 then 0 else hcv N p b e) = 0 ↔ _
    by_cases c : bitI b (11 - e) ∧ N (12 * p + (11 - e)) = 0
    · rw [if_pos c]
      exact ⟨fun _ => ⟨11 - e, by omega, by omega, c.1, c.2⟩, fun _ => rfl⟩
    · rw [if_neg c, ih (by omega)]
      constructor
      · rintro ⟨q, h1, h2, h3⟩; exact ⟨q, by omega, h2, h3⟩
      · rintro ⟨q, h1, h2, h3⟩
        by_cases z : q = 11 - e
        · rw [z] at h3; exact absurd h3 c
        · exact ⟨q, by omega, h2, h3⟩
theorem bit_self {i k : Nat} (hi : i < 12) (hk : k < 12) : bitI ((1 : Int32) <<< (nI k &&& 31)) i ↔ i = k := by
  have e1 : (1 : Int32) <<< (nI k &&& 31) = nI (2 ^ k) := (by decide +kernel : ∀ a, a < 12 → (1 : Int32) <<< (nI a &&& 31) = nI (2 ^ a)) k hk
  have h2 : 2 ^ k < 2 ^ 12 := Nat.pow_lt_pow_right (by decide) hk
  rw [e1, bit_n (by omega) (by omega), Nat.testBit_two_pow, decide_eq_true_eq]
  exact ⟨fun z => z.symm, fun z => z.symm⟩
/-- what is lacked of the choice; -1: what is not of it -/
abbrev LkS (b nd : Int32) (p : Nat) (N : Nat → Int32) (v : Int32) : Prop := (v = -1 ∧ ∃ q, q < 12 ∧ bitI nd q ∧ N (12 * p + q) = 0 ∧ ¬ bitI b q) ∨ (∃ l, l < 4096 ∧ v = nI l ∧ (∀ q, q < 12 → bitI nd q → N (12 * p + q) = 0 → bitI b q) ∧ ∀ i, i < 12 → (bitI (nI l) i ↔ (i < cntR b 12 ∧ bitI nd (chR b 12 i) ∧ N (12 * p + chR b 12 i) = 0)))
theorem c_lck6 {n p : Nat} (hp : p < 8) {b nd : Int32} (h4 : cntR b 12 ≤ 4) {w : Nat} (hw : w < 4096) (hnd : nd = nI w) {M : qM} (hC : Ch5 b M) : ∀ (m q l : Nat), q ≤ 12 → l < 4096 → (∀ j, j < q → bitI nd j → M 11 (12 * p + j) = 0 → bitI b j) → (∀ i, i < 12 → (bitI (nI l) i ↔ (i < cntR b 12 ∧ chR b 12 i < q ∧ bitI nd (chR b 12 i) ∧ M 11 (12 * p + chR b 12 i) = 0))) → qP (f_X7_lackedPlaces_6 n 7 m (nI p) nd (nI l) (nI q) M) (fun v m' => LkS b nd p (M 11) v ∧ m' = M) := by
  intro m
  induction m with
  | zero => intro q l _ _ _ _; exact P_none
  | succ m ih =>
    intro q l hq hl h1 h2
    show qP (b_X7_lackedPlaces_6 n 7 (f_X7_lackedPlaces_6 n 7 m) (nI p) nd (nI l) (nI q) M) _
    unfold b_X7_lackedPlaces_6
    have tq' : (nI q).toInt = (q : Int) := nI_toInt (by omega)
    refine P_le l_12 tq' (fun z => P_ret ⟨Or.inr ⟨l, hl, rfl, fun j hj => h1 j (by omega), fun i hi => ?_⟩, rfl⟩) (fun z => ?_)
    · rw [h2 i hi]
      constructor
      · rintro ⟨a, _, c⟩; exact ⟨a, c⟩
      · rintro ⟨a, c⟩; exact ⟨a, by have := (chR_lt a).1; omega, c⟩
    · have hq12 : q < 12 := by omega
      refine P_qc (c_has (t := 7) hp _ M) ?_
      rintro r1 m2 ⟨hr1, rfl⟩
      have hz : r1 = 0 ↔ (bitI nd q ∧ m2 11 (12 * p + q) = 0) := by
        rw [hr1, hcv_0 (Nat.le_refl _)]
        constructor
        · rintro ⟨q', _, a2, a3, a4⟩
          rw [bitI_and1 nd a2 hq12 hw hnd] at a3
          rw [a3.1] at a4
          exact ⟨a3.2, a4⟩
        · rintro ⟨a1, a2⟩
          exact ⟨q, by omega, hq12, (bitI_and1 nd hq12 hq12 hw hnd).mpr ⟨rfl, a1⟩, a2⟩
      refine P_if (fun c => ?_) (fun c => P_ql (i_add tq' l_1 (by omega) (by omega)) (fun x hx => ?_))
      · have hc := hz.mp c
        refine P_qc (c_plc h4 _ hC) ?_
        rintro r4 m5 ⟨⟨c4, hc4, e4⟩, p1, p2, rfl⟩
        have pb : ∀ i, i < 12 → (bitI r4 i ↔ (i < cntR b 12 ∧ chR b 12 i = q)) := by
          intro i hi
          by_cases ci : i < cntR b 12
          · rw [p1 i ci, bit_self (chR_lt ci).1 hq12]
            exact ⟨fun z => ⟨ci, z⟩, fun z => z.2⟩
          · exact ⟨fun z => absurd z (p2 i (by omega) hi), fun z => absurd z.1 ci⟩
        refine P_if (fun c5 => P_ret ⟨Or.inl ⟨rfl, q, hq12, hc.1, hc.2, fun hb => ?_⟩, rfl⟩) (fun c5 => ?_)
        · have hin := chR_in hq12 hb
          have := (pb (cntR b q) (by omega)).mpr hin
          rw [c5] at this
          exact bit_0 (show cntR b q < 12 by omega) this
        · rw [e4, n_or]
          have hbq : bitI b q := by
            apply Classical.byContradiction
            intro hno
            apply c5
            rw [e4]
            have : c4 = 0 := by
              apply Nat.eq_of_testBit_eq
              intro i
              rw [Nat.zero_testBit]
              by_cases ci : i < 12
              · have h3 := pb i ci
                rw [e4, bit_n (by omega) (by omega)] at h3
                cases hb4 : c4.testBit i with
                | false => rfl
                | true =>
                  have h5 := h3.mp hb4
                  have h6 := (chR_lt h5.1).2.1
                  rw [h5.2] at h6
                  exact absurd h6 hno
              · exact Nat.testBit_lt_two_pow (Nat.lt_of_lt_of_le hc4 (Nat.pow_le_pow_right (n := 2) (by decide) (show 12 ≤ i by omega)))
            rw [this]
            rfl
          refine P_ql rfl (fun x6 hx6 => P_ql (i_add tq' l_1 (by omega) (by omega)) (fun x7 hx7 => ?_))
          rw [Int32.toInt_inj.mp hx6, nI_i (a := x7) (k := q + 1) (by rw [hx7]; omega)]
          have hlt : l ||| c4 < 4096 := Nat.or_lt_two_pow (n := 12) hl hc4
          refine ih (q + 1) (l ||| c4) (by omega) hlt (fun j hj hn hN => ?_) (fun i hi => ?_)
          · by_cases e : j = q
            · rw [e]; exact hbq
            · exact h1 j (by omega) hn hN
          · have e1 : bitI (nI (l ||| c4)) i ↔ (bitI (nI l) i ∨ bitI (nI c4) i) := by
              rw [bit_n (by omega) (by omega), bit_n (by omega) (by omega), bit_n (by omega) (by omega), Nat.testBit_or, Bool.or_eq_true]
            rw [e1, h2 i hi, ← e4, pb i hi]
            constructor
            · rintro (⟨a1, a2, a3⟩ | ⟨a1, a2⟩)
              · exact ⟨a1, by omega, a3⟩
              · exact ⟨a1, by omega, by rw [a2]; exact hc⟩
            · rintro ⟨a1, a2, a3⟩
              by_cases e : chR b 12 i = q
              · exact Or.inr ⟨a1, e⟩
              · exact Or.inl ⟨a1, by omega, a3⟩
      · rw [nI_i (a := x) (k := q + 1) (by rw [hx]; omega)]
        refine ih (q + 1) l (by omega) hl (fun j hj hn hN => ?_) (fun i hi => ?_)
        · by_cases e : j = q
          · rw [e] at hn hN
            exact absurd (hz.mpr ⟨hn, hN⟩) c
          · exact h1 j (by omega) hn hN
        · rw [h2 i hi]
          constructor
          · rintro ⟨a1, a2, a3⟩; exact ⟨a1, by omega, a3⟩
          · rintro ⟨a1, a2, a3⟩
            by_cases e : chR b 12 i = q
            · rw [e] at a3
              exact absurd (hz.mpr a3) c
            · exact ⟨a1, by omega, a3⟩
theorem c_lck {n p : Nat} (hp : p < 8) {b nd : Int32} (h4 : cntR b 12 ≤ 4) {w : Nat} (hw : w < 4096) (hnd : nd = nI w) {M : qM} (hC : Ch5 b M) : qP (f_X7_lackedPlaces n 7 (nI p) nd M) (fun v m' => LkS b nd p (M 11) v ∧ m' = M) := by
  unfold f_X7_lackedPlaces
  exact c_lck6 hp h4 hw hnd hC n 0 0 (Nat.zero_le _) (by decide) (fun j hj => absurd hj (by omega)) (fun i hi => ⟨fun z => absurd z (bit_0 hi), fun z => absurd z.2.1 (by omega)⟩)
def vdX (C : List Int) (K : List Kl) (n : Nat) (H X : Nat → Int32) (d : Int32) (p k : Nat) (T N : Nat → Int32) (e : Nat) : Int32 := amtL C n (fx (nI k) (H k) (X k) 0 0 0 d (nI p) 8 (T (12 * p + k) + nI e) (byA T k 8 + nI e) (N (12 * p + k))) 118 99 K 1
theorem c_ask61 {n : Nat} (hn : 200000 ≤ n) {j p k i : Nat} (hj : q_isLaw j) (hp : p < 8) (hk : k < 12) (hi : i < 4) {C : List Int} {K : List Kl} (hK : Kg (cdl C) C.length K) {M0 : qM} : ∀ (m e : Nat) (M : qM), e ≤ 4 → G M → LJ j M C K → FD (M 35) (nI k) (M0 4 k) (M0 5 k) (M0 7 9) ∨ (∃ e', FE (M 35) (fx (nI k) (M0 4 k) (M0 5 k) 0 0 0 (M0 7 9) (nI p) 8 (M0 9 (12 * p + k) + nI e') (byA (M0 9) k 8 + nI e') (M0 11 (12 * p + k)))) → (M 35 3 = 0 ∧ M 35 4 = 0 ∧ M 35 5 = 0) → (∀ c, c ≠ 34 → c ≠ 35 → c ≠ 36 → c ≠ 62 → M c = M0 c) → (∀ s, (s < 4 * i ∨ 4 * i + 4 ≤ s) → M 62 s = M0 62 s) → (∀ s, s < e → M 62 (4 * i + s) = vdX C K n (M0 4) (M0 5) (M0 7 9) p k (M0 9) (M0 11) s) → qP (f_X7_askVoids_61 n 7 j m (nI p) (nI i) (nI (12 * p + k)) (byA (M0 9) k 8) (nI e) M) (fun _ m' => G m' ∧ (∀ c, c ≠ 34 → c ≠ 35 → c ≠ 36 → c ≠ 62 → m' c = M0 c) ∧ (∀ s, (s < 4 * i ∨ 4 * i + 4 ≤ s) → m' 62 s = M0 62 s) ∧ ∀ s, s < 4 → m' 62 (4 * i + s) = vdX C K n (M0 4) (M0 5) (M0 7 9) p k (M0 9) (M0 11) s) := by
  intro m
  induction m with
  | zero => intro e M _ _ _ _ _ _ _ _; exact P_none
  | succ m ih =>
    intro e M he hG hL hF h345 hf hout hlo
    show qP (b_X7_askVoids_61 n 7 j (f_X7_askVoids_61 n 7 j m) (nI p) (nI i) (nI (12 * p + k)) (byA (M0 9) k 8) (nI e) M) _
    unfold b_X7_askVoids_61
    have te : (nI e).toInt = (e : Int) := nI_toInt (by omega)
    have ex : (nI (12 * p + k)).toNatClampNeg = 12 * p + k := by rw [tnc, nI_toInt (by omega)]; rfl
    refine P_lt l_3 te (fun c => P_ret ⟨hG, hf, hout, fun s hs => hlo s (by omega)⟩) (fun c => P_qg (fun _ _ => P_qg (fun _ _ => ?_)))
    rw [ex, hf (7 + 2) (by decide) (by decide) (by decide) (by decide), hf (7 + 4) (by decide) (by decide) (by decide) (by decide)]
    have h012 : M 35 0 = nI k ∧ M 35 1 = M0 4 k ∧ M 35 2 = M0 5 k ∧ M 35 6 = M0 7 9 := by
      rcases hF with ⟨⟨a0, a1, a2, a6⟩, _⟩ | ⟨e', h⟩
      · exact ⟨a0, a1, a2, a6⟩
      · exact ⟨h 0 (by decide), h 1 (by decide), h 2 (by decide), h 6 (by decide)⟩
    unfold f_X1_tellTry
    refine P_qc (Q := fun _ m5 => G m5 ∧ FE (m5 35) (fx (nI k) (M0 4 k) (M0 5 k) 0 0 0 (M0 7 9) (nI p) 8 (M0 9 (12 * p + k) + nI e) (byA (M0 9) k 8 + nI e) (M0 11 (12 * p + k))) ∧ ∀ c, c ≠ 35 → m5 c = M c) ?_ ?_
    · refine P_g hG (rn_35 _ _) (nw_35 _) ?_
      intro m1 a1 a2 a3 g1
      refine P_g g1 (rn_35 _ _) (nw_35 _) ?_
      intro m2 b1 b2 b3 g2
      refine P_g g2 (rn_35 _ _) (nw_35 _) ?_
      intro m3 c1 c2 c3 g3
      refine P_g g3 (rn_35 _ _) (nw_35 _) ?_
      intro m4 d1 d2 d3 g4
      refine P_g g4 (rn_35 _ _) (nw_35 _) ?_
      intro m5 f1 f2 f3 g5
      have o : ∀ s, s ≠ 7 → s ≠ 8 → s ≠ 9 → s ≠ 10 → s ≠ 11 → m5 35 s = M 35 s := fun s q7 q8 q9 q10 q11 => by rw [f2 s q11, d2 s q10, c2 s q9, b2 s q8, a2 s q7]
      refine P_ret ⟨g5, ?_, fun c hc => by rw [f3 c hc, d3 c hc, c3 c hc, b3 c hc, a3 c hc]⟩
      refine FE_mk ?_ ?_ ?_ ?_ ?_ ?_ ?_ ?_ ?_ ?_ ?_ f1
      · rw [o 0 (by decide) (by decide) (by decide) (by decide) (by decide)]; exact h012.1
      · rw [o 1 (by decide) (by decide) (by decide) (by decide) (by decide)]; exact h012.2.1
      · rw [o 2 (by decide) (by decide) (by decide) (by decide) (by decide)]; exact h012.2.2.1
      · rw [o 3 (by decide) (by decide) (by decide) (by decide) (by decide)]; exact h345.1
      · rw [o 4 (by decide) (by decide) (by decide) (by decide) (by decide)]; exact h345.2.1
      · rw [o 5 (by decide) (by decide) (by decide) (by decide) (by decide)]; exact h345.2.2
      · rw [o 6 (by decide) (by decide) (by decide) (by decide) (by decide)]; exact h012.2.2.2
      · rw [f2 7 (by decide), d2 7 (by decide), c2 7 (by decide), b2 7 (by decide), a1]
      · rw [f2 8 (by decide), d2 8 (by decide), c2 8 (by decide), b1]
      · rw [f2 9 (by decide), d2 9 (by decide), c1]
      · rw [f2 10 (by decide), d1]
    · rintro _ m5 ⟨g5, hFE, o5⟩
      have l5 : LJ j m5 C K := LJ_cg hL (fun q hq => o5 _ (by rcases hj with rfl | rfl <;> omega))
      refine P_qc (c_void hn hj hK m5 g5 l5) ?_
      rintro r2 m6 ⟨hr, g6, s6⟩
      have o6 : ∀ c, c ≠ 34 → c ≠ 36 → m6 c = m5 c := fun c q1 q2 => funext (fun s => s6 c s (al2 (by omega) (al2 (by omega) al0)))
      have l6 : LJ j m6 C K := LJ_cg l5 (fun q hq => o6 _ (by rcases hj with rfl | rfl <;> omega) (by rcases hj with rfl | rfl <;> omega))
      have eix : (nI i * (4 : Int32) + nI e).toNatClampNeg = 4 * i + e := by
        rw [tnc, i_add (i_mul (nI_toInt (n := i) (by omega)) l_4 (by omega) (by omega)) te (by omega) (by omega)]; omega
      refine P_qg (fun _ _ => ?_)
      rw [eix]
      refine P_g g6 (rn_62 _ _) (nw_62 _) ?_
      intro m7 a1 a2 a3 g7
      refine P_ql (i_add te l_1 (by omega) (by omega)) (fun x hx => ?_)
      rw [nI_i (a := x) (k := e + 1) (by rw [hx]; omega)]
      have m735 : m7 35 = m5 35 := by rw [a3 35 (by decide), o6 35 (by decide) (by decide)]
      refine ih (e + 1) m7 (by omega) g7 (LJ_cg l6 (fun q hq => a3 _ (by rcases hj with rfl | rfl <;> omega))) (Or.inr ⟨e, by rw [m735]; exact hFE⟩) (by rw [m735]; exact ⟨hFE 3 (by decide), hFE 4 (by decide), hFE 5 (by decide)⟩) (fun c q1 q2 q3 q4 => by rw [a3 c q4, o6 c q1 q3, o5 c q2]; exact hf c q1 q2 q3 q4) (fun s hs => ?_) (fun s hs => ?_)
      · rw [a2 s (by omega), o6 62 (by decide) (by decide), o5 62 (by decide)]; exact hout s hs
      · by_cases z : s = e
        · rw [z, a1, hr, amtL_F hFE (by decide) hK]
          rfl
        · rw [a2 _ (by omega), o6 62 (by decide) (by decide), o5 62 (by decide)]; exact hlo s (by omega)
theorem c_ask {n : Nat} (hn : 200000 ≤ n) {j p k i : Nat} (hj : q_isLaw j) (hp : p < 8) (hk : k < 12) (hi : i < 4) {C : List Int} {K : List Kl} (hK : Kg (cdl C) C.length K) (M : qM) (hG : G M) (hL : LJ j M C K) (h57 : M 57 i = nI k) : qP (f_X7_askVoids n 7 j (nI p) (nI i) M) (fun _ m' => G m' ∧ (∀ c, c ≠ 34 → c ≠ 35 → c ≠ 36 → c ≠ 62 → m' c = M c) ∧ (∀ s, (s < 4 * i ∨ 4 * i + 4 ≤ s) → m' 62 s = M 62 s) ∧ ∀ s, s < 4 → m' 62 (4 * i + s) = vdX C K n (M 4) (M 5) (M 7 9) p k (M 9) (M 11) s) := by
  have ei : (nI i).toNatClampNeg = i := by rw [tnc, nI_toInt (by omega)]; rfl
  have ek : (nI k).toNatClampNeg = k := by rw [tnc, nI_toInt (by omega)]; rfl
  have tk : (nI k).toInt = (k : Int) := nI_toInt (by omega)
  unfold f_X7_askVoids
  refine P_qg (fun _ _ => ?_)
  rw [ei, h57]
  refine P_ql rfl (fun x1 hx1 => ?_)
  rw [Int32.toInt_inj.mp hx1]
  refine P_ql (ixc (p := p) (k := k) (by omega) (by omega)).1 (fun x2 hx2 => ?_)
  rw [nI_i hx2]
  refine P_qc (c_byA (t := 7) hk M) ?_
  rintro r3 m4 ⟨hr3, rfl⟩
  rw [hr3]
  refine P_qg (fun _ _ => P_qg (fun _ _ => ?_))
  rw [ek]
  refine P_qc (P_and (c_deed (nI k) (m4 4 k) (m4 5 k) (m4 7 9) m4) (P_T (t_X1_tellDeed hn (nI k) (m4 4 k) (m4 5 k) (m4 7 9) m4 hG (by omega)))) ?_
  rintro _ m5 ⟨⟨hF, o5⟩, _, g5, _⟩
  exact c_ask61 hn hj hp hk hi hK (M0 := m4) n 0 m5 (Nat.zero_le _) g5 (LJ_cg hL (fun q hq => o5 _ (by rcases hj with rfl | rfl <;> omega))) (Or.inl (FD_of hF)) ⟨hF 3 (by decide), hF 4 (by decide), hF 5 (by decide)⟩ (fun c _ q2 _ _ => o5 c q2) (fun s _ => by rw [o5 62 (by decide)]) (fun s hs => absurd hs (by omega))
/-- the rows of a search for place i -/
abbrev RwS (C : List Int) (K : List Kl) (n : Nat) (b : Int32) (p : Nat) (A M : qM) (i : Nat) : Prop := (∃ z : Int32, (∀ q, q < 12 → (bitI z q ↔ (q = chR b 12 i ∨ (bitI (A 3 3) q ∧ lkv C K n (A 4) (A 5) (A 7 9) (chR b 12 i) q ≠ 0)))) ∧ M 58 i = smB (A 9) p z 12 ∧ ∀ q, q < cntR b 12 → (bitI (M 59 i) q ↔ bitI z (chR b 12 q))) ∧ LkS b (A 6 (chR b 12 i)) p (A 11) (M 60 i) ∧ ∀ e, e < 4 → M 62 (4 * i + e) = vdX C K n (A 4) (A 5) (A 7 9) p (chR b 12 i) (A 9) (A 11) e
abbrev NKd (A : qM) : Prop := ∀ q, q < 12 → ∃ w, w < 2 ^ q ∧ A 6 q = nI w
abbrev FpS (A M : qM) : Prop := ∀ c, c ≠ 34 → c ≠ 35 → c ≠ 36 → c ≠ 58 → c ≠ 59 → c ≠ 60 → c ≠ 62 → M c = A c
theorem c_pr85 {n : Nat} (hn : 200000 ≤ n) {j p : Nat} (hj : q_isLaw j) (hp : p < 8) {b : Int32} (h4 : cntR b 12 ≤ 4) {C : List Int} {K : List Kl} (hK : Kg (cdl C) C.length K) {A : qM} (hX : MK (A 5)) (hN : NKd A) (hC : Ch5 b A) (hLA : LJ j A C K) : ∀ (m i : Nat) (M : qM), i ≤ cntR b 12 → G M → FpS A M → (∀ q, q < i → RwS C K n b p A M q) → qP (f_X7_prepare_85 n 7 j m (nI p) (nI i) M) (fun _ m' => (∀ q, q < cntR b 12 → RwS C K n b p A m' q) ∧ (∀ c, c ≠ 34 → c ≠ 35 → c ≠ 36 → c ≠ 58 → c ≠ 59 → c ≠ 60 → c ≠ 62 → c ≠ 63 → m' c = A c) ∧ ∀ s, s < 8192 → m' 63 s = -1) := by
  intro m
  induction m with
  | zero => intro i M _ _ _ _; exact P_none
  | succ m ih =>
    intro i M hi hG hf hlo
    show qP (b_X7_prepare_85 n 7 j (f_X7_prepare_85 n 7 j m) (nI p) (nI i) M) _
    unfold b_X7_prepare_85
    have ti : (nI i).toInt = (i : Int) := nI_toInt (by omega)
    have ei : (nI i).toNatClampNeg = i := by rw [tnc, ti]; rfl
    have cgo : ∀ M' : qM, FpS A M' → Ch5 b M' ∧ LJ j M' C K := fun M' h => ⟨⟨by rw [h 56 (by decide) (by decide) (by decide) (by decide) (by decide) (by decide) (by decide)]; exact hC.1, fun q hq => by rw [h 57 (by decide) (by decide) (by decide) (by decide) (by decide) (by decide) (by decide)]; exact hC.2 q hq⟩, LJ_cg hLA (fun q hq => by rcases hj with rfl | rfl <;> exact h _ (by omega) (by omega) (by omega) (by omega) (by omega) (by omega) (by omega))⟩
    obtain ⟨hCM, hLM⟩ := cgo M hf
    rw [hCM.1]
    refine P_le (nI_toInt (by omega)) ti (fun c => ?_) (fun c => P_qg (fun _ _ => ?_))
    · unfold f_J7_fill_53178
      refine P_qc (Q := fun _ m1 => (∀ c2, c2 ≠ 63 → m1 c2 = M c2) ∧ ∀ s, s < 8192 → m1 63 s = -1) ?_ ?_
      · refine P_ql rfl (fun x1 hx1 => ?_)
        refine P_mono (c_fillL (len := 8192) (by decide) (-1) n 0 x1 M (by rw [l_0]; omega) (by rw [hx1]; decide)) (fun _ m' h => ⟨h.1, fun s hs => (h.2 s).2 (by rw [l_0]; omega) hs⟩)
      · rintro _ m1 ⟨a1, a2⟩
        refine P_ret ⟨fun q hq => ?_, fun c q1 q2 q3 q4 q5 q6 q7 q8 => by rw [a1 c q8]; exact hf c q1 q2 q3 q4 q5 q6 q7, a2⟩
        have := hlo q (by omega)
        unfold RwS at this ⊢
        rw [a1 58 (by decide), a1 59 (by decide), a1 60 (by decide), a1 62 (by decide)]
        exact this
    · have hiS : i < cntR b 12 := by omega
      obtain ⟨hch, hbch, _⟩ := chR_lt hiS
      have fA : ∀ c, c = 3 ∨ c = 4 ∨ c = 5 ∨ c = 6 ∨ c = 7 ∨ c = 9 ∨ c = 11 ∨ c = 57 → M c = A c := fun c hc => hf c (by omega) (by omega) (by omega) (by omega) (by omega) (by omega) (by omega)
      rw [ei, hCM.2 i hiS]
      generalize hk : chR b 12 i = k at *
      have tk : (nI k).toInt = (k : Int) := nI_toInt (by omega)
      have ek : (nI k).toNatClampNeg = k := by rw [tnc, tk]; rfl
      refine P_qc (P_and (c_alikes hn hj hK hch (M 7 9) M hG hLM (by rw [fA 5 (by omega)]; exact hX)) (P_T (t_X1_alikes hn hj (nI k) (M 7 9) M hG (by omega)))) ?_
      rintro r2 m3 ⟨hr2, g3, s3⟩
      have o3 : ∀ c, c ≠ 34 → c ≠ 35 → c ≠ 36 → m3 c = M c := fun c q1 q2 q3 => funext (fun s => s3 c s (al2 (by omega) (al2 (by omega) al0)))
      rw [fA 3 (by omega), fA 4 (by omega), fA 5 (by omega), fA 7 (by omega)] at hr2
      refine P_qc (c_among (t := 7) hp r2 m3) ?_
      rintro r4 m5 ⟨hr4, rfl⟩
      rw [o3 (7 + 2) (by decide) (by decide) (by decide), fA (7 + 2) (by omega)] at hr4
      refine P_qg (fun _ _ => P_g g3 (rn_58 _ _) (nw_58 _) ?_)
      intro m6 a1 a2 a3 g6
      have f6 : FpS A m6 := fun c q1 q2 q3 q4 q5 q6 q7 => by rw [a3 c q4, o3 c q1 q2 q3]; exact hf c q1 q2 q3 q4 q5 q6 q7
      refine P_qc (c_plc h4 r2 (cgo m6 f6).1) ?_
      rintro r7 m8 ⟨_, hr7, _, rfl⟩
      refine P_qg (fun _ _ => P_g g6 (rn_59 _ _) (nw_59 _) ?_)
      intro m9 b1 b2 b3 g9
      have f9 : FpS A m9 := fun c q1 q2 q3 q4 q5 q6 q7 => by rw [b3 c q5]; exact f6 c q1 q2 q3 q4 q5 q6 q7
      refine P_qg (fun _ _ => ?_)
      rw [(cgo m9 f9).1.2 i hiS, hk, ek]
      refine P_qg (fun _ _ => ?_)
      rw [f9 6 (by decide) (by decide) (by decide) (by decide) (by decide) (by decide) (by decide)]
      obtain ⟨w, hw, ew⟩ := hN k hch
      have hw2 : w < 4096 := Nat.lt_of_lt_of_le hw (Nat.pow_le_pow_right (n := 2) (by decide) (show k ≤ 12 by omega))
      refine P_qc (c_lck hp h4 hw2 ew (cgo m9 f9).1) ?_
      rintro r10 m11 ⟨hr10, rfl⟩
      rw [f9 11 (by decide) (by decide) (by decide) (by decide) (by decide) (by decide) (by decide)] at hr10
      refine P_qg (fun _ _ => P_g g9 (rn_60 _ _) (nw_60 _) ?_)
      intro m12 c1 c2 c3 g12
      have f12 : FpS A m12 := fun c q1 q2 q3 q4 q5 q6 q7 => by rw [c3 c q6]; exact f9 c q1 q2 q3 q4 q5 q6 q7
      refine P_qc (c_ask hn hj hp hch (show i < 4 by omega) hK m12 g12 (cgo m12 f12).2 (by rw [(cgo m12 f12).1.2 i hiS, hk])) ?_
      rintro _ m13 ⟨g13, d1, d2, d3⟩
      refine P_ql (i_add ti l_1 (by omega) (by omega)) (fun x hx => ?_)
      rw [nI_i (a := x) (k := i + 1) (by rw [hx]; omega)]
      have e58 : ∀ s, s ≠ i → m13 58 s = M 58 s := fun s hs => by rw [d1 58 (by decide) (by decide) (by decide) (by decide), c3 58 (by decide), b3 58 (by decide), a2 s hs, o3 58 (by decide) (by decide) (by decide)]
      have e59 : ∀ s, s ≠ i → m13 59 s = M 59 s := fun s hs => by rw [d1 59 (by decide) (by decide) (by decide) (by decide), c3 59 (by decide), b2 s hs, a3 59 (by decide), o3 59 (by decide) (by decide) (by decide)]
      have e60 : ∀ s, s ≠ i → m13 60 s = M 60 s := fun s hs => by rw [d1 60 (by decide) (by decide) (by decide) (by decide), c2 s hs, b3 60 (by decide), a3 60 (by decide), o3 60 (by decide) (by decide) (by decide)]
      have e62 : ∀ s, (s < 4 * i ∨ 4 * i + 4 ≤ s) → m13 62 s = M 62 s := fun s hs => by rw [d2 s hs, c3 62 (by decide), b3 62 (by decide), a3 62 (by decide), o3 62 (by decide) (by decide) (by decide)]
      refine ih (i + 1) m13 (by omega) g13 (fun c q1 q2 q3 q4 q5 q6 q7 => by rw [d1 c q1 q2 q3 q7]; exact f12 c q1 q2 q3 q4 q5 q6 q7) (fun q hq => ?_)
      by_cases z : q = i
      · subst z
        unfold RwS
        rw [hk]
        refine ⟨⟨r2, hr2, ?_, fun s hs => ?_⟩, ?_, fun e he => ?_⟩
        · rw [d1 58 (by decide) (by decide) (by decide) (by decide), c3 58 (by decide), b3 58 (by decide), a1]; exact hr4
        · rw [d1 59 (by decide) (by decide) (by decide) (by decide), c3 59 (by decide), b1]; exact hr7 s hs
        · rw [d1 60 (by decide) (by decide) (by decide) (by decide), c1]; exact hr10
        · rw [d3 e he, f12 4 (by decide) (by decide) (by decide) (by decide) (by decide) (by decide) (by decide), f12 5 (by decide) (by decide) (by decide) (by decide) (by decide) (by decide) (by decide), f12 7 (by decide) (by decide) (by decide) (by decide) (by decide) (by decide) (by decide), f12 9 (by decide) (by decide) (by decide) (by decide) (by decide) (by decide) (by decide), f12 11 (by decide) (by decide) (by decide) (by decide) (by decide) (by decide) (by decide)]
      · have := hlo q (by omega)
        unfold RwS at this ⊢
        obtain ⟨⟨y, y1, y2, y3⟩, y4, y5⟩ := this
        refine ⟨⟨y, y1, by rw [e58 q z]; exact y2, fun s hs => by rw [e59 q z]; exact y3 s hs⟩, by rw [e60 q z]; exact y4, fun e he => by rw [e62 _ (by omega)]; exact y5 e he⟩
theorem c_prep {n : Nat} (hn : 200000 ≤ n) {j p k : Nat} (hj : q_isLaw j) (hp : p < 8) (hk : k < 12) {b : Int32} (h4 : cntR b 12 ≤ 4) (hb : bitI b k) {C : List Int} {K : List Kl} (hK : Kg (cdl C) C.length K) (A : qM) (hG : G A) (hL : LJ j A C K) (hX : MK (A 5)) (hN : NKd A) : qP (f_X7_prepare n 7 j (nI p) b (nI k) A) (fun _ m => (m 56 10 = nI (cntR b 12) ∧ m 56 11 = nI (cntR b k)) ∧ (∀ i, i < cntR b 12 → m 57 i = nI (chR b 12 i) ∧ RwS C K n b p A m i) ∧ (∀ s, s < 8192 → m 63 s = -1) ∧ ∀ c, c ≠ 34 → c ≠ 35 → c ≠ 36 → (c < 56 ∨ 63 < c) → m c = A c) := by
  unfold f_X7_prepare
  refine P_g hG (show 0 ≤ (0 : Int32).toInt ∧ (0 : Int32).toInt ≤ 4 by decide) (nw_56 _) ?_
  intro m1 a1 a2 a3 g1
  refine c_pr8 (M0 := A) hk h4 hb (fun M hG2 hC hf => ?_) n 0 m1 (Nat.zero_le _) g1 ⟨a1, fun i hi => absurd hi (Nat.not_lt_zero _), fun h => absurd h (Nat.not_lt_zero _)⟩ (fun c h6 _ => a3 c h6)
  have hl : LJ j M C K := LJ_cg hL (fun q hq => by rcases hj with rfl | rfl <;> exact hf _ (by omega) (by omega))
  refine P_mono (c_pr85 hn hj hp h4 hK (A := M) (by rw [hf 5 (by decide) (by decide)]; exact hX) (fun q hq => by rw [hf 6 (by decide) (by decide)]; exact hN q hq) ⟨hC.1, hC.2.1⟩ hl n 0 M (Nat.zero_le _) hG2 (fun _ _ _ _ _ _ _ _ => rfl) (fun q hq => absurd hq (by omega))) (fun _ m h => ?_)
  obtain ⟨h1, h2, h3⟩ := h
  refine ⟨⟨by rw [h2 56 (by decide) (by decide) (by decide) (by decide) (by decide) (by decide) (by decide) (by decide)]; exact hC.1, by rw [h2 56 (by decide) (by decide) (by decide) (by decide) (by decide) (by decide) (by decide) (by decide)]; exact hC.2.2 hk⟩, fun i hi => ⟨by rw [h2 57 (by decide) (by decide) (by decide) (by decide) (by decide) (by decide) (by decide) (by decide)]; exact hC.2.1 i hi, ?_⟩, h3, fun c q1 q2 q3 q4 => by rw [h2 c q1 q2 q3 (by omega) (by omega) (by omega) (by omega) (by omega), hf c (by omega) (by omega)]⟩
  have := h1 i hi
  unfold RwS at this ⊢
  rw [hf 3 (by decide) (by decide), hf 4 (by decide) (by decide), hf 5 (by decide) (by decide), hf 6 (by decide) (by decide), hf 7 (by decide) (by decide), hf 9 (by decide) (by decide), hf 11 (by decide) (by decide)] at this
  exact this
