/-! LAWS: what the small machine's codes keep to -/
def dl (o : Int) : Int := if o = 0 ∨ o = 1 then 1 else if o = 10 then 0 else -1
/-- how high the stack stands ahead of a code -/
def dp (cd : Nat → Int) (f : Nat) : Nat → Int
  | 0 => 0
  | k + 1 => if k < f then 0 else dp cd f k + dl (cd k / 1048576)
theorem dp_le {cd : Nat → Int} {f : Nat} : ∀ {k : Nat}, k ≤ f → dp cd f k = 0 := by
  intro k
  cases k with
  | zero => intro _; rfl
  | succ k => intro h; show (if k < f then 0 else _) = _; rw [if_pos (by omega)]
theorem dp_s {cd : Nat → Int} {f k : Nat} (h : f ≤ k) : dp cd f (k + 1) = dp cd f k + dl (cd k / 1048576) := by
  show (if k < f then 0 else _) = _
  rw [if_neg (by omega)]
theorem dp_cg {cd ce : Nat → Int} {f : Nat} : ∀ {k : Nat}, (∀ i, f ≤ i → i < k → ce i / 1048576 = cd i / 1048576) → dp ce f k = dp cd f k := by
  intro k
  induction k with
  | zero => intro _; rfl
  | succ k ih =>
    intro h
    by_cases q : k < f
    · show (if k < f then 0 else _) = (if k < f then 0 else _)
      rw [if_pos q, if_pos q]
    · rw [dp_s (by omega), dp_s (by omega), ih (fun i h1 h2 => h i h1 (by omega)), h k (by omega) (by omega)]
/-- what a code keeps to; P: it is a jump that waits -/
def Ik (cd : Nat → Int) (f len : Nat) (P : Prop) (k : Nat) : Prop := 0 ≤ cd k ∧ 0 ≤ dp cd f k ∧ dp cd f k ≤ 40 ∧
  ((cd k / 1048576 = 0) ∨ (cd k / 1048576 = 1 ∧ cd k % 1048576 ≤ 11) ∨ (cd k / 1048576 = 10 ∧ 1 ≤ dp cd f k ∧ f < k ∧ 7 ≤ cd (k - 1) / 1048576 ∧ cd (k - 1) / 1048576 ≤ 10) ∨
   ((cd k / 1048576 = 11 ∨ cd k / 1048576 = 12) ∧ dp cd f k = 1 ∧ (P ∨ ((k : Int) < cd k % 1048576 ∧ cd k % 1048576 ≤ (len : Int) ∧ dp cd f (cd k % 1048576).toNat = 1))) ∨
   (2 ≤ cd k / 1048576 ∧ cd k / 1048576 ≤ 9 ∧ 2 ≤ dp cd f k))
theorem Ik_cg {cd ce : Nat → Int} {f len len' k : Nat} {P Q : Prop} (hf : f ≤ k) (hk : k < len) (hl : len ≤ len') (h : Ik cd f len P k) (e : ∀ i, f ≤ i → i < len → ce i / 1048576 = cd i / 1048576) (ek : ce k = cd k) (hP : P → Q) : Ik ce f len' Q k := by
  have d : ∀ i, i ≤ len → dp ce f i = dp cd f i := fun i hi => dp_cg (fun j h1 h2 => e j h1 (by omega))
  obtain ⟨h0, h1, h2, h3⟩ := h
  have dk := d k (by omega)
  refine ⟨by rw [ek]; exact h0, by rw [dk]; exact h1, by rw [dk]; exact h2, ?_⟩
  rw [ek, dk]
  rcases h3 with a | a | ⟨a1, a2, a3, a4, a5⟩ | ⟨a1, a2, a3⟩ | a
  · exact Or.inl a
  · exact Or.inr (Or.inl a)
  · refine Or.inr (Or.inr (Or.inl ⟨a1, a2, a3, ?_⟩))
    rw [e (k - 1) (by omega) (by omega)]
    exact ⟨a4, a5⟩
  · refine Or.inr (Or.inr (Or.inr (Or.inl ⟨a1, a2, ?_⟩)))
    rcases a3 with p | ⟨b1, b2, b3⟩
    · exact Or.inl (hP p)
    · refine Or.inr ⟨b1, by omega, ?_⟩
      rw [d _ (by omega)]
      exact b3
  · exact Or.inr (Or.inr (Or.inr (Or.inr a)))
def pend : List (Int × Int) → Int
  | [] => 0
  | q :: r => pend r + (if 2 ≤ q.1 ∧ q.1 ≤ 6 then 1 else 0)
def c14 : List (Int × Int) → Int
  | [] => 0
  | q :: r => c14 r + (if q.1 = 14 then 1 else 0)
theorem pend_p : ∀ W : List (Int × Int), 0 ≤ pend W := by
  intro W
  induction W with
  | nil => exact Int.le_refl _
  | cons q r ih =>
    show 0 ≤ pend r + (if _ then 1 else 0)
    by_cases c : 2 ≤ q.1 ∧ q.1 ≤ 6
    · rw [if_pos c]; omega
    · rw [if_neg c]; omega
theorem c14_le : ∀ W : List (Int × Int), c14 W ≤ opn W := by
  intro W
  induction W with
  | nil => exact Int.le_refl _
  | cons q r ih =>
    show c14 r + (if _ then 1 else 0) ≤ opn r + (if _ then 1 else 0)
    by_cases c : q.1 = 14
    · rw [if_pos c, if_pos (Or.inr (Or.inr c))]; omega
    · rw [if_neg c]
      by_cases d : q.1 = 10 ∨ q.1 = 13 ∨ q.1 = 14
      · rw [if_pos d]; omega
      · rw [if_neg d]; omega
/-- what waits keeps to; bk: how much may wait above the last [ -/
def bk (x : Int) : Int := if 4 ≤ x ∧ x ≤ 6 then 2 else if 2 ≤ x ∧ x ≤ 3 then 1 else 0
def Wk (cd : Nat → Int) (f len : Nat) (b : Nat) : List (Int × Int) → Prop
  | [] => True
  | q :: r => Wk cd f len b r ∧ pend (q :: r) ≤ 2 * c14 (q :: r) + bk q.1 ∧ ((2 ≤ q.1 ∧ q.1 ≤ 6) ∨ (10 ≤ q.1 ∧ q.1 ≤ 14)) ∧ ((10 ≤ q.1 ∧ q.1 ≤ 13) → b = 1 ∧ pend r = 0) ∧ ((q.1 = 11 ∨ q.1 = 12) → ∃ i : Nat, q.2 = (i : Int) ∧ f ≤ i ∧ i < len ∧ cd i / 1048576 = q.1)
theorem Wk_cg {cd ce : Nat → Int} {f len len' b : Nat} (hl : len ≤ len') (e : ∀ i, f ≤ i → i < len → ce i / 1048576 = cd i / 1048576) : ∀ {W : List (Int × Int)}, Wk cd f len b W → Wk ce f len' b W := by
  intro W
  induction W with
  | nil => intro _; exact trivial
  | cons q r ih =>
    rintro ⟨h1, h2, hr, h3, h4⟩
    refine ⟨ih h1, h2, hr, h3, fun c => ?_⟩
    obtain ⟨i, i1, i2, i3, i4⟩ := h4 c
    exact ⟨i, i1, i2, by omega, by rw [e i i2 i3]; exact i4⟩
theorem Wk_b {cd : Nat → Int} {f len b : Nat} {q : Int × Int} {r : List (Int × Int)} (h : Wk cd f len b (q :: r)) (ho : opn (q :: r) ≤ 6) : pend (q :: r) ≤ 14 := by
  have h1 := h.2.1
  have h2 := c14_le (q :: r)
  have h3 : bk q.1 ≤ 2 := by unfold bk; by_cases c : 4 ≤ q.1 ∧ q.1 ≤ 6
                             · rw [if_pos c]; omega
                             · rw [if_neg c]
                               by_cases d : 2 ≤ q.1 ∧ q.1 ≤ 3
                               · rw [if_pos d]; omega
                               · rw [if_neg d]; omega
  omega
theorem pend_b {cd : Nat → Int} {f len b : Nat} {W : List (Int × Int)} (h : Wk cd f len b W) (ho : opn W ≤ 6) : 0 ≤ pend W ∧ pend W ≤ 14 := by
  refine ⟨pend_p W, ?_⟩
  cases W with
  | nil => show (0 : Int) ≤ 14; omega
  | cons q r => exact Wk_b h ho
abbrev cdl (C : List Int) (k : Nat) : Int := C.getD k 0
theorem cdl_a {C : List Int} {x : Int} {k : Nat} (h : k < C.length) : cdl (C ++ [x]) k = cdl C k := by
  show (C ++ [x]).getD k 0 = C.getD k 0
  rw [List.getD_eq_getElem?_getD, List.getD_eq_getElem?_getD, List.getElem?_append_left h]
theorem cdl_n {C : List Int} {x : Int} : cdl (C ++ [x]) C.length = x := by
  show (C ++ [x]).getD C.length 0 = x
  rw [List.getD_eq_getElem?_getD, List.getElem?_append_right (Nat.le_refl _), Nat.sub_self]
  rfl
theorem cdl_s {C : List Int} {x : Int} {i : Nat} (h : i < C.length) : cdl (C.set i x) i = x := by
  show (C.set i x).getD i 0 = x
  rw [List.getD_eq_getElem?_getD, List.getElem?_set_self h]
  rfl
theorem cdl_o {C : List Int} {x : Int} {i k : Nat} (h : k ≠ i) : cdl (C.set i x) k = cdl C k := by
  show (C.set i x).getD k 0 = C.getD k 0
  rw [List.getD_eq_getElem?_getD, List.getD_eq_getElem?_getD, List.getElem?_set_ne (fun e => h e.symm)]
/-- b: 0 in a clause's sum, 1 in its condition; Pf: the codes ahead of f -/
def Iq (b f : Nat) (Pf : Nat → Int) (C : List Int) (W : List (Int × Int)) : Prop := f ≤ C.length ∧ (∀ k, k < f → cdl C k = Pf k) ∧ opn W ≤ 6 ∧ Wk (cdl C) f C.length b W ∧ ∀ k, f ≤ k → k < C.length → Ik (cdl C) f C.length (((11 : Int), (k : Int)) ∈ W ∨ ((12 : Int), (k : Int)) ∈ W) k
def Is (b f : Nat) (t : Nat) (ph : Int) (C : List Int) (W : List (Int × Int)) : Prop :=
  (t = 0 ∧ ((b = 0 ∧ ph = 0) ∨ (b = 1 ∧ (ph = 1 ∨ (7 ≤ ph ∧ ph ≤ 9)))) ∧ dp (cdl C) f C.length = pend W + (if 7 ≤ ph then 1 else 0)) ∨
  (t = 1 ∧ ((b = 0 ∧ ph = 0) ∨ (b = 1 ∧ (ph = 1 ∨ (7 ≤ ph ∧ ph ≤ 9)))) ∧ dp (cdl C) f C.length = pend W + (if 7 ≤ ph then 2 else 1)) ∨
  (t = 2 ∧ b = 1 ∧ pend W = 0 ∧ dp (cdl C) f C.length = 0) ∨
  (t = 3 ∧ b = 1 ∧ pend W = 0 ∧ dp (cdl C) f C.length = 1 ∧ f < C.length ∧ 7 ≤ cdl C (C.length - 1) / 1048576 ∧ cdl C (C.length - 1) / 1048576 ≤ 10) ∨
  (t = 5 ∧ b = 0 ∧ W = [] ∧ dp (cdl C) f C.length = 1) ∨
  (t = 6 ∧ b = 1 ∧ W = [] ∧ dp (cdl C) f C.length = 1 ∧ f < C.length ∧ 7 ≤ cdl C (C.length - 1) / 1048576 ∧ cdl C (C.length - 1) / 1048576 ≤ 10)
abbrev IzC (b f : Nat) (Pf : Nat → Int) (t : Nat) (ph : Int) (C : List Int) (W : List (Int × Int)) : Prop := C.length ≤ 1000 → Iq b f Pf C W ∧ Is b f t ph C W
def Iz (b f : Nat) (Pf : Nat → Int) (c : Lc) : Prop := c.1 = 4 ∨ IzC b f Pf c.1 c.2.2.1 c.2.2.2.1 c.2.2.2.2
/-! a step of the small machine keeps to it -/
abbrev jW (W : List (Int × Int)) (k : Nat) : Prop := ((11 : Int), (k : Int)) ∈ W ∨ ((12 : Int), (k : Int)) ∈ W
theorem dp_app {C : List Int} {x : Int} {f : Nat} (hf : f ≤ C.length) : dp (cdl (C ++ [x])) f (C ++ [x]).length = dp (cdl C) f C.length + dl (x / 1048576) := by
  rw [List.length_append, List.length_singleton, dp_s hf, cdl_n, dp_cg (fun i _ h2 => by rw [cdl_a h2])]
theorem Iq_app {b f : Nat} {Pf : Nat → Int} {C : List Int} {W W' : List (Int × Int)} {x : Int} (h : Iq b f Pf C W) (hx : 0 ≤ x) (hd : 0 ≤ dp (cdl C) f C.length ∧ dp (cdl C) f C.length ≤ 40)
    (hc : (x / 1048576 = 0) ∨ (x / 1048576 = 1 ∧ x % 1048576 ≤ 11) ∨ (x / 1048576 = 10 ∧ 1 ≤ dp (cdl C) f C.length ∧ f < C.length ∧ 7 ≤ cdl C (C.length - 1) / 1048576 ∧ cdl C (C.length - 1) / 1048576 ≤ 10) ∨ ((x / 1048576 = 11 ∨ x / 1048576 = 12) ∧ dp (cdl C) f C.length = 1 ∧ jW W' C.length) ∨ (2 ≤ x / 1048576 ∧ x / 1048576 ≤ 9 ∧ 2 ≤ dp (cdl C) f C.length))
    (ho : opn W' ≤ 6) (hW : Wk (cdl (C ++ [x])) f (C.length + 1) b W') (hs : ∀ k, k < C.length → jW W k → jW W' k) : Iq b f Pf (C ++ [x]) W' := by
  obtain ⟨h1, h2, h3, h4, h5⟩ := h
  have e : ∀ i, f ≤ i → i < C.length → cdl (C ++ [x]) i / 1048576 = cdl C i / 1048576 := fun i _ q => by rw [cdl_a q]
  have el : (C ++ [x]).length = C.length + 1 := by rw [List.length_append, List.length_singleton]
  refine ⟨by omega, fun k hk => by rw [cdl_a (by omega)]; exact h2 k hk, ho, by rw [el]; exact hW, fun k k1 k2 => ?_⟩
  rw [el] at k2 ⊢
  by_cases q : k < C.length
  · exact Ik_cg k1 q (by omega) (h5 k k1 q) e (cdl_a q) (hs k q)
  · have : k = C.length := by omega
    subst this
    have ed : dp (cdl (C ++ [x])) f C.length = dp (cdl C) f C.length := dp_cg e
    refine ⟨by rw [cdl_n]; exact hx, by rw [ed]; exact hd.1, by rw [ed]; exact hd.2, ?_⟩
    rw [cdl_n, ed]
    rcases hc with a | a | ⟨a1, a2, a3, a4⟩ | ⟨a1, a2, a3⟩ | a
    · exact Or.inl a
    · exact Or.inr (Or.inl a)
    · refine Or.inr (Or.inr (Or.inl ⟨a1, a2, a3, ?_⟩))
      rw [cdl_a (by omega)]
      exact a4
    · exact Or.inr (Or.inr (Or.inr (Or.inl ⟨a1, a2, Or.inl a3⟩)))
    · exact Or.inr (Or.inr (Or.inr (Or.inr a)))
/-- what waits changes alone -/
theorem Iq_W {b f : Nat} {Pf : Nat → Int} {C : List Int} {W W' : List (Int × Int)} (h : Iq b f Pf C W) (ho : opn W' ≤ 6) (hW : Wk (cdl C) f C.length b W') (hs : ∀ k, k < C.length → jW W k → jW W' k) : Iq b f Pf C W' :=
  ⟨h.1, h.2.1, ho, hW, fun k k1 k2 => Ik_cg k1 k2 (Nat.le_refl _) (h.2.2.2.2 k k1 k2) (fun _ _ _ => rfl) rfl (hs k k2)⟩
theorem Iq_tl {b f : Nat} {Pf : Nat → Int} {C : List Int} {q : Int × Int} {r : List (Int × Int)} (h : Iq b f Pf C (q :: r)) : opn r ≤ 6 ∧ Wk (cdl C) f C.length b r := by
  obtain ⟨h1, h2, h3, h4, h5⟩ := h
  refine ⟨?_, h4.1⟩
  have : opn (q :: r) = opn r + (if q.1 = 10 ∨ q.1 = 13 ∨ q.1 = 14 then 1 else 0) := rfl
  by_cases c : q.1 = 10 ∨ q.1 = 13 ∨ q.1 = 14
  · rw [if_pos c] at this; omega
  · rw [if_neg c] at this; omega
theorem jW_tl {q : Int × Int} {r : List (Int × Int)} {k : Nat} (h1 : q.1 ≠ 11) (h2 : q.1 ≠ 12) (h : jW (q :: r) k) : jW r k := by
  rcases h with h | h
  · rcases List.mem_cons.mp h with e | e
    · exact absurd (by rw [← e]) h1
    · exact Or.inl e
  · rcases List.mem_cons.mp h with e | e
    · exact absurd (by rw [← e]) h2
    · exact Or.inr e
theorem jW_cons {q : Int × Int} {r : List (Int × Int)} {k : Nat} (h : jW r k) : jW (q :: r) k := by
  rcases h with h | h
  · exact Or.inl (List.mem_cons_of_mem _ h)
  · exact Or.inr (List.mem_cons_of_mem _ h)
theorem c14_p : ∀ W : List (Int × Int), 0 ≤ c14 W := by
  intro W
  induction W with
  | nil => exact Int.le_refl _
  | cons q r ih =>
    show 0 ≤ c14 r + (if _ then 1 else 0)
    by_cases c : q.1 = 14
    · rw [if_pos c]; omega
    · rw [if_neg c]; omega
theorem bk_r (x : Int) : 0 ≤ bk x ∧ bk x ≤ 2 ∧ (¬ (4 ≤ x ∧ x ≤ 6) → bk x ≤ 1) ∧ (¬ (2 ≤ x ∧ x ≤ 6) → bk x = 0) := by
  unfold bk
  by_cases c : 4 ≤ x ∧ x ≤ 6
  · rw [if_pos c]; omega
  · rw [if_neg c]
    by_cases d : 2 ≤ x ∧ x ≤ 3
    · rw [if_pos d]; omega
    · rw [if_neg d]; omega
abbrev tpW : List (Int × Int) → Int
  | [] => -1
  | q :: _ => q.1
theorem Wk_t {cd : Nat → Int} {f len b : Nat} {W : List (Int × Int)} (h : Wk cd f len b W) : pend W ≤ 2 * c14 W + bk (tpW W) := by
  cases W with
  | nil => exact (by decide : (0 : Int) ≤ 2 * 0 + bk (-1))
  | cons q r => exact h.2.1
theorem pend_c (q : Int × Int) (r : List (Int × Int)) : pend (q :: r) = pend r + (if 2 ≤ q.1 ∧ q.1 ≤ 6 then 1 else 0) := rfl
theorem c14_c (q : Int × Int) (r : List (Int × Int)) : c14 (q :: r) = c14 r + (if q.1 = 14 then 1 else 0) := rfl
theorem opn_c (q : Int × Int) (r : List (Int × Int)) : opn (q :: r) = opn r + (if q.1 = 10 ∨ q.1 = 13 ∨ q.1 = 14 then 1 else 0) := rfl
/-- one of ( [ ! opens -/
theorem Iq_open {b f : Nat} {Pf : Nat → Int} {C : List Int} {W : List (Int × Int)} {k : Int} (h : Iq b f Pf C W) (ho : opn W ≠ 6) (hk : k = 14 ∨ ((k = 10 ∨ k = 13) ∧ b = 1 ∧ pend W = 0)) : Iq b f Pf C ((k, 0) :: W) ∧ pend ((k, 0) :: W) = pend W := by
  have h3 := h.2.2.1
  have h4 := h.2.2.2.1
  have ht := Wk_t h4
  have hb := bk_r (tpW W)
  have hp := pend_p W
  have hc := c14_p W
  have hbk := bk_r k
  have e1 : pend ((k, 0) :: W) = pend W := by rw [pend_c, if_neg (by show ¬ (2 ≤ k ∧ k ≤ 6); omega)]; omega
  refine ⟨Iq_W h ?_ ⟨h4, ?_, ?_, ?_, ?_⟩ (fun _ _ q => jW_cons q), e1⟩
  · rw [opn_c]
    by_cases c : k = 10 ∨ k = 13 ∨ k = 14
    · rw [if_pos c]; omega
    · rw [if_neg c]; omega
  · rw [e1, c14_c]
    show pend W ≤ 2 * (c14 W + (if k = 14 then 1 else 0)) + bk k
    rcases hk with e | ⟨_, _, e⟩
    · rw [if_pos e]; omega
    · by_cases c : k = 14
      · rw [if_pos c]; omega
      · rw [if_neg c]; omega
  · show (2 ≤ k ∧ k ≤ 6) ∨ (10 ≤ k ∧ k ≤ 14); omega
  · intro c
    have c2 : 10 ≤ k ∧ k ≤ 13 := c
    rcases hk with e | ⟨_, e1, e2⟩
    · omega
    · exact ⟨e1, e2⟩
  · intro c
    have c2 : k = 11 ∨ k = 12 := c
    omega
theorem dl_n {o : Int} (h : 2 ≤ o ∧ o ≠ 10) : dl o = -1 := by unfold dl; rw [if_neg (by omega), if_neg (by omega)]
theorem fa_r2 (x : Int) : fa x = -1 ∨ (0 ≤ fa x ∧ fa x ≤ 11) := by
  unfold fa
  repeat' split
  all_goals omega
theorem sg_r2 (x : Int) : sg x = -1 ∨ (2 ≤ sg x ∧ sg x ≤ 6) := by
  unfold sg
  repeat' split
  all_goals omega
theorem cp_r2 (x : Int) : cp x = -1 ∨ (7 ≤ cp x ∧ cp x ≤ 9) := by
  unfold cp
  repeat' split
  all_goals omega
theorem nv_b {T : Int → Int} {pl : Int} (h : nl T pl ≠ 6) : 0 ≤ nv T pl (nl T pl) ∧ nv T pl (nl T pl) ≤ 99999 := by
  have h0 : T (pl + ((0 : Nat) : Int)) = T pl := by rw [show pl + ((0 : Nat) : Int) = pl by omega]
  have r0 := dq_r (T pl)
  have r1 := dq_r (T (pl + 1))
  have r2 := dq_r (T (pl + 2))
  have r3 := dq_r (T (pl + 3))
  have r4 := dq_r (T (pl + 4))
  have v1 : nv T pl 1 = 10 * 0 + dq (T pl) := by
    show 10 * 0 + dq (T (pl + ((0 : Nat) : Int))) = _
    rw [h0]
  have v2 : nv T pl 2 = 10 * nv T pl 1 + dq (T (pl + 1)) := rfl
  have v3 : nv T pl 3 = 10 * nv T pl 2 + dq (T (pl + 2)) := rfl
  have v4 : nv T pl 4 = 10 * nv T pl 3 + dq (T (pl + 3)) := rfl
  have v5 : nv T pl 5 = 10 * nv T pl 4 + dq (T (pl + 4)) := rfl
  unfold nl at h ⊢
  by_cases c0 : dq (T pl) < 0
  · rw [if_pos c0]; exact (by decide : (0 : Int) ≤ 0 ∧ (0 : Int) ≤ 99999)
  rw [if_neg c0] at h ⊢
  by_cases c1 : dq (T (pl + 1)) < 0
  · rw [if_pos c1]; omega
  rw [if_neg c1] at h ⊢
  by_cases c2 : dq (T (pl + 2)) < 0
  · rw [if_pos c2]; omega
  rw [if_neg c2] at h ⊢
  by_cases c3 : dq (T (pl + 3)) < 0
  · rw [if_pos c3]; omega
  rw [if_neg c3] at h ⊢
  by_cases c4 : dq (T (pl + 4)) < 0
  · rw [if_pos c4]; omega
  rw [if_neg c4] at h ⊢
  by_cases c5 : dq (T (pl + 5)) < 0
  · rw [if_pos c5]; omega
  rw [if_neg c5] at h
  exact absurd rfl h
/-! each step of the small machine keeps to it -/
theorem Iz_F {b f : Nat} {Pf : Nat → Int} {k w : Int} : Iz b f Pf (zF k w) := Or.inl rfl
theorem Iz_mk {b f : Nat} {Pf : Nat → Int} {t : Nat} {pl ph : Int} {C : List Int} {W : List (Int × Int)} (h : IzC b f Pf t ph C W) : Iz b f Pf (t, pl, ph, C, W) := Or.inr h
theorem Iz_O {b f : Nat} {Pf : Nat → Int} {pl ph k : Int} {C : List Int} {W : List (Int × Int)} {t : Nat} (h : C.length ≤ 1000 → Iq b f Pf C W) (hk : C.length ≤ 1000 → k = 14 ∨ ((k = 10 ∨ k = 13) ∧ b = 1 ∧ pend W = 0)) (hs : C.length ≤ 1000 → pend ((k, 0) :: W) = pend W → Is b f t ph C ((k, 0) :: W)) : Iz b f Pf (zO pl ph k C W t) := by
  unfold zO
  by_cases c : opn W = 6
  · rw [if_pos c]; exact Iz_F
  · rw [if_neg c]
    refine Iz_mk (fun hl => ?_)
    obtain ⟨a1, a2⟩ := Iq_open (h hl) c (hk hl)
    exact ⟨a1, hs hl a2⟩
theorem al (C : List Int) (x : Int) : (C ++ [x]).length = C.length + 1 := by rw [List.length_append, List.length_singleton]
theorem Wk_a {b f : Nat} {Pf : Nat → Int} {C : List Int} {W : List (Int × Int)} (x : Int) (h : Iq b f Pf C W) : Wk (cdl (C ++ [x])) f (C.length + 1) b W := Wk_cg (by omega) (fun i _ q => by rw [cdl_a q]) h.2.2.2.1
theorem Iq_p {b f : Nat} {Pf : Nat → Int} {C : List Int} {W : List (Int × Int)} (h : Iq b f Pf C W) : 0 ≤ pend W ∧ pend W ≤ 14 := pend_b h.2.2.2.1 h.2.2.1
theorem Iz_A {b f : Nat} {Pf : Nat → Int} {T : Int → Int} {pl ph : Int} {C : List Int} {W : List (Int × Int)} (h : IzC b f Pf 0 ph C W) : Iz b f Pf (zA T pl ph C W) := by
  have hs0 : C.length ≤ 1000 → ((b = 0 ∧ ph = 0) ∨ (b = 1 ∧ (ph = 1 ∨ (7 ≤ ph ∧ ph ≤ 9)))) ∧ dp (cdl C) f C.length = pend W + (if 7 ≤ ph then 1 else 0) := by
    intro hl
    rcases (h hl).2 with q | q | q | q | q | q
    · exact q.2
    all_goals exact absurd q.1 (by decide)
  have num : ∀ {x pl2 : Int}, 0 ≤ x → (x / 1048576 = 0 ∨ (x / 1048576 = 1 ∧ x % 1048576 ≤ 11)) → Iz b f Pf (1, pl2, ph, C ++ [x], W) := by
    intro x pl2 hx hx2
    refine Iz_mk (fun hl => ?_)
    rw [al] at hl
    obtain ⟨s1, s2⟩ := hs0 (by omega)
    have hq := (h (by omega)).1
    have hp := Iq_p hq
    have hd : 0 ≤ dp (cdl C) f C.length ∧ dp (cdl C) f C.length ≤ 40 := by
      rw [s2]
      by_cases c : 7 ≤ ph
      · rw [if_pos c]; omega
      · rw [if_neg c]; omega
    refine ⟨Iq_app hq hx hd (by rcases hx2 with q | q; exact Or.inl q; exact Or.inr (Or.inl q)) hq.2.2.1 (Wk_a x hq) (fun _ _ q => q), Or.inr (Or.inl ⟨rfl, s1, ?_⟩)⟩
    rw [dp_app hq.1, s2]
    have : dl (x / 1048576) = 1 := by unfold dl; rw [if_pos (by omega)]
    rw [this]
    by_cases c : 7 ≤ ph
    · rw [if_pos c, if_pos c]; omega
    · rw [if_neg c, if_neg c]; omega
  unfold zA
  by_cases c1 : T pl = 91
  · rw [if_pos c1]
    refine Iz_O (fun hl => (h hl).1) (fun _ => Or.inl rfl) (fun hl hp => ?_)
    obtain ⟨s1, s2⟩ := hs0 hl
    exact Or.inl ⟨rfl, s1, by rw [hp]; exact s2⟩
  · rw [if_neg c1]
    by_cases c2 : 0 ≤ dq (T pl)
    · rw [if_pos c2]
      by_cases c3 : nl T pl = 6
      · rw [if_pos c3]; exact Iz_F
      · rw [if_neg c3]
        have hv := nv_b c3
        exact num hv.1 (Or.inl (by omega))
    · rw [if_neg c2]
      have hf := fa_r2 (T pl)
      by_cases c3 : fa (T pl) = -1
      · rw [if_pos c3]; exact Iz_F
      · rw [if_neg c3]
        exact num (by omega) (Or.inr (by omega))
/-- a sum's end -/
theorem Iz_E {b f : Nat} {Pf : Nat → Int} {T : Int → Int} {pl ph : Int} {C : List Int} {W : List (Int × Int)} (h : IzC b f Pf 1 ph C W) (hW : ∀ q r, W = q :: r → ¬ (2 ≤ q.1 ∧ q.1 ≤ 6) ∧ q.1 ≠ 14) : Iz b f Pf (zE T pl ph C W) := by
  have hs1 : C.length ≤ 1000 → ((b = 0 ∧ ph = 0) ∨ (b = 1 ∧ (ph = 1 ∨ (7 ≤ ph ∧ ph ≤ 9)))) ∧ dp (cdl C) f C.length = pend W + (if 7 ≤ ph then 2 else 1) := by
    intro hl
    rcases (h hl).2 with q | q | q | q | q | q
    · exact absurd q.1 (by decide)
    · exact q.2
    all_goals exact absurd q.1 (by decide)
  have hp0 : C.length ≤ 1000 → pend W = 0 := by
    intro hl
    have hk := (h hl).1.2.2.2.1
    cases W with
    | nil => rfl
    | cons q r =>
      obtain ⟨a1, a2⟩ := hW q r rfl
      obtain ⟨k1, k2, k3, k4, k5⟩ := hk
      clear k5 k1
      have := (k4 (by omega)).2
      rw [pend_c, if_neg a1, this]
      rfl
  unfold zE
  by_cases c1 : ph = 0
  · rw [if_pos c1]
    refine Iz_mk (fun hl => ?_)
    obtain ⟨s1, s2⟩ := hs1 hl
    have hq := (h hl).1
    have hb : b = 0 := by omega
    have hn : W = [] := by
      cases W with
      | nil => rfl
      | cons q r =>
        obtain ⟨a1, a2⟩ := hW q r rfl
        obtain ⟨k1, k2, k3, k4, k5⟩ := hq.2.2.2.1
        clear k5 k1
        have := (k4 (by omega)).1
        omega
    refine ⟨hq, Or.inr (Or.inr (Or.inr (Or.inr (Or.inl ⟨rfl, hb, hn, ?_⟩))))⟩
    rw [s2, hp0 hl, if_neg (by omega)]
    rfl
  · rw [if_neg c1]
    by_cases c2 : ph = 1
    · rw [if_pos c2]
      by_cases c3 : cp (T pl) = -1
      · rw [if_pos c3]; exact Iz_F
      · rw [if_neg c3]
        have hc := cp_r2 (T pl)
        refine Iz_mk (fun hl => ?_)
        obtain ⟨s1, s2⟩ := hs1 hl
        refine ⟨(h hl).1, Or.inl ⟨rfl, Or.inr ⟨by omega, Or.inr (by omega)⟩, ?_⟩⟩
        rw [s2, if_neg (by omega), if_pos (by omega)]
    · rw [if_neg c2]
      refine Iz_mk (fun hl => ?_)
      rw [al] at hl
      obtain ⟨s1, s2⟩ := hs1 (by omega)
      have hq := (h (by omega)).1
      have hp := hp0 (by omega)
      have h7 : 7 ≤ ph ∧ ph ≤ 9 := by omega
      rw [if_pos h7.1, hp] at s2
      have e1 : 1048576 * ph / 1048576 = ph := by omega
      refine ⟨Iq_app hq (by omega) (by omega) (Or.inr (Or.inr (Or.inr (Or.inr (by rw [e1]; omega))))) hq.2.2.1 (Wk_a _ hq) (fun _ _ q => q), Or.inr (Or.inr (Or.inr (Or.inl ⟨rfl, by omega, hp, ?_, ?_, ?_⟩)))⟩
      · rw [dp_app hq.1, s2, e1, dl_n (by omega)]; rfl
      · have := hq.1; rw [al]; omega
      · rw [al, Nat.add_sub_cancel, cdl_n, e1]; omega
theorem Iz_G {b f : Nat} {Pf : Nat → Int} {T : Int → Int} {pl ph top : Int} {C : List Int} {W W' : List (Int × Int)} (h : IzC b f Pf 1 ph C W) (h1 : (W = [] ∧ top = -1) ∨ ∃ q, W = q :: W' ∧ top = q.1) (h2 : ¬ (4 ≤ top ∧ top ≤ 6)) (h3 : (2 ≤ top ∧ top ≤ 3) → 4 ≤ sg (T pl)) : Iz b f Pf (zG T pl ph C W top W') := by
  have hs1 : C.length ≤ 1000 → ((b = 0 ∧ ph = 0) ∨ (b = 1 ∧ (ph = 1 ∨ (7 ≤ ph ∧ ph ≤ 9)))) ∧ dp (cdl C) f C.length = pend W + (if 7 ≤ ph then 2 else 1) := by
    intro hl
    rcases (h hl).2 with q | q | q | q | q | q
    · exact absurd q.1 (by decide)
    · exact q.2
    all_goals exact absurd q.1 (by decide)
  have hsg := sg_r2 (T pl)
  unfold zG
  by_cases c1 : 0 ≤ sg (T pl)
  · rw [if_pos c1]
    refine Iz_mk (fun hl => ?_)
    obtain ⟨s1, s2⟩ := hs1 hl
    have hq := (h hl).1
    have hk := hq.2.2.2.1
    have ht := Wk_t hk
    have htop : tpW W = top := by
      rcases h1 with ⟨e1, e2⟩ | ⟨q, e1, e2⟩
      · rw [e1, e2]
      · rw [e1, e2]
    rw [htop] at ht
    have hb1 := bk_r top
    have hb2 : (4 ≤ sg (T pl) → bk (sg (T pl)) = 2) ∧ 1 ≤ bk (sg (T pl)) := by
      unfold bk
      by_cases c : 4 ≤ sg (T pl) ∧ sg (T pl) ≤ 6
      · rw [if_pos c]; omega
      · rw [if_neg c, if_pos (by omega)]; omega
    have ep : pend ((sg (T pl), 0) :: W) = pend W + 1 := by rw [pend_c, if_pos (by show 2 ≤ sg (T pl) ∧ sg (T pl) ≤ 6; omega)]
    have ec : c14 ((sg (T pl), 0) :: W) = c14 W := by rw [c14_c, if_neg (by show ¬ sg (T pl) = 14; omega)]; omega
    have eo : opn ((sg (T pl), 0) :: W) = opn W := by rw [opn_c, if_neg (by show ¬ (sg (T pl) = 10 ∨ sg (T pl) = 13 ∨ sg (T pl) = 14); omega)]; omega
    refine ⟨Iq_W hq (by rw [eo]; exact hq.2.2.1) ⟨hk, ?_, Or.inl (by show 2 ≤ sg (T pl) ∧ sg (T pl) ≤ 6; omega), fun c => ?_, fun c => ?_⟩ (fun _ _ q => jW_cons q), Or.inl ⟨rfl, s1, ?_⟩⟩
    · rw [ep, ec]
      show pend W + 1 ≤ 2 * c14 W + bk (sg (T pl))
      by_cases c : 2 ≤ top ∧ top ≤ 3
      · have := h3 c
        have := hb2.1 this
        have := hb1.2.2.1 h2
        omega
      · have := hb1.2.2.2 (by omega)
        omega
    · have c2 : 10 ≤ sg (T pl) ∧ sg (T pl) ≤ 13 := c
      omega
    · have c2 : sg (T pl) = 11 ∨ sg (T pl) = 12 := c
      omega
    · rw [s2, ep]
      by_cases c : 7 ≤ ph
      · rw [if_pos c, if_pos c]; omega
      · rw [if_neg c, if_neg c]; omega
  · rw [if_neg c1]
    by_cases c2 : top = 14
    · rw [if_pos c2]
      by_cases c3 : T pl = 93
      · rw [if_pos c3]
        refine Iz_mk (fun hl => ?_)
        obtain ⟨s1, s2⟩ := hs1 hl
        have hq := (h hl).1
        rcases h1 with ⟨_, e2⟩ | ⟨q, e1, e2⟩
        · omega
        · subst e1
          have hp : pend (q :: W') = pend W' := by rw [pend_c, if_neg (by omega)]; omega
          obtain ⟨a1, a2⟩ := Iq_tl hq
          refine ⟨Iq_W hq a1 a2 (fun _ _ r => jW_tl (by omega) (by omega) r), Or.inr (Or.inl ⟨rfl, s1, ?_⟩)⟩
          rw [s2, hp]
      · rw [if_neg c3]; exact Iz_F
    · rw [if_neg c2]
      refine Iz_E h (fun q r e => ?_)
      rcases h1 with ⟨e1, e2⟩ | ⟨q2, e1, e2⟩
      · rw [e1] at e; cases e
      · rw [e1] at e
        injection e with e3 e4
        subst e3
        refine ⟨fun c => ?_, by omega⟩
        have := h3
        omega
theorem Iz_B {b f : Nat} {Pf : Nat → Int} {T : Int → Int} {pl ph : Int} {C : List Int} : ∀ {W : List (Int × Int)}, IzC b f Pf 1 ph C W → Iz b f Pf (zB T pl ph C W) := by
  intro W h
  cases W with
  | nil => exact Iz_G h (Or.inl ⟨rfl, rfl⟩) (by omega) (fun c => by omega)
  | cons q r =>
    have pop : (2 ≤ q.1 ∧ q.1 ≤ 6) → Iz b f Pf (1, pl, ph, C ++ [1048576 * q.1], r) := by
      intro hq1
      refine Iz_mk (fun hl => ?_)
      rw [al] at hl
      obtain ⟨hq, hs⟩ := h (by omega)
      obtain ⟨s1, s2⟩ : ((b = 0 ∧ ph = 0) ∨ (b = 1 ∧ (ph = 1 ∨ (7 ≤ ph ∧ ph ≤ 9)))) ∧ dp (cdl C) f C.length = pend (q :: r) + (if 7 ≤ ph then 2 else 1) := by
        rcases hs with q | q | q | q | q | q
        · exact absurd q.1 (by decide)
        · exact q.2
        all_goals exact absurd q.1 (by decide)
      have hp := Iq_p hq
      have ep : pend (q :: r) = pend r + 1 := by rw [pend_c, if_pos hq1]
      have hpr := pend_p r
      have e1 : 1048576 * q.1 / 1048576 = q.1 := by omega
      have hd : 2 ≤ dp (cdl C) f C.length ∧ dp (cdl C) f C.length ≤ 40 := by
        rw [s2]
        by_cases c : 7 ≤ ph
        · rw [if_pos c]; omega
        · rw [if_neg c]; omega
      obtain ⟨a1, a2⟩ := Iq_tl hq
      refine ⟨Iq_app hq (by omega) (by omega) (Or.inr (Or.inr (Or.inr (Or.inr (by rw [e1]; omega))))) a1 (Wk_cg (by omega) (fun i _ q => by rw [cdl_a q]) a2) (fun _ _ q2 => jW_tl (by omega) (by omega) q2), Or.inr (Or.inl ⟨rfl, s1, ?_⟩)⟩
      rw [dp_app hq.1, s2, e1, dl_n (by omega), ep]
      by_cases c : 7 ≤ ph
      · rw [if_pos c]; omega
      · rw [if_neg c]; omega
    show Iz b f Pf (if 4 ≤ q.1 ∧ q.1 ≤ 6 then _ else _)
    by_cases c1 : 4 ≤ q.1 ∧ q.1 ≤ 6
    · rw [if_pos c1]; exact pop (by omega)
    · rw [if_neg c1]
      by_cases c2 : (2 ≤ q.1 ∧ q.1 ≤ 3) ∧ ¬ (4 ≤ sg (T pl))
      · rw [if_pos c2]; exact pop (by omega)
      · rw [if_neg c2]
        exact Iz_G h (Or.inr ⟨q, rfl, rfl⟩) c1 (fun c => by omega)
theorem Iz_C {b f : Nat} {Pf : Nat → Int} {T : Int → Int} {pl ph : Int} {C : List Int} {W : List (Int × Int)} (h : IzC b f Pf 2 ph C W) : Iz b f Pf (zC T pl C W) := by
  have hs2 : C.length ≤ 1000 → b = 1 ∧ pend W = 0 ∧ dp (cdl C) f C.length = 0 := by
    intro hl
    rcases (h hl).2 with q | q | q | q | q | q
    · exact absurd q.1 (by decide)
    · exact absurd q.1 (by decide)
    · exact q.2
    all_goals exact absurd q.1 (by decide)
  unfold zC
  by_cases c1 : T pl = 33
  · rw [if_pos c1]
    exact Iz_O (fun hl => (h hl).1) (fun hl => Or.inr ⟨Or.inl rfl, (hs2 hl).1, (hs2 hl).2.1⟩) (fun hl hp => Or.inr (Or.inr (Or.inl ⟨rfl, (hs2 hl).1, by rw [hp]; exact (hs2 hl).2.1, (hs2 hl).2.2⟩)))
  · rw [if_neg c1]
    by_cases c2 : T pl = 40
    · rw [if_pos c2]
      exact Iz_O (fun hl => (h hl).1) (fun hl => Or.inr ⟨Or.inr rfl, (hs2 hl).1, (hs2 hl).2.1⟩) (fun hl hp => Or.inr (Or.inr (Or.inl ⟨rfl, (hs2 hl).1, by rw [hp]; exact (hs2 hl).2.1, (hs2 hl).2.2⟩)))
    · rw [if_neg c2]
      refine Iz_mk (fun hl => ?_)
      obtain ⟨s1, s2, s3⟩ := hs2 hl
      refine ⟨(h hl).1, Or.inl ⟨rfl, Or.inr ⟨s1, Or.inl rfl⟩, ?_⟩⟩
      rw [s2, s3, if_neg (by omega)]
      rfl
theorem Is3 {b f : Nat} {ph : Int} {C : List Int} {W : List (Int × Int)} (h : Is b f 3 ph C W) : b = 1 ∧ pend W = 0 ∧ dp (cdl C) f C.length = 1 ∧ f < C.length ∧ 7 ≤ cdl C (C.length - 1) / 1048576 ∧ cdl C (C.length - 1) / 1048576 ≤ 10 := by
  rcases h with q | q | q | q | q | q
  · exact absurd q.1 (by decide)
  · exact absurd q.1 (by decide)
  · exact absurd q.1 (by decide)
  · exact q.2
  · exact absurd q.1 (by decide)
  · exact absurd q.1 (by decide)
theorem mk3 {b f : Nat} {ph : Int} {C : List Int} {W : List (Int × Int)} (h : b = 1 ∧ pend W = 0 ∧ dp (cdl C) f C.length = 1 ∧ f < C.length ∧ 7 ≤ cdl C (C.length - 1) / 1048576 ∧ cdl C (C.length - 1) / 1048576 ≤ 10) : Is b f 3 ph C W := Or.inr (Or.inr (Or.inr (Or.inl ⟨rfl, h⟩)))
/-- a jump that waited is told where to -/
theorem Iz_J {b f : Nat} {Pf : Nat → Int} {pl ph : Int} {C : List Int} {q : Int × Int} {r : List (Int × Int)} (h : IzC b f Pf 3 ph C (q :: r)) (hq1 : q.1 = 11 ∨ q.1 = 12) : Iz b f Pf (3, pl, 0, C.set q.2.toNat (1048576 * (C.getD q.2.toNat 0 / 1048576) + C.length), r) := by
  refine Iz_mk (fun hl => ?_)
  rw [List.length_set] at hl
  obtain ⟨hq, hs⟩ := h hl
  obtain ⟨s1, s2, s3, s4, s5⟩ := Is3 hs
  obtain ⟨a1, a2⟩ := Iq_tl hq
  have hq' := hq
  obtain ⟨h1, h2, h3, ⟨k1, k2, k3, k4, k5⟩, h5⟩ := hq'
  obtain ⟨i, i1, i2, i3, i4⟩ := k5 hq1
  clear k5
  have ei : q.2.toNat = i := by rw [i1]; rfl
  rw [ei]
  have hgd : C.getD i 0 / 1048576 = q.1 := i4
  rw [hgd]
  have hlen : (C.set i (1048576 * q.1 + (C.length : Int))).length = C.length := List.length_set
  have ei2 : cdl (C.set i (1048576 * q.1 + (C.length : Int))) i = 1048576 * q.1 + (C.length : Int) := cdl_s i3
  have e : ∀ k, f ≤ k → k < C.length → cdl (C.set i (1048576 * q.1 + (C.length : Int))) k / 1048576 = cdl C k / 1048576 := by
    intro k _ _
    by_cases c : k = i
    · rw [c, ei2, i4]; omega
    · rw [cdl_o c]
  have ed : ∀ k, k ≤ C.length → dp (cdl (C.set i (1048576 * q.1 + (C.length : Int)))) f k = dp (cdl C) f k := fun k hk => dp_cg (fun j j1 j2 => e j j1 (by omega))
  have hp : pend r = 0 := by have := pend_c q r; rw [if_neg (by omega)] at this; omega
  refine ⟨⟨by rw [hlen]; exact h1, fun k hk => by rw [cdl_o (by omega)]; exact h2 k hk, a1, ?_, fun k kf kl => ?_⟩, mk3 ⟨s1, hp, ?_, by rw [hlen]; exact s4, ?_⟩⟩
  · rw [hlen]; exact Wk_cg (Nat.le_refl _) e a2
  · rw [hlen] at kl ⊢
    by_cases c : k = i
    · subst c
      obtain ⟨b0, b1, b2, b3⟩ := h5 k kf kl
      have em : (1048576 * q.1 + (C.length : Int)) % 1048576 = (C.length : Int) := by omega
      have eo : (1048576 * q.1 + (C.length : Int)) / 1048576 = q.1 := by omega
      have hd1 : dp (cdl C) f k = 1 := by
        rcases b3 with z | z | z | z | z
        · omega
        · omega
        · omega
        · exact z.2.1
        · omega
      refine ⟨by rw [ei2]; omega, by rw [ed k (by omega)]; exact b1, by rw [ed k (by omega)]; exact b2, Or.inr (Or.inr (Or.inr (Or.inl ⟨?_, ?_, Or.inr ⟨?_, ?_, ?_⟩⟩)))⟩
      · rw [ei2, eo]; exact hq1
      · rw [ed k (by omega)]; exact hd1
      · rw [ei2, em]; omega
      · rw [ei2, em]; exact Int.le_refl _
      · rw [ei2, em, ed _ (by omega)]; exact s3
    · refine Ik_cg kf kl (Nat.le_refl _) (h5 k kf kl) e (cdl_o c) (fun z => ?_)
      rcases z with z | z
      · rcases List.mem_cons.mp z with y | y
        · exact absurd (by rw [← y] at i1; have : (k : Int) = (i : Int) := i1; omega) c
        · exact Or.inl y
      · rcases List.mem_cons.mp z with y | y
        · exact absurd (by rw [← y] at i1; have : (k : Int) = (i : Int) := i1; omega) c
        · exact Or.inr y
  · rw [hlen, ed _ (Nat.le_refl _)]; exact s3
  · rw [hlen, e _ (by omega) (by omega)]; exact s5
/-- & and | -/
theorem Iz_K {b f : Nat} {Pf : Nat → Int} {pl ph k : Int} {C : List Int} {W : List (Int × Int)} (h : IzC b f Pf 3 ph C W) (hk : k = 11 ∨ k = 12) : Iz b f Pf (2, pl, 0, C ++ [1048576 * k], (k, (C.length : Int)) :: W) := by
  refine Iz_mk (fun hl => ?_)
  rw [al] at hl
  obtain ⟨hq, hs⟩ := h (by omega)
  obtain ⟨s1, s2, s3, s4, s5⟩ := Is3 hs
  have e1 : 1048576 * k / 1048576 = k := by omega
  have ep : pend ((k, (C.length : Int)) :: W) = 0 := by rw [pend_c, if_neg (by show ¬ (2 ≤ k ∧ k ≤ 6); omega), s2]; rfl
  have hc := c14_p W
  refine ⟨Iq_app hq (by omega) (by omega) (Or.inr (Or.inr (Or.inr (Or.inl ⟨by rw [e1]; exact hk, s3, ?_⟩)))) ?_ ⟨Wk_a _ hq, ?_, ?_, ?_, ?_⟩ (fun _ _ q => jW_cons q), Or.inr (Or.inr (Or.inl ⟨rfl, s1, ep, ?_⟩))⟩
  · rcases hk with rfl | rfl
    · exact Or.inl (List.mem_cons_self)
    · exact Or.inr (List.mem_cons_self)
  · rw [opn_c, if_neg (by show ¬ (k = 10 ∨ k = 13 ∨ k = 14); omega)]
    have := hq.2.2.1
    omega
  · rw [ep, c14_c]
    have hb := bk_r k
    show 0 ≤ 2 * (c14 W + (if k = 14 then 1 else 0)) + bk k
    rw [if_neg (by omega)]
    omega
  · exact Or.inr (by show 10 ≤ k ∧ k ≤ 14; omega)
  · intro _; exact ⟨s1, s2⟩
  · intro _
    exact ⟨C.length, rfl, hq.1, by omega, by rw [cdl_n, e1]⟩
  · rw [dp_app hq.1, s3, e1, dl_n (by omega)]; rfl
theorem Iz_H {b f : Nat} {Pf : Nat → Int} {T : Int → Int} {pl ph : Int} {C : List Int} {q : Int × Int} {r : List (Int × Int)} (h : IzC b f Pf 3 ph C (q :: r)) : Iz b f Pf (zH T pl C (q :: r) q.1 r) := by
  unfold zH
  by_cases c1 : T pl = 41 ∧ q.1 = 13
  · rw [if_pos c1]
    have hr : C.length ≤ 1000 → Iq b f Pf C r ∧ pend r = 0 := by
      intro hl
      obtain ⟨hq, hs⟩ := h hl
      obtain ⟨s1, s2, s3⟩ := Is3 hs
      obtain ⟨a1, a2⟩ := Iq_tl hq
      have := pend_c q r
      rw [if_neg (by omega)] at this
      exact ⟨Iq_W hq a1 a2 (fun _ _ z => jW_tl (by omega) (by omega) z), by omega⟩
    by_cases c2 : r = []
    · rw [if_pos c2]
      refine Iz_mk (fun hl => ?_)
      obtain ⟨s1, s2, s3⟩ := Is3 (h hl).2
      rw [← c2]
      exact ⟨(hr hl).1, Or.inr (Or.inr (Or.inr (Or.inr (Or.inr ⟨rfl, s1, c2, s3⟩))))⟩
    · rw [if_neg c2]
      refine Iz_mk (fun hl => ?_)
      obtain ⟨s1, s2, s3⟩ := Is3 (h hl).2
      exact ⟨(hr hl).1, mk3 ⟨s1, (hr hl).2, s3⟩⟩
  · rw [if_neg c1]
    by_cases c2 : T pl = 38
    · rw [if_pos c2]; exact Iz_K h (Or.inl rfl)
    · rw [if_neg c2]
      by_cases c3 : T pl = 124
      · rw [if_pos c3]; exact Iz_K h (Or.inr rfl)
      · rw [if_neg c3]; exact Iz_F
theorem Iz_D {b f : Nat} {Pf : Nat → Int} {T : Int → Int} {pl ph : Int} {C : List Int} : ∀ {W : List (Int × Int)}, IzC b f Pf 3 ph C W → Iz b f Pf (zD T pl C W) := by
  intro W h
  cases W with
  | nil => exact Iz_F
  | cons q r =>
    show Iz b f Pf (if q.1 = 10 then _ else _)
    by_cases c1 : q.1 = 10
    · rw [if_pos c1]
      refine Iz_mk (fun hl => ?_)
      rw [al] at hl
      obtain ⟨hq, hs⟩ := h (by omega)
      obtain ⟨s1, s2, s3, s4, s5⟩ := Is3 hs
      obtain ⟨a1, a2⟩ := Iq_tl hq
      have hp := pend_c q r
      rw [if_neg (by omega)] at hp
      have e1 : (1048576 * 10 : Int) / 1048576 = 10 := by decide
      refine ⟨Iq_app hq (by decide) (by omega) (Or.inr (Or.inr (Or.inl ⟨e1, by omega, s4, s5⟩))) a1 (Wk_cg (by omega) (fun i _ z => by rw [cdl_a z]) a2) (fun _ _ z => jW_tl (by omega) (by omega) z), mk3 ⟨s1, by omega, ?_, ?_, ?_⟩⟩
      · rw [dp_app hq.1, s3, e1]; rfl
      · rw [al]; omega
      · rw [al, Nat.add_sub_cancel, cdl_n, e1]; omega
    · rw [if_neg c1]
      by_cases c2 : q.1 = 11
      · rw [if_pos c2]; exact Iz_J h (Or.inl c2)
      · rw [if_neg c2]
        by_cases c3 : q.1 = 12 ∧ T pl ≠ 38
        · rw [if_pos c3]; exact Iz_J h (Or.inr c3.1)
        · rw [if_neg c3]; exact Iz_H h
theorem Iz_st {b f : Nat} {Pf : Nat → Int} {T : Int → Int} {c : Lc} (h : Iz b f Pf c) : Iz b f Pf (zS T c) := by
  obtain ⟨t, pl, ph, C, W⟩ := c
  by_cases c4 : 4 ≤ t
  · rw [zS_big c4]; exact h
  · have hc : IzC b f Pf t ph C W := by
      rcases h with h | h
      · have h2 : t = 4 := h
        omega
      · exact h
    rcases (show t = 0 ∨ t = 1 ∨ t = 2 ∨ t = 3 by omega) with rfl | rfl | rfl | rfl
    · rw [ls_A]; exact Iz_A hc
    · rw [ls_B]; exact Iz_B hc
    · rw [ls_C]; exact Iz_C hc
    · rw [ls_D]; exact Iz_D hc
/-! LAWS: what clauses keep to -/
/-- a stretch of codes that is all read; b: 0 a sum, 1 a condition -/
def gd (b f t : Nat) (cd : Nat → Int) : Prop := f < t ∧ dp cd f t = 1 ∧ (∀ k, f ≤ k → k < t → Ik cd f t False k) ∧ (b = 1 → 7 ≤ cd (t - 1) / 1048576 ∧ cd (t - 1) / 1048576 ≤ 10)
theorem gd_cg {b f t : Nat} {cd ce : Nat → Int} (h : gd b f t cd) (e : ∀ k, k < t → ce k = cd k) : gd b f t ce := by
  obtain ⟨h1, h2, h3, h4⟩ := h
  refine ⟨h1, ?_, fun k k1 k2 => Ik_cg k1 k2 (Nat.le_refl _) (h3 k k1 k2) (fun i _ i2 => by rw [e i i2]) (e k k2) (fun z => z), fun hb => ?_⟩
  · rw [dp_cg (fun i _ i2 => by rw [e i i2])]; exact h2
  · rw [e _ (by omega)]; exact h4 hb
theorem gd_of0 {f : Nat} {Pf : Nat → Int} {ph : Int} {C : List Int} {W : List (Int × Int)} {b : Nat} (h : Iq b f Pf C W) (hs : Is b f 5 ph C W) : gd 0 f C.length (cdl C) := by
  obtain ⟨q1, q2, q3, q4⟩ : 5 = 5 ∧ b = 0 ∧ W = [] ∧ dp (cdl C) f C.length = 1 := by
    rcases hs with q | q | q | q | q | q
    · exact absurd q.1 (by decide)
    · exact absurd q.1 (by decide)
    · exact absurd q.1 (by decide)
    · exact absurd q.1 (by decide)
    · exact q
    · exact absurd q.1 (by decide)
  obtain ⟨h1, h2, h3, h4, h5⟩ := h
  refine ⟨?_, q4, fun k k1 k2 => ?_, fun hb => absurd hb (by decide)⟩
  · apply Classical.byContradiction
    intro c
    rw [dp_le (by omega)] at q4
    omega
  · refine Ik_cg k1 k2 (Nat.le_refl _) (h5 k k1 k2) (fun _ _ _ => rfl) rfl (fun z => ?_)
    rw [q3] at z
    rcases z with z | z <;> cases z
theorem gd_of1 {f : Nat} {Pf : Nat → Int} {ph : Int} {C : List Int} {W : List (Int × Int)} {b : Nat} (h : Iq b f Pf C W) (hs : Is b f 6 ph C W) : gd 1 f C.length (cdl C) := by
  obtain ⟨q1, q2, q3, q4, q5, q6⟩ : 6 = 6 ∧ b = 1 ∧ W = [] ∧ dp (cdl C) f C.length = 1 ∧ f < C.length ∧ 7 ≤ cdl C (C.length - 1) / 1048576 ∧ cdl C (C.length - 1) / 1048576 ≤ 10 := by
    rcases hs with q | q | q | q | q | q
    · exact absurd q.1 (by decide)
    · exact absurd q.1 (by decide)
    · exact absurd q.1 (by decide)
    · exact absurd q.1 (by decide)
    · exact absurd q.1 (by decide)
    · exact q
  obtain ⟨h1, h2, h3, h4, h5⟩ := h
  refine ⟨q5, q4, fun k k1 k2 => ?_, fun _ => q6⟩
  refine Ik_cg k1 k2 (Nat.le_refl _) (h5 k k1 k2) (fun _ _ _ => rfl) rfl (fun z => ?_)
  rw [q3] at z
  rcases z with z | z <;> cases z
def gk (cd : Nat → Int) (len : Nat) (q : Kl) : Prop := ∃ s h e : Nat, q.2.1 = (s : Int) ∧ q.2.2.1 = (h : Int) ∧ q.2.2.2 = (e : Int) ∧ s ≤ h ∧ h < e ∧ e ≤ len ∧ isCl q.1 ∧ (q.1 = 97 ∨ gd 0 s h cd) ∧ gd 1 h e cd
theorem gk_cg {cd ce : Nat → Int} {l l' : Nat} {q : Kl} (h : gk cd l q) (hl : l ≤ l') (e : ∀ k, k < l → ce k = cd k) : gk ce l' q := by
  obtain ⟨s, a, t, h1, h2, h3, h4, h5, h6, h7, h8, h9⟩ := h
  refine ⟨s, a, t, h1, h2, h3, h4, h5, by omega, h7, ?_, gd_cg h9 (fun k hk => e k (by omega))⟩
  rcases h8 with h8 | h8
  · exact Or.inl h8
  · exact Or.inr (gd_cg h8 (fun k hk => e k (by omega)))
abbrev Kg (cd : Nat → Int) (len : Nat) (K : List Kl) : Prop := ∀ q ∈ K, gk cd len q
/-- the letter and its sum so far -/
abbrev Xg (cd : Nat → Int) (len : Nat) (X : Int × Int × Int) : Prop := isCl X.1 ∧ ∃ s : Nat, X.2.1 = (s : Int) ∧ s ≤ len ∧ (X.1 = 97 ∨ gd 0 s len cd)
def Vc (t : Nat) (ph : Int) (C : List Int) (W : List (Int × Int)) (X : Int × Int × Int) (K : List Kl) : Prop :=
  ((t = 7 ∨ (t = 8 ∧ 0 < K.length)) ∧ Kg (cdl C) C.length K) ∨
  (t = 5 ∧ Kg (cdl C) C.length K ∧ Xg (cdl C) C.length X) ∨
  (t = 6 ∧ Kg (cdl C) C.length (K ++ [(X.1, X.2.1, X.2.2, (C.length : Int))])) ∨
  (t ≤ 3 ∧ ∃ (b f : Nat) (Pf : Nat → Int), Iq b f Pf C W ∧ Is b f t ph C W ∧ Kg Pf f K ∧ ((b = 0 ∧ isCl X.1 ∧ X.2.1 = (f : Int)) ∨ (b = 1 ∧ Xg Pf f X ∧ X.2.2 = (f : Int))))
def Vz (d : Ld) : Prop := d.1.1 = 4 ∨ (d.1.2.2.2.1.length ≤ 1000 → Vc d.1.1 d.1.2.2.1 d.1.2.2.2.1 d.1.2.2.2.2 d.2.1 d.2.2)
theorem Vz_F {k w : Int} : Vz (yF k w) := Or.inl rfl
theorem Vz_c {t : Nat} {pl ph : Int} {C : List Int} {W : List (Int × Int)} {X : Int × Int × Int} {K : List Kl} (h : Vz ((t, pl, ph, C, W), X, K)) (ht : t ≠ 4) (hl : C.length ≤ 1000) : Vc t ph C W X K := by
  rcases h with h | h
  · exact absurd h ht
  · exact h hl
theorem Is_t {b f t : Nat} {ph : Int} {C : List Int} {W : List (Int × Int)} (h : Is b f t ph C W) : (t = 5 ∧ b = 0) ∨ (t = 6 ∧ b = 1) ∨ t ≤ 3 := by
  rcases h with q | q | q | q | q | q
  · exact Or.inr (Or.inr (by omega))
  · exact Or.inr (Or.inr (by omega))
  · exact Or.inr (Or.inr (by omega))
  · exact Or.inr (Or.inr (by omega))
  · exact Or.inl ⟨q.1, q.2.1⟩
  · exact Or.inr (Or.inl ⟨q.1, q.2.1⟩)
/-- lengths never fall -/
theorem zO_len {pl ph k : Int} {C : List Int} {W : List (Int × Int)} {t : Nat} : (zO pl ph k C W t).1 = 4 ∨ C.length ≤ (zO pl ph k C W t).2.2.2.1.length := by
  unfold zO
  by_cases c : opn W = 6
  · rw [if_pos c]; exact Or.inl rfl
  · rw [if_neg c]; exact Or.inr (Nat.le_refl _)
theorem zS_len {T : Int → Int} {c : Lc} : (zS T c).1 = 4 ∨ c.2.2.2.1.length ≤ (zS T c).2.2.2.1.length := by
  obtain ⟨t, pl, ph, C, W⟩ := c
  have ha : ∀ x : Int, C.length ≤ (C ++ [x]).length := fun x => by rw [al]; omega
  have hE : ∀ W : List (Int × Int), (zE T pl ph C W).1 = 4 ∨ C.length ≤ (zE T pl ph C W).2.2.2.1.length := by
    intro W
    unfold zE zF
    repeat' split
    all_goals first | exact Or.inl rfl | exact Or.inr (Nat.le_refl _) | exact Or.inr (ha _)
  have hGl : ∀ (W : List (Int × Int)) (top : Int) (W' : List (Int × Int)), (zG T pl ph C W top W').1 = 4 ∨ C.length ≤ (zG T pl ph C W top W').2.2.2.1.length := by
    intro W top W'
    unfold zG zF
    repeat' split
    all_goals first | exact hE _ | exact Or.inl rfl | exact Or.inr (Nat.le_refl _)
  by_cases c4 : 4 ≤ t
  · rw [zS_big c4]; exact Or.inr (Nat.le_refl _)
  · rcases (show t = 0 ∨ t = 1 ∨ t = 2 ∨ t = 3 by omega) with rfl | rfl | rfl | rfl
    · rw [ls_A]
      unfold zA zF
      repeat' split
      all_goals first | exact zO_len | exact Or.inl rfl | exact Or.inr (ha _)
    · rw [ls_B]
      cases W with
      | nil => exact hGl [] (-1) []
      | cons q r =>
        rw [zB_c]
        repeat' split
        all_goals first | exact hGl _ _ _ | exact Or.inr (ha _)
    · rw [ls_C]
      unfold zC
      repeat' split
      all_goals first | exact zO_len | exact Or.inr (Nat.le_refl _)
    · rw [ls_D]
      cases W with
      | nil => exact Or.inl rfl
      | cons q r =>
        rw [zD_c]
        unfold zH zF
        repeat' split
        all_goals first | exact Or.inl rfl | exact Or.inr (Nat.le_refl _) | exact Or.inr (ha _) | exact Or.inr (by rw [List.length_set]; exact Nat.le_refl _)
theorem Vz_st {T : Int → Int} {len : Int} {d : Ld} (h : Vz d) : Vz (yS T len d) := by
  obtain ⟨⟨t, pl, ph, C, W⟩, X, K⟩ := d
  by_cases c5 : t = 5
  · subst c5
    rw [ys_5]
    unfold y5
    by_cases c : T pl = 40
    · rw [if_pos c]
      refine Or.inr (fun hl => ?_)
      have hl2 : C.length ≤ 1000 := hl
      rcases Vz_c h (by decide) hl2 with q | q | q | q
      · exact absurd q.1 (by omega)
      · obtain ⟨_, k1, x1, s, x2, x3, x4⟩ := q
        show Vc 2 0 C [(13, 0)] (X.1, X.2.1, (C.length : Int)) K
        refine Or.inr (Or.inr (Or.inr ⟨by decide, 1, C.length, cdl C, ⟨Nat.le_refl _, fun _ _ => rfl, (by decide : (1 : Int) ≤ 6), ⟨trivial, (by decide : (0 : Int) ≤ 2 * 0 + 0), Or.inr (by decide), fun _ => ⟨rfl, rfl⟩, fun z => ?_⟩, fun k k1 k2 => by omega⟩, Or.inr (Or.inr (Or.inl ⟨rfl, rfl, rfl, dp_le (Nat.le_refl _)⟩)), k1, Or.inr ⟨rfl, ⟨x1, s, x2, x3, x4⟩, rfl⟩⟩))
        rcases z with z | z <;> exact absurd z (by decide)
      · exact absurd q.1 (by omega)
      · exact absurd q.1 (by omega)
    · rw [if_neg c]; exact Vz_F
  · by_cases c6 : t = 6
    · subst c6
      rw [ys_6]
      unfold y6
      have hk : C.length ≤ 1000 → Kg (cdl C) C.length (K ++ [(X.1, X.2.1, X.2.2, (C.length : Int))]) := by
        intro hl
        rcases Vz_c h (by decide) hl with q | q | q | q
        · exact absurd q.1 (by omega)
        · exact absurd q.1 (by omega)
        · exact q.2
        · exact absurd q.1 (by omega)
      by_cases c : T pl = 59
      · rw [if_pos c]; exact Or.inr (fun hl => Or.inl ⟨Or.inl rfl, hk hl⟩)
      · rw [if_neg c]
        by_cases c2 : len ≤ pl
        · rw [if_pos c2]; exact Or.inr (fun hl => Or.inl ⟨Or.inr ⟨rfl, by rw [List.length_append, List.length_singleton]; omega⟩, hk hl⟩)
        · rw [if_neg c2]; exact Vz_F
    · by_cases c7 : t = 7
      · subst c7
        rw [ys_7]
        unfold y7
        have hk : C.length ≤ 1000 → Kg (cdl C) C.length K := by
          intro hl
          rcases Vz_c h (by decide) hl with q | q | q | q
          · exact q.2
          · exact absurd q.1 (by omega)
          · exact absurd q.1 (by omega)
          · exact absurd q.1 (by omega)
        by_cases c : ¬ isCl (T pl)
        · rw [if_pos c]; exact Vz_F
        · rw [if_neg c]
          have hcl : isCl (T pl) := Classical.byContradiction c
          by_cases c1 : K.length = 16
          · rw [if_pos c1]; exact Vz_F
          · rw [if_neg c1]
            by_cases c2 : T pl = 97
            · rw [if_pos c2]
              exact Or.inr (fun hl => Or.inr (Or.inl ⟨rfl, hk hl, Or.inl rfl, C.length, rfl, Nat.le_refl _, Or.inl rfl⟩))
            · rw [if_neg c2]
              refine Or.inr (fun hl => ?_)
              show Vc 0 0 C [] (T pl, (C.length : Int), 0) K
              refine (Or.inr (Or.inr (Or.inr ⟨Nat.zero_le _, 0, C.length, cdl C, ⟨Nat.le_refl _, fun _ _ => rfl, (by decide : (0 : Int) ≤ 6), trivial, fun k k1 k2 => by omega⟩, Or.inl ⟨rfl, Or.inl ⟨rfl, rfl⟩, ?_⟩, hk hl, Or.inl ⟨rfl, hcl, rfl⟩⟩)))
              rw [dp_le (Nat.le_refl _)]
              rfl
      · by_cases c4 : t = 4
        · subst c4; exact Or.inl rfl
        · by_cases c8 : 8 ≤ t
          · have e : yS T len ((t, pl, ph, C, W), X, K) = ((t, pl, ph, C, W), X, K) := by
              unfold yS
              rw [if_neg c5, if_neg c6, if_neg c7, if_neg c4, zS_big (by show 4 ≤ t; omega)]
            rw [e]; exact h
          · have ht : t ≤ 3 := by omega
            rw [yS_in ht]
            have hz := zS_len (T := T) (c := (t, pl, ph, C, W))
            by_cases c9 : (zS T (t, pl, ph, C, W)).1 = 4
            · exact Or.inl c9
            · refine Or.inr (fun hl => ?_)
              have hl2 : C.length ≤ 1000 := Nat.le_trans (hz.resolve_left c9) hl
              rcases Vz_c h c4 hl2 with q | q | q | q
              · have := q.1; omega
              · have := q.1; omega
              · have := q.1; omega
              · obtain ⟨_, b, f, Pf, i1, i2, i3, i4⟩ := q
                have hst := (Iz_st (T := T) (c := (t, pl, ph, C, W)) (Or.inr (fun _ => ⟨i1, i2⟩))).resolve_left c9 hl
                obtain ⟨j1, j2⟩ := hst
                generalize zS T (t, pl, ph, C, W) = c' at j1 j2 hl c9 ⊢
                obtain ⟨t', pl', ph', C', W'⟩ := c'
                have e1 : ∀ k, k < f → cdl C' k = Pf k := j1.2.1
                have e2 : f ≤ C'.length := j1.1
                have j2' : Is b f t' ph' C' W' := j2
                show Vc t' ph' C' W' X K
                rcases Is_t j2' with ⟨t5, b0⟩ | ⟨t6, b1⟩ | t3
                · subst t5
                  have hx := i4.resolve_right (fun z => by have := z.1; omega)
                  exact Or.inr (Or.inl ⟨rfl, fun q hq => gk_cg (i3 q hq) e2 e1, hx.2.1, f, hx.2.2, e2, Or.inr (gd_of0 j1 j2')⟩)
                · subst t6
                  obtain ⟨_, ⟨x1, s, x2, x3, x4⟩, x5⟩ := i4.resolve_left (fun z => by have := z.1; omega)
                  refine Or.inr (Or.inr (Or.inl ⟨rfl, fun q hq => ?_⟩))
                  rcases List.mem_append.mp hq with hq | hq
                  · exact gk_cg (i3 q hq) e2 e1
                  · rw [List.mem_singleton] at hq
                    subst hq
                    have g1 := gd_of1 j1 j2'
                    refine ⟨s, f, C'.length, x2, x5, rfl, x3, g1.1, Nat.le_refl _, x1, ?_, g1⟩
                    rcases x4 with x4 | x4
                    · exact Or.inl x4
                    · exact Or.inr (gd_cg x4 e1)
                · exact Or.inr (Or.inr (Or.inr ⟨t3, b, f, Pf, j1, j2', i3, i4⟩))
theorem Vz_I {T : Int → Int} {len : Int} : ∀ (n : Nat) {d : Ld}, Vz d → Vz (yI T len n d) := by
  intro n
  induction n with
  | zero => intro d h; exact h
  | succ n ih => intro d h; exact ih (Vz_st h)
/-- a law that is read: its clauses are good -/
theorem Vz_8 {T : Int → Int} {len p : Int} {C : List Int} {K : List Kl} (h : Yo T len d00 ((8, p, 0, C, []), (0, 0, 0), K)) (hl : C.length ≤ 1000) : 0 < K.length ∧ Kg (cdl C) C.length K := by
  obtain ⟨n, hn⟩ := h
  have h0 : Vz d00 := Or.inr (fun _ => Or.inl ⟨Or.inl rfl, fun q hq => by cases hq⟩)
  have h1 := Vz_I (T := T) (len := len) n h0
  rw [hn] at h1
  rcases Vz_c h1 (by decide) hl with q | q | q | q
  · exact ⟨by have := q.1; omega, q.2⟩
  · exact absurd q.1 (by omega)
  · exact absurd q.1 (by omega)
  · exact absurd q.1 (by omega)
