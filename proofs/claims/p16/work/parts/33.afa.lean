/-! LAWS: what the small machine's codes keep to -/
def dl (o : Int) : Int := if o = 0 ∨ o = 1 then 1 else if o = 10 then 0 else -1
/-- how high the stack stands ahead of a code -/
def dp (cd : Nat → Int) (f : Nat) : Nat → Int
  | 0 => 0
  | k + 1 => if k < f then 0 else dp cd f k + dl (cd k / 1048576)
theorem dp_le {cd : Nat → Int} {f : Nat} : ∀ {k : Nat}, k ≤ f → dp cd f k = 0 := by
  intro k
  cases k with
  | zero => intro _; rfl
  | succ k => intro h; show (if k < f then 0 else _) = _; rw [if_pos (by omega)]
theorem dp_s {cd : Nat → Int} {f k : Nat} (h : f ≤ k) : dp cd f (k + 1) = dp cd f k + dl (cd k / 1048576) := by
  show (if k < f then 0 else _) = _
  rw [if_neg (by omega)]
theorem dp_cg {cd ce : Nat → Int} {f : Nat} : ∀ {k : Nat}, (∀ i, f ≤ i → i < k → ce i / 1048576 = cd i / 1048576) → dp ce f k = dp cd f k := by
  intro k
  induction k with
  | zero => intro _; rfl
  | succ k ih =>
    intro h
    by_cases q : k < f
    · show (if k < f then 0 else _) = (if k < f then 0 else _)
      rw [if_pos q, if_pos q]
    · rw [dp_s (by omega), dp_s (by omega), ih (fun i h1 h2 => h i h1 (by omega)), h k (by omega) (by omega)]
/-- what a code keeps to; P: it is a jump that waits -/
def Ik (cd : Nat → Int) (f len : Nat) (P : Prop) (k : Nat) : Prop := 0 ≤ cd k ∧ 0 ≤ dp cd f k ∧ dp cd f k ≤ 40 ∧
  ((cd k / 1048576 = 0) ∨ (cd k / 1048576 = 1 ∧ cd k % 1048576 ≤ 11) ∨ (cd k / 1048576 = 10 ∧ 1 ≤ dp cd f k ∧ f < k ∧ 7 ≤ cd (k - 1) / 1048576 ∧ cd (k - 1) / 1048576 ≤ 10) ∨
   ((cd k / 1048576 = 11 ∨ cd k / 1048576 = 12) ∧ dp cd f k = 1 ∧ (P ∨ ((k : Int) < cd k % 1048576 ∧ cd k % 1048576 ≤ (len : Int) ∧ dp cd f (cd k % 1048576).toNat = 1))) ∨
   (2 ≤ cd k / 1048576 ∧ cd k / 1048576 ≤ 9 ∧ 2 ≤ dp cd f k))
theorem Ik_cg {cd ce : Nat → Int} {f len len' k : Nat} {P Q : Prop} (hf : f ≤ k) (hk : k < len) (hl : len ≤ len') (h : Ik cd f len P k) (e : ∀ i, f ≤ i → i < len → ce i / 1048576 = cd i / 1048576) (ek : ce k = cd k) (hP : P → Q) : Ik ce f len' Q k := by
  have d : ∀ i, i ≤ len → dp ce f i = dp cd f i := fun i hi => dp_cg (fun j h1 h2 => e j h1 (by omega))
  obtain ⟨h0, h1, h2, h3⟩ := h
  have dk := d k (by omega)
  refine ⟨by rw [ek]; exact h0, by rw [dk]; exact h1, by rw [dk]; exact h2, ?_⟩
  rw [ek, dk]
  rcases h3 with a | a | ⟨a1, a2, a3, a4, a5⟩ | ⟨a1, a2, a3⟩ | a
  · exact Or.inl a
  · exact Or.inr (Or.inl a)
  · refine Or.inr (Or.inr (Or.inl ⟨a1, a2, a3, ?_⟩))
    rw [e (k - 1) (by omega) (by omega)]
    exact ⟨a4, a5⟩
  · refine Or.inr (Or.inr (Or.inr (Or.inl ⟨a1, a2, ?_⟩)))
    rcases a3 with p | ⟨b1, b2, b3⟩
    · exact Or.inl (hP p)
    · refine Or.inr ⟨b1, by omega, ?_⟩
      rw [d _ (by omega)]
      exact b3
  · exact Or.inr (Or.inr (Or.inr (Or.inr a)))
def pend : List (Int × Int) → Int
  | [] => 0
  | q :: r => pend r + (if 2 ≤ q.1 ∧ q.1 ≤ 6 then 1 else 0)
def c14 : List (Int × Int) → Int
  | [] => 0
  | q :: r => c14 r + (if q.1 = 14 then 1 else 0)
theorem pend_p : ∀ W : List (Int × Int), 0 ≤ pend W := by
  intro W
  induction W with
  | nil => exact Int.le_refl _
  | cons q r ih =>
    show 0 ≤ pend r + (if _ then 1 else 0)
    by_cases c : 2 ≤ q.1 ∧ q.1 ≤ 6
    · rw [if_pos c]; omega
    · rw [if_neg c]; omega
theorem c14_le : ∀ W : List (Int × Int), c14 W ≤ opn W := by
  intro W
  induction W with
  | nil => exact Int.le_refl _
  | cons q r ih =>
    show c14 r + (if _ then 1 else 0) ≤ opn r + (if _ then 1 else 0)
    by_cases c : q.1 = 14
    · rw [if_pos c, if_pos (Or.inr (Or.inr c))]; omega
    · rw [if_neg c]
      by_cases d : q.1 = 10 ∨ q.1 = 13 ∨ q.1 = 14
      · rw [if_pos d]; omega
      · rw [if_neg d]; omega
/-- what waits keeps to; bk: how much may wait above the last [ -/
def bk (x : Int) : Int := if 4 ≤ x ∧ x ≤ 6 then 2 else if 2 ≤ x ∧ x ≤ 3 then 1 else 0
def Wk (cd : Nat → Int) (f len : Nat) (b : Nat) : List (Int × Int) → Prop
  | [] => True
  | q :: r => Wk cd f len b r ∧ pend (q :: r) ≤ 2 * c14 (q :: r) + bk q.1 ∧ ((2 ≤ q.1 ∧ q.1 ≤ 6) ∨ (10 ≤ q.1 ∧ q.1 ≤ 14)) ∧ ((10 ≤ q.1 ∧ q.1 ≤ 13) → b = 1 ∧ pend r = 0) ∧ ((q.1 = 11 ∨ q.1 = 12) → ∃ i : Nat, q.2 = (i : Int) ∧ f ≤ i ∧ i < len ∧ cd i / 1048576 = q.1)
theorem Wk_cg {cd ce : Nat → Int} {f len len' b : Nat} (hl : len ≤ len') (e : ∀ i, f ≤ i → i < len → ce i / 1048576 = cd i / 1048576) : ∀ {W : List (Int × Int)}, Wk cd f len b W → Wk ce f len' b W := by
  intro W
  induction W with
  | nil => intro _; exact trivial
  | cons q r ih =>
    rintro ⟨h1, h2, hr, h3, h4⟩
    refine ⟨ih h1, h2, hr, h3, fun c => ?_⟩
    obtain ⟨i, i1, i2, i3, i4⟩ := h4 c
    exact ⟨i, i1, i2, by omega, by rw [e i i2 i3]; exact i4⟩
theorem Wk_b {cd : Nat → Int} {f len b : Nat} {q : Int × Int} {r : List (Int × Int)} (h : Wk cd f len b (q :: r)) (ho : opn (q :: r) ≤ 6) : pend (q :: r) ≤ 14 := by
  have h1 := h.2.1
  have h2 := c14_le (q :: r)
  have h3 : bk q.1 ≤ 2 := by unfold bk; by_cases c : 4 ≤ q.1 ∧ q.1 ≤ 6
                             · rw [if_pos c]; omega
                             · rw [if_neg c]
                               by_cases d : 2 ≤ q.1 ∧ q.1 ≤ 3
                               · rw [if_pos d]; omega
                               · rw [if_neg d]; omega
  omega
theorem pend_b {cd : Nat → Int} {f len b : Nat} {W : List (Int × Int)} (h : Wk cd f len b W) (ho : opn W ≤ 6) : 0 ≤ pend W ∧ pend W ≤ 14 := by
  refine ⟨pend_p W, ?_⟩
  cases W with
  | nil => show (0 : Int) ≤ 14; omega
  | cons q r => exact Wk_b h ho
abbrev cdl (C : List Int) (k : Nat) : Int := C.getD k 0
theorem cdl_a {C : List Int} {x : Int} {k : Nat} (h : k < C.length) : cdl (C ++ [x]) k = cdl C k := by
  show (C ++ [x]).getD k 0 = C.getD k 0
  rw [List.getD_eq_getElem?_getD, List.getD_eq_getElem?_getD, List.getElem?_append_left h]
theorem cdl_n {C : List Int} {x : Int} : cdl (C ++ [x]) C.length = x := by
  show (C ++ [x]).getD C.length 0 = x
  rw [List.getD_eq_getElem?_getD, List.getElem?_append_right (Nat.le_refl _), Nat.sub_self]
  rfl
theorem cdl_s {C : List Int} {x : Int} {i : Nat} (h : i < C.length) : cdl (C.set i x) i = x := by
  show (C.set i x).getD i 0 = x
  rw [List.getD_eq_getElem?_getD, List.getElem?_set_self h]
  rfl
theorem cdl_o {C : List Int} {x : Int} {i k : Nat} (h : k ≠ i) : cdl (C.set i x) k = cdl C k := by
  show (C.set i x).getD k 0 = C.getD k 0
  rw [List.getD_eq_getElem?_getD, List.getD_eq_getElem?_getD, List.getElem?_set_ne (fun e => h e.symm)]
/-- b: 0 in a clause's sum, 1 in its condition; Pf: the codes ahead of f -/
def Iq (b f : Nat) (Pf : Nat → Int) (C : List Int) (W : List (Int × Int)) : Prop := f ≤ C.length ∧ (∀ k, k < f → cdl C k = Pf k) ∧ opn W ≤ 6 ∧ Wk (cdl C) f C.length b W ∧ ∀ k, f ≤ k → k < C.length → Ik (cdl C) f C.length (((11 : Int), (k : Int)) ∈ W ∨ ((12 : Int), (k : Int)) ∈ W) k
def Is (b f : Nat) (t : Nat) (ph : Int) (C : List Int) (W : List (Int × Int)) : Prop :=
  (t = 0 ∧ ((b = 0 ∧ ph = 0) ∨ (b = 1 ∧ (ph = 1 ∨ (7 ≤ ph ∧ ph ≤ 9)))) ∧ dp (cdl C) f C.length = pend W + (if 7 ≤ ph then 1 else 0)) ∨
  (t = 1 ∧ ((b = 0 ∧ ph = 0) ∨ (b = 1 ∧ (ph = 1 ∨ (7 ≤ ph ∧ ph ≤ 9)))) ∧ dp (cdl C) f C.length = pend W + (if 7 ≤ ph then 2 else 1)) ∨
  (t = 2 ∧ b = 1 ∧ pend W = 0 ∧ dp (cdl C) f C.length = 0) ∨
  (t = 3 ∧ b = 1 ∧ pend W = 0 ∧ dp (cdl C) f C.length = 1 ∧ f < C.length ∧ 7 ≤ cdl C (C.length - 1) / 1048576 ∧ cdl C (C.length - 1) / 1048576 ≤ 10) ∨
  (t = 5 ∧ b = 0 ∧ W = [] ∧ dp (cdl C) f C.length = 1) ∨
  (t = 6 ∧ b = 1 ∧ W = [] ∧ dp (cdl C) f C.length = 1 ∧ f < C.length ∧ 7 ≤ cdl C (C.length - 1) / 1048576 ∧ cdl C (C.length - 1) / 1048576 ≤ 10)
abbrev IzC (b f : Nat) (Pf : Nat → Int) (t : Nat) (ph : Int) (C : List Int) (W : List (Int × Int)) : Prop := C.length ≤ 1000 → Iq b f Pf C W ∧ Is b f t ph C W
def Iz (b f : Nat) (Pf : Nat → Int) (c : Lc) : Prop := c.1 = 4 ∨ IzC b f Pf c.1 c.2.2.1 c.2.2.2.1 c.2.2.2.2
