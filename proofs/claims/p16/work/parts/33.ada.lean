/-! PLANS: a small machine that both readers follow. A state: (0, place, steps, rounds) a step is due; (1, ..) a step was read; (2, fault, ..); (3, .., steps, ..) done -/
def tq (R : Nat → Int32) (len p : Int) : Int := if 0 ≤ p ∧ p < len then (R p.toNat).toInt else -1
def dq (x : Int) : Int := if 48 ≤ x ∧ x ≤ 57 then x - 48 else -1
abbrev Cf : Type := Nat × Int × Int × List (Int × Int)
def cF (k w : Int) : Cf := (2, -1000 * k - w, 0, [])
def knd (T : Int → Int) (pl : Int) : Int := if dq (T (pl + 1)) < 0 then dq (T pl) else 10 * dq (T pl) + dq (T (pl + 1))
def nxp (T : Int → Int) (pl : Int) : Int := if dq (T (pl + 1)) < 0 then pl + 1 else pl + 2
def stE (pl p s : Int) (st : List (Int × Int)) : Cf := if 40 ≤ s then cF 6 pl else (1, p, s + 1, st)
def stW (T : Int → Int) (pl p s : Int) (st : List (Int × Int)) : Cf := if T p = 38 then (if dq (T (p + 1)) < 0 then cF 1 (p + 1) else if 8 ≤ dq (T (p + 1)) then cF 3 (p + 1) else stE pl (p + 2) s st) else stE pl p s st
def stT (T : Int → Int) (pl s : Int) (st : List (Int × Int)) : Cf := if dq (T pl) < 0 then cF 1 pl else if 12 ≤ knd T pl then cF 3 pl else stW T pl (nxp T pl) s st
def stA (T : Int → Int) (pl s : Int) (st : List (Int × Int)) : Cf := if T pl = 40 then (if st.length = 3 then cF 5 pl else (0, pl + 1, s, (pl, s) :: st)) else stT T pl s st
def stB (T : Int → Int) (len pl s : Int) : List (Int × Int) → Cf
  | [] => if T pl = 44 then (0, pl + 1, s, []) else if len ≤ pl then (3, 0, s, []) else cF 1 pl
  | q :: r => if T pl = 44 then (0, pl + 1, s, q :: r) else if T pl = 41 then (if dq (T (pl + 1)) < 2 then cF 1 (pl + 1) else if 40 < q.2 + (s - q.2) * dq (T (pl + 1)) then cF 6 q.1 else (1, pl + 2, q.2 + (s - q.2) * dq (T (pl + 1)), r)) else cF 1 pl
def stp (T : Int → Int) (len : Int) (c : Cf) : Cf := if c.1 = 0 then stA T c.2.1 c.2.2.1 c.2.2.2 else if c.1 = 1 then stB T len c.2.1 c.2.2.1 c.2.2.2 else c
def gO (T : Int → Int) (len : Int) : Nat → Cf → Cf
  | 0, c => c
  | n + 1, c => gO T len n (stp T len c)
theorem gO_add {T : Int → Int} {len : Int} : ∀ (n m : Nat) (c : Cf), gO T len (n + m) c = gO T len m (gO T len n c) := by
  intro n
  induction n with
  | zero => intro m c; rw [Nat.zero_add]; rfl
  | succ n ih =>
    intro m c
    rw [show n + 1 + m = (n + m) + 1 by omega]
    show gO T len (n + m) (stp T len c) = _
    rw [ih]
    rfl
def To (T : Int → Int) (len : Int) (c c' : Cf) : Prop := ∃ n, gO T len n c = c'
theorem To_rf {T : Int → Int} {len : Int} {c : Cf} : To T len c c := ⟨0, rfl⟩
theorem To_tr {T : Int → Int} {len : Int} {c d e : Cf} (h : To T len c d) (k : To T len d e) : To T len c e := by
  obtain ⟨n, rfl⟩ := h
  obtain ⟨m, rfl⟩ := k
  exact ⟨n + m, gO_add n m c⟩
theorem To_st {T : Int → Int} {len : Int} {c d : Cf} (h : stp T len c = d) : To T len c d := ⟨1, h⟩
theorem gO_fix {T : Int → Int} {len : Int} {c : Cf} (h : stp T len c = c) : ∀ n, gO T len n c = c := by
  intro n
  induction n with
  | zero => rfl
  | succ n ih =>
    show gO T len n (stp T len c) = c
    rw [h]; exact ih
theorem To_det {T : Int → Int} {len : Int} {c d e : Cf} (h : To T len c d) (k : To T len c e) (h1 : stp T len d = d) (k1 : stp T len e = e) : d = e := by
  obtain ⟨n, hn⟩ := h
  obtain ⟨m, hm⟩ := k
  by_cases q : n ≤ m
  · obtain ⟨j, rfl⟩ : ∃ j, m = n + j := ⟨m - n, by omega⟩
    rw [gO_add, hn, gO_fix h1] at hm
    exact hm
  · obtain ⟨j, rfl⟩ : ∃ j, n = m + j := ⟨n - m, by omega⟩
    rw [gO_add, hm, gO_fix k1] at hn
    exact hn.symm
theorem st_A {T : Int → Int} {len pl s : Int} {st : List (Int × Int)} : stp T len (0, pl, s, st) = stA T pl s st := rfl
theorem st_B {T : Int → Int} {len pl s : Int} {st : List (Int × Int)} : stp T len (1, pl, s, st) = stB T len pl s st := rfl
theorem st_F {T : Int → Int} {len a b : Int} {st : List (Int × Int)} : stp T len (2, a, b, st) = (2, a, b, st) := rfl
theorem st_O {T : Int → Int} {len a b : Int} {st : List (Int × Int)} : stp T len (3, a, b, st) = (3, a, b, st) := rfl
theorem dq_r (x : Int) : (dq x = -1 ∧ ¬ (48 ≤ x ∧ x ≤ 57)) ∨ (dq x = x - 48 ∧ 48 ≤ x ∧ x ≤ 57) := by
  unfold dq
  by_cases h : 48 ≤ x ∧ x ≤ 57
  · rw [if_pos h]; exact Or.inr ⟨rfl, h⟩
  · rw [if_neg h]; exact Or.inl ⟨rfl, h⟩
theorem tq_r (R : Nat → Int32) (len p : Int) : (tq R len p = -1 ∧ ¬ (0 ≤ p ∧ p < len)) ∨ (tq R len p = (R p.toNat).toInt ∧ 0 ≤ p ∧ p < len) := by
  unfold tq
  by_cases h : 0 ≤ p ∧ p < len
  · rw [if_pos h]; exact Or.inr ⟨rfl, h⟩
  · rw [if_neg h]; exact Or.inl ⟨rfl, h⟩
