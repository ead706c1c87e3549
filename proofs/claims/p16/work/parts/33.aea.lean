/-! LAWS: a small machine that both readers follow. A state: (what is due, place, which sum, codes so far, what waits).
 due: 0 a factor, 1 behind a factor, 2 a piece, 3 behind a piece, 4 a fault (its number in the place), 5 the clause's sum is read, 6 the condition is read.
 which sum: 0 the clause's, 1 the left one of a comparison, 7 to 9 the right one -/
abbrev Lc : Type := Nat × Int × Int × List Int × List (Int × Int)
def zF (k w : Int) : Lc := (4, -1000 * k - w, 0, [], [])
def opn : List (Int × Int) → Int
  | [] => 0
  | q :: r => opn r + (if q.1 = 10 ∨ q.1 = 13 ∨ q.1 = 14 then 1 else 0)
/-- the sign of a sum, the model's number of it; -1: none -/
def sg (x : Int) : Int := if x = 43 then 2 else if x = 45 then 3 else if x = 42 then 4 else if x = 47 then 5 else if x = 37 then 6 else -1
def cp (x : Int) : Int := if x = 60 then 7 else if x = 62 then 8 else if x = 61 then 9 else -1
def fa (x : Int) : Int := if x = 107 then 0 else if x = 104 then 1 else if x = 120 then 2 else if x = 106 then 3 else if x = 121 then 4 else if x = 109 then 5 else if x = 100 then 6 else if x = 112 then 7 else if x = 113 then 8 else if x = 110 then 9 else if x = 111 then 10 else if x = 119 then 11 else -1
def nv (T : Int → Int) (pl : Int) : Nat → Int
  | 0 => 0
  | j + 1 => 10 * nv T pl j + dq (T (pl + j))
/-- how many digits stand from a place on, 6 for more than 5 -/
def nl (T : Int → Int) (pl : Int) : Nat := if dq (T pl) < 0 then 0 else if dq (T (pl + 1)) < 0 then 1 else if dq (T (pl + 2)) < 0 then 2 else if dq (T (pl + 3)) < 0 then 3 else if dq (T (pl + 4)) < 0 then 4 else if dq (T (pl + 5)) < 0 then 5 else 6
def zO (pl ph : Int) (k : Int) (C : List Int) (W : List (Int × Int)) (t : Nat) : Lc := if opn W = 6 then zF 5 pl else (t, pl + 1, ph, C, (k, 0) :: W)
def zA (T : Int → Int) (pl ph : Int) (C : List Int) (W : List (Int × Int)) : Lc :=
  if T pl = 91 then zO pl ph 14 C W 0
  else if 0 ≤ dq (T pl) then (if nl T pl = 6 then zF 2 (pl + 5) else (1, pl + nl T pl, ph, C ++ [nv T pl (nl T pl)], W))
  else if fa (T pl) = -1 then zF 1 pl else (1, pl + 1, ph, C ++ [1048576 + fa (T pl)], W)
/-- a sum has come to its end -/
def zE (T : Int → Int) (pl ph : Int) (C : List Int) (W : List (Int × Int)) : Lc :=
  if ph = 0 then (5, pl, 0, C, W) else if ph = 1 then (if cp (T pl) = -1 then zF 1 pl else (0, pl + 1, cp (T pl), C, W)) else (3, pl, 0, C ++ [1048576 * ph], W)
def zG (T : Int → Int) (pl ph : Int) (C : List Int) (W : List (Int × Int)) (top : Int) (W' : List (Int × Int)) : Lc :=
  if 0 ≤ sg (T pl) then (0, pl + 1, ph, C, (sg (T pl), 0) :: W) else if top = 14 then (if T pl = 93 then (1, pl + 1, ph, C, W') else zF 1 pl) else zE T pl ph C W
def zB (T : Int → Int) (pl ph : Int) (C : List Int) : List (Int × Int) → Lc
  | [] => zG T pl ph C [] (-1) []
  | q :: r => if 4 ≤ q.1 ∧ q.1 ≤ 6 then (1, pl, ph, C ++ [1048576 * q.1], r) else if (2 ≤ q.1 ∧ q.1 ≤ 3) ∧ ¬ (4 ≤ sg (T pl)) then (1, pl, ph, C ++ [1048576 * q.1], r) else zG T pl ph C (q :: r) q.1 r
def zC (T : Int → Int) (pl : Int) (C : List Int) (W : List (Int × Int)) : Lc := if T pl = 33 then zO pl 0 10 C W 2 else if T pl = 40 then zO pl 0 13 C W 2 else (0, pl, 1, C, W)
def zH (T : Int → Int) (pl : Int) (C : List Int) (W : List (Int × Int)) (top : Int) (W' : List (Int × Int)) : Lc :=
  if T pl = 41 ∧ top = 13 then (if W' = [] then (6, pl + 1, 0, C, []) else (3, pl + 1, 0, C, W')) else if T pl = 38 then (2, pl + 1, 0, C ++ [1048576 * 11], (11, (C.length : Int)) :: W) else if T pl = 124 then (2, pl + 1, 0, C ++ [1048576 * 12], (12, (C.length : Int)) :: W) else zF 1 pl
def zD (T : Int → Int) (pl : Int) (C : List Int) : List (Int × Int) → Lc
  | [] => zF 1 pl
  | q :: r => if q.1 = 10 then (3, pl, 0, C ++ [1048576 * 10], r) else if q.1 = 11 then (3, pl, 0, C.set q.2.toNat (1048576 * (C.getD q.2.toNat 0 / 1048576) + C.length), r) else if q.1 = 12 ∧ T pl ≠ 38 then (3, pl, 0, C.set q.2.toNat (1048576 * (C.getD q.2.toNat 0 / 1048576) + C.length), r) else zH T pl C (q :: r) q.1 r
def zS (T : Int → Int) (c : Lc) : Lc := if c.1 = 0 then zA T c.2.1 c.2.2.1 c.2.2.2.1 c.2.2.2.2 else if c.1 = 1 then zB T c.2.1 c.2.2.1 c.2.2.2.1 c.2.2.2.2 else if c.1 = 2 then zC T c.2.1 c.2.2.2.1 c.2.2.2.2 else if c.1 = 3 then zD T c.2.1 c.2.2.2.1 c.2.2.2.2 else c
def zI (T : Int → Int) : Nat → Lc → Lc
  | 0, c => c
  | n + 1, c => zI T n (zS T c)
theorem zI_add {T : Int → Int} : ∀ (n m : Nat) (c : Lc), zI T (n + m) c = zI T m (zI T n c) := by
  intro n
  induction n with
  | zero => intro m c; rw [Nat.zero_add]; rfl
  | succ n ih =>
    intro m c
    rw [show n + 1 + m = (n + m) + 1 by omega]
    show zI T (n + m) (zS T c) = _
    rw [ih]
    rfl
def Lo (T : Int → Int) (c c' : Lc) : Prop := ∃ n, zI T n c = c'
theorem Lo_rf {T : Int → Int} {c : Lc} : Lo T c c := ⟨0, rfl⟩
theorem Lo_tr {T : Int → Int} {c d e : Lc} (h : Lo T c d) (k : Lo T d e) : Lo T c e := by
  obtain ⟨n, rfl⟩ := h
  obtain ⟨m, rfl⟩ := k
  exact ⟨n + m, zI_add n m c⟩
theorem Lo_st {T : Int → Int} {c d : Lc} (h : zS T c = d) : Lo T c d := ⟨1, h⟩
theorem zI_fix {T : Int → Int} {c : Lc} (h : zS T c = c) : ∀ n, zI T n c = c := by
  intro n
  induction n with
  | zero => rfl
  | succ n ih =>
    show zI T n (zS T c) = c
    rw [h]; exact ih
theorem Lo_det {T : Int → Int} {c d e : Lc} (h : Lo T c d) (k : Lo T c e) (h1 : zS T d = d) (k1 : zS T e = e) : d = e := by
  obtain ⟨n, hn⟩ := h
  obtain ⟨m, hm⟩ := k
  by_cases q : n ≤ m
  · obtain ⟨j, rfl⟩ : ∃ j, m = n + j := ⟨m - n, by omega⟩
    rw [zI_add, hn, zI_fix h1] at hm
    exact hm
  · obtain ⟨j, rfl⟩ : ∃ j, n = m + j := ⟨n - m, by omega⟩
    rw [zI_add, hm, zI_fix k1] at hn
    exact hn.symm
theorem ls_A {T : Int → Int} {pl ph : Int} {C : List Int} {W : List (Int × Int)} : zS T (0, pl, ph, C, W) = zA T pl ph C W := rfl
theorem ls_B {T : Int → Int} {pl ph : Int} {C : List Int} {W : List (Int × Int)} : zS T (1, pl, ph, C, W) = zB T pl ph C W := rfl
theorem ls_C {T : Int → Int} {pl ph : Int} {C : List Int} {W : List (Int × Int)} : zS T (2, pl, ph, C, W) = zC T pl C W := rfl
theorem ls_D {T : Int → Int} {pl ph : Int} {C : List Int} {W : List (Int × Int)} : zS T (3, pl, ph, C, W) = zD T pl C W := rfl
theorem ls_4 {T : Int → Int} {pl ph : Int} {C : List Int} {W : List (Int × Int)} : zS T (4, pl, ph, C, W) = (4, pl, ph, C, W) := rfl
theorem ls_5 {T : Int → Int} {pl ph : Int} {C : List Int} {W : List (Int × Int)} : zS T (5, pl, ph, C, W) = (5, pl, ph, C, W) := rfl
theorem ls_6 {T : Int → Int} {pl ph : Int} {C : List Int} {W : List (Int × Int)} : zS T (6, pl, ph, C, W) = (6, pl, ph, C, W) := rfl
theorem zB_c {T : Int → Int} {pl ph : Int} {C : List Int} {q : Int × Int} {r : List (Int × Int)} : zB T pl ph C (q :: r) = (if 4 ≤ q.1 ∧ q.1 ≤ 6 then (1, pl, ph, C ++ [1048576 * q.1], r) else if (2 ≤ q.1 ∧ q.1 ≤ 3) ∧ ¬ (4 ≤ sg (T pl)) then (1, pl, ph, C ++ [1048576 * q.1], r) else zG T pl ph C (q :: r) q.1 r) := rfl
theorem zD_c {T : Int → Int} {pl : Int} {C : List Int} {q : Int × Int} {r : List (Int × Int)} : zD T pl C (q :: r) = (if q.1 = 10 then (3, pl, 0, C ++ [1048576 * 10], r) else if q.1 = 11 then (3, pl, 0, C.set q.2.toNat (1048576 * (C.getD q.2.toNat 0 / 1048576) + C.length), r) else if q.1 = 12 ∧ T pl ≠ 38 then (3, pl, 0, C.set q.2.toNat (1048576 * (C.getD q.2.toNat 0 / 1048576) + C.length), r) else zH T pl C (q :: r) q.1 r) := rfl
