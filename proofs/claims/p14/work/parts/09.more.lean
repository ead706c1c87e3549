def qmax (a b : Int32) : Int32 := if a < b then b else a
def qmin (a b : Int32) : Int32 := if b < a then b else a
def qlm (M : qM) (f : qM → qR) : qR := f M
theorem q_dm {c : ByteArray} {tb : List (Nat × Instr × Nat)} (h : ∀ q ∈ tb, decode c q.1 = .ok q.2) (i : Nat) {pc len : Nat} {ins : Instr} (hi : tb[i]? = some (pc, ins, len)) : decode c pc = .ok (ins, len) := by
  have h1 := h (pc, ins, len) (List.mem_of_getElem? hi)
  dsimp only at h1
  exact h1
theorem q_cats {ad : Nat → Nat} : ∀ S1 : List qV, ((S1.map (q_v ad)).map fun v => v.category).sum = S1.length
  | [] => rfl
  | a :: r => by
    have := q_cats (ad := ad) r
    simp only [List.map_cons, List.sum_cons, List.length_cons, q_v_cat, this]
    omega
def q_le : List (Option qV) → List (Option qV) → Prop
  | [], _ => True
  | none :: r, _ :: s => q_le r s
  | some v :: r, some w :: s => v = w ∧ q_le r s
  | _ :: _, _ => False
theorem q_le_at : ∀ (a b : List (Option qV)), q_le a b → ∀ (i : Nat) (v : qV), a[i]? = some (some v) → b[i]? = some (some v)
  | [], _, _, i, v, h => by simp at h
  | none :: r, [], hl, i, v, h => by simp [q_le] at hl
  | some x :: r, [], hl, i, v, h => by simp [q_le] at hl
  | none :: r, y :: s, hl, 0, v, h => by simp at h
  | none :: r, y :: s, hl, i + 1, v, h => by
    have := q_le_at r s hl i v (by simpa using h)
    simpa using this
  | some x :: r, none :: s, hl, i, v, h => by simp [q_le] at hl
  | some x :: r, some y :: s, hl, 0, v, h => by
    simp at h
    subst h
    simp [hl.1]
  | some x :: r, some y :: s, hl, i + 1, v, h => by
    have := q_le_at r s hl.2 i v (by simpa using h)
    simpa using this

theorem qr_max {g : qG} {k : qK} {d : Nat} {y : qMY} {pc : Nat} {Z X : List qSh} {L : List (Option qV)} {S : List qV} {M : qM} {E : qR} (o : qOk g d y k) {a b : Int32} {idx : Nat} (hlk : Cond.methodLink y.1.cls idx Lib.Math.max.name ∈ q_tbl) (hd : 1 ≤ d) (hS8 : S.length ≤ 8) (hdg : decode y.2.1 pc = .ok (.invokestatic idx, 3)) (h : qAE g k y Z (pc + 3) L (.inl (qmax a b) :: S) (X, M) E) : qAE g k y Z pc L (.inl b :: .inl a :: S) (X, M) E := by
  intro v0 M0 e0 r0
  obtain ⟨p, l, e, R, s, m, args, below, meth, c, cells, slots, Q⟩ := k
  obtain ⟨hx, hb, hml, hown, hts, hr, hlocks, hK, hRO, hDD, hR1, hR2, hc1, hc2⟩ := o
  intro H locs ls hN hP hS hl
  exact va_mmax hx hb (by rw [hml, hl.1]) hown (hts _ hlk) (hts _ mm_max_s) (hts _ mm_i) (hts _ mm_max_c) (by omega) (by rw [q_cats]; omega) hc1 hc2 hdg (h v0 M0 e0 r0 H locs ls hN hP hS hl)

theorem qr_min {g : qG} {k : qK} {d : Nat} {y : qMY} {pc : Nat} {Z X : List qSh} {L : List (Option qV)} {S : List qV} {M : qM} {E : qR} (o : qOk g d y k) {a b : Int32} {idx : Nat} (hlk : Cond.methodLink y.1.cls idx Lib.Math.min.name ∈ q_tbl) (hd : 1 ≤ d) (hS8 : S.length ≤ 8) (hdg : decode y.2.1 pc = .ok (.invokestatic idx, 3)) (h : qAE g k y Z (pc + 3) L (.inl (qmin a b) :: S) (X, M) E) : qAE g k y Z pc L (.inl b :: .inl a :: S) (X, M) E := by
  intro v0 M0 e0 r0
  obtain ⟨p, l, e, R, s, m, args, below, meth, c, cells, slots, Q⟩ := k
  obtain ⟨hx, hb, hml, hown, hts, hr, hlocks, hK, hRO, hDD, hR1, hR2, hc1, hc2⟩ := o
  intro H locs ls hN hP hS hl
  exact va_mmin hx hb (by rw [hml, hl.1]) hown (hts _ hlk) (hts _ mm_min_s) (hts _ mm_i) (hts _ mm_min_c) (by omega) (by rw [q_cats]; omega) hc1 hc2 hdg (h v0 M0 e0 r0 H locs ls hN hP hS hl)

theorem qr_loc {g : qG} {k : qK} {y : qMY} {pc : Nat} {Z X : List qSh} {L : List (Option qV)} {S : List qV} {M : qM} {E : qR} {L' : List (Option qV)} (hle : q_le L' L) (h : qAE g k y Z pc L' S (X, M) E) : qAE g k y Z pc L S (X, M) E := by
  intro v0 M0 e0 r0
  obtain ⟨p, l, e, R, s, m, args, below, meth, c, cells, slots, Q⟩ := k
  intro H locs ls hN hP hS hl
  refine h v0 M0 e0 r0 H locs ls hN hP hS ⟨hl.1, hl.2.1, fun q hq => ?_⟩
  obtain ⟨i, v, h1, h2⟩ := q_l_of _ _ hq
  have h3 := q_l_at hl (q_le_at _ _ hle i v h1)
  rw [Nat.zero_add] at h2
  rw [h2]
  exact h3
theorem qr_letm {g : qG} {k : qK} {y : qMY} {pc : Nat} {Z X : List qSh} {L : List (Option qV)} {S : List qV} {M : qM}  {f : qM → qR} (h : ∀ M1 : qM, qAE g k y Z pc L S (X, M1) (f M1)) : qAE g k y Z pc L S (X, M) (qlm M f) := h M
theorem qr_none {g : qG} {k : qK} {y : qMY} {pc : Nat} {Z X : List qSh} {L : List (Option qV)} {S : List qV} {M : qM}  : qAE g k y Z pc L S (X, M) none := fun _ _ h => by cases h
theorem qs_istore_n {g : qG} {k : qK} {d : Nat} {y : qMY} {pc : Nat} {Z X : List qSh} {L : List (Option qV)} {S : List qV} {M : qM} {E : qR} (o : qOk g d y k) {L' : List (Option qV)} {n : Fin 4} {v : Int32} (hdg : decode y.2.1 pc = .ok (.istore_n n, 1)) (hn : (n : Nat) < y.2.2.1) (hL : L.set (n : Nat) (some (.inl v)) = L') (h : qAE g k y Z (pc + 1) L' S (X, M) E) : qAE g k y Z pc L (.inl v :: S) (X, M) E := by
  subst hL
  exact qr_istore_n o hdg hn h
theorem qs_istore {g : qG} {k : qK} {d : Nat} {y : qMY} {pc : Nat} {Z X : List qSh} {L : List (Option qV)} {S : List qV} {M : qM} {E : qR} (o : qOk g d y k) {L' : List (Option qV)} {n : Nat} {v : Int32} (hdg : decode y.2.1 pc = .ok (.istore n, 2)) (hn : n < y.2.2.1) (hL : L.set n (some (.inl v)) = L') (h : qAE g k y Z (pc + 2) L' S (X, M) E) : qAE g k y Z pc L (.inl v :: S) (X, M) E := by
  subst hL
  exact qr_istore o hdg hn h
theorem qs_astore_n {g : qG} {k : qK} {d : Nat} {y : qMY} {pc : Nat} {Z X : List qSh} {L : List (Option qV)} {S : List qV} {M : qM} {E : qR} (o : qOk g d y k) {L' : List (Option qV)} {n : Fin 4} {i : Nat} (hdg : decode y.2.1 pc = .ok (.astore_n n, 1)) (hn : (n : Nat) < y.2.2.1) (hL : L.set (n : Nat) (some (.inr (some i))) = L') (h : qAE g k y Z (pc + 1) L' S (X, M) E) : qAE g k y Z pc L (.inr (some i) :: S) (X, M) E := by
  subst hL
  exact qr_astore_n o hdg hn h
theorem qs_iinc {g : qG} {k : qK} {d : Nat} {y : qMY} {pc : Nat} {Z X : List qSh} {L : List (Option qV)} {S : List qV} {M : qM} {E : qR} (o : qOk g d y k) {L' : List (Option qV)} {i : Nat} {n : Int} {v c : Int32} (hdg : decode y.2.1 pc = .ok (.iinc i n, 3)) (hv : L[i]? = some (some (.inl v))) (hc : Int32.ofInt n = c) (hn : i < y.2.2.1) (hL : L.set i (some (.inl (v + c))) = L') (h : qAE g k y Z (pc + 3) L' S (X, M) E) : qAE g k y Z pc L S (X, M) E := by
  subst hL
  subst hc
  exact qr_iinc o hdg hv rfl hn h
theorem qs_iincl {g : qG} {k : qK} {d : Nat} {y : qMY} {pc : Nat} {Z X : List qSh} {L : List (Option qV)} {S : List qV} {M : qM} {f : Int32 → qR} (o : qOk g d y k) {i : Nat} {n : Int} {v c : Int32} (hdg : decode y.2.1 pc = .ok (.iinc i n, 3)) (hv : L[i]? = some (some (.inl v))) (hc : Int32.ofInt n = c) (hn : i < y.2.2.1) (h : ∀ x : Int32, qAE g k y Z (pc + 3) (L.set i (some (.inl x))) S (X, M) (f x)) : qAE g k y Z pc L S (X, M) (ql (v + c) f) := by
  subst hc
  exact qr_iinc o hdg hv rfl hn (h _)
