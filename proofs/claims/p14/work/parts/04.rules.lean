def qg (j : Int32) (n : Nat) (E : qR) : qR := if j < 0 ∨ n ≤ j.toNatClampNeg then none else E
def qd (b : Int32) (E : qR) : qR := if b = 0 then none else E
def qb (v : Int32) (E : qR) : qR := if v = 0 ∨ v = 1 then E else none
def qc (F : qR) (f : Int32 → qM → qR) : qR := match F with
  | none => none
  | some q => f q.1 q.2
def ql (v : Int32) (f : Int32 → qR) : qR := f v
def qsw (x : Int32) : List (Int32 × qR) → qR → qR
  | [], D => D
  | q :: r, D => if x = q.1 then q.2 else qsw x r D
def q_ty : Nat → FieldType
  | 0 => .int
  | 1 => .byte
  | _ => .boolean
theorem q_nz {v : Int32} (h : v = 0 ∨ v = 1) : narrow .boolean (.int v) = .int v := by
  rcases h with rfl | rfl <;> decide
theorem qg_some {j : Int32} {n : Nat} {E : qR} {q : Int32 × qM} (h : qg j n E = some q) : vp_in j n ∧ E = some q := by
  unfold qg at h
  split at h
  · cases h
  · rename_i hn
    exact ⟨hn, h⟩
theorem qd_some {b : Int32} {E : qR} {q : Int32 × qM} (h : qd b E = some q) : ¬ b = 0 ∧ E = some q := by
  unfold qd at h
  split at h
  · cases h
  · rename_i hn
    exact ⟨hn, h⟩
theorem qb_some {b : Int32} {E : qR} {q : Int32 × qM} (h : qb b E = some q) : (b = 0 ∨ b = 1) ∧ E = some q := by
  unfold qb at h
  split at h
  · rename_i hn
    exact ⟨hn, h⟩
  · cases h
theorem qc_some {F : qR} {f : Int32 → qM → qR} {q : Int32 × qM} (h : qc F f = some q) : ∃ v M, F = some (v, M) ∧ f v M = some q := by
  unfold qc at h
  split at h
  · cases h
  · rename_i z
    exact ⟨z.1, z.2, rfl, h⟩

theorem qr_iconst {g : qG} {k : qK} {d : Nat} {y : qMY} {pc : Nat} {Z X : List qSh} {L : List (Option qV)} {S : List qV} {M : qM} {E : qR} (o : qOk g d y k) {n : Int} {v : Int32} (hdg : decode y.2.1 pc = .ok (.iconst n, 1)) (hv : Int32.ofInt n = v) (h : qAE g k y Z (pc + 1) L (.inl v :: S) (X, M) E) : qAE g k y Z pc L S (X, M) E := by
  intro v0 M0 e0 r0
  obtain ⟨p, l, e, R, s, m, args, below, meth, c, cells, slots, Q⟩ := k
  obtain ⟨hx, hb, hml, hown, hts, hr, hlocks, hK, hRO, hDD, hR1, hR2, hc1, hc2⟩ := o
  intro H locs ls hN hP hS hl
  exact lv_iconst hx hb hdg hv (h v0 M0 e0 r0 H locs ls hN hP hS hl)

theorem qr_bipush {g : qG} {k : qK} {d : Nat} {y : qMY} {pc : Nat} {Z X : List qSh} {L : List (Option qV)} {S : List qV} {M : qM} {E : qR} (o : qOk g d y k) {n : Int} {v : Int32} (hdg : decode y.2.1 pc = .ok (.bipush n, 2)) (hv : (Int8.ofInt n).toInt32 = v) (h : qAE g k y Z (pc + 2) L (.inl v :: S) (X, M) E) : qAE g k y Z pc L S (X, M) E := by
  intro v0 M0 e0 r0
  obtain ⟨p, l, e, R, s, m, args, below, meth, c, cells, slots, Q⟩ := k
  obtain ⟨hx, hb, hml, hown, hts, hr, hlocks, hK, hRO, hDD, hR1, hR2, hc1, hc2⟩ := o
  intro H locs ls hN hP hS hl
  exact lv_bipush hx hb hdg hv (h v0 M0 e0 r0 H locs ls hN hP hS hl)

theorem qr_sipush {g : qG} {k : qK} {d : Nat} {y : qMY} {pc : Nat} {Z X : List qSh} {L : List (Option qV)} {S : List qV} {M : qM} {E : qR} (o : qOk g d y k) {n : Int} {v : Int32} (hdg : decode y.2.1 pc = .ok (.sipush n, 3)) (hv : (Int16.ofInt n).toInt32 = v) (h : qAE g k y Z (pc + 3) L (.inl v :: S) (X, M) E) : qAE g k y Z pc L S (X, M) E := by
  intro v0 M0 e0 r0
  obtain ⟨p, l, e, R, s, m, args, below, meth, c, cells, slots, Q⟩ := k
  obtain ⟨hx, hb, hml, hown, hts, hr, hlocks, hK, hRO, hDD, hR1, hR2, hc1, hc2⟩ := o
  intro H locs ls hN hP hS hl
  exact lv_sipush hx hb hdg hv (h v0 M0 e0 r0 H locs ls hN hP hS hl)

theorem qr_ldc {g : qG} {k : qK} {d : Nat} {y : qMY} {pc : Nat} {Z X : List qSh} {L : List (Option qV)} {S : List qV} {M : qM} {E : qR} (o : qOk g d y k) {i : Nat} {v : Int32} (hdg : decode y.2.1 pc = .ok (.ldc i, 2)) (hv : Cond.constant y.1.cls i v ∈ q_tbl) (h : qAE g k y Z (pc + 2) L (.inl v :: S) (X, M) E) : qAE g k y Z pc L S (X, M) E := by
  intro v0 M0 e0 r0
  obtain ⟨p, l, e, R, s, m, args, below, meth, c, cells, slots, Q⟩ := k
  obtain ⟨hx, hb, hml, hown, hts, hr, hlocks, hK, hRO, hDD, hR1, hR2, hc1, hc2⟩ := o
  intro H locs ls hN hP hS hl
  exact lv_ldc hx hb hown (hts _ hv) hdg (h v0 M0 e0 r0 H locs ls hN hP hS hl)

theorem qr_ldc_w {g : qG} {k : qK} {d : Nat} {y : qMY} {pc : Nat} {Z X : List qSh} {L : List (Option qV)} {S : List qV} {M : qM} {E : qR} (o : qOk g d y k) {i : Nat} {v : Int32} (hdg : decode y.2.1 pc = .ok (.ldc_w i, 3)) (hv : Cond.constant y.1.cls i v ∈ q_tbl) (h : qAE g k y Z (pc + 3) L (.inl v :: S) (X, M) E) : qAE g k y Z pc L S (X, M) E := by
  intro v0 M0 e0 r0
  obtain ⟨p, l, e, R, s, m, args, below, meth, c, cells, slots, Q⟩ := k
  obtain ⟨hx, hb, hml, hown, hts, hr, hlocks, hK, hRO, hDD, hR1, hR2, hc1, hc2⟩ := o
  intro H locs ls hN hP hS hl
  exact lv_ldcw hx hb hown (hts _ hv) hdg (h v0 M0 e0 r0 H locs ls hN hP hS hl)

theorem qr_iload_n {g : qG} {k : qK} {d : Nat} {y : qMY} {pc : Nat} {Z X : List qSh} {L : List (Option qV)} {S : List qV} {M : qM} {E : qR} (o : qOk g d y k) {n : Fin 4} {v : Int32} (hdg : decode y.2.1 pc = .ok (.iload_n n, 1)) (hv : L[(n : Nat)]? = some (some (.inl v))) (h : qAE g k y Z (pc + 1) L (.inl v :: S) (X, M) E) : qAE g k y Z pc L S (X, M) E := by
  intro v0 M0 e0 r0
  obtain ⟨p, l, e, R, s, m, args, below, meth, c, cells, slots, Q⟩ := k
  obtain ⟨hx, hb, hml, hown, hts, hr, hlocks, hK, hRO, hDD, hR1, hR2, hc1, hc2⟩ := o
  intro H locs ls hN hP hS hl
  exact lv_iload_n hx hb hdg rfl (q_l_at hl hv) (h v0 M0 e0 r0 H locs ls hN hP hS hl)

theorem qr_iload {g : qG} {k : qK} {d : Nat} {y : qMY} {pc : Nat} {Z X : List qSh} {L : List (Option qV)} {S : List qV} {M : qM} {E : qR} (o : qOk g d y k) {n : Nat} {v : Int32} (hdg : decode y.2.1 pc = .ok (.iload n, 2)) (hv : L[n]? = some (some (.inl v))) (h : qAE g k y Z (pc + 2) L (.inl v :: S) (X, M) E) : qAE g k y Z pc L S (X, M) E := by
  intro v0 M0 e0 r0
  obtain ⟨p, l, e, R, s, m, args, below, meth, c, cells, slots, Q⟩ := k
  obtain ⟨hx, hb, hml, hown, hts, hr, hlocks, hK, hRO, hDD, hR1, hR2, hc1, hc2⟩ := o
  intro H locs ls hN hP hS hl
  exact lv_iload hx hb hdg (q_l_at hl hv) (h v0 M0 e0 r0 H locs ls hN hP hS hl)

theorem qr_aload_n {g : qG} {k : qK} {d : Nat} {y : qMY} {pc : Nat} {Z X : List qSh} {L : List (Option qV)} {S : List qV} {M : qM} {E : qR} (o : qOk g d y k) {n : Fin 4} {i : Nat} (hdg : decode y.2.1 pc = .ok (.aload_n n, 1)) (hv : L[(n : Nat)]? = some (some (.inr (some i)))) (h : qAE g k y Z (pc + 1) L (.inr (some i) :: S) (X, M) E) : qAE g k y Z pc L S (X, M) E := by
  intro v0 M0 e0 r0
  obtain ⟨p, l, e, R, s, m, args, below, meth, c, cells, slots, Q⟩ := k
  obtain ⟨hx, hb, hml, hown, hts, hr, hlocks, hK, hRO, hDD, hR1, hR2, hc1, hc2⟩ := o
  intro H locs ls hN hP hS hl
  exact lv_aload_n hx hb hdg rfl (q_l_at hl hv) (h v0 M0 e0 r0 H locs ls hN hP hS hl)

theorem qr_aload {g : qG} {k : qK} {d : Nat} {y : qMY} {pc : Nat} {Z X : List qSh} {L : List (Option qV)} {S : List qV} {M : qM} {E : qR} (o : qOk g d y k) {n : Nat} {i : Nat} (hdg : decode y.2.1 pc = .ok (.aload n, 2)) (hv : L[n]? = some (some (.inr (some i)))) (h : qAE g k y Z (pc + 2) L (.inr (some i) :: S) (X, M) E) : qAE g k y Z pc L S (X, M) E := by
  intro v0 M0 e0 r0
  obtain ⟨p, l, e, R, s, m, args, below, meth, c, cells, slots, Q⟩ := k
  obtain ⟨hx, hb, hml, hown, hts, hr, hlocks, hK, hRO, hDD, hR1, hR2, hc1, hc2⟩ := o
  intro H locs ls hN hP hS hl
  exact lv_aload hx hb hdg (q_l_at hl hv) (h v0 M0 e0 r0 H locs ls hN hP hS hl)

theorem qr_istore_n {g : qG} {k : qK} {d : Nat} {y : qMY} {pc : Nat} {Z X : List qSh} {L : List (Option qV)} {S : List qV} {M : qM} {E : qR} (o : qOk g d y k) {n : Fin 4} {v : Int32} (hdg : decode y.2.1 pc = .ok (.istore_n n, 1)) (hn : (n : Nat) < y.2.2.1) (h : qAE g k y Z (pc + 1) (L.set (n : Nat) (some (.inl v))) S (X, M) E) : qAE g k y Z pc L (.inl v :: S) (X, M) E := by
  intro v0 M0 e0 r0
  obtain ⟨p, l, e, R, s, m, args, below, meth, c, cells, slots, Q⟩ := k
  obtain ⟨hx, hb, hml, hown, hts, hr, hlocks, hK, hRO, hDD, hR1, hR2, hc1, hc2⟩ := o
  intro H locs ls hN hP hS hl
  exact lv_istore_n hx hb hdg rfl hl hn rfl (fun ls1 hl1 => h v0 M0 e0 r0 H locs ls1 hN hP hS (q_l_store (v := .inl v) hl1))

theorem qr_istore {g : qG} {k : qK} {d : Nat} {y : qMY} {pc : Nat} {Z X : List qSh} {L : List (Option qV)} {S : List qV} {M : qM} {E : qR} (o : qOk g d y k) {n : Nat} {v : Int32} (hdg : decode y.2.1 pc = .ok (.istore n, 2)) (hn : n < y.2.2.1) (h : qAE g k y Z (pc + 2) (L.set n (some (.inl v))) S (X, M) E) : qAE g k y Z pc L (.inl v :: S) (X, M) E := by
  intro v0 M0 e0 r0
  obtain ⟨p, l, e, R, s, m, args, below, meth, c, cells, slots, Q⟩ := k
  obtain ⟨hx, hb, hml, hown, hts, hr, hlocks, hK, hRO, hDD, hR1, hR2, hc1, hc2⟩ := o
  intro H locs ls hN hP hS hl
  exact lv_istore hx hb hdg hl hn rfl (fun ls1 hl1 => h v0 M0 e0 r0 H locs ls1 hN hP hS (q_l_store (v := .inl v) hl1))

theorem qr_astore_n {g : qG} {k : qK} {d : Nat} {y : qMY} {pc : Nat} {Z X : List qSh} {L : List (Option qV)} {S : List qV} {M : qM} {E : qR} (o : qOk g d y k) {n : Fin 4} {i : Nat} (hdg : decode y.2.1 pc = .ok (.astore_n n, 1)) (hn : (n : Nat) < y.2.2.1) (h : qAE g k y Z (pc + 1) (L.set (n : Nat) (some (.inr (some i)))) S (X, M) E) : qAE g k y Z pc L (.inr (some i) :: S) (X, M) E := by
  intro v0 M0 e0 r0
  obtain ⟨p, l, e, R, s, m, args, below, meth, c, cells, slots, Q⟩ := k
  obtain ⟨hx, hb, hml, hown, hts, hr, hlocks, hK, hRO, hDD, hR1, hR2, hc1, hc2⟩ := o
  intro H locs ls hN hP hS hl
  exact lv_astore_n hx hb hdg rfl hl hn rfl (fun ls1 hl1 => h v0 M0 e0 r0 H locs ls1 hN hP hS (q_l_store (v := .inr (some i)) hl1))

theorem qr_iinc {g : qG} {k : qK} {d : Nat} {y : qMY} {pc : Nat} {Z X : List qSh} {L : List (Option qV)} {S : List qV} {M : qM} {E : qR} (o : qOk g d y k) {i : Nat} {n : Int} {v w : Int32} (hdg : decode y.2.1 pc = .ok (.iinc i n, 3)) (hv : L[i]? = some (some (.inl v))) (hw : v + Int32.ofInt n = w) (hn : i < y.2.2.1) (h : qAE g k y Z (pc + 3) (L.set i (some (.inl w))) S (X, M) E) : qAE g k y Z pc L S (X, M) E := by
  intro v0 M0 e0 r0
  obtain ⟨p, l, e, R, s, m, args, below, meth, c, cells, slots, Q⟩ := k
  obtain ⟨hx, hb, hml, hown, hts, hr, hlocks, hK, hRO, hDD, hR1, hR2, hc1, hc2⟩ := o
  intro H locs ls hN hP hS hl
  obtain ⟨j, hj⟩ := List.getElem?_of_mem (q_l_mem (ad := g.2.2.1) L 0 i hv)
  rw [Nat.zero_add] at hj
  exact lv_iinc hx hb hdg hl hj hw hn rfl (fun ls1 hl1 => h v0 M0 e0 r0 H locs ls1 hN hP hS (q_l_store (v := .inl w) hl1))

theorem qr_iadd {g : qG} {k : qK} {d : Nat} {y : qMY} {pc : Nat} {Z X : List qSh} {L : List (Option qV)} {S : List qV} {M : qM} {E : qR} (o : qOk g d y k) {a b : Int32} (hdg : decode y.2.1 pc = .ok (.iadd, 1)) (h : qAE g k y Z (pc + 1) L (.inl (a + b) :: S) (X, M) E) : qAE g k y Z pc L (.inl b :: .inl a :: S) (X, M) E := by
  intro v0 M0 e0 r0
  obtain ⟨p, l, e, R, s, m, args, below, meth, c, cells, slots, Q⟩ := k
  obtain ⟨hx, hb, hml, hown, hts, hr, hlocks, hK, hRO, hDD, hR1, hR2, hc1, hc2⟩ := o
  intro H locs ls hN hP hS hl
  exact lv_iadd hx hb hdg (h v0 M0 e0 r0 H locs ls hN hP hS hl)

theorem qr_isub {g : qG} {k : qK} {d : Nat} {y : qMY} {pc : Nat} {Z X : List qSh} {L : List (Option qV)} {S : List qV} {M : qM} {E : qR} (o : qOk g d y k) {a b : Int32} (hdg : decode y.2.1 pc = .ok (.isub, 1)) (h : qAE g k y Z (pc + 1) L (.inl (a - b) :: S) (X, M) E) : qAE g k y Z pc L (.inl b :: .inl a :: S) (X, M) E := by
  intro v0 M0 e0 r0
  obtain ⟨p, l, e, R, s, m, args, below, meth, c, cells, slots, Q⟩ := k
  obtain ⟨hx, hb, hml, hown, hts, hr, hlocks, hK, hRO, hDD, hR1, hR2, hc1, hc2⟩ := o
  intro H locs ls hN hP hS hl
  exact lv_isub hx hb hdg (h v0 M0 e0 r0 H locs ls hN hP hS hl)

theorem qr_imul {g : qG} {k : qK} {d : Nat} {y : qMY} {pc : Nat} {Z X : List qSh} {L : List (Option qV)} {S : List qV} {M : qM} {E : qR} (o : qOk g d y k) {a b : Int32} (hdg : decode y.2.1 pc = .ok (.imul, 1)) (h : qAE g k y Z (pc + 1) L (.inl (a * b) :: S) (X, M) E) : qAE g k y Z pc L (.inl b :: .inl a :: S) (X, M) E := by
  intro v0 M0 e0 r0
  obtain ⟨p, l, e, R, s, m, args, below, meth, c, cells, slots, Q⟩ := k
  obtain ⟨hx, hb, hml, hown, hts, hr, hlocks, hK, hRO, hDD, hR1, hR2, hc1, hc2⟩ := o
  intro H locs ls hN hP hS hl
  exact lv_imul hx hb hdg (h v0 M0 e0 r0 H locs ls hN hP hS hl)

theorem qr_iand {g : qG} {k : qK} {d : Nat} {y : qMY} {pc : Nat} {Z X : List qSh} {L : List (Option qV)} {S : List qV} {M : qM} {E : qR} (o : qOk g d y k) {a b : Int32} (hdg : decode y.2.1 pc = .ok (.iand, 1)) (h : qAE g k y Z (pc + 1) L (.inl (a &&& b) :: S) (X, M) E) : qAE g k y Z pc L (.inl b :: .inl a :: S) (X, M) E := by
  intro v0 M0 e0 r0
  obtain ⟨p, l, e, R, s, m, args, below, meth, c, cells, slots, Q⟩ := k
  obtain ⟨hx, hb, hml, hown, hts, hr, hlocks, hK, hRO, hDD, hR1, hR2, hc1, hc2⟩ := o
  intro H locs ls hN hP hS hl
  exact lv_iand hx hb hdg (h v0 M0 e0 r0 H locs ls hN hP hS hl)

theorem qr_ior {g : qG} {k : qK} {d : Nat} {y : qMY} {pc : Nat} {Z X : List qSh} {L : List (Option qV)} {S : List qV} {M : qM} {E : qR} (o : qOk g d y k) {a b : Int32} (hdg : decode y.2.1 pc = .ok (.ior, 1)) (h : qAE g k y Z (pc + 1) L (.inl (a ||| b) :: S) (X, M) E) : qAE g k y Z pc L (.inl b :: .inl a :: S) (X, M) E := by
  intro v0 M0 e0 r0
  obtain ⟨p, l, e, R, s, m, args, below, meth, c, cells, slots, Q⟩ := k
  obtain ⟨hx, hb, hml, hown, hts, hr, hlocks, hK, hRO, hDD, hR1, hR2, hc1, hc2⟩ := o
  intro H locs ls hN hP hS hl
  exact lv_ior hx hb hdg (h v0 M0 e0 r0 H locs ls hN hP hS hl)

theorem qr_ixor {g : qG} {k : qK} {d : Nat} {y : qMY} {pc : Nat} {Z X : List qSh} {L : List (Option qV)} {S : List qV} {M : qM} {E : qR} (o : qOk g d y k) {a b : Int32} (hdg : decode y.2.1 pc = .ok (.ixor, 1)) (h : qAE g k y Z (pc + 1) L (.inl (a ^^^ b) :: S) (X, M) E) : qAE g k y Z pc L (.inl b :: .inl a :: S) (X, M) E := by
  intro v0 M0 e0 r0
  obtain ⟨p, l, e, R, s, m, args, below, meth, c, cells, slots, Q⟩ := k
  obtain ⟨hx, hb, hml, hown, hts, hr, hlocks, hK, hRO, hDD, hR1, hR2, hc1, hc2⟩ := o
  intro H locs ls hN hP hS hl
  exact lv_ixor hx hb hdg (h v0 M0 e0 r0 H locs ls hN hP hS hl)

theorem qr_ishl {g : qG} {k : qK} {d : Nat} {y : qMY} {pc : Nat} {Z X : List qSh} {L : List (Option qV)} {S : List qV} {M : qM} {E : qR} (o : qOk g d y k) {a b : Int32} (hdg : decode y.2.1 pc = .ok (.ishl, 1)) (h : qAE g k y Z (pc + 1) L (.inl (a <<< (b &&& 31)) :: S) (X, M) E) : qAE g k y Z pc L (.inl b :: .inl a :: S) (X, M) E := by
  intro v0 M0 e0 r0
  obtain ⟨p, l, e, R, s, m, args, below, meth, c, cells, slots, Q⟩ := k
  obtain ⟨hx, hb, hml, hown, hts, hr, hlocks, hK, hRO, hDD, hR1, hR2, hc1, hc2⟩ := o
  intro H locs ls hN hP hS hl
  exact lv_ishl hx hb hdg (h v0 M0 e0 r0 H locs ls hN hP hS hl)

theorem qr_ishr {g : qG} {k : qK} {d : Nat} {y : qMY} {pc : Nat} {Z X : List qSh} {L : List (Option qV)} {S : List qV} {M : qM} {E : qR} (o : qOk g d y k) {a b : Int32} (hdg : decode y.2.1 pc = .ok (.ishr, 1)) (h : qAE g k y Z (pc + 1) L (.inl (a >>> (b &&& 31)) :: S) (X, M) E) : qAE g k y Z pc L (.inl b :: .inl a :: S) (X, M) E := by
  intro v0 M0 e0 r0
  obtain ⟨p, l, e, R, s, m, args, below, meth, c, cells, slots, Q⟩ := k
  obtain ⟨hx, hb, hml, hown, hts, hr, hlocks, hK, hRO, hDD, hR1, hR2, hc1, hc2⟩ := o
  intro H locs ls hN hP hS hl
  exact lv_ishr hx hb hdg (h v0 M0 e0 r0 H locs ls hN hP hS hl)

theorem qr_iushr {g : qG} {k : qK} {d : Nat} {y : qMY} {pc : Nat} {Z X : List qSh} {L : List (Option qV)} {S : List qV} {M : qM} {E : qR} (o : qOk g d y k) {a b : Int32} (hdg : decode y.2.1 pc = .ok (.iushr, 1)) (h : qAE g k y Z (pc + 1) L (.inl ((a.toUInt32 >>> (b.toUInt32 &&& Int32.toUInt32 31)).toInt32) :: S) (X, M) E) : qAE g k y Z pc L (.inl b :: .inl a :: S) (X, M) E := by
  intro v0 M0 e0 r0
  obtain ⟨p, l, e, R, s, m, args, below, meth, c, cells, slots, Q⟩ := k
  obtain ⟨hx, hb, hml, hown, hts, hr, hlocks, hK, hRO, hDD, hR1, hR2, hc1, hc2⟩ := o
  intro H locs ls hN hP hS hl
  exact lv_iushr hx hb hdg rfl (h v0 M0 e0 r0 H locs ls hN hP hS hl)

theorem qr_ineg {g : qG} {k : qK} {d : Nat} {y : qMY} {pc : Nat} {Z X : List qSh} {L : List (Option qV)} {S : List qV} {M : qM} {E : qR} (o : qOk g d y k) {a : Int32} (hdg : decode y.2.1 pc = .ok (.ineg, 1)) (h : qAE g k y Z (pc + 1) L (.inl (-a) :: S) (X, M) E) : qAE g k y Z pc L (.inl a :: S) (X, M) E := by
  intro v0 M0 e0 r0
  obtain ⟨p, l, e, R, s, m, args, below, meth, c, cells, slots, Q⟩ := k
  obtain ⟨hx, hb, hml, hown, hts, hr, hlocks, hK, hRO, hDD, hR1, hR2, hc1, hc2⟩ := o
  intro H locs ls hN hP hS hl
  exact lv_ineg hx hb hdg (h v0 M0 e0 r0 H locs ls hN hP hS hl)

theorem qr_i2b {g : qG} {k : qK} {d : Nat} {y : qMY} {pc : Nat} {Z X : List qSh} {L : List (Option qV)} {S : List qV} {M : qM} {E : qR} (o : qOk g d y k) {a : Int32} (hdg : decode y.2.1 pc = .ok (.i2b, 1)) (h : qAE g k y Z (pc + 1) L (.inl (a.toInt8.toInt32) :: S) (X, M) E) : qAE g k y Z pc L (.inl a :: S) (X, M) E := by
  intro v0 M0 e0 r0
  obtain ⟨p, l, e, R, s, m, args, below, meth, c, cells, slots, Q⟩ := k
  obtain ⟨hx, hb, hml, hown, hts, hr, hlocks, hK, hRO, hDD, hR1, hR2, hc1, hc2⟩ := o
  intro H locs ls hN hP hS hl
  exact lv_i2b hx hb hdg rfl (h v0 M0 e0 r0 H locs ls hN hP hS hl)

theorem qr_idiv {g : qG} {k : qK} {d : Nat} {y : qMY} {pc : Nat} {Z X : List qSh} {L : List (Option qV)} {S : List qV} {M : qM} {E : qR} (o : qOk g d y k) {a b : Int32} (hdg : decode y.2.1 pc = .ok (.idiv, 1)) (h : qAE g k y Z (pc + 1) L (.inl (a / b) :: S) (X, M) E) : qAE g k y Z pc L (.inl b :: .inl a :: S) (X, M) (qd b E) := by
  intro v0 M0 e0 r0
  obtain ⟨p, l, e, R, s, m, args, below, meth, c, cells, slots, Q⟩ := k
  obtain ⟨hx, hb, hml, hown, hts, hr, hlocks, hK, hRO, hDD, hR1, hR2, hc1, hc2⟩ := o
  intro H locs ls hN hP hS hl
  obtain ⟨e1, e0⟩ := qd_some e0
  exact lv_idiv hx hb hdg e1 (h v0 M0 e0 r0 H locs ls hN hP hS hl)

theorem qr_irem {g : qG} {k : qK} {d : Nat} {y : qMY} {pc : Nat} {Z X : List qSh} {L : List (Option qV)} {S : List qV} {M : qM} {E : qR} (o : qOk g d y k) {a b : Int32} (hdg : decode y.2.1 pc = .ok (.irem, 1)) (h : qAE g k y Z (pc + 1) L (.inl (a - a / b * b) :: S) (X, M) E) : qAE g k y Z pc L (.inl b :: .inl a :: S) (X, M) (qd b E) := by
  intro v0 M0 e0 r0
  obtain ⟨p, l, e, R, s, m, args, below, meth, c, cells, slots, Q⟩ := k
  obtain ⟨hx, hb, hml, hown, hts, hr, hlocks, hK, hRO, hDD, hR1, hR2, hc1, hc2⟩ := o
  intro H locs ls hN hP hS hl
  obtain ⟨e1, e0⟩ := qd_some e0
  exact lv_irem hx hb hdg e1 (h v0 M0 e0 r0 H locs ls hN hP hS hl)

theorem qr_idivc {g : qG} {k : qK} {d : Nat} {y : qMY} {pc : Nat} {Z X : List qSh} {L : List (Option qV)} {S : List qV} {M : qM} {E : qR} (o : qOk g d y k) {a b : Int32} (hdg : decode y.2.1 pc = .ok (.idiv, 1)) (hne : ¬ b = 0) (h : qAE g k y Z (pc + 1) L (.inl (a / b) :: S) (X, M) E) : qAE g k y Z pc L (.inl b :: .inl a :: S) (X, M) E := by
  intro v0 M0 e0 r0
  obtain ⟨p, l, e, R, s, m, args, below, meth, c, cells, slots, Q⟩ := k
  obtain ⟨hx, hb, hml, hown, hts, hr, hlocks, hK, hRO, hDD, hR1, hR2, hc1, hc2⟩ := o
  intro H locs ls hN hP hS hl
  exact lv_idiv hx hb hdg hne (h v0 M0 e0 r0 H locs ls hN hP hS hl)

theorem qr_iremc {g : qG} {k : qK} {d : Nat} {y : qMY} {pc : Nat} {Z X : List qSh} {L : List (Option qV)} {S : List qV} {M : qM} {E : qR} (o : qOk g d y k) {a b : Int32} (hdg : decode y.2.1 pc = .ok (.irem, 1)) (hne : ¬ b = 0) (h : qAE g k y Z (pc + 1) L (.inl (a - a / b * b) :: S) (X, M) E) : qAE g k y Z pc L (.inl b :: .inl a :: S) (X, M) E := by
  intro v0 M0 e0 r0
  obtain ⟨p, l, e, R, s, m, args, below, meth, c, cells, slots, Q⟩ := k
  obtain ⟨hx, hb, hml, hown, hts, hr, hlocks, hK, hRO, hDD, hR1, hR2, hc1, hc2⟩ := o
  intro H locs ls hN hP hS hl
  exact lv_irem hx hb hdg hne (h v0 M0 e0 r0 H locs ls hN hP hS hl)

theorem qr_dup {g : qG} {k : qK} {d : Nat} {y : qMY} {pc : Nat} {Z X : List qSh} {L : List (Option qV)} {S : List qV} {M : qM} {E : qR} (o : qOk g d y k) {a : qV} (hdg : decode y.2.1 pc = .ok (.dup, 1)) (h : qAE g k y Z (pc + 1) L (a :: a :: S) (X, M) E) : qAE g k y Z pc L (a :: S) (X, M) E := by
  intro v0 M0 e0 r0
  obtain ⟨p, l, e, R, s, m, args, below, meth, c, cells, slots, Q⟩ := k
  obtain ⟨hx, hb, hml, hown, hts, hr, hlocks, hK, hRO, hDD, hR1, hR2, hc1, hc2⟩ := o
  intro H locs ls hN hP hS hl
  exact lv_dup hx hb hdg (q_v_cat _ a) (h v0 M0 e0 r0 H locs ls hN hP hS hl)

theorem qr_pop {g : qG} {k : qK} {d : Nat} {y : qMY} {pc : Nat} {Z X : List qSh} {L : List (Option qV)} {S : List qV} {M : qM} {E : qR} (o : qOk g d y k) {a : qV} (hdg : decode y.2.1 pc = .ok (.pop, 1)) (h : qAE g k y Z (pc + 1) L S (X, M) E) : qAE g k y Z pc L (a :: S) (X, M) E := by
  intro v0 M0 e0 r0
  obtain ⟨p, l, e, R, s, m, args, below, meth, c, cells, slots, Q⟩ := k
  obtain ⟨hx, hb, hml, hown, hts, hr, hlocks, hK, hRO, hDD, hR1, hR2, hc1, hc2⟩ := o
  intro H locs ls hN hP hS hl
  exact lv_pop hx hb hdg (q_v_cat _ a) (h v0 M0 e0 r0 H locs ls hN hP hS hl)

theorem qr_dup2 {g : qG} {k : qK} {d : Nat} {y : qMY} {pc : Nat} {Z X : List qSh} {L : List (Option qV)} {S : List qV} {M : qM} {E : qR} (o : qOk g d y k) {a b : qV} (hdg : decode y.2.1 pc = .ok (.dup2, 1)) (h : qAE g k y Z (pc + 1) L (a :: b :: a :: b :: S) (X, M) E) : qAE g k y Z pc L (a :: b :: S) (X, M) E := by
  intro v0 M0 e0 r0
  obtain ⟨p, l, e, R, s, m, args, below, meth, c, cells, slots, Q⟩ := k
  obtain ⟨hx, hb, hml, hown, hts, hr, hlocks, hK, hRO, hDD, hR1, hR2, hc1, hc2⟩ := o
  intro H locs ls hN hP hS hl
  exact lv_dup2_11 hx hb hdg (q_v_cat _ a) (q_v_cat _ b) (h v0 M0 e0 r0 H locs ls hN hP hS hl)

theorem qr_goto {g : qG} {k : qK} {d : Nat} {y : qMY} {pc : Nat} {Z X : List qSh} {L : List (Option qV)} {S : List qV} {M : qM} {E : qR} (o : qOk g d y k) {off : Int} {tgt : Nat} (hdg : decode y.2.1 pc = .ok (.goto off, 3)) (ht : (pc : Int) + off = (tgt : Int)) (h : qAE g k y Z tgt L S (X, M) E) : qAE g k y Z pc L S (X, M) E := by
  intro v0 M0 e0 r0
  obtain ⟨p, l, e, R, s, m, args, below, meth, c, cells, slots, Q⟩ := k
  obtain ⟨hx, hb, hml, hown, hts, hr, hlocks, hK, hRO, hDD, hR1, hR2, hc1, hc2⟩ := o
  intro H locs ls hN hP hS hl
  exact lv_goto hx hb hdg ht (h v0 M0 e0 r0 H locs ls hN hP hS hl)

theorem qr_let {g : qG} {k : qK} {d : Nat} {y : qMY} {pc : Nat} {Z X : List qSh} {L : List (Option qV)} {S : List qV} {M : qM} {v : Int32} {f : Int32 → qR} (h : ∀ x : Int32, qAE g k y Z pc L (.inl x :: S) (X, M) (f x)) : qAE g k y Z pc L (.inl v :: S) (X, M) (ql v f) := h v

theorem qr_icmp_ne {g : qG} {k : qK} {d : Nat} {y : qMY} {pc : Nat} {Z X : List qSh} {L : List (Option qV)} {S : List qV} {M : qM} {E1 E2 : qR} (o : qOk g d y k) {a b : Int32} {off : Int} {tgt : Nat} (hdg : decode y.2.1 pc = .ok (.if_icmp .ne off, 3)) (ht : (pc : Int) + off = (tgt : Int)) (h1 : qAE g k y Z tgt L S (X, M) E1) (h2 : qAE g k y Z (pc + 3) L S (X, M) E2) : qAE g k y Z pc L (.inl b :: .inl a :: S) (X, M) (if a = b then E2 else E1) := by
  intro v0 M0 e0 r0
  obtain ⟨p, l, e, R, s, m, args, below, meth, c, cells, slots, Q⟩ := k
  obtain ⟨hx, hb, hml, hown, hts, hr, hlocks, hK, hRO, hDD, hR1, hR2, hc1, hc2⟩ := o
  intro H locs ls hN hP hS hl
  exact lv_icmp_ne hx hb hdg ht (fun hc => h1 v0 M0 (by rw [if_neg hc] at e0; exact e0) r0 H locs ls hN hP hS hl) (fun hc => h2 v0 M0 (by rw [if_pos hc] at e0; exact e0) r0 H locs ls hN hP hS hl)

theorem qr_if_ne {g : qG} {k : qK} {d : Nat} {y : qMY} {pc : Nat} {Z X : List qSh} {L : List (Option qV)} {S : List qV} {M : qM} {E1 E2 : qR} (o : qOk g d y k) {a : Int32} {off : Int} {tgt : Nat} (hdg : decode y.2.1 pc = .ok (.ifCond .ne off, 3)) (ht : (pc : Int) + off = (tgt : Int)) (h1 : qAE g k y Z tgt L S (X, M) E1) (h2 : qAE g k y Z (pc + 3) L S (X, M) E2) : qAE g k y Z pc L (.inl a :: S) (X, M) (if a = 0 then E2 else E1) := by
  intro v0 M0 e0 r0
  obtain ⟨p, l, e, R, s, m, args, below, meth, c, cells, slots, Q⟩ := k
  obtain ⟨hx, hb, hml, hown, hts, hr, hlocks, hK, hRO, hDD, hR1, hR2, hc1, hc2⟩ := o
  intro H locs ls hN hP hS hl
  exact lv_if_ne hx hb hdg ht (fun hc => h1 v0 M0 (by rw [if_neg hc] at e0; exact e0) r0 H locs ls hN hP hS hl) (fun hc => h2 v0 M0 (by rw [if_pos hc] at e0; exact e0) r0 H locs ls hN hP hS hl)

theorem qr_icmp_eq {g : qG} {k : qK} {d : Nat} {y : qMY} {pc : Nat} {Z X : List qSh} {L : List (Option qV)} {S : List qV} {M : qM} {E1 E2 : qR} (o : qOk g d y k) {a b : Int32} {off : Int} {tgt : Nat} (hdg : decode y.2.1 pc = .ok (.if_icmp .eq off, 3)) (ht : (pc : Int) + off = (tgt : Int)) (h1 : qAE g k y Z tgt L S (X, M) E1) (h2 : qAE g k y Z (pc + 3) L S (X, M) E2) : qAE g k y Z pc L (.inl b :: .inl a :: S) (X, M) (if a = b then E1 else E2) := by
  intro v0 M0 e0 r0
  obtain ⟨p, l, e, R, s, m, args, below, meth, c, cells, slots, Q⟩ := k
  obtain ⟨hx, hb, hml, hown, hts, hr, hlocks, hK, hRO, hDD, hR1, hR2, hc1, hc2⟩ := o
  intro H locs ls hN hP hS hl
  exact lv_icmp_eq hx hb hdg ht (fun hc => h1 v0 M0 (by rw [if_pos hc] at e0; exact e0) r0 H locs ls hN hP hS hl) (fun hc => h2 v0 M0 (by rw [if_neg hc] at e0; exact e0) r0 H locs ls hN hP hS hl)

theorem qr_icmp_lt {g : qG} {k : qK} {d : Nat} {y : qMY} {pc : Nat} {Z X : List qSh} {L : List (Option qV)} {S : List qV} {M : qM} {E1 E2 : qR} (o : qOk g d y k) {a b : Int32} {off : Int} {tgt : Nat} (hdg : decode y.2.1 pc = .ok (.if_icmp .lt off, 3)) (ht : (pc : Int) + off = (tgt : Int)) (h1 : qAE g k y Z tgt L S (X, M) E1) (h2 : qAE g k y Z (pc + 3) L S (X, M) E2) : qAE g k y Z pc L (.inl b :: .inl a :: S) (X, M) (if a < b then E1 else E2) := by
  intro v0 M0 e0 r0
  obtain ⟨p, l, e, R, s, m, args, below, meth, c, cells, slots, Q⟩ := k
  obtain ⟨hx, hb, hml, hown, hts, hr, hlocks, hK, hRO, hDD, hR1, hR2, hc1, hc2⟩ := o
  intro H locs ls hN hP hS hl
  exact lv_icmp_lt hx hb hdg ht (fun hc => h1 v0 M0 (by rw [if_pos hc] at e0; exact e0) r0 H locs ls hN hP hS hl) (fun hc => h2 v0 M0 (by rw [if_neg hc] at e0; exact e0) r0 H locs ls hN hP hS hl)

theorem qr_icmp_ge {g : qG} {k : qK} {d : Nat} {y : qMY} {pc : Nat} {Z X : List qSh} {L : List (Option qV)} {S : List qV} {M : qM} {E1 E2 : qR} (o : qOk g d y k) {a b : Int32} {off : Int} {tgt : Nat} (hdg : decode y.2.1 pc = .ok (.if_icmp .ge off, 3)) (ht : (pc : Int) + off = (tgt : Int)) (h1 : qAE g k y Z tgt L S (X, M) E1) (h2 : qAE g k y Z (pc + 3) L S (X, M) E2) : qAE g k y Z pc L (.inl b :: .inl a :: S) (X, M) (if b ≤ a then E1 else E2) := by
  intro v0 M0 e0 r0
  obtain ⟨p, l, e, R, s, m, args, below, meth, c, cells, slots, Q⟩ := k
  obtain ⟨hx, hb, hml, hown, hts, hr, hlocks, hK, hRO, hDD, hR1, hR2, hc1, hc2⟩ := o
  intro H locs ls hN hP hS hl
  exact lv_icmp_ge hx hb hdg ht (fun hc => h1 v0 M0 (by rw [if_pos hc] at e0; exact e0) r0 H locs ls hN hP hS hl) (fun hc => h2 v0 M0 (by rw [if_neg hc] at e0; exact e0) r0 H locs ls hN hP hS hl)

theorem qr_icmp_gt {g : qG} {k : qK} {d : Nat} {y : qMY} {pc : Nat} {Z X : List qSh} {L : List (Option qV)} {S : List qV} {M : qM} {E1 E2 : qR} (o : qOk g d y k) {a b : Int32} {off : Int} {tgt : Nat} (hdg : decode y.2.1 pc = .ok (.if_icmp .gt off, 3)) (ht : (pc : Int) + off = (tgt : Int)) (h1 : qAE g k y Z tgt L S (X, M) E1) (h2 : qAE g k y Z (pc + 3) L S (X, M) E2) : qAE g k y Z pc L (.inl b :: .inl a :: S) (X, M) (if b < a then E1 else E2) := by
  intro v0 M0 e0 r0
  obtain ⟨p, l, e, R, s, m, args, below, meth, c, cells, slots, Q⟩ := k
  obtain ⟨hx, hb, hml, hown, hts, hr, hlocks, hK, hRO, hDD, hR1, hR2, hc1, hc2⟩ := o
  intro H locs ls hN hP hS hl
  exact lv_icmp_gt hx hb hdg ht (fun hc => h1 v0 M0 (by rw [if_pos hc] at e0; exact e0) r0 H locs ls hN hP hS hl) (fun hc => h2 v0 M0 (by rw [if_neg hc] at e0; exact e0) r0 H locs ls hN hP hS hl)

theorem qr_icmp_le {g : qG} {k : qK} {d : Nat} {y : qMY} {pc : Nat} {Z X : List qSh} {L : List (Option qV)} {S : List qV} {M : qM} {E1 E2 : qR} (o : qOk g d y k) {a b : Int32} {off : Int} {tgt : Nat} (hdg : decode y.2.1 pc = .ok (.if_icmp .le off, 3)) (ht : (pc : Int) + off = (tgt : Int)) (h1 : qAE g k y Z tgt L S (X, M) E1) (h2 : qAE g k y Z (pc + 3) L S (X, M) E2) : qAE g k y Z pc L (.inl b :: .inl a :: S) (X, M) (if a ≤ b then E1 else E2) := by
  intro v0 M0 e0 r0
  obtain ⟨p, l, e, R, s, m, args, below, meth, c, cells, slots, Q⟩ := k
  obtain ⟨hx, hb, hml, hown, hts, hr, hlocks, hK, hRO, hDD, hR1, hR2, hc1, hc2⟩ := o
  intro H locs ls hN hP hS hl
  exact lv_icmp_le hx hb hdg ht (fun hc => h1 v0 M0 (by rw [if_pos hc] at e0; exact e0) r0 H locs ls hN hP hS hl) (fun hc => h2 v0 M0 (by rw [if_neg hc] at e0; exact e0) r0 H locs ls hN hP hS hl)

theorem qr_if_eq {g : qG} {k : qK} {d : Nat} {y : qMY} {pc : Nat} {Z X : List qSh} {L : List (Option qV)} {S : List qV} {M : qM} {E1 E2 : qR} (o : qOk g d y k) {a : Int32} {off : Int} {tgt : Nat} (hdg : decode y.2.1 pc = .ok (.ifCond .eq off, 3)) (ht : (pc : Int) + off = (tgt : Int)) (h1 : qAE g k y Z tgt L S (X, M) E1) (h2 : qAE g k y Z (pc + 3) L S (X, M) E2) : qAE g k y Z pc L (.inl a :: S) (X, M) (if a = 0 then E1 else E2) := by
  intro v0 M0 e0 r0
  obtain ⟨p, l, e, R, s, m, args, below, meth, c, cells, slots, Q⟩ := k
  obtain ⟨hx, hb, hml, hown, hts, hr, hlocks, hK, hRO, hDD, hR1, hR2, hc1, hc2⟩ := o
  intro H locs ls hN hP hS hl
  exact lv_if_eq hx hb hdg ht (fun hc => h1 v0 M0 (by rw [if_pos hc] at e0; exact e0) r0 H locs ls hN hP hS hl) (fun hc => h2 v0 M0 (by rw [if_neg hc] at e0; exact e0) r0 H locs ls hN hP hS hl)

theorem qr_if_lt {g : qG} {k : qK} {d : Nat} {y : qMY} {pc : Nat} {Z X : List qSh} {L : List (Option qV)} {S : List qV} {M : qM} {E1 E2 : qR} (o : qOk g d y k) {a : Int32} {off : Int} {tgt : Nat} (hdg : decode y.2.1 pc = .ok (.ifCond .lt off, 3)) (ht : (pc : Int) + off = (tgt : Int)) (h1 : qAE g k y Z tgt L S (X, M) E1) (h2 : qAE g k y Z (pc + 3) L S (X, M) E2) : qAE g k y Z pc L (.inl a :: S) (X, M) (if a < 0 then E1 else E2) := by
  intro v0 M0 e0 r0
  obtain ⟨p, l, e, R, s, m, args, below, meth, c, cells, slots, Q⟩ := k
  obtain ⟨hx, hb, hml, hown, hts, hr, hlocks, hK, hRO, hDD, hR1, hR2, hc1, hc2⟩ := o
  intro H locs ls hN hP hS hl
  exact lv_if_lt hx hb hdg ht (fun hc => h1 v0 M0 (by rw [if_pos hc] at e0; exact e0) r0 H locs ls hN hP hS hl) (fun hc => h2 v0 M0 (by rw [if_neg hc] at e0; exact e0) r0 H locs ls hN hP hS hl)

theorem qr_if_ge {g : qG} {k : qK} {d : Nat} {y : qMY} {pc : Nat} {Z X : List qSh} {L : List (Option qV)} {S : List qV} {M : qM} {E1 E2 : qR} (o : qOk g d y k) {a : Int32} {off : Int} {tgt : Nat} (hdg : decode y.2.1 pc = .ok (.ifCond .ge off, 3)) (ht : (pc : Int) + off = (tgt : Int)) (h1 : qAE g k y Z tgt L S (X, M) E1) (h2 : qAE g k y Z (pc + 3) L S (X, M) E2) : qAE g k y Z pc L (.inl a :: S) (X, M) (if 0 ≤ a then E1 else E2) := by
  intro v0 M0 e0 r0
  obtain ⟨p, l, e, R, s, m, args, below, meth, c, cells, slots, Q⟩ := k
  obtain ⟨hx, hb, hml, hown, hts, hr, hlocks, hK, hRO, hDD, hR1, hR2, hc1, hc2⟩ := o
  intro H locs ls hN hP hS hl
  exact lv_if_ge hx hb hdg ht (fun hc => h1 v0 M0 (by rw [if_pos hc] at e0; exact e0) r0 H locs ls hN hP hS hl) (fun hc => h2 v0 M0 (by rw [if_neg hc] at e0; exact e0) r0 H locs ls hN hP hS hl)

theorem qr_if_gt {g : qG} {k : qK} {d : Nat} {y : qMY} {pc : Nat} {Z X : List qSh} {L : List (Option qV)} {S : List qV} {M : qM} {E1 E2 : qR} (o : qOk g d y k) {a : Int32} {off : Int} {tgt : Nat} (hdg : decode y.2.1 pc = .ok (.ifCond .gt off, 3)) (ht : (pc : Int) + off = (tgt : Int)) (h1 : qAE g k y Z tgt L S (X, M) E1) (h2 : qAE g k y Z (pc + 3) L S (X, M) E2) : qAE g k y Z pc L (.inl a :: S) (X, M) (if 0 < a then E1 else E2) := by
  intro v0 M0 e0 r0
  obtain ⟨p, l, e, R, s, m, args, below, meth, c, cells, slots, Q⟩ := k
  obtain ⟨hx, hb, hml, hown, hts, hr, hlocks, hK, hRO, hDD, hR1, hR2, hc1, hc2⟩ := o
  intro H locs ls hN hP hS hl
  exact lv_if_gt hx hb hdg ht (fun hc => h1 v0 M0 (by rw [if_pos hc] at e0; exact e0) r0 H locs ls hN hP hS hl) (fun hc => h2 v0 M0 (by rw [if_neg hc] at e0; exact e0) r0 H locs ls hN hP hS hl)

theorem qr_if_le {g : qG} {k : qK} {d : Nat} {y : qMY} {pc : Nat} {Z X : List qSh} {L : List (Option qV)} {S : List qV} {M : qM} {E1 E2 : qR} (o : qOk g d y k) {a : Int32} {off : Int} {tgt : Nat} (hdg : decode y.2.1 pc = .ok (.ifCond .le off, 3)) (ht : (pc : Int) + off = (tgt : Int)) (h1 : qAE g k y Z tgt L S (X, M) E1) (h2 : qAE g k y Z (pc + 3) L S (X, M) E2) : qAE g k y Z pc L (.inl a :: S) (X, M) (if a ≤ 0 then E1 else E2) := by
  intro v0 M0 e0 r0
  obtain ⟨p, l, e, R, s, m, args, below, meth, c, cells, slots, Q⟩ := k
  obtain ⟨hx, hb, hml, hown, hts, hr, hlocks, hK, hRO, hDD, hR1, hR2, hc1, hc2⟩ := o
  intro H locs ls hN hP hS hl
  exact lv_if_le hx hb hdg ht (fun hc => h1 v0 M0 (by rw [if_pos hc] at e0; exact e0) r0 H locs ls hN hP hS hl) (fun hc => h2 v0 M0 (by rw [if_neg hc] at e0; exact e0) r0 H locs ls hN hP hS hl)

theorem qr_getf {g : qG} {k : qK} {d : Nat} {y : qMY} {pc : Nat} {Z X : List qSh} {L : List (Option qV)} {S : List qV} {M : qM} {E : qR} (o : qOk g d y k) {i ci n idx kf : Nat} {fds : List (Option (Option Nat))} {C : String} {T : u_T} (hC : qC ci C T n) (hsh : X[i]? = some (.inr (ci, fds))) (hf : fds[kf]? = some none) (hk : kf < n) (hlk : Cond.fieldLink y.1.cls idx (T kf).1 (T kf).2.1 (T kf).2.2.1 ∈ q_tbl) (hdg : decode y.2.1 pc = .ok (.getfield idx, 3)) (h : qAE g k y Z (pc + 3) L (.inl (M i kf) :: S) (X, M) E) : qAE g k y Z pc L (.inr (some i) :: S) (X, M) E := by
  intro v0 M0 e0 r0
  obtain ⟨p, l, e, R, s, m, args, below, meth, c, cells, slots, Q⟩ := k
  obtain ⟨hx, hb, hml, hown, hts, hr, hlocks, hK, hRO, hDD, hR1, hR2, hc1, hc2⟩ := o
  intro H locs ls hN hP hS hl
  exact va_get hx hb hts hC.2.1 hown hK hP i (q_w_at (g := g) (st := (X, M)) hsh) hC.1 kf hk (hts _ hlk) (fun _ q => q) (by have := q_fl_at (ad := g.2.2.1) (f := M i) fds 0 kf hf; rwa [Nat.zero_add] at this) hdg (h v0 M0 e0 r0 H locs ls hN hP hS hl)

theorem qr_getr {g : qG} {k : qK} {d : Nat} {y : qMY} {pc : Nat} {Z X : List qSh} {L : List (Option qV)} {S : List qV} {M : qM} {E : qR} (o : qOk g d y k) {i j ci n idx kf : Nat} {fds : List (Option (Option Nat))} {C : String} {T : u_T} (hC : qC ci C T n) (hsh : X[i]? = some (.inr (ci, fds))) (hf : fds[kf]? = some (some (some j))) (hk : kf < n) (hlk : Cond.fieldLink y.1.cls idx (T kf).1 (T kf).2.1 (T kf).2.2.1 ∈ q_tbl) (hdg : decode y.2.1 pc = .ok (.getfield idx, 3)) (h : qAE g k y Z (pc + 3) L (.inr (some j) :: S) (X, M) E) : qAE g k y Z pc L (.inr (some i) :: S) (X, M) E := by
  intro v0 M0 e0 r0
  obtain ⟨p, l, e, R, s, m, args, below, meth, c, cells, slots, Q⟩ := k
  obtain ⟨hx, hb, hml, hown, hts, hr, hlocks, hK, hRO, hDD, hR1, hR2, hc1, hc2⟩ := o
  intro H locs ls hN hP hS hl
  exact va_get hx hb hts hC.2.1 hown hK hP i (q_w_at (g := g) (st := (X, M)) hsh) hC.1 kf hk (hts _ hlk) (fun _ q => q) (q_fl_atr (ad := g.2.2.1) (f := M i) fds 0 kf hf) hdg (h v0 M0 e0 r0 H locs ls hN hP hS hl)

theorem qr_putf {g : qG} {k : qK} {d : Nat} {y : qMY} {pc : Nat} {Z X : List qSh} {L : List (Option qV)} {S : List qV} {M : qM} {E : qR} (o : qOk g d y k) {i ci n idx kf : Nat} {fds : List (Option (Option Nat))} {C : String} {T : u_T} {v : Int32} (hC : qC ci C T n) (hsh : X[i]? = some (.inr (ci, fds))) (hf : fds[kf]? = some none) (hk : kf < n) (hlk : Cond.fieldLink y.1.cls idx (T kf).1 (T kf).2.1 (T kf).2.2.1 ∈ q_tbl) (hfin : (T kf).2.2.2 = false) (hty : parseFieldDescriptor (T kf).2.2.1 = some .int) (hdg : decode y.2.1 pc = .ok (.putfield idx, 3)) (h : qAE g k y Z (pc + 3) L S (X, mu M i kf v) E) : qAE g k y Z pc L (.inl v :: .inr (some i) :: S) (X, M) E := by
  intro v0 M0 e0 r0
  obtain ⟨p, l, e, R, s, m, args, below, meth, c, cells, slots, Q⟩ := k
  obtain ⟨hx, hb, hml, hown, hts, hr, hlocks, hK, hRO, hDD, hR1, hR2, hc1, hc2⟩ := o
  intro H locs ls hN hP hS hl
  obtain ⟨ty0, hty0⟩ := hC.2.2.1
  have hlen : kf < (q_fl g.2.2.1 (M i) 0 fds).length := by rw [q_fl_len]; exact (List.getElem?_eq_some_iff.mp hf).1
  refine va_put hx hb hts hC.2.1 ty0 hty0 hC.2.2.2 hown hK hP (q_D hDD hN) hS i (q_w_at (g := g) (st := (X, M)) hsh) hC.1 kf hk (hts _ hlk) (fun _ q => q) hfin hty rfl rfl hlen hdg (fun H1 locs1 hP1 _ hS1 => ?_)
  exact h v0 M0 e0 r0 H1 locs1 ls hN (by rw [← q_w_setf (g := g) (st := (X, M)) hsh hf]; exact hP1) hS1 hl

theorem qr_putz {g : qG} {k : qK} {d : Nat} {y : qMY} {pc : Nat} {Z X : List qSh} {L : List (Option qV)} {S : List qV} {M : qM} {E : qR} (o : qOk g d y k) {i ci n idx kf : Nat} {fds : List (Option (Option Nat))} {C : String} {T : u_T} {v : Int32} (hC : qC ci C T n) (hsh : X[i]? = some (.inr (ci, fds))) (hf : fds[kf]? = some none) (hk : kf < n) (hlk : Cond.fieldLink y.1.cls idx (T kf).1 (T kf).2.1 (T kf).2.2.1 ∈ q_tbl) (hfin : (T kf).2.2.2 = false) (hty : parseFieldDescriptor (T kf).2.2.1 = some .boolean) (hv : v = 0 ∨ v = 1) (hdg : decode y.2.1 pc = .ok (.putfield idx, 3)) (h : qAE g k y Z (pc + 3) L S (X, mu M i kf v) E) : qAE g k y Z pc L (.inl v :: .inr (some i) :: S) (X, M) E := by
  intro v0 M0 e0 r0
  obtain ⟨p, l, e, R, s, m, args, below, meth, c, cells, slots, Q⟩ := k
  obtain ⟨hx, hb, hml, hown, hts, hr, hlocks, hK, hRO, hDD, hR1, hR2, hc1, hc2⟩ := o
  intro H locs ls hN hP hS hl
  obtain ⟨ty0, hty0⟩ := hC.2.2.1
  have hlen : kf < (q_fl g.2.2.1 (M i) 0 fds).length := by rw [q_fl_len]; exact (List.getElem?_eq_some_iff.mp hf).1
  refine va_put hx hb hts hC.2.1 ty0 hty0 hC.2.2.2 hown hK hP (q_D hDD hN) hS i (q_w_at (g := g) (st := (X, M)) hsh) hC.1 kf hk (hts _ hlk) (fun _ q => q) hfin hty (q_nz hv) (by rcases hv with rfl | rfl <;> rfl) hlen hdg (fun H1 locs1 hP1 _ hS1 => ?_)
  exact h v0 M0 e0 r0 H1 locs1 ls hN (by rw [← q_w_setf (g := g) (st := (X, M)) hsh hf]; exact hP1) hS1 hl

theorem qr_putr {g : qG} {k : qK} {d : Nat} {y : qMY} {pc : Nat} {Z X : List qSh} {L : List (Option qV)} {S : List qV} {M : qM} {E : qR} (o : qOk g d y k) {i j ci n idx kf : Nat} {fds : List (Option (Option Nat))} {C C2 : String} {T : u_T} {z : Option Nat} (hC : qC ci C T n) (hsh : X[i]? = some (.inr (ci, fds))) (hf : fds[kf]? = some (some z)) (hk : kf < n) (hlk : Cond.fieldLink y.1.cls idx (T kf).1 (T kf).2.1 (T kf).2.2.1 ∈ q_tbl) (hfin : (T kf).2.2.2 = false) (hty : parseFieldDescriptor (T kf).2.2.1 = some (.object C2)) (hdg : decode y.2.1 pc = .ok (.putfield idx, 3)) (h : qAE g k y Z (pc + 3) L S (X.set i (.inr (ci, fds.set kf (some (some j)))), M) E) : qAE g k y Z pc L (.inr (some j) :: .inr (some i) :: S) (X, M) E := by
  intro v0 M0 e0 r0
  obtain ⟨p, l, e, R, s, m, args, below, meth, c, cells, slots, Q⟩ := k
  obtain ⟨hx, hb, hml, hown, hts, hr, hlocks, hK, hRO, hDD, hR1, hR2, hc1, hc2⟩ := o
  intro H locs ls hN hP hS hl
  obtain ⟨ty0, hty0⟩ := hC.2.2.1
  have hlen : kf < (q_fl g.2.2.1 (M i) 0 fds).length := by rw [q_fl_len]; exact (List.getElem?_eq_some_iff.mp hf).1
  refine va_put hx hb hts hC.2.1 ty0 hty0 hC.2.2.2 hown hK hP (q_D hDD hN) hS i (q_w_at (g := g) (st := (X, M)) hsh) hC.1 kf hk (hts _ hlk) (fun _ q => q) hfin hty (v := .ref (g.2.2.1 j)) rfl rfl hlen hdg (fun H1 locs1 hP1 _ hS1 => ?_)
  exact h v0 M0 e0 r0 H1 locs1 ls (by simpa using hN) (by rw [← q_w_setr (g := g) (st := (X, M)) (x := some j) hsh ⟨z, hf⟩]; exact hP1) hS1 hl

theorem qr_iald {g : qG} {k : qK} {d : Nat} {y : qMY} {pc : Nat} {Z X : List qSh} {L : List (Option qV)} {S : List qV} {M : qM} {E : qR} (o : qOk g d y k) {i n : Nat} {j : Int32} (hsh : X[i]? = some (.inl (0, n))) (hdg : decode y.2.1 pc = .ok (.iaload, 1)) (h : qAE g k y Z (pc + 1) L (.inl (M i j.toNatClampNeg) :: S) (X, M) E) : qAE g k y Z pc L (.inl j :: .inr (some i) :: S) (X, M) (qg j n E) := by
  intro v0 M0 e0 r0
  obtain ⟨p, l, e, R, s, m, args, below, meth, c, cells, slots, Q⟩ := k
  obtain ⟨hx, hb, hml, hown, hts, hr, hlocks, hK, hRO, hDD, hR1, hR2, hc1, hc2⟩ := o
  intro H locs ls hN hP hS hl
  obtain ⟨e1, e0⟩ := qg_some e0
  exact va_iald hx hb hK hP i 0 (q_w_at (g := g) (st := (X, M)) hsh) rfl e1 hdg (h v0 M0 e0 r0 H locs ls hN hP hS hl)

theorem qr_bald {g : qG} {k : qK} {d : Nat} {y : qMY} {pc : Nat} {Z X : List qSh} {L : List (Option qV)} {S : List qV} {M : qM} {E : qR} (o : qOk g d y k) {i n : Nat} {j : Int32} (hsh : X[i]? = some (.inl (1, n))) (hdg : decode y.2.1 pc = .ok (.baload, 1)) (h : qAE g k y Z (pc + 1) L (.inl (M i j.toNatClampNeg) :: S) (X, M) E) : qAE g k y Z pc L (.inl j :: .inr (some i) :: S) (X, M) (qg j n E) := by
  intro v0 M0 e0 r0
  obtain ⟨p, l, e, R, s, m, args, below, meth, c, cells, slots, Q⟩ := k
  obtain ⟨hx, hb, hml, hown, hts, hr, hlocks, hK, hRO, hDD, hR1, hR2, hc1, hc2⟩ := o
  intro H locs ls hN hP hS hl
  obtain ⟨e1, e0⟩ := qg_some e0
  exact va_bald hx hb hK hP i 1 (q_w_at (g := g) (st := (X, M)) hsh) rfl e1 hdg (h v0 M0 e0 r0 H locs ls hN hP hS hl)

theorem qr_zald {g : qG} {k : qK} {d : Nat} {y : qMY} {pc : Nat} {Z X : List qSh} {L : List (Option qV)} {S : List qV} {M : qM} {E : qR} (o : qOk g d y k) {i n : Nat} {j : Int32} (hsh : X[i]? = some (.inl (2, n))) (hdg : decode y.2.1 pc = .ok (.baload, 1)) (h : qAE g k y Z (pc + 1) L (.inl (M i j.toNatClampNeg) :: S) (X, M) E) : qAE g k y Z pc L (.inl j :: .inr (some i) :: S) (X, M) (qg j n E) := by
  intro v0 M0 e0 r0
  obtain ⟨p, l, e, R, s, m, args, below, meth, c, cells, slots, Q⟩ := k
  obtain ⟨hx, hb, hml, hown, hts, hr, hlocks, hK, hRO, hDD, hR1, hR2, hc1, hc2⟩ := o
  intro H locs ls hN hP hS hl
  obtain ⟨e1, e0⟩ := qg_some e0
  exact va_zald hx hb hK hP i 2 (q_w_at (g := g) (st := (X, M)) hsh) rfl e1 hdg (h v0 M0 e0 r0 H locs ls hN hP hS hl)

theorem qr_iast {g : qG} {k : qK} {d : Nat} {y : qMY} {pc : Nat} {Z X : List qSh} {L : List (Option qV)} {S : List qV} {M : qM} {E : qR} (o : qOk g d y k) {i n : Nat} {j x : Int32} (hsh : X[i]? = some (.inl (0, n))) (hdg : decode y.2.1 pc = .ok (.iastore, 1)) (h : qAE g k y Z (pc + 1) L S (X, mu M i j.toNatClampNeg (x)) E) : qAE g k y Z pc L (.inl x :: .inl j :: .inr (some i) :: S) (X, M) (qg j n E) := by
  intro v0 M0 e0 r0
  obtain ⟨p, l, e, R, s, m, args, below, meth, c, cells, slots, Q⟩ := k
  obtain ⟨hx, hb, hml, hown, hts, hr, hlocks, hK, hRO, hDD, hR1, hR2, hc1, hc2⟩ := o
  intro H locs ls hN hP hS hl
  obtain ⟨e1, e0⟩ := qg_some e0
  refine va_iast hx hb hK hP (q_D hDD hN) hS i 0 (q_w_at (g := g) (st := (X, M)) hsh) rfl e1 hdg (fun H1 locs1 hP1 _ hS1 => ?_)
  exact h v0 M0 e0 r0 H1 locs1 ls hN (by rw [← q_w_seta (g := g) (st := (X, M)) hsh]; exact hP1) hS1 hl

theorem qr_bast {g : qG} {k : qK} {d : Nat} {y : qMY} {pc : Nat} {Z X : List qSh} {L : List (Option qV)} {S : List qV} {M : qM} {E : qR} (o : qOk g d y k) {i n : Nat} {j x : Int32} (hsh : X[i]? = some (.inl (1, n))) (hdg : decode y.2.1 pc = .ok (.bastore, 1)) (h : qAE g k y Z (pc + 1) L S (X, mu M i j.toNatClampNeg (vp_nar .byte x)) E) : qAE g k y Z pc L (.inl x :: .inl j :: .inr (some i) :: S) (X, M) (qg j n E) := by
  intro v0 M0 e0 r0
  obtain ⟨p, l, e, R, s, m, args, below, meth, c, cells, slots, Q⟩ := k
  obtain ⟨hx, hb, hml, hown, hts, hr, hlocks, hK, hRO, hDD, hR1, hR2, hc1, hc2⟩ := o
  intro H locs ls hN hP hS hl
  obtain ⟨e1, e0⟩ := qg_some e0
  refine va_bast hx hb hK hP (q_D hDD hN) hS i 1 (q_w_at (g := g) (st := (X, M)) hsh) rfl e1 hdg (fun H1 locs1 hP1 _ hS1 => ?_)
  exact h v0 M0 e0 r0 H1 locs1 ls hN (by rw [← q_w_seta (g := g) (st := (X, M)) hsh]; exact hP1) hS1 hl

theorem qr_zast {g : qG} {k : qK} {d : Nat} {y : qMY} {pc : Nat} {Z X : List qSh} {L : List (Option qV)} {S : List qV} {M : qM} {E : qR} (o : qOk g d y k) {i n : Nat} {j x : Int32} (hsh : X[i]? = some (.inl (2, n))) (hdg : decode y.2.1 pc = .ok (.bastore, 1)) (h : qAE g k y Z (pc + 1) L S (X, mu M i j.toNatClampNeg (vp_nar .boolean x)) E) : qAE g k y Z pc L (.inl x :: .inl j :: .inr (some i) :: S) (X, M) (qg j n E) := by
  intro v0 M0 e0 r0
  obtain ⟨p, l, e, R, s, m, args, below, meth, c, cells, slots, Q⟩ := k
  obtain ⟨hx, hb, hml, hown, hts, hr, hlocks, hK, hRO, hDD, hR1, hR2, hc1, hc2⟩ := o
  intro H locs ls hN hP hS hl
  obtain ⟨e1, e0⟩ := qg_some e0
  refine va_zast hx hb hK hP (q_D hDD hN) hS i 2 (q_w_at (g := g) (st := (X, M)) hsh) rfl e1 hdg (fun H1 locs1 hP1 _ hS1 => ?_)
  exact h v0 M0 e0 r0 H1 locs1 ls hN (by rw [← q_w_seta (g := g) (st := (X, M)) hsh]; exact hP1) hS1 hl

theorem qr_sald {g : qG} {k : qK} {d : Nat} {y : qMY} {pc : Nat} {Z X : List qSh} {L : List (Option qV)} {S : List qV} {M : qM} {E : qR} (o : qOk g d y k) {j : Int32} (hdg : decode y.2.1 pc = .ok (.iaload, 1)) (h : qAE g k y Z (pc + 1) L (.inl (g.2.2.2.2.2.2 j.toNatClampNeg) :: S) (X, M) E) : qAE g k y Z pc L (.inl j :: .inr (some 1000) :: S) (X, M) (qg j g.2.2.2.2.2.1 E) := by
  intro v0 M0 e0 r0
  obtain ⟨p, l, e, R, s, m, args, below, meth, c, cells, slots, Q⟩ := k
  obtain ⟨hx, hb, hml, hown, hts, hr, hlocks, hK, hRO, hDD, hR1, hR2, hc1, hc2⟩ := o
  intro H locs ls hN hP hS hl
  obtain ⟨e1, e0⟩ := qg_some e0
  exact va_sld hx hb hRO.1 hRO.2.1 hRO.2.2.1 hS e1 hdg (h v0 M0 e0 r0 H locs ls hN hP hS hl)

theorem qr_lald {g : qG} {k : qK} {d : Nat} {y : qMY} {pc : Nat} {Z X : List qSh} {L : List (Option qV)} {S : List qV} {M : qM} {E : qR} (o : qOk g d y k) {j : Int32} (hdg : decode y.2.1 pc = .ok (.iaload, 1)) (h : qAE g k y Z (pc + 1) L (.inl (q_let j.toNatClampNeg) :: S) (X, M) E) : qAE g k y Z pc L (.inl j :: .inr (some 1001) :: S) (X, M) (qg j 12 E) := by
  intro v0 M0 e0 r0
  obtain ⟨p, l, e, R, s, m, args, below, meth, c, cells, slots, Q⟩ := k
  obtain ⟨hx, hb, hml, hown, hts, hr, hlocks, hK, hRO, hDD, hR1, hR2, hc1, hc2⟩ := o
  intro H locs ls hN hP hS hl
  obtain ⟨e1, e0⟩ := qg_some e0
  exact va_ti hx hb hRO.2.2.2.1 hS e1 rfl hdg (h v0 M0 e0 r0 H locs ls hN hP hS hl)

theorem qr_slen {g : qG} {k : qK} {d : Nat} {y : qMY} {pc : Nat} {Z X : List qSh} {L : List (Option qV)} {S : List qV} {M : qM} {E : qR} (o : qOk g d y k)  (hdg : decode y.2.1 pc = .ok (.arraylength, 1)) (h : qAE g k y Z (pc + 1) L (.inl (Int32.ofNat g.2.2.2.2.2.1) :: S) (X, M) E) : qAE g k y Z pc L (.inr (some 1000) :: S) (X, M) E := by
  intro v0 M0 e0 r0
  obtain ⟨p, l, e, R, s, m, args, below, meth, c, cells, slots, Q⟩ := k
  obtain ⟨hx, hb, hml, hown, hts, hr, hlocks, hK, hRO, hDD, hR1, hR2, hc1, hc2⟩ := o
  intro H locs ls hN hP hS hl
  exact va_slen hx hb hRO.1 hRO.2.1 hRO.2.2.1 hS hdg (h v0 M0 e0 r0 H locs ls hN hP hS hl)

theorem qr_llen {g : qG} {k : qK} {d : Nat} {y : qMY} {pc : Nat} {Z X : List qSh} {L : List (Option qV)} {S : List qV} {M : qM} {E : qR} (o : qOk g d y k)  (hdg : decode y.2.1 pc = .ok (.arraylength, 1)) (h : qAE g k y Z (pc + 1) L (.inl 12 :: S) (X, M) E) : qAE g k y Z pc L (.inr (some 1001) :: S) (X, M) E := by
  intro v0 M0 e0 r0
  obtain ⟨p, l, e, R, s, m, args, below, meth, c, cells, slots, Q⟩ := k
  obtain ⟨hx, hb, hml, hown, hts, hr, hlocks, hK, hRO, hDD, hR1, hR2, hc1, hc2⟩ := o
  intro H locs ls hN hP hS hl
  obtain ⟨cell, c1, c2, c3, c4, c5, c6, c7⟩ := hRO.2.2.2.1
  exact W.alen (n := 12) hx hb (by rw [hS.2.1 _ (Array.getElem?_eq_some_iff.mp c1).1 c7]; exact c1) c2 c5 rfl rfl hdg (h v0 M0 e0 r0 H locs ls hN hP hS hl)

theorem qr_alen {g : qG} {k : qK} {d : Nat} {y : qMY} {pc : Nat} {Z X : List qSh} {L : List (Option qV)} {S : List qV} {M : qM} {E : qR} (o : qOk g d y k) {i t n : Nat} {v : Int32} (hsh : X[i]? = some (.inl (t, n))) (ht : t < 3) (hv : Int32.ofNat n = v) (hdg : decode y.2.1 pc = .ok (.arraylength, 1)) (h : qAE g k y Z (pc + 1) L (.inl v :: S) (X, M) E) : qAE g k y Z pc L (.inr (some i) :: S) (X, M) E := by
  intro v0 M0 e0 r0
  obtain ⟨p, l, e, R, s, m, args, below, meth, c, cells, slots, Q⟩ := k
  obtain ⟨hx, hb, hml, hown, hts, hr, hlocks, hK, hRO, hDD, hR1, hR2, hc1, hc2⟩ := o
  intro H locs ls hN hP hS hl
  have htt : ∃ ty, (q_t g)[t]? = some (g.2.1 t, ty) := by
    rcases (show t = 0 ∨ t = 1 ∨ t = 2 by omega) with rfl | rfl | rfl
    · exact ⟨.int, rfl⟩
    · exact ⟨.byte, rfl⟩
    · exact ⟨.boolean, rfl⟩
  obtain ⟨ty, htt⟩ := htt
  exact va_alen hx hb hK hP i t (q_w_at (g := g) (st := (X, M)) hsh) htt hv hdg (h v0 M0 e0 r0 H locs ls hN hP hS hl)

theorem qr_gets {g : qG} {k : qK} {d : Nat} {y : qMY} {pc : Nat} {Z X : List qSh} {L : List (Option qV)} {S : List qV} {M : qM} {E : qR} (o : qOk g d y k)  (hy : y.1.cls = "SecondTry$LawReader") (hdg : decode y.2.1 pc = .ok (.getstatic 104, 3)) (h : qAE g k y Z (pc + 3) L (.inr (some 1001) :: S) (X, M) E) : qAE g k y Z pc L S (X, M) E := by
  intro v0 M0 e0 r0
  obtain ⟨p, l, e, R, s, m, args, below, meth, c, cells, slots, Q⟩ := k
  obtain ⟨hx, hb, hml, hown, hts, hr, hlocks, hK, hRO, hDD, hR1, hR2, hc1, hc2⟩ := o
  intro H locs ls hN hP hS hl
  rw [hy] at hown
  exact va_getsN hx hb hRO.2.2.2.2.2.2.1 hS hown (va_Nw.use rfl hRO.2.2.2.2.2.2.2) (fun _ q => q) hdg (h v0 M0 e0 r0 H locs ls hN hP hS hl)

theorem qr_iret {g : qG} {k : qK} {d : Nat} {y : qMY} {pc : Nat} {Z : List qSh} {L : List (Option qV)} {M : qM} (o : qOk g d y k) {v : Int32} {ty : FieldType} (hy : y.2.2.2 = some ty) (hn : narrow ty (.int v) = .int v) (hdg : decode y.2.1 pc = .ok (.ireturn, 1)) : qAE g k y Z pc L [.inl v] (Z, M) (some (v, M)) := by
  intro v0 M0 e0 r0
  obtain ⟨p, l, e, R, s, m, args, below, meth, c, cells, slots, Q⟩ := k
  obtain ⟨hx, hb, hml, hown, hts, hr, hlocks, hK, hRO, hDD, hR1, hR2, hc1, hc2⟩ := o
  intro H locs ls hN hP hS hl
  cases e0
  have h9 := r0 H locs ls pc hN hP hS
  simp only [hy] at h9
  exact h9 hn hdg
theorem qr_zret {g : qG} {k : qK} {d : Nat} {y : qMY} {pc : Nat} {Z : List qSh} {L : List (Option qV)} {M : qM} (o : qOk g d y k) {v : Int32} (hy : y.2.2.2 = some .boolean) (hdg : decode y.2.1 pc = .ok (.ireturn, 1)) : qAE g k y Z pc L [.inl v] (Z, M) (qb v (some (v, M))) := by
  intro v0 M0 e0 r0
  obtain ⟨e1, e0⟩ := qb_some e0
  exact qr_iret o hy (q_nz e1) hdg v0 M0 e0 r0
theorem qr_vret {g : qG} {k : qK} {d : Nat} {y : qMY} {pc : Nat} {Z : List qSh} {L : List (Option qV)} {M : qM} (o : qOk g d y k) (hy : y.2.2.2 = none) (hdg : decode y.2.1 pc = .ok (.return_, 1)) : qAE g k y Z pc L [] (Z, M) (some (0, M)) := by
  intro v0 M0 e0 r0
  obtain ⟨p, l, e, R, s, m, args, below, meth, c, cells, slots, Q⟩ := k
  obtain ⟨hx, hb, hml, hown, hts, hr, hlocks, hK, hRO, hDD, hR1, hR2, hc1, hc2⟩ := o
  intro H locs ls hN hP hS hl
  cases e0
  have h9 := r0 H locs ls pc hN hP hS
  simp only [hy] at h9
  exact h9 hdg

theorem qr_callv_i {g : qG} {k : qK} {d : Nat} {y : qMY} {pc : Nat} {Z X : List qSh} {L : List (Option qV)} {S : List qV} {M : qM} {E : Int32 → qM → qR} (o : qOk g d y k) {z : qMY} {ty : FieldType} {As : List qV} {i d1 idx ci n : Nat} {fds : List (Option (Option Nat))} {T : u_T} {F : qR} (hM : qAM g k.2.1 d1 z X (.inr (some i) :: As) (X, M) F) (hd : d1 + 1 ≤ d) (hZ : qZV z As.length) (hz : z.2.2.2 = some ty) (hC : qC ci z.1.cls T n) (hsh : X[i]? = some (.inr (ci, fds))) (hlk : Cond.methodLink y.1.cls idx z.1 ∈ q_tbl) (hS8 : S.length ≤ 8) (hdg : decode y.2.1 pc = .ok (.invokevirtual idx, 3)) (kk : ∀ (r : Int32) (M1 : qM), qAE g k y Z (pc + 3) L (.inl r :: S) (X, M1) (E r M1)) : qAE g k y Z pc L (As.reverse ++ .inr (some i) :: S) (X, M) (qc F E) := by
  intro v0 M0 e0 r0
  obtain ⟨p, l, e, R, s, m, args, below, meth, c, cells, slots, Q⟩ := k
  obtain ⟨hx, hb, hml, hown, hts, hr, hlocks, hK, hRO, hDD, hR1, hR2, hc1, hc2⟩ := o
  intro H locs ls hN hP hS hl
  obtain ⟨v1, M1, e1, e2⟩ := qc_some e0
  have hMt := hM v1 M1 e1
  have hG := q_goodIn hZ.1.1
  have hR9 : (q_rm d1).frames + 1 ≤ R.frames ∧ 8 + (z.2.2.1 + 11) + (q_rm d1).locals ≤ R.locals := ⟨by show d1 + 1 ≤ R.frames; omega, by show 8 + (z.2.2.1 + 11) + 64 * d1 ≤ R.locals; have := hZ.1.2.2.2.2.2.2; omega⟩
  have hcat : ∀ S1 : List qV, S1.length ≤ 8 → ((S1.map (q_v g.2.2.1)).map fun v => v.category).sum ≤ 8 := by
    intro S1 hS1
    have : ((S1.map (q_v g.2.2.1)).map fun v => v.category).sum = S1.length := by
      clear hS1
      induction S1 with
      | nil => rfl
      | cons a r ih => simp only [List.map_cons, List.sum_cons, List.length_cons, ih, q_v_cat]; omega
    rw [this]; exact hS1
  have hcb := callB_of (R := R) (s := s) (args := args) (own := y.1.cls) (index := idx) (y := z.1) (bytes := z.2.1) (maxL := z.2.2.1) (ret := z.2.2.2) (ws := q_wy z) (rm := q_rm d1) (mc := 0) (ms := 0) (Ts := q_tbl) As.length hts hG rfl rfl rfl (hts _ hZ.1.2.1) (hts _ hlk) ⟨hZ.1.2.2.2.1, hZ.1.2.2.2.2.1, hZ.1.2.2.2.2.2.1⟩ hR9
  have hr9 := va_runV (p := p) (l := l) (e := e) (R := R) (s := s) (m := m) (args := args) (below := below) (meth := meth) (c := c) (H := H) (locs := locs) (cells := cells) (slots := slots) (Ts := q_tbl) (cc := y.2.1) (nL := y.2.2.1) (own := y.1.cls) (C := z.1.cls) (b := g.2.2.1 i) (As := As.map (q_v g.2.2.1)) (rest := S.map (q_v g.2.2.1)) (g := F0 m pc ls ((As.reverse ++ .inr (some i) :: S).map (q_v g.2.2.1)))
    ⟨hx, hb, hml, hown, hts⟩ hMt ⟨hcb, hts _ hZ.2.1, hts _ hZ.2.2⟩ ⟨q_blind, va_recv hK hP hC.1 (q_w_at (g := g) (st := (X, M)) hsh), fun U hU hW => ⟨rfl, hN, by rw [hU]; exact hP, va_K.moved hW.alike hK, by rw [hU]; exact (hRO.kept hS).moved hW, hDD⟩⟩ rfl (by simp) hl.1 (by simp [q_v, va_rf, List.map_reverse]) (lv_room (hcat S hS8)) hdg ⟨by simpa using hc1, by simpa using hc2⟩
  intro T hT X
  obtain ⟨w, s9, t, T9, L9, h0, X9, hL9, q1, q2, ⟨⟨hw, hlen, hP9⟩, hz9, hk9⟩, go⟩ := hr9 T hT X
  have hw2 : w = q_rv z v1 := by cases hw; rfl
  subst hw2
  rw [h0] at hz9 hk9
  have hS9 : va_S g.2.2.2.1 s.heap T9.heap (locs ++ L9) := ⟨Nat.le_trans hS.1 (by rw [q1]; exact hz9), fun q a1 a2 => by rw [q1, hk9 q (Nat.lt_of_lt_of_le a1 hS.1) a2]; exact hS.2.1 q a1 a2, fun q hq => (List.mem_append.mp hq).elim (fun a => hS.2.2 q a) (fun a => hL9 q a)⟩
  obtain ⟨t2, a1, b1⟩ := kk v1 M1 v0 M0 e2 r0 T9.heap (locs ++ L9) ls hlen (by rw [q1]; exact hP9) hS9 hl T9 rfl X9
  refine ⟨t2, go t2 ?_, b1⟩
  simp only [q_rv, hz]
  exact a1
theorem qr_calls_i {g : qG} {k : qK} {d : Nat} {y : qMY} {pc : Nat} {Z X : List qSh} {L : List (Option qV)} {S : List qV} {M : qM} {E : Int32 → qM → qR} (o : qOk g d y k) {z : qMY} {ty : FieldType} {As : List qV} {d1 idx : Nat} {F : qR} (hM : qAM g k.2.1 d1 z X As (X, M) F) (hd : d1 + 1 ≤ d) (hZ : qZS z As.length) (hz : z.2.2.2 = some ty) (hlk : Cond.methodLink y.1.cls idx z.1 ∈ q_tbl) (hS8 : S.length ≤ 8) (hdg : decode y.2.1 pc = .ok (.invokestatic idx, 3)) (kk : ∀ (r : Int32) (M1 : qM), qAE g k y Z (pc + 3) L (.inl r :: S) (X, M1) (E r M1)) : qAE g k y Z pc L (As.reverse ++ S) (X, M) (qc F E) := by
  intro v0 M0 e0 r0
  obtain ⟨p, l, e, R, s, m, args, below, meth, c, cells, slots, Q⟩ := k
  obtain ⟨hx, hb, hml, hown, hts, hr, hlocks, hK, hRO, hDD, hR1, hR2, hc1, hc2⟩ := o
  intro H locs ls hN hP hS hl
  obtain ⟨v1, M1, e1, e2⟩ := qc_some e0
  have hMt := hM v1 M1 e1
  have hG := q_goodIn hZ.1.1
  have hR9 : (q_rm d1).frames + 1 ≤ R.frames ∧ 8 + (z.2.2.1 + 11) + (q_rm d1).locals ≤ R.locals := ⟨by show d1 + 1 ≤ R.frames; omega, by show 8 + (z.2.2.1 + 11) + 64 * d1 ≤ R.locals; have := hZ.1.2.2.2.2.2.2; omega⟩
  have hcat : ∀ S1 : List qV, S1.length ≤ 8 → ((S1.map (q_v g.2.2.1)).map fun v => v.category).sum ≤ 8 := by
    intro S1 hS1
    have : ((S1.map (q_v g.2.2.1)).map fun v => v.category).sum = S1.length := by
      clear hS1
      induction S1 with
      | nil => rfl
      | cons a r ih => simp only [List.map_cons, List.sum_cons, List.length_cons, ih, q_v_cat]; omega
    rw [this]; exact hS1
  have hcb := callB_of (R := R) (s := s) (args := args) (own := y.1.cls) (index := idx) (y := z.1) (bytes := z.2.1) (maxL := z.2.2.1) (ret := z.2.2.2) (ws := q_wy z) (rm := q_rm d1) (mc := 0) (ms := 0) (Ts := q_tbl) As.length hts hG rfl rfl rfl (hts _ hZ.1.2.1) (hts _ hlk) ⟨hZ.1.2.2.2.1, hZ.1.2.2.2.2.1, hZ.1.2.2.2.2.2.1⟩ hR9
  have hr9 := va_runS (p := p) (l := l) (e := e) (R := R) (s := s) (m := m) (args := args) (below := below) (meth := meth) (c := c) (H := H) (locs := locs) (cells := cells) (slots := slots) (Ts := q_tbl) (cc := y.2.1) (nL := y.2.2.1) (own := y.1.cls) (As := As.map (q_v g.2.2.1)) (rest := S.map (q_v g.2.2.1)) (g := F0 m pc ls ((As.reverse ++ S).map (q_v g.2.2.1)))
    ⟨hx, hb, hml, hown, hts⟩ hMt ⟨hcb, hts _ hZ.2⟩ ⟨q_blind, fun U hU hW => ⟨rfl, hN, by rw [hU]; exact hP, va_K.moved hW.alike hK, by rw [hU]; exact (hRO.kept hS).moved hW, hDD⟩⟩ rfl (by simp) hl.1 (by simp [List.map_reverse]) (lv_room (hcat S hS8)) hdg ⟨by simpa using hc1, by simpa using hc2⟩
  intro T hT X
  obtain ⟨w, s9, t, T9, L9, h0, X9, hL9, q1, q2, ⟨⟨hw, hlen, hP9⟩, hz9, hk9⟩, go⟩ := hr9 T hT X
  have hw2 : w = q_rv z v1 := by cases hw; rfl
  subst hw2
  rw [h0] at hz9 hk9
  have hS9 : va_S g.2.2.2.1 s.heap T9.heap (locs ++ L9) := ⟨Nat.le_trans hS.1 (by rw [q1]; exact hz9), fun q a1 a2 => by rw [q1, hk9 q (Nat.lt_of_lt_of_le a1 hS.1) a2]; exact hS.2.1 q a1 a2, fun q hq => (List.mem_append.mp hq).elim (fun a => hS.2.2 q a) (fun a => hL9 q a)⟩
  obtain ⟨t2, a1, b1⟩ := kk v1 M1 v0 M0 e2 r0 T9.heap (locs ++ L9) ls hlen (by rw [q1]; exact hP9) hS9 hl T9 rfl X9
  refine ⟨t2, go t2 ?_, b1⟩
  simp only [q_rv, hz]
  exact a1

theorem qr_callv_v {g : qG} {k : qK} {d : Nat} {y : qMY} {pc : Nat} {Z X : List qSh} {L : List (Option qV)} {S : List qV} {M : qM} {E : Int32 → qM → qR} (o : qOk g d y k) {z : qMY}  {As : List qV} {i d1 idx ci n : Nat} {fds : List (Option (Option Nat))} {T : u_T} {F : qR} (hM : qAM g k.2.1 d1 z X (.inr (some i) :: As) (X, M) F) (hd : d1 + 1 ≤ d) (hZ : qZV z As.length) (hz : z.2.2.2 = none) (hC : qC ci z.1.cls T n) (hsh : X[i]? = some (.inr (ci, fds))) (hlk : Cond.methodLink y.1.cls idx z.1 ∈ q_tbl) (hS8 : S.length ≤ 8) (hdg : decode y.2.1 pc = .ok (.invokevirtual idx, 3)) (kk : ∀ (r : Int32) (M1 : qM), qAE g k y Z (pc + 3) L S (X, M1) (E r M1)) : qAE g k y Z pc L (As.reverse ++ .inr (some i) :: S) (X, M) (qc F E) := by
  intro v0 M0 e0 r0
  obtain ⟨p, l, e, R, s, m, args, below, meth, c, cells, slots, Q⟩ := k
  obtain ⟨hx, hb, hml, hown, hts, hr, hlocks, hK, hRO, hDD, hR1, hR2, hc1, hc2⟩ := o
  intro H locs ls hN hP hS hl
  obtain ⟨v1, M1, e1, e2⟩ := qc_some e0
  have hMt := hM v1 M1 e1
  have hG := q_goodIn hZ.1.1
  have hR9 : (q_rm d1).frames + 1 ≤ R.frames ∧ 8 + (z.2.2.1 + 11) + (q_rm d1).locals ≤ R.locals := ⟨by show d1 + 1 ≤ R.frames; omega, by show 8 + (z.2.2.1 + 11) + 64 * d1 ≤ R.locals; have := hZ.1.2.2.2.2.2.2; omega⟩
  have hcat : ∀ S1 : List qV, S1.length ≤ 8 → ((S1.map (q_v g.2.2.1)).map fun v => v.category).sum ≤ 8 := by
    intro S1 hS1
    have : ((S1.map (q_v g.2.2.1)).map fun v => v.category).sum = S1.length := by
      clear hS1
      induction S1 with
      | nil => rfl
      | cons a r ih => simp only [List.map_cons, List.sum_cons, List.length_cons, ih, q_v_cat]; omega
    rw [this]; exact hS1
  have hcb := callB_of (R := R) (s := s) (args := args) (own := y.1.cls) (index := idx) (y := z.1) (bytes := z.2.1) (maxL := z.2.2.1) (ret := z.2.2.2) (ws := q_wy z) (rm := q_rm d1) (mc := 0) (ms := 0) (Ts := q_tbl) As.length hts hG rfl rfl rfl (hts _ hZ.1.2.1) (hts _ hlk) ⟨hZ.1.2.2.2.1, hZ.1.2.2.2.2.1, hZ.1.2.2.2.2.2.1⟩ hR9
  have hr9 := va_runV (p := p) (l := l) (e := e) (R := R) (s := s) (m := m) (args := args) (below := below) (meth := meth) (c := c) (H := H) (locs := locs) (cells := cells) (slots := slots) (Ts := q_tbl) (cc := y.2.1) (nL := y.2.2.1) (own := y.1.cls) (C := z.1.cls) (b := g.2.2.1 i) (As := As.map (q_v g.2.2.1)) (rest := S.map (q_v g.2.2.1)) (g := F0 m pc ls ((As.reverse ++ .inr (some i) :: S).map (q_v g.2.2.1)))
    ⟨hx, hb, hml, hown, hts⟩ hMt ⟨hcb, hts _ hZ.2.1, hts _ hZ.2.2⟩ ⟨q_blind, va_recv hK hP hC.1 (q_w_at (g := g) (st := (X, M)) hsh), fun U hU hW => ⟨rfl, hN, by rw [hU]; exact hP, va_K.moved hW.alike hK, by rw [hU]; exact (hRO.kept hS).moved hW, hDD⟩⟩ rfl (by simp) hl.1 (by simp [q_v, va_rf, List.map_reverse]) (lv_room (hcat S hS8)) hdg ⟨by simpa using hc1, by simpa using hc2⟩
  intro T hT X
  obtain ⟨w, s9, t, T9, L9, h0, X9, hL9, q1, q2, ⟨⟨hw, hlen, hP9⟩, hz9, hk9⟩, go⟩ := hr9 T hT X
  have hw2 : w = q_rv z v1 := by cases hw; rfl
  subst hw2
  rw [h0] at hz9 hk9
  have hS9 : va_S g.2.2.2.1 s.heap T9.heap (locs ++ L9) := ⟨Nat.le_trans hS.1 (by rw [q1]; exact hz9), fun q a1 a2 => by rw [q1, hk9 q (Nat.lt_of_lt_of_le a1 hS.1) a2]; exact hS.2.1 q a1 a2, fun q hq => (List.mem_append.mp hq).elim (fun a => hS.2.2 q a) (fun a => hL9 q a)⟩
  obtain ⟨t2, a1, b1⟩ := kk v1 M1 v0 M0 e2 r0 T9.heap (locs ++ L9) ls hlen (by rw [q1]; exact hP9) hS9 hl T9 rfl X9
  refine ⟨t2, go t2 ?_, b1⟩
  simp only [q_rv, hz]
  exact a1
theorem qr_calls_v {g : qG} {k : qK} {d : Nat} {y : qMY} {pc : Nat} {Z X : List qSh} {L : List (Option qV)} {S : List qV} {M : qM} {E : Int32 → qM → qR} (o : qOk g d y k) {z : qMY}  {As : List qV} {d1 idx : Nat} {F : qR} (hM : qAM g k.2.1 d1 z X As (X, M) F) (hd : d1 + 1 ≤ d) (hZ : qZS z As.length) (hz : z.2.2.2 = none) (hlk : Cond.methodLink y.1.cls idx z.1 ∈ q_tbl) (hS8 : S.length ≤ 8) (hdg : decode y.2.1 pc = .ok (.invokestatic idx, 3)) (kk : ∀ (r : Int32) (M1 : qM), qAE g k y Z (pc + 3) L S (X, M1) (E r M1)) : qAE g k y Z pc L (As.reverse ++ S) (X, M) (qc F E) := by
  intro v0 M0 e0 r0
  obtain ⟨p, l, e, R, s, m, args, below, meth, c, cells, slots, Q⟩ := k
  obtain ⟨hx, hb, hml, hown, hts, hr, hlocks, hK, hRO, hDD, hR1, hR2, hc1, hc2⟩ := o
  intro H locs ls hN hP hS hl
  obtain ⟨v1, M1, e1, e2⟩ := qc_some e0
  have hMt := hM v1 M1 e1
  have hG := q_goodIn hZ.1.1
  have hR9 : (q_rm d1).frames + 1 ≤ R.frames ∧ 8 + (z.2.2.1 + 11) + (q_rm d1).locals ≤ R.locals := ⟨by show d1 + 1 ≤ R.frames; omega, by show 8 + (z.2.2.1 + 11) + 64 * d1 ≤ R.locals; have := hZ.1.2.2.2.2.2.2; omega⟩
  have hcat : ∀ S1 : List qV, S1.length ≤ 8 → ((S1.map (q_v g.2.2.1)).map fun v => v.category).sum ≤ 8 := by
    intro S1 hS1
    have : ((S1.map (q_v g.2.2.1)).map fun v => v.category).sum = S1.length := by
      clear hS1
      induction S1 with
      | nil => rfl
      | cons a r ih => simp only [List.map_cons, List.sum_cons, List.length_cons, ih, q_v_cat]; omega
    rw [this]; exact hS1
  have hcb := callB_of (R := R) (s := s) (args := args) (own := y.1.cls) (index := idx) (y := z.1) (bytes := z.2.1) (maxL := z.2.2.1) (ret := z.2.2.2) (ws := q_wy z) (rm := q_rm d1) (mc := 0) (ms := 0) (Ts := q_tbl) As.length hts hG rfl rfl rfl (hts _ hZ.1.2.1) (hts _ hlk) ⟨hZ.1.2.2.2.1, hZ.1.2.2.2.2.1, hZ.1.2.2.2.2.2.1⟩ hR9
  have hr9 := va_runS (p := p) (l := l) (e := e) (R := R) (s := s) (m := m) (args := args) (below := below) (meth := meth) (c := c) (H := H) (locs := locs) (cells := cells) (slots := slots) (Ts := q_tbl) (cc := y.2.1) (nL := y.2.2.1) (own := y.1.cls) (As := As.map (q_v g.2.2.1)) (rest := S.map (q_v g.2.2.1)) (g := F0 m pc ls ((As.reverse ++ S).map (q_v g.2.2.1)))
    ⟨hx, hb, hml, hown, hts⟩ hMt ⟨hcb, hts _ hZ.2⟩ ⟨q_blind, fun U hU hW => ⟨rfl, hN, by rw [hU]; exact hP, va_K.moved hW.alike hK, by rw [hU]; exact (hRO.kept hS).moved hW, hDD⟩⟩ rfl (by simp) hl.1 (by simp [List.map_reverse]) (lv_room (hcat S hS8)) hdg ⟨by simpa using hc1, by simpa using hc2⟩
  intro T hT X
  obtain ⟨w, s9, t, T9, L9, h0, X9, hL9, q1, q2, ⟨⟨hw, hlen, hP9⟩, hz9, hk9⟩, go⟩ := hr9 T hT X
  have hw2 : w = q_rv z v1 := by cases hw; rfl
  subst hw2
  rw [h0] at hz9 hk9
  have hS9 : va_S g.2.2.2.1 s.heap T9.heap (locs ++ L9) := ⟨Nat.le_trans hS.1 (by rw [q1]; exact hz9), fun q a1 a2 => by rw [q1, hk9 q (Nat.lt_of_lt_of_le a1 hS.1) a2]; exact hS.2.1 q a1 a2, fun q hq => (List.mem_append.mp hq).elim (fun a => hS.2.2 q a) (fun a => hL9 q a)⟩
  obtain ⟨t2, a1, b1⟩ := kk v1 M1 v0 M0 e2 r0 T9.heap (locs ++ L9) ls hlen (by rw [q1]; exact hP9) hS9 hl T9 rfl X9
  refine ⟨t2, go t2 ?_, b1⟩
  simp only [q_rv, hz]
  exact a1

theorem qsw_is {x : Int32} {D : qR} : ∀ (cs : List (Int32 × qR)), (∃ (n : Nat) (q : Int32 × qR), cs[n]? = some q ∧ x = q.1 ∧ qsw x cs D = q.2) ∨ ((∀ (n : Nat) (q : Int32 × qR), cs[n]? = some q → ¬ x = q.1) ∧ qsw x cs D = D)
  | [] => Or.inr ⟨fun n q h => by simp at h, rfl⟩
  | a :: r => by
    by_cases h : x = a.1
    · exact Or.inl ⟨0, a, rfl, h, if_pos h⟩
    · rcases qsw_is (x := x) (D := D) r with ⟨n, q, h1, h2, h3⟩ | ⟨h1, h2⟩
      · exact Or.inl ⟨n + 1, q, by simpa using h1, h2, (if_neg h).trans h3⟩
      · refine Or.inr ⟨fun n q hq => ?_, (if_neg h).trans h2⟩
        cases n with
        | zero => simp at hq; subst hq; exact h
        | succ n => exact h1 n q (by simpa using hq)
theorem qr_table {g : qG} {k : qK} {d : Nat} {y : qMY} {pc : Nat} {Z X : List qSh} {L : List (Option qV)} {S : List qV} {M : qM} (o : qOk g d y k) {x : Int32} {dflt lo hi : Int} {offs : Array Int} {len tgt : Nat} {cs : List (Int32 × qR)} {D : qR} (hdg : decode y.2.1 pc = .ok (.tableswitch dflt lo hi offs, len)) (hcs : ∀ (n : Nat) (q : Int32 × qR), cs[n]? = some q → q.1.toInt = lo + n) (hlen : lo + cs.length = hi + 1) (ht : (pc : Int) + dflt = (tgt : Int)) (hD : qAE g k y Z tgt L S (X, M) D)
    (hB : ∀ (n : Nat) (q : Int32 × qR), cs[n]? = some q → ∃ (off : Int) (t : Nat), offs[n]? = some off ∧ (pc : Int) + off = (t : Int) ∧ qAE g k y Z t L S (X, M) q.2) : qAE g k y Z pc L (.inl x :: S) (X, M) (qsw x cs D) := by
  intro v0 M0 e0 r0
  obtain ⟨p, l, e, R, s, m, args, below, meth, c, cells, slots, Q⟩ := k
  obtain ⟨hx, hb, hml, hown, hts, hr, hlocks, hK, hRO, hDD, hR1, hR2, hc1, hc2⟩ := o
  intro H locs ls hN hP hS hl
  rcases qsw_is (x := x) (D := D) cs with ⟨n, q, h1, h2, h3⟩ | ⟨h1, h2⟩
  · obtain ⟨off, t, q1, q2, q3⟩ := hB n q h1
    have hn := hcs n q h1
    have hl2 := (List.getElem?_eq_some_iff.mp h1).1
    rw [← h2] at hn
    rw [h3] at e0
    refine lv_tableIn hx hb hdg (by omega) (by omega) (off := off) (tgt := t) ?_ q2 (q3 v0 M0 e0 r0 H locs ls hN hP hS hl)
    rw [show (x.toInt - lo).toNat = n by omega]
    exact q1
  · rw [h2] at e0
    by_cases hin : x.toInt < lo ∨ hi < x.toInt
    · exact lv_tableOut hx hb hdg hin ht (hD v0 M0 e0 r0 H locs ls hN hP hS hl)
    · have hlt : (x.toInt - lo).toNat < cs.length := by omega
      have h9 := List.getElem?_eq_getElem hlt
      have hn := hcs _ _ h9
      exact absurd (Int32.toInt_inj.mp (by rw [hn]; omega)) (h1 _ _ h9)
theorem qr_lookup {g : qG} {k : qK} {d : Nat} {y : qMY} {pc : Nat} {Z X : List qSh} {L : List (Option qV)} {S : List qV} {M : qM} (o : qOk g d y k) {x : Int32} {dflt : Int} {ps : Array (Int × Int)} {len tgt : Nat} {cs : List (Int32 × qR)} {D : qR} (hdg : decode y.2.1 pc = .ok (.lookupswitch dflt ps, len)) (hp : (ps.toList.zip (ps.toList.drop 1)).all (fun (a, next) => a.1 < next.1) = true) (hcs : cs.map (fun q => q.1.toInt) = ps.toList.map (fun q => q.1)) (ht : (pc : Int) + dflt = (tgt : Int)) (hD : qAE g k y Z tgt L S (X, M) D)
    (hB : ∀ (n : Nat) (q : Int32 × qR), cs[n]? = some q → ∃ (t : Nat), (pc : Int) + (ps.toList[n]?.getD (0, 0)).2 = (t : Int) ∧ qAE g k y Z t L S (X, M) q.2) : qAE g k y Z pc L (.inl x :: S) (X, M) (qsw x cs D) := by
  intro v0 M0 e0 r0
  obtain ⟨p, l, e, R, s, m, args, below, meth, c, cells, slots, Q⟩ := k
  obtain ⟨hx, hb, hml, hown, hts, hr, hlocks, hK, hRO, hDD, hR1, hR2, hc1, hc2⟩ := o
  intro H locs ls hN hP hS hl
  have key : ∀ (ws : List (Int × Int)) (zs : List (Int32 × qR)), zs.map (fun q => q.1.toInt) = ws.map (fun q => q.1) → (∀ (n : Nat) (q : Int32 × qR), zs[n]? = some q → ∃ (t : Nat), (pc : Int) + (ws[n]?.getD (0, 0)).2 = (t : Int) ∧ qAE g (p, l, e, R, s, m, args, below, meth, c, cells, slots, Q) y Z t L S (X, M) q.2) → ∃ t : Nat, (pc : Int) + Op.lookupswitch.offset ws dflt x.toInt = (t : Int) ∧ qAE g (p, l, e, R, s, m, args, below, meth, c, cells, slots, Q) y Z t L S (X, M) (qsw x zs D) := by
    intro ws
    induction ws with
    | nil =>
      intro zs h1 _
      have : zs = [] := by simpa using h1
      subst this
      exact ⟨tgt, ht, hD⟩
    | cons w ws ih =>
      intro zs h1 h2
      cases zs with
      | nil => simp at h1
      | cons z zs =>
        simp only [List.map_cons, List.cons.injEq] at h1
        obtain ⟨a, b⟩ := w
        rw [Op.lookupswitch.offset_cons]
        by_cases hz : x = z.1
        · obtain ⟨t, q1, q2⟩ := h2 0 z rfl
          refine ⟨t, ?_, ?_⟩
          · rw [if_pos (by rw [hz]; exact h1.1.symm)]
            simpa using q1
          · show qAE _ _ _ _ _ _ _ _ (if x = z.1 then z.2 else qsw x zs D)
            rw [if_pos hz]
            exact q2
        · rw [if_neg (fun q => hz (Int32.toInt_inj.mp (by rw [← q]; exact h1.1.symm)))]
          obtain ⟨t, q1, q2⟩ := ih zs h1.2 (fun n q hq => by simpa using h2 (n + 1) q (by simpa using hq))
          refine ⟨t, q1, ?_⟩
          show qAE _ _ _ _ _ _ _ _ (if x = z.1 then z.2 else qsw x zs D)
          rw [if_neg hz]
          exact q2
  obtain ⟨t, q1, q2⟩ := key ps.toList cs hcs hB
  exact lv_lookup hx hb hdg hp rfl q1 (q2 v0 M0 e0 r0 H locs ls hN hP hS hl)
/-- System.arraycopy between rows of ints -/
theorem qr_copy {g : qG} {k : qK} {d : Nat} {y : qMY} {pc : Nat} {Z X : List qSh} {L : List (Option qV)} {S : List qV} {M : qM} {E : qR} (o : qOk g d y k) {i j n0 n1 idx : Nat} {sp dp n : Int32} (h0 : X[i]? = some (.inl (0, n0))) (h1 : X[j]? = some (.inl (0, n1))) (hlk : Cond.methodLink y.1.cls idx arraycopyName ∈ q_tbl) (hnat : Cond.native arraycopyName ∈ q_tbl) (hstat : Cond.static arraycopyName ∈ q_tbl) (hini : Cond.initialized "java/lang/System" ∈ q_tbl) (hd : 1 ≤ d) (hw : S.length + (nativeFrameWords "java/lang/System" "arraycopy" 5 + 11) ≤ 64) (hdg : decode y.2.1 pc = .ok (.invokestatic idx, 3))
    (h : qAE g k y Z (pc + 3) L S (X, mr M j (va_cpy (M i) (M j) sp.toNatClampNeg dp.toNatClampNeg n.toNatClampNeg)) E) :
    qAE g k y Z pc L (.inl n :: .inl dp :: .inr (some j) :: .inl sp :: .inr (some i) :: S) (X, M) (if sp < 0 ∨ dp < 0 ∨ n < 0 ∨ n0 < sp.toNatClampNeg + n.toNatClampNeg ∨ n1 < dp.toNatClampNeg + n.toNatClampNeg then none else E) := by
  intro v0 M0 e0 r0
  obtain ⟨p, l, e, R, s, m, args, below, meth, c, cells, slots, Q⟩ := k
  obtain ⟨hx, hb, hml, hown, hts, hr, hlocks, hK, hRO, hDD, hR1, hR2, hc1, hc2⟩ := o
  intro H locs ls hN hP hS hl
  split at e0
  · cases e0
  · rename_i hn
    have hcat : ∀ S1 : List qV, ((S1.map (q_v g.2.2.1)).map fun v => v.category).sum = S1.length := by
      intro S1
      induction S1 with
      | nil => rfl
      | cons a r ih => simp only [List.map_cons, List.sum_cons, List.length_cons, ih, q_v_cat]; omega
    refine va_copyi hx hb (by rw [hml, hl.1]) hown (hts _ hlk) (hts _ hnat) (hts _ hstat) (hts _ hini) hK hP (q_D hDD hN) hS i j 0 0 (q_w_at (g := g) (st := (X, M)) h0) (q_w_at (g := g) (st := (X, M)) h1) rfl rfl rfl (fun z => hn (Or.inl z)) (fun z => hn (Or.inr (Or.inl z))) (fun z => hn (Or.inr (Or.inr (Or.inl z)))) (by omega) (by omega) (fun _ _ => rfl) (by omega) (by rw [hcat]; omega) hdg (fun H1 locs1 hP1 _ hS1 => ?_)
    exact h v0 M0 e0 r0 H1 locs1 ls hN (by rw [← q_w_setm (g := g) (st := (X, M)) h1]; exact hP1) hS1 hl

theorem q_args {ad : Nat → Nat} : ∀ (As : List qV) (i : Nat), lv_args i (As.map (q_v ad)) = q_l ad i (As.map some)
  | [], _ => rfl
  | a :: r, i => by
    simp only [List.map_cons, lv_args, q_l, q_v_cat]
    rw [if_neg (by decide), q_args r (i + 1)]
theorem q_l_none {ad : Nat → Nat} : ∀ (n i : Nat), q_l ad i (List.replicate n none) = []
  | 0, _ => rfl
  | n + 1, i => by simp only [List.replicate_succ, q_l]; exact q_l_none n (i + 1)
theorem q_l_app {ad : Nat → Nat} : ∀ (a b : List (Option qV)) (i : Nat), q_l ad i (a ++ b) = q_l ad i a ++ q_l ad (i + a.length) b
  | [], b, i => by simp [q_l]
  | none :: r, b, i => by
    simp only [List.cons_append, q_l, List.length_cons]
    rw [q_l_app r b (i + 1), show i + (r.length + 1) = i + 1 + r.length by omega]
  | some x :: r, b, i => by
    simp only [List.cons_append, q_l, List.length_cons]
    rw [q_l_app r b (i + 1), show i + (r.length + 1) = i + 1 + r.length by omega]
theorem q_sl_len {ad : Nat → Nat} : ∀ (As : List qV), (lg_sl (As.map (q_v ad))).length = As.length
  | [] => rfl
  | a :: r => by
    have := q_sl_len (ad := ad) r
    simp only [lg_sl, List.map_cons, List.flatMap_cons, q_v_cat, List.length_append, List.length_cons] at *
    rw [if_neg (by decide)]
    simp [this]
    omega
/-- a contract out of a walk from the entry -/
theorem qAM.of {g : qG} {l : Launch} {d n : Nat} {y : qMY} {Z : List qSh} {As : List qV} {st : qSt} {E : qR} (hZ : qZ y n) (hlen : As.length ≤ y.2.2.1)
    (h : ∀ k : qK, k.2.1 = l → qOk g d y k → qAE g k y Z 0 (As.map some ++ List.replicate (y.2.2.1 - As.length) none) [] st E) : qAM g l d y Z As st E := by
  intro v M' hE
  refine Met.ofW (cc := y.2.1) (maxL := y.2.2.1) (ret := y.2.2.2) hZ.2.2.1 rfl ?_
  intro p e s m args below meth c s₁ B hml hv
  obtain ⟨rfl, hN, hP, hK, hRO, hDD⟩ := hv
  have hts := atoms_spec (ws := q_wy y) B.pre
  have hown : s.vm.findClass y.1.cls = some m.cls := findClass_of_methodNamed B.named
  have hlocks := B.notSynchronized
  have hr := B.returns
  have hl := lv_entry (As.map (q_v g.2.2.1)) (n := y.2.2.1) (by rw [q_sl_len]; exact hlen)
  rw [lg_entry_eq]
  generalize (lg_sl (As.map (q_v g.2.2.1)) ++ List.replicate (y.2.2.1 - (lg_sl (As.map (q_v g.2.2.1))).length) Slot.unset).toArray = ls at hl ⊢
  have hl2 : lv_has ls y.2.2.1 (q_l g.2.2.1 0 (As.map some ++ List.replicate (y.2.2.1 - As.length) none)) := by
    rw [q_l_app, q_l_none, List.append_nil, ← q_args]
    exact hl
  refine h (p, l, e, (headSpec (q_wy y) (q_rm d)).room, s, m, _, below, meth, c, 0, 0, _) rfl ⟨B.exec, B.bytes, hml, hown, fun w hw => hts w (List.mem_cons_of_mem _ hw), hr, hlocks, hK, hRO, hDD, Nat.le_refl _, Nat.le_refl _, Nat.le_refl _, Nat.le_refl _⟩ v M' hE ?_ s.heap [] ls hN hP va_S.rf hl2
  intro H locs ls2 pc hN2 hP2 hS2
  cases hy : y.2.2.2 with
  | none =>
    simp only
    intro hdg
    exact W.vret B.exec B.bytes (by rw [hr, hy]) (fun t ht hW => ⟨⟨by simp only [q_rv, hy], hN2, by rw [ht]; exact hP2⟩, hS2.F ht⟩) hS2.2.2 hdg
  | some ty =>
    simp only
    intro hn hdg
    exact W.zret B.exec B.bytes (by rw [hr, hy]) hn (fun t ht hW => ⟨⟨by simp only [q_rv, hy], hN2, by rw [ht]; exact hP2⟩, hS2.F ht⟩) hS2.2.2 hdg
