def q_NB (U : State) : Prop := va_Nw (.methodLinkNest "SecondTry" 9 yX9_init "SecondTry") U ∧ va_Nw (.methodLinkNest "SecondTry" 18 yX2_init "SecondTry") U ∧ va_Nw (.methodLinkNest "SecondTry" 25 yX10_init "SecondTry") U ∧ va_Nw (.methodLinkNest "SecondTry$Judge" 23 yX3_init "SecondTry") U ∧ va_Nw (.methodLinkNest "SecondTry$LawReader" 11 yX3_init "SecondTry") U ∧ va_Nw (.fieldLinkNest "SecondTry$Judge" 9 "SecondTry" "LETTERS" "[I" "SecondTry") U
theorem q_NB.moved {u U : State} (hW : u.WarmedH U.vm) (h : q_NB u) : q_NB U := ⟨va_Nw.warmM hW h.1, va_Nw.warmM hW h.2.1, va_Nw.warmM hW h.2.2.1, va_Nw.warmM hW h.2.2.2.1, va_Nw.warmM hW h.2.2.2.2.1, va_Nw.warmF hW h.2.2.2.2.2⟩
theorem q_NB.calling {U : State} {f : JFrame} {mk : MethodId} {a : Array Value} (h : q_NB U) : q_NB (U.calling f mk a) := ⟨va_Nw.same rfl (u := U) (U := U.calling f mk a) rfl h.1, va_Nw.same rfl (u := U) (U := U.calling f mk a) rfl h.2.1, va_Nw.same rfl (u := U) (U := U.calling f mk a) rfl h.2.2.1, va_Nw.same rfl (u := U) (U := U.calling f mk a) rfl h.2.2.2.1, va_Nw.same rfl (u := U) (U := U.calling f mk a) rfl h.2.2.2.2.1, va_Nw.same rfl (u := U) (U := U.calling f mk a) rfl h.2.2.2.2.2⟩
def q_base (g : qG) : Prop := (∀ i, i < g.2.2.2.2.1 → g.2.2.1 i = g.2.2.1 0 + i) ∧ ∀ q, g.2.2.1 0 ≤ q → g.2.2.2.1 q
def qOB (g : qG) (y : qMY) (fr lo ce so : Nat) : qK → Prop := fun ⟨p, l, e, R, s, m, args, below, meth, c, c0, s0, Q⟩ =>
  p.tables.exec = Jvm.exec ∧ c.code = y.2.1 ∧ c.maxLocals = y.2.2.1 ∧ s.vm.findClass y.1.cls = some m.cls ∧ (∀ w ∈ q_tbl, w.before args s = true) ∧ meth.sig.returnType = y.2.2.2 ∧ meth.locks = false ∧ va_K g.1 q_cls (q_t g) s ∧ q_RO g s s.heap ∧ q_NB s ∧ q_base g ∧ q_DD g ∧ meth.name = y.1.name ∧ (fr ≤ R.frames ∧ lo ≤ R.locals ∧ ce ≤ R.cells ∧ so ≤ R.slots)
def qBW (g : qG) (k : qK) (y : qMY) (pc : Nat) (L : List (Option qV)) (S : List qV) (st : qSt) (cs sl : Nat) : Prop := match k with
  | ⟨p, l, e, R, s, m, args, below, meth, c, c0, s0, Q⟩ => ∀ (H : Heap) (locs : List Loc) (ls : Array Slot), H.size = g.2.2.1 0 + st.1.length → st.1.length ≤ g.2.2.2.2.1 → va_P g.1 q_cls (q_w g st) H → va_S g.2.2.2.1 s.heap H locs → lv_has ls y.2.2.1 (q_l g.2.2.1 0 L) → W p l e R s m args below meth c H locs cs sl Q (F0 m pc ls (S.map (q_v g.2.2.1)))
def qTB (g : qG) (k : qK) (y : qMY) (st : qSt) (mc ms : Nat) : Prop := match k with
  | ⟨p, l, e, R, s, m, args, below, meth, c, c0, s0, Q⟩ => ∀ (H : Heap) (locs : List Loc) (ls : Array Slot) (pc : Nat), H.size = g.2.2.1 0 + st.1.length → st.1.length ≤ g.2.2.2.2.1 → va_P g.1 q_cls (q_w g st) H → va_S g.2.2.2.1 s.heap H locs → decode y.2.1 pc = .ok (.return_, 1) → W p l e R s m args below meth c H locs mc ms Q (F0 m pc ls [])
def qBE (g : qG) (k : qK) (y : qMY) (st' : qSt) (mc ms : Nat) (pc : Nat) (L : List (Option qV)) (S : List qV) (st : qSt) (cs sl : Nat) : Prop := qTB g k y st' mc ms → qBW g k y pc L S st cs sl
def q_IB (g : qG) (st : qSt) (U : State) : Prop := U.heap.size = g.2.2.1 0 + st.1.length ∧ st.1.length ≤ g.2.2.2.2.1 ∧ va_P g.1 q_cls (q_w g st) U.heap ∧ va_K g.1 q_cls (q_t g) U ∧ q_RO g U U.heap ∧ q_NB U ∧ q_base g ∧ q_DD g
def q_QB (g : qG) (st : qSt) : Array Value → State → Outcome → State → Prop := fun _ s0 oc t =>
  (oc = .returned none ∧ t.heap.size = g.2.2.1 0 + st.1.length ∧ st.1.length ≤ g.2.2.2.2.1 ∧ va_P g.1 q_cls (q_w g st) t.heap) ∧ va_F g.2.2.2.1 s0 t
def qBM (g : qG) (l : Launch) (fr lo : Nat) (y : qMY) (As : List qV) (st st' : qSt) (mc ms : Nat) : Prop :=
  Met l y.1 (q_wy y) { frames := fr, cells := mc, slots := ms, locals := lo } (va_Pc (As.map (q_v g.2.2.1)) (q_IB g st)) (q_QB g st') mc ms g.2.2.2.1
theorem q_blindB {g : qG} {st : qSt} {As : List Value} : FrameBlind (va_Pc As (q_IB g st)) := fun a U f mk q =>
  ⟨q.1, q.2.1, q.2.2.1, q.2.2.2.1, va_K.moved (u := U) (U := U.calling f mk a) (Vm.Alike.refl U.vm) q.2.2.2.2.1, q.2.2.2.2.2.1.calling, q.2.2.2.2.2.2.1.calling, q.2.2.2.2.2.2.2⟩
theorem q_w_push {g : qG} {X : List qSh} {M : qM} {sh : qSh} : q_w g (X ++ [sh], M) = q_w g (X, M) ++ [(g.2.2.1 X.length, q_e g M X.length sh)] := by
  simp [q_w, List.mapIdx_append]

theorem qb_iconst {g : qG} {k : qK} {y : qMY} {st9 : qSt} {mc ms fr lo ce so : Nat} {pc : Nat} {X : List qSh} {L : List (Option qV)} {S : List qV} {M : qM} {cs sl : Nat} (o : qOB g y fr lo ce so k) {n : Int} {v : Int32} (hdg : decode y.2.1 pc = .ok (.iconst n, 1)) (hv : Int32.ofInt n = v) (h : qBE g k y st9 mc ms (pc + 1) L (.inl v :: S) (X, M) cs sl) : qBE g k y st9 mc ms pc L S (X, M) cs sl := by
  intro r0
  obtain ⟨p, l, e, R, s, m, args, below, meth, c, c0, s0, Q⟩ := k
  obtain ⟨hx, hb, hml, hown, hts, hr, hlocks, hK, hRO, hNB, hB, hDD, hin, hR1, hR2, hR3, hR4⟩ := o
  intro H locs ls hZ hN hP hS hl
  exact lv_iconst hx hb hdg hv (h r0 H locs ls hZ hN hP hS hl)

theorem qb_bipush {g : qG} {k : qK} {y : qMY} {st9 : qSt} {mc ms fr lo ce so : Nat} {pc : Nat} {X : List qSh} {L : List (Option qV)} {S : List qV} {M : qM} {cs sl : Nat} (o : qOB g y fr lo ce so k) {n : Int} {v : Int32} (hdg : decode y.2.1 pc = .ok (.bipush n, 2)) (hv : (Int8.ofInt n).toInt32 = v) (h : qBE g k y st9 mc ms (pc + 2) L (.inl v :: S) (X, M) cs sl) : qBE g k y st9 mc ms pc L S (X, M) cs sl := by
  intro r0
  obtain ⟨p, l, e, R, s, m, args, below, meth, c, c0, s0, Q⟩ := k
  obtain ⟨hx, hb, hml, hown, hts, hr, hlocks, hK, hRO, hNB, hB, hDD, hin, hR1, hR2, hR3, hR4⟩ := o
  intro H locs ls hZ hN hP hS hl
  exact lv_bipush hx hb hdg hv (h r0 H locs ls hZ hN hP hS hl)

theorem qb_sipush {g : qG} {k : qK} {y : qMY} {st9 : qSt} {mc ms fr lo ce so : Nat} {pc : Nat} {X : List qSh} {L : List (Option qV)} {S : List qV} {M : qM} {cs sl : Nat} (o : qOB g y fr lo ce so k) {n : Int} {v : Int32} (hdg : decode y.2.1 pc = .ok (.sipush n, 3)) (hv : (Int16.ofInt n).toInt32 = v) (h : qBE g k y st9 mc ms (pc + 3) L (.inl v :: S) (X, M) cs sl) : qBE g k y st9 mc ms pc L S (X, M) cs sl := by
  intro r0
  obtain ⟨p, l, e, R, s, m, args, below, meth, c, c0, s0, Q⟩ := k
  obtain ⟨hx, hb, hml, hown, hts, hr, hlocks, hK, hRO, hNB, hB, hDD, hin, hR1, hR2, hR3, hR4⟩ := o
  intro H locs ls hZ hN hP hS hl
  exact lv_sipush hx hb hdg hv (h r0 H locs ls hZ hN hP hS hl)

theorem qb_ldc {g : qG} {k : qK} {y : qMY} {st9 : qSt} {mc ms fr lo ce so : Nat} {pc : Nat} {X : List qSh} {L : List (Option qV)} {S : List qV} {M : qM} {cs sl : Nat} (o : qOB g y fr lo ce so k) {i : Nat} {v : Int32} (hdg : decode y.2.1 pc = .ok (.ldc i, 2)) (hv : Cond.constant y.1.cls i v ∈ q_tbl) (h : qBE g k y st9 mc ms (pc + 2) L (.inl v :: S) (X, M) cs sl) : qBE g k y st9 mc ms pc L S (X, M) cs sl := by
  intro r0
  obtain ⟨p, l, e, R, s, m, args, below, meth, c, c0, s0, Q⟩ := k
  obtain ⟨hx, hb, hml, hown, hts, hr, hlocks, hK, hRO, hNB, hB, hDD, hin, hR1, hR2, hR3, hR4⟩ := o
  intro H locs ls hZ hN hP hS hl
  exact lv_ldc hx hb hown (hts _ hv) hdg (h r0 H locs ls hZ hN hP hS hl)

theorem qb_aload_n {g : qG} {k : qK} {y : qMY} {st9 : qSt} {mc ms fr lo ce so : Nat} {pc : Nat} {X : List qSh} {L : List (Option qV)} {S : List qV} {M : qM} {cs sl : Nat} (o : qOB g y fr lo ce so k) {n : Fin 4} {i : Nat} (hdg : decode y.2.1 pc = .ok (.aload_n n, 1)) (hv : L[(n : Nat)]? = some (some (.inr (some i)))) (h : qBE g k y st9 mc ms (pc + 1) L (.inr (some i) :: S) (X, M) cs sl) : qBE g k y st9 mc ms pc L S (X, M) cs sl := by
  intro r0
  obtain ⟨p, l, e, R, s, m, args, below, meth, c, c0, s0, Q⟩ := k
  obtain ⟨hx, hb, hml, hown, hts, hr, hlocks, hK, hRO, hNB, hB, hDD, hin, hR1, hR2, hR3, hR4⟩ := o
  intro H locs ls hZ hN hP hS hl
  exact lv_aload_n hx hb hdg rfl (q_l_at hl hv) (h r0 H locs ls hZ hN hP hS hl)

theorem qb_aload {g : qG} {k : qK} {y : qMY} {st9 : qSt} {mc ms fr lo ce so : Nat} {pc : Nat} {X : List qSh} {L : List (Option qV)} {S : List qV} {M : qM} {cs sl : Nat} (o : qOB g y fr lo ce so k) {n : Nat} {i : Nat} (hdg : decode y.2.1 pc = .ok (.aload n, 2)) (hv : L[n]? = some (some (.inr (some i)))) (h : qBE g k y st9 mc ms (pc + 2) L (.inr (some i) :: S) (X, M) cs sl) : qBE g k y st9 mc ms pc L S (X, M) cs sl := by
  intro r0
  obtain ⟨p, l, e, R, s, m, args, below, meth, c, c0, s0, Q⟩ := k
  obtain ⟨hx, hb, hml, hown, hts, hr, hlocks, hK, hRO, hNB, hB, hDD, hin, hR1, hR2, hR3, hR4⟩ := o
  intro H locs ls hZ hN hP hS hl
  exact lv_aload hx hb hdg (q_l_at hl hv) (h r0 H locs ls hZ hN hP hS hl)

theorem qb_astore_n {g : qG} {k : qK} {y : qMY} {st9 : qSt} {mc ms fr lo ce so : Nat} {pc : Nat} {X : List qSh} {L : List (Option qV)} {S : List qV} {M : qM} {cs sl : Nat} (o : qOB g y fr lo ce so k) {n : Fin 4} {i : Nat} {L' : List (Option qV)} (hdg : decode y.2.1 pc = .ok (.astore_n n, 1)) (hn : (n : Nat) < y.2.2.1) (hL : L.set (n : Nat) (some (.inr (some i))) = L') (h : qBE g k y st9 mc ms (pc + 1) L' S (X, M) cs sl) : qBE g k y st9 mc ms pc L (.inr (some i) :: S) (X, M) cs sl := by
  intro r0
  obtain ⟨p, l, e, R, s, m, args, below, meth, c, c0, s0, Q⟩ := k
  obtain ⟨hx, hb, hml, hown, hts, hr, hlocks, hK, hRO, hNB, hB, hDD, hin, hR1, hR2, hR3, hR4⟩ := o
  intro H locs ls hZ hN hP hS hl
  subst hL
  exact lv_astore_n hx hb hdg rfl hl hn rfl (fun ls1 hl1 => h r0 H locs ls1 hZ hN hP hS (q_l_store (v := .inr (some i)) hl1))

theorem qb_dup {g : qG} {k : qK} {y : qMY} {st9 : qSt} {mc ms fr lo ce so : Nat} {pc : Nat} {X : List qSh} {L : List (Option qV)} {S : List qV} {M : qM} {cs sl : Nat} (o : qOB g y fr lo ce so k) {a : qV} (hdg : decode y.2.1 pc = .ok (.dup, 1)) (h : qBE g k y st9 mc ms (pc + 1) L (a :: a :: S) (X, M) cs sl) : qBE g k y st9 mc ms pc L (a :: S) (X, M) cs sl := by
  intro r0
  obtain ⟨p, l, e, R, s, m, args, below, meth, c, c0, s0, Q⟩ := k
  obtain ⟨hx, hb, hml, hown, hts, hr, hlocks, hK, hRO, hNB, hB, hDD, hin, hR1, hR2, hR3, hR4⟩ := o
  intro H locs ls hZ hN hP hS hl
  exact lv_dup hx hb hdg (q_v_cat _ a) (h r0 H locs ls hZ hN hP hS hl)

theorem qb_getr {g : qG} {k : qK} {y : qMY} {st9 : qSt} {mc ms fr lo ce so : Nat} {pc : Nat} {X : List qSh} {L : List (Option qV)} {S : List qV} {M : qM} {cs sl : Nat} (o : qOB g y fr lo ce so k) {i j ci n idx kf : Nat} {fds : List (Option (Option Nat))} {C : String} {T : u_T} (hC : qC ci C T n) (hsh : X[i]? = some (.inr (ci, fds))) (hf : fds[kf]? = some (some (some j))) (hk : kf < n) (hlk : Cond.fieldLink y.1.cls idx (T kf).1 (T kf).2.1 (T kf).2.2.1 ∈ q_tbl) (hdg : decode y.2.1 pc = .ok (.getfield idx, 3)) (h : qBE g k y st9 mc ms (pc + 3) L (.inr (some j) :: S) (X, M) cs sl) : qBE g k y st9 mc ms pc L (.inr (some i) :: S) (X, M) cs sl := by
  intro r0
  obtain ⟨p, l, e, R, s, m, args, below, meth, c, c0, s0, Q⟩ := k
  obtain ⟨hx, hb, hml, hown, hts, hr, hlocks, hK, hRO, hNB, hB, hDD, hin, hR1, hR2, hR3, hR4⟩ := o
  intro H locs ls hZ hN hP hS hl
  exact va_get hx hb hts hC.2.1 hown hK hP i (q_w_at (g := g) (st := (X, M)) hsh) hC.1 kf hk (hts _ hlk) (fun _ q => q) (q_fl_atr (ad := g.2.2.1) (f := M i) fds 0 kf hf) hdg (h r0 H locs ls hZ hN hP hS hl)

theorem qb_gets {g : qG} {k : qK} {y : qMY} {st9 : qSt} {mc ms fr lo ce so : Nat} {pc : Nat} {X : List qSh} {L : List (Option qV)} {S : List qV} {M : qM} {cs sl : Nat} (o : qOB g y fr lo ce so k)  (hy : y.1.cls = "SecondTry$Judge") (hdg : decode y.2.1 pc = .ok (.getstatic 9, 3)) (h : qBE g k y st9 mc ms (pc + 3) L (.inr (some 1001) :: S) (X, M) cs sl) : qBE g k y st9 mc ms pc L S (X, M) cs sl := by
  intro r0
  obtain ⟨p, l, e, R, s, m, args, below, meth, c, c0, s0, Q⟩ := k
  obtain ⟨hx, hb, hml, hown, hts, hr, hlocks, hK, hRO, hNB, hB, hDD, hin, hR1, hR2, hR3, hR4⟩ := o
  intro H locs ls hZ hN hP hS hl
  rw [hy] at hown
  exact va_getsN hx hb hRO.2.2.2.2.2.2.1 hS hown (va_Nw.use rfl hNB.2.2.2.2.2) (fun _ q => q) hdg (h r0 H locs ls hZ hN hP hS hl)

theorem qb_llen {g : qG} {k : qK} {y : qMY} {st9 : qSt} {mc ms fr lo ce so : Nat} {pc : Nat} {X : List qSh} {L : List (Option qV)} {S : List qV} {M : qM} {cs sl : Nat} (o : qOB g y fr lo ce so k)  (hdg : decode y.2.1 pc = .ok (.arraylength, 1)) (h : qBE g k y st9 mc ms (pc + 1) L (.inl 12 :: S) (X, M) cs sl) : qBE g k y st9 mc ms pc L (.inr (some 1001) :: S) (X, M) cs sl := by
  intro r0
  obtain ⟨p, l, e, R, s, m, args, below, meth, c, c0, s0, Q⟩ := k
  obtain ⟨hx, hb, hml, hown, hts, hr, hlocks, hK, hRO, hNB, hB, hDD, hin, hR1, hR2, hR3, hR4⟩ := o
  intro H locs ls hZ hN hP hS hl
  obtain ⟨cell, c1, c2, c3, c4, c5, c6, c7⟩ := hRO.2.2.2.1
  exact W.alen (n := 12) hx hb (by rw [hS.2.1 _ (Array.getElem?_eq_some_iff.mp c1).1 c7]; exact c1) c2 c5 rfl rfl hdg (h r0 H locs ls hZ hN hP hS hl)

theorem qb_obj {g : qG} {k : qK} {y : qMY} {st9 : qSt} {mc ms fr lo ce so : Nat} {pc : Nat} {X : List qSh} {L : List (Option qV)} {S : List qV} {M : qM} {cs sl : Nat} (o : qOB g y fr lo ce so k) {i idx : Nat} (hlk : Cond.methodLink y.1.cls idx Lib.objectInit ∈ q_tbl) (hinst : Cond.instanceMethod Lib.objectInit ∈ q_tbl) (hcode : Cond.code Lib.objectInit ⟨#[0xb1]⟩ 1 none ∈ q_tbl) (hfr : 1 ≤ fr) (hlo : S.length + 12 ≤ lo) (hdg : decode y.2.1 pc = .ok (.invokespecial idx, 3)) (h : qBE g k y st9 mc ms (pc + 3) L S (X, M) cs sl) : qBE g k y st9 mc ms pc L (.inr (some i) :: S) (X, M) cs sl := by
  intro r0
  obtain ⟨p, l, e, R, s, m, args, below, meth, c, c0, s0, Q⟩ := k
  obtain ⟨hx, hb, hml, hown, hts, hr, hlocks, hK, hRO, hNB, hB, hDD, hin, hR1, hR2, hR3, hR4⟩ := o
  intro H locs ls hZ hN hP hS hl
  refine W.objInit hx hb hown (hts _ hlk) (hts _ hinst) (hts _ hcode) (g := F0 m pc ls (((.inr (some i) :: S) : List qV).map (q_v g.2.2.1))) rfl (by rw [hml]; exact hl.1) (a := g.2.2.1 i) (rest := S.map (q_v g.2.2.1)) rfl hdg (by omega) (by rw [q_cats]; show 2 * 0 + _ + 12 ≤ _; omega) ?_
  exact h r0 H locs ls hZ hN hP hS hl

def q_dflt (T : u_T) (n : Nat) (fds : List (Option (Option Nat))) : Bool := (List.range n).all fun j => match fds[j]?, parseFieldDescriptor (T j).2.2.1 with
  | some none, some ty => decide (defaultValue ty = .int 0)
  | some (some none), some ty => decide (defaultValue ty = .null)
  | _, _ => false
theorem q_dflt_at {T : u_T} {n : Nat} {fds : List (Option (Option Nat))} (h : q_dflt T n fds = true) {ad : Nat → Nat} {f : Nat → Int32} (hf : ∀ k, f k = 0) {j : Nat} (hj : j < n) {ty : FieldType} (ht : parseFieldDescriptor (T j).2.2.1 = some ty) : defaultValue ty = vp_V (q_fl ad f 0 fds) j := by
  have h1 := List.all_eq_true.mp h j (List.mem_range.mpr hj)
  rw [ht] at h1
  cases hq : fds[j]? with
  | none => rw [hq] at h1; cases h1
  | some x =>
    cases x with
    | none =>
      rw [hq] at h1
      have h2 := q_fl_at (ad := ad) (f := f) fds 0 j hq
      simp only [vp_V, List.getD_eq_getElem?_getD, h2, hf]
      simpa using h1
    | some z =>
      cases z with
      | some w => rw [hq] at h1; cases h1
      | none =>
        rw [hq] at h1
        have h2 := q_fl_atr (ad := ad) (f := f) fds 0 j hq
        simp only [vp_V, List.getD_eq_getElem?_getD, h2]
        simpa [va_rf] using h1
theorem qb_new {g : qG} {k : qK} {y : qMY} {st9 : qSt} {mc ms fr lo ce so : Nat} {pc : Nat} {X : List qSh} {L : List (Option qV)} {S : List qV} {M : qM} {cs sl : Nat} (o : qOB g y fr lo ce so k) {ci n idx : Nat} {fds : List (Option (Option Nat))} {C : String} {T : u_T} {X' : List qSh} {i : Nat} (hC : qC ci C T n) (hcl : Cond.classLink y.1.cls idx C ∈ q_tbl) (hinst : Cond.instantiable C n ∈ q_tbl) (hini : Cond.initialized C ∈ q_tbl) (hfd : q_dflt T n fds = true) (hM : ∀ j, M X.length j = 0) (hlen : X.length = i) (hX : X ++ [.inr (ci, fds)] = X') (hiN : i < g.2.2.2.2.1) (hcs : cs + 1 ≤ ce) (hsl : sl + n ≤ so) (hdg : decode y.2.1 pc = .ok (.new idx, 3)) (h : qBE g k y st9 mc ms (pc + 3) L (.inr (some i) :: S) (X', M) (cs + 1) (sl + n)) : qBE g k y st9 mc ms pc L S (X, M) cs sl := by
  intro r0
  obtain ⟨p, l, e, R, s, m, args, below, meth, c, c0, s0, Q⟩ := k
  obtain ⟨hx, hb, hml, hown, hts, hr, hlocks, hK, hRO, hNB, hB, hDD, hin, hR1, hR2, hR3, hR4⟩ := o
  intro H locs ls hZ hN hP hS hl
  subst hlen
  subst hX
  obtain ⟨ty0, hty0⟩ := hC.2.2.1
  have hKn := hK.1 ci _ hC.1
  refine W.newcK hx hb hown (hts _ hcl) (hts _ hinst) (hts _ hini) rfl hdg (by omega) (by omega) hKn.2.1 rfl fun H1 kC hkC e1 z1 o1 => ?_
  have had : H.size = g.2.2.1 X.length := by rw [hZ, hB.1 _ hiN]
  have hk : ∀ (k : Nat) (x : Nat × va_E), (q_w g (X, M))[k]? = some x → H1[x.1]? = H[x.1]? := fun k x hx => o1 x.1 ((hP k x hx).lt)
  have h9 := h r0 H1 locs ls (by rw [z1, hZ]; simp only [List.length_append, List.length_cons, List.length_nil]; omega) (by simp only [List.length_append, List.length_cons, List.length_nil]; omega) (by
    rw [q_w_push]
    refine (hP.kept hk).app (fun k x hx => ?_)
    have hz : k < 1 := (List.getElem?_eq_some_iff.mp hx).1
    rw [show k = 0 by omega] at hx
    cases hx
    refine ⟨_, hC.1, ?_⟩
    rw [← had]
    exact (u_born ty0 hts hC.2.1 hKn hkC e1 hty0).to (fun j hj => q_dflt_at hfd hM hj (hty0 j hj))) ⟨Nat.le_trans hS.1 (by omega), fun x h1 h2 => (o1 x (Nat.lt_of_lt_of_le h1 hS.1)).trans (hS.2.1 x h1 h2), hS.2.2⟩ hl
  rw [had]
  exact h9

theorem qb_newa0 {g : qG} {k : qK} {y : qMY} {st9 : qSt} {mc ms fr lo ce so : Nat} {pc : Nat} {X : List qSh} {L : List (Option qV)} {S : List qV} {M : qM} {cs sl : Nat} (o : qOB g y fr lo ce so k) {v : Int32} {n : Nat} {X' : List qSh} {i : Nat} (harr : Cond.arrayClass .int ∈ q_tbl) (hv : ¬ v < 0) (hn : v.toNatClampNeg = n) (hby : n * componentBytes .int ≤ 536870912) (hM : ∀ j, M X.length j = 0) (hlen : X.length = i) (hX : X ++ [.inl (0, n)] = X') (hiN : i < g.2.2.2.2.1) (hcs : cs + 1 ≤ ce) (hsl : sl + n ≤ so) (hdg : decode y.2.1 pc = .ok (.newarray .int, 2)) (h : qBE g k y st9 mc ms (pc + 2) L (.inr (some i) :: S) (X', M) (cs + 1) (sl + n)) : qBE g k y st9 mc ms pc L (.inl v :: S) (X, M) cs sl := by
  intro r0
  obtain ⟨p, l, e, R, s, m, args, below, meth, c, c0, s0, Q⟩ := k
  obtain ⟨hx, hb, hml, hown, hts, hr, hlocks, hK, hRO, hNB, hB, hDD, hin, hR1, hR2, hR3, hR4⟩ := o
  intro H locs ls hZ hN hP hS hl
  subst hlen
  subst hX
  have had : H.size = g.2.2.1 X.length := by rw [hZ, hB.1 _ hiN]
  refine va_newaK hx hb (atype := .int) (hts _ harr) (g := F0 m pc ls (((.inl v :: S) : List qV).map (q_v g.2.2.1))) rfl hdg (n := v) (rest := S.map (q_v g.2.2.1)) rfl hv hn hby (by omega) (by omega) rfl fun H1 cA e1 z1 o1 hAr hNm => ?_
  have hcA : cA = g.2.1 0 := by
    have h2 := (hK.2 0 (g.2.1 0, .int) rfl).2
    have h3 : s.vm.findClass ("[" ++ (FieldType.toString .int)) = some (g.2.1 0) := h2
    exact Option.some.inj (hNm.symm.trans h3)
  have hk : ∀ (k : Nat) (x : Nat × va_E), (q_w g (X, M))[k]? = some x → H1[x.1]? = H[x.1]? := fun k x hx => o1 x.1 ((hP k x hx).lt)
  have h9 := h r0 H1 locs ls (by rw [z1, hZ]; simp only [List.length_append, List.length_cons, List.length_nil]; omega) (by simp only [List.length_append, List.length_cons, List.length_nil]; omega) (by
    rw [q_w_push]
    refine (hP.kept hk).app (fun k x hx => ?_)
    have hz : k < 1 := (List.getElem?_eq_some_iff.mp hx).1
    rw [show k = 0 by omega] at hx
    cases hx
    show H1[g.2.2.1 X.length]? = some (vp_cell (g.2.1 0) (n, .inl (M X.length)))
    rw [← had, e1, hcA]
    have : M X.length = fun _ => 0 := funext hM
    rw [this]
    rfl) ⟨Nat.le_trans hS.1 (by omega), fun x h1 h2 => (o1 x (Nat.lt_of_lt_of_le h1 hS.1)).trans (hS.2.1 x h1 h2), hS.2.2⟩ hl
  rw [had]
  exact h9

theorem qb_newa1 {g : qG} {k : qK} {y : qMY} {st9 : qSt} {mc ms fr lo ce so : Nat} {pc : Nat} {X : List qSh} {L : List (Option qV)} {S : List qV} {M : qM} {cs sl : Nat} (o : qOB g y fr lo ce so k) {v : Int32} {n : Nat} {X' : List qSh} {i : Nat} (harr : Cond.arrayClass .byte ∈ q_tbl) (hv : ¬ v < 0) (hn : v.toNatClampNeg = n) (hby : n * componentBytes .byte ≤ 536870912) (hM : ∀ j, M X.length j = 0) (hlen : X.length = i) (hX : X ++ [.inl (1, n)] = X') (hiN : i < g.2.2.2.2.1) (hcs : cs + 1 ≤ ce) (hsl : sl + n ≤ so) (hdg : decode y.2.1 pc = .ok (.newarray .byte, 2)) (h : qBE g k y st9 mc ms (pc + 2) L (.inr (some i) :: S) (X', M) (cs + 1) (sl + n)) : qBE g k y st9 mc ms pc L (.inl v :: S) (X, M) cs sl := by
  intro r0
  obtain ⟨p, l, e, R, s, m, args, below, meth, c, c0, s0, Q⟩ := k
  obtain ⟨hx, hb, hml, hown, hts, hr, hlocks, hK, hRO, hNB, hB, hDD, hin, hR1, hR2, hR3, hR4⟩ := o
  intro H locs ls hZ hN hP hS hl
  subst hlen
  subst hX
  have had : H.size = g.2.2.1 X.length := by rw [hZ, hB.1 _ hiN]
  refine va_newaK hx hb (atype := .byte) (hts _ harr) (g := F0 m pc ls (((.inl v :: S) : List qV).map (q_v g.2.2.1))) rfl hdg (n := v) (rest := S.map (q_v g.2.2.1)) rfl hv hn hby (by omega) (by omega) rfl fun H1 cA e1 z1 o1 hAr hNm => ?_
  have hcA : cA = g.2.1 1 := by
    have h2 := (hK.2 1 (g.2.1 1, .byte) rfl).2
    have h3 : s.vm.findClass ("[" ++ (FieldType.toString .byte)) = some (g.2.1 1) := h2
    exact Option.some.inj (hNm.symm.trans h3)
  have hk : ∀ (k : Nat) (x : Nat × va_E), (q_w g (X, M))[k]? = some x → H1[x.1]? = H[x.1]? := fun k x hx => o1 x.1 ((hP k x hx).lt)
  have h9 := h r0 H1 locs ls (by rw [z1, hZ]; simp only [List.length_append, List.length_cons, List.length_nil]; omega) (by simp only [List.length_append, List.length_cons, List.length_nil]; omega) (by
    rw [q_w_push]
    refine (hP.kept hk).app (fun k x hx => ?_)
    have hz : k < 1 := (List.getElem?_eq_some_iff.mp hx).1
    rw [show k = 0 by omega] at hx
    cases hx
    show H1[g.2.2.1 X.length]? = some (vp_cell (g.2.1 1) (n, .inl (M X.length)))
    rw [← had, e1, hcA]
    have : M X.length = fun _ => 0 := funext hM
    rw [this]
    rfl) ⟨Nat.le_trans hS.1 (by omega), fun x h1 h2 => (o1 x (Nat.lt_of_lt_of_le h1 hS.1)).trans (hS.2.1 x h1 h2), hS.2.2⟩ hl
  rw [had]
  exact h9

theorem qb_newa2 {g : qG} {k : qK} {y : qMY} {st9 : qSt} {mc ms fr lo ce so : Nat} {pc : Nat} {X : List qSh} {L : List (Option qV)} {S : List qV} {M : qM} {cs sl : Nat} (o : qOB g y fr lo ce so k) {v : Int32} {n : Nat} {X' : List qSh} {i : Nat} (harr : Cond.arrayClass .boolean ∈ q_tbl) (hv : ¬ v < 0) (hn : v.toNatClampNeg = n) (hby : n * componentBytes .boolean ≤ 536870912) (hM : ∀ j, M X.length j = 0) (hlen : X.length = i) (hX : X ++ [.inl (2, n)] = X') (hiN : i < g.2.2.2.2.1) (hcs : cs + 1 ≤ ce) (hsl : sl + n ≤ so) (hdg : decode y.2.1 pc = .ok (.newarray .boolean, 2)) (h : qBE g k y st9 mc ms (pc + 2) L (.inr (some i) :: S) (X', M) (cs + 1) (sl + n)) : qBE g k y st9 mc ms pc L (.inl v :: S) (X, M) cs sl := by
  intro r0
  obtain ⟨p, l, e, R, s, m, args, below, meth, c, c0, s0, Q⟩ := k
  obtain ⟨hx, hb, hml, hown, hts, hr, hlocks, hK, hRO, hNB, hB, hDD, hin, hR1, hR2, hR3, hR4⟩ := o
  intro H locs ls hZ hN hP hS hl
  subst hlen
  subst hX
  have had : H.size = g.2.2.1 X.length := by rw [hZ, hB.1 _ hiN]
  refine va_newaK hx hb (atype := .boolean) (hts _ harr) (g := F0 m pc ls (((.inl v :: S) : List qV).map (q_v g.2.2.1))) rfl hdg (n := v) (rest := S.map (q_v g.2.2.1)) rfl hv hn hby (by omega) (by omega) rfl fun H1 cA e1 z1 o1 hAr hNm => ?_
  have hcA : cA = g.2.1 2 := by
    have h2 := (hK.2 2 (g.2.1 2, .boolean) rfl).2
    have h3 : s.vm.findClass ("[" ++ (FieldType.toString .boolean)) = some (g.2.1 2) := h2
    exact Option.some.inj (hNm.symm.trans h3)
  have hk : ∀ (k : Nat) (x : Nat × va_E), (q_w g (X, M))[k]? = some x → H1[x.1]? = H[x.1]? := fun k x hx => o1 x.1 ((hP k x hx).lt)
  have h9 := h r0 H1 locs ls (by rw [z1, hZ]; simp only [List.length_append, List.length_cons, List.length_nil]; omega) (by simp only [List.length_append, List.length_cons, List.length_nil]; omega) (by
    rw [q_w_push]
    refine (hP.kept hk).app (fun k x hx => ?_)
    have hz : k < 1 := (List.getElem?_eq_some_iff.mp hx).1
    rw [show k = 0 by omega] at hx
    cases hx
    show H1[g.2.2.1 X.length]? = some (vp_cell (g.2.1 2) (n, .inl (M X.length)))
    rw [← had, e1, hcA]
    have : M X.length = fun _ => 0 := funext hM
    rw [this]
    rfl) ⟨Nat.le_trans hS.1 (by omega), fun x h1 h2 => (o1 x (Nat.lt_of_lt_of_le h1 hS.1)).trans (hS.2.1 x h1 h2), hS.2.2⟩ hl
  rw [had]
  exact h9

theorem qb_putF {g : qG} {k : qK} {y : qMY} {st9 : qSt} {mc ms fr lo ce so : Nat} {pc : Nat} {X : List qSh} {L : List (Option qV)} {S : List qV} {M : qM} {cs sl : Nat} (o : qOB g y fr lo ce so k) {i j ci n idx kf : Nat} {fds : List (Option (Option Nat))} {C : String} {T : u_T} {z : Option Nat} {X' : List qSh} {ty : FieldType} (hC : qC ci C T n) (hsh : X[i]? = some (.inr (ci, fds))) (hf : fds[kf]? = some (some z)) (hk : kf < n) (hlk : Cond.fieldLink y.1.cls idx (T kf).1 (T kf).2.1 (T kf).2.2.1 ∈ q_tbl) (hfin : (T kf).2.2.2 = true) (hname : y.1.name = "<init>") (hdecl : (T kf).1 = y.1.cls) (hty : parseFieldDescriptor (T kf).2.2.1 = some ty) (hnar : narrow ty (.ref (g.2.2.1 j)) = .ref (g.2.2.1 j)) (hfit : fits ty (.ref (g.2.2.1 j)) = true) (hX : X.set i (.inr (ci, fds.set kf (some (some j)))) = X') (hdg : decode y.2.1 pc = .ok (.putfield idx, 3)) (h : qBE g k y st9 mc ms (pc + 3) L S (X', M) cs sl) : qBE g k y st9 mc ms pc L (.inr (some j) :: .inr (some i) :: S) (X, M) cs sl := by
  intro r0
  obtain ⟨p, l, e, R, s, m, args, below, meth, c, c0, s0, Q⟩ := k
  obtain ⟨hx, hb, hml, hown, hts, hr, hlocks, hK, hRO, hNB, hB, hDD, hin, hR1, hR2, hR3, hR4⟩ := o
  intro H locs ls hZ hN hP hS hl
  subst hX
  obtain ⟨ty0, hty0⟩ := hC.2.2.1
  have hD := q_D (g := g) (st := (X, M)) hDD hN
  have hap := va_apart (own := y.1.cls) hts hC.2.1 ty0 hty0 hC.2.2.2 hK hC.1
  have he := q_w_at (g := g) (st := (X, M)) hsh
  obtain ⟨r, h1, cell, q1, q2, q3, q4⟩ := hP i _ he
  have hr : r = (C, T, n) := Option.some.inj (h1.symm.trans hC.1)
  subst hr
  obtain ⟨hSl, hfc, kC, hkC, hkind⟩ := hK.1 ci _ hC.1
  obtain ⟨cf, kf0, fi, f, hi, hsl⟩ := hSl kf hk
  have hlay := hts _ (hC.2.1 _ (u_in_lay hk))
  unfold u_lay at hlay
  rw [if_pos hfin] at hlay
  have hst := (u_facts hfc hkC (u_lays hts hC.2.1 hk) hi).1
  have hcf : m.cls = cf := by
    obtain ⟨_, _, c', _, _, _, -, -, hf', -, -, -, hown2, -⟩ := Cond.laysFinal_spec hlay
    have e1 : c' = cf := by have := hi.symm.trans hf'; simp at this; exact this.1.symm
    rw [hdecl] at hown2
    rw [← e1]; exact Option.some.inj (hown.symm.trans hown2)
  have h6 := u_fits hfc hkC hkind (Or.inr hlay) hi hty (v := .ref (g.2.2.1 j)) hnar hfit
  refine W.putFinK hx hb hown (hts _ hlk) hi hst hcf (by rw [hin]; exact hname) (by rw [q2]; exact h6) q1 q3 (by rw [hsl]; exact k2_hasslot (q4 kf hk)) rfl rfl hdg fun H' e1 e2 e3 => ?_
  rw [hsl] at e1
  have hlen : kf < (q_fl g.2.2.1 (M i) 0 fds).length := by rw [q_fl_len]; exact (List.getElem?_eq_some_iff.mp hf).1
  have hP1 := hP.set hD he (e := .inr (ci, (q_fl g.2.2.1 (M i) 0 fds).set kf (va_rf ((some j).map g.2.2.1)))) ⟨_, hC.1, t_OB.to (V := updV (vp_V (q_fl g.2.2.1 (M i) 0 fds)) kf (.ref (g.2.2.1 j))) ⟨_, e1, q2, q3, t_set q4 hap hk _⟩ (fun a _ => vp_updV_set hlen _ a)⟩ e3
  rw [q_w_setr (g := g) (st := (X, M)) (x := some j) hsh ⟨z, hf⟩] at hP1
  exact h r0 H' _ ls (by rw [e2, hZ]; simp) (by simpa using hN) hP1 (hS.put e2 e3 (hD.2 i _ he)) hl

theorem qb_putr {g : qG} {k : qK} {y : qMY} {st9 : qSt} {mc ms fr lo ce so : Nat} {pc : Nat} {X : List qSh} {L : List (Option qV)} {S : List qV} {M : qM} {cs sl : Nat} (o : qOB g y fr lo ce so k) {i j ci n idx kf : Nat} {fds : List (Option (Option Nat))} {C : String} {T : u_T} {z : Option Nat} {X' : List qSh} {ty : FieldType} (hC : qC ci C T n) (hsh : X[i]? = some (.inr (ci, fds))) (hf : fds[kf]? = some (some z)) (hk : kf < n) (hlk : Cond.fieldLink y.1.cls idx (T kf).1 (T kf).2.1 (T kf).2.2.1 ∈ q_tbl) (hfin : (T kf).2.2.2 = false) (hty : parseFieldDescriptor (T kf).2.2.1 = some ty) (hnar : narrow ty (.ref (g.2.2.1 j)) = .ref (g.2.2.1 j)) (hfit : fits ty (.ref (g.2.2.1 j)) = true) (hX : X.set i (.inr (ci, fds.set kf (some (some j)))) = X') (hdg : decode y.2.1 pc = .ok (.putfield idx, 3)) (h : qBE g k y st9 mc ms (pc + 3) L S (X', M) cs sl) : qBE g k y st9 mc ms pc L (.inr (some j) :: .inr (some i) :: S) (X, M) cs sl := by
  intro r0
  obtain ⟨p, l, e, R, s, m, args, below, meth, c, c0, s0, Q⟩ := k
  obtain ⟨hx, hb, hml, hown, hts, hr, hlocks, hK, hRO, hNB, hB, hDD, hin, hR1, hR2, hR3, hR4⟩ := o
  intro H locs ls hZ hN hP hS hl
  subst hX
  obtain ⟨ty0, hty0⟩ := hC.2.2.1
  have hD := q_D (g := g) (st := (X, M)) hDD hN
  have hap := va_apart (own := y.1.cls) hts hC.2.1 ty0 hty0 hC.2.2.2 hK hC.1
  have he := q_w_at (g := g) (st := (X, M)) hsh
  obtain ⟨r, h1, cell, q1, q2, q3, q4⟩ := hP i _ he
  have hr : r = (C, T, n) := Option.some.inj (h1.symm.trans hC.1)
  subst hr
  obtain ⟨hSl, hfc, kC, hkC, hkind⟩ := hK.1 ci _ hC.1
  obtain ⟨cf, kf0, fi, f, hi, hsl⟩ := hSl kf hk
  have hlay := hts _ (hC.2.1 _ (u_in_lay hk))
  unfold u_lay at hlay
  rw [if_neg (by rw [hfin]; decide)] at hlay
  have hst := (u_facts hfc hkC (u_lays hts hC.2.1 hk) hi).1
  have h6 := u_store hfc hkC hkind hlay hi hty (v := .ref (g.2.2.1 j)) hnar hfit
  refine W.putK hx hb (f := f) ⟨hown, hts _ hlk, ⟨_, _, _, hi⟩, hst⟩ (by rw [q2]; exact h6) q1 q3 (by rw [hsl]; exact k2_hasslot (q4 kf hk)) rfl rfl hdg fun H' e1 e2 e3 => ?_
  rw [hsl] at e1
  have hlen : kf < (q_fl g.2.2.1 (M i) 0 fds).length := by rw [q_fl_len]; exact (List.getElem?_eq_some_iff.mp hf).1
  have hP1 := hP.set hD he (e := .inr (ci, (q_fl g.2.2.1 (M i) 0 fds).set kf (va_rf ((some j).map g.2.2.1)))) ⟨_, hC.1, t_OB.to (V := updV (vp_V (q_fl g.2.2.1 (M i) 0 fds)) kf (.ref (g.2.2.1 j))) ⟨_, e1, q2, q3, t_set q4 hap hk _⟩ (fun a _ => vp_updV_set hlen _ a)⟩ e3
  rw [q_w_setr (g := g) (st := (X, M)) (x := some j) hsh ⟨z, hf⟩] at hP1
  exact h r0 H' _ ls (by rw [e2, hZ]; simp) (by simpa using hN) hP1 (hS.put e2 e3 (hD.2 i _ he)) hl

theorem qb_putz {g : qG} {k : qK} {y : qMY} {st9 : qSt} {mc ms fr lo ce so : Nat} {pc : Nat} {X : List qSh} {L : List (Option qV)} {S : List qV} {M : qM} {cs sl : Nat} (o : qOB g y fr lo ce so k) {i ci n idx kf : Nat} {fds : List (Option (Option Nat))} {C : String} {T : u_T} {M' : qM} (hC : qC ci C T n) (hsh : X[i]? = some (.inr (ci, fds))) (hf : fds[kf]? = some none) (hk : kf < n) (hlk : Cond.fieldLink y.1.cls idx (T kf).1 (T kf).2.1 (T kf).2.2.1 ∈ q_tbl) (hfin : (T kf).2.2.2 = false) (hty : parseFieldDescriptor (T kf).2.2.1 = some .boolean) (hM : mu M i kf 0 = M') (hdg : decode y.2.1 pc = .ok (.putfield idx, 3)) (h : qBE g k y st9 mc ms (pc + 3) L S (X, M') cs sl) : qBE g k y st9 mc ms pc L (.inl 0 :: .inr (some i) :: S) (X, M) cs sl := by
  intro r0
  obtain ⟨p, l, e, R, s, m, args, below, meth, c, c0, s0, Q⟩ := k
  obtain ⟨hx, hb, hml, hown, hts, hr, hlocks, hK, hRO, hNB, hB, hDD, hin, hR1, hR2, hR3, hR4⟩ := o
  intro H locs ls hZ hN hP hS hl
  subst hM
  obtain ⟨ty0, hty0⟩ := hC.2.2.1
  have hD := q_D (g := g) (st := (X, M)) hDD hN
  have hap := va_apart (own := y.1.cls) hts hC.2.1 ty0 hty0 hC.2.2.2 hK hC.1
  have he := q_w_at (g := g) (st := (X, M)) hsh
  obtain ⟨r, h1, cell, q1, q2, q3, q4⟩ := hP i _ he
  have hr : r = (C, T, n) := Option.some.inj (h1.symm.trans hC.1)
  subst hr
  obtain ⟨hSl, hfc, kC, hkC, hkind⟩ := hK.1 ci _ hC.1
  obtain ⟨cf, kf0, fi, f, hi, hsl⟩ := hSl kf hk
  have hlay := hts _ (hC.2.1 _ (u_in_lay hk))
  unfold u_lay at hlay
  rw [if_neg (by rw [hfin]; decide)] at hlay
  have hst := (u_facts hfc hkC (u_lays hts hC.2.1 hk) hi).1
  have h6 := u_store hfc hkC hkind hlay hi hty (v := .int 0) (by decide) (by decide)
  refine W.putK hx hb (f := f) ⟨hown, hts _ hlk, ⟨_, _, _, hi⟩, hst⟩ (by rw [q2]; exact h6) q1 q3 (by rw [hsl]; exact k2_hasslot (q4 kf hk)) rfl rfl hdg fun H' e1 e2 e3 => ?_
  rw [hsl] at e1
  have hlen : kf < (q_fl g.2.2.1 (M i) 0 fds).length := by rw [q_fl_len]; exact (List.getElem?_eq_some_iff.mp hf).1
  have hP1 := hP.set hD he (e := .inr (ci, (q_fl g.2.2.1 (M i) 0 fds).set kf (.int 0))) ⟨_, hC.1, t_OB.to (V := updV (vp_V (q_fl g.2.2.1 (M i) 0 fds)) kf (.int 0)) ⟨_, e1, q2, q3, t_set q4 hap hk _⟩ (fun a _ => vp_updV_set hlen _ a)⟩ e3
  rw [q_w_setf (g := g) (st := (X, M)) hsh hf] at hP1
  exact h r0 H' _ ls (by rw [e2, hZ]) hN hP1 (hS.put e2 e3 (hD.2 i _ he)) hl
theorem qb_ret {g : qG} {k : qK} {y : qMY} {cs sl fr lo ce so : Nat} {pc : Nat} {X : List qSh} {L : List (Option qV)} {M : qM} (o : qOB g y fr lo ce so k) (hdg : decode y.2.1 pc = .ok (.return_, 1)) : qBE g k y (X, M) cs sl pc L [] (X, M) cs sl := by
  intro r0
  obtain ⟨p, l, e, R, s, m, args, below, meth, c, c0, s0, Q⟩ := k
  intro H locs ls hZ hN hP hS hl
  exact r0 H locs ls pc hZ hN hP hS hdg

def qZI (z : qMY) (n : Nat) : Prop := qZ z n ∧ Cond.instanceMethod z.1 ∈ q_tbl ∧ z.1.name = "<init>" ∧ z.2.2.2 = none

theorem qb_call {g : qG} {k : qK} {y : qMY} {st9 : qSt} {mc ms fr lo ce so : Nat} {pc : Nat} {X : List qSh} {L : List (Option qV)} {S : List qV} {M : qM} {cs sl : Nat} (o : qOB g y fr lo ce so k) {z : qMY} {As : List qV} {i idx fr1 lo1 mc1 ms1 : Nat} {X1 : List qSh} {M1 : qM} (hM : qBM g k.2.1 fr1 lo1 z (.inr (some i) :: As) (X, M) (X1, M1) mc1 ms1) (hZ : qZI z As.length) (hlk : Cond.methodLink y.1.cls idx z.1 ∈ q_tbl) (hfr : fr1 + 1 ≤ fr) (hlo : 8 + (z.2.2.1 + 11) + lo1 ≤ lo) (hcs : cs + mc1 ≤ ce) (hsl : sl + ms1 ≤ so) (hS8 : S.length ≤ 8) (hdg : decode y.2.1 pc = .ok (.invokespecial idx, 3)) (h : qBE g k y st9 mc ms (pc + 3) L S (X1, M1) (cs + mc1) (sl + ms1)) : qBE g k y st9 mc ms pc L (As.reverse ++ .inr (some i) :: S) (X, M) cs sl := by
  intro r0
  obtain ⟨p, l, e, R, s, m, args, below, meth, c, c0, s0, Q⟩ := k
  obtain ⟨hx, hb, hml, hown, hts, hr, hlocks, hK, hRO, hNB, hB, hDD, hin, hR1, hR2, hR3, hR4⟩ := o
  intro H locs ls hZ0 hN hP hS hl
  have hG := q_goodIn hZ.1.1
  have hwy : q_wy z = Cond.code z.1 z.2.1 z.2.2.1 none :: q_tbl := by unfold q_wy; rw [hZ.2.2.2]
  have hR9 : fr1 + 1 ≤ R.frames ∧ 8 + (z.2.2.1 + 11) + lo1 ≤ R.locals := ⟨by omega, by omega⟩
  have hr9 := va_runI (p := p) (l := l) (e := e) (R := R) (s := s) (m := m) (args := args) (below := below) (meth := meth) (c := c) (H := H) (locs := locs) (cells := cs) (slots := sl) (Ts := q_tbl) (cc := y.2.1) (nL := y.2.2.1) (own := y.1.cls) (b := g.2.2.1 i) (As := As.map (q_v g.2.2.1)) (rest := S.map (q_v g.2.2.1)) (g := F0 m pc ls ((As.reverse ++ .inr (some i) :: S).map (q_v g.2.2.1)))
    ⟨hx, hb, hml, hown, hts⟩ hM (cwI (R := R) (s := s) (args := args) (own := y.1.cls) (index := idx) (y := z.1) (bytes := z.2.1) (maxL := z.2.2.1) (ws := q_wy z) (mc := mc1) (ms := ms1) (Ts := q_tbl) (rm := { frames := fr1, cells := mc1, slots := ms1, locals := lo1 }) As.length hts hG hwy rfl rfl (hts _ hZ.1.2.1) (hts _ hlk) (hts _ hZ.2.1) hZ.2.2.1 ⟨hZ.1.2.2.2.1, hZ.1.2.2.2.2.1, hZ.1.2.2.2.2.2.1⟩ hR9) ⟨q_blindB, fun U hU hW => ⟨rfl, by rw [hU]; exact hZ0, hN, by rw [hU]; exact hP, va_K.moved hW.alike hK, by rw [hU]; exact (hRO.kept hS).moved hW, hNB.moved hW, hB, hDD⟩⟩ rfl (by simp) hl.1 (by simp [q_v, va_rf, List.map_reverse]) (lv_room (by rw [q_cats]; exact hS8)) hdg ⟨by omega, by omega⟩
  intro T hT XX
  obtain ⟨w, s9, t, T9, L9, h0, X9, hL9, q1, q2, ⟨⟨hw, hsz9, hlen, hP9⟩, hz9, hk9⟩, go⟩ := hr9 T hT XX
  cases hw
  rw [h0] at hz9 hk9
  have hS9 : va_S g.2.2.2.1 s.heap T9.heap (locs ++ L9) := ⟨Nat.le_trans hS.1 (by rw [q1]; exact hz9), fun q a1 a2 => by rw [q1, hk9 q (Nat.lt_of_lt_of_le a1 hS.1) a2]; exact hS.2.1 q a1 a2, fun q hq => (List.mem_append.mp hq).elim (fun a => hS.2.2 q a) (fun a => hL9 q a)⟩
  obtain ⟨t2, a1, b1⟩ := h r0 T9.heap (locs ++ L9) ls (by rw [q1]; exact hsz9) hlen (by rw [q1]; exact hP9) hS9 hl T9 rfl X9
  exact ⟨t2, go t2 a1, b1⟩

theorem qb_callN {g : qG} {k : qK} {y : qMY} {st9 : qSt} {mc ms fr lo ce so : Nat} {pc : Nat} {X : List qSh} {L : List (Option qV)} {S : List qV} {M : qM} {cs sl : Nat} (o : qOB g y fr lo ce so k) {z : qMY} {As : List qV} {i idx fr1 lo1 mc1 ms1 : Nat} {X1 : List qSh} {M1 : qM} (hM : qBM g k.2.1 fr1 lo1 z (.inr (some i) :: As) (X, M) (X1, M1) mc1 ms1) (hZ : qZI z As.length) (hlk : va_Nw (.methodLinkNest y.1.cls idx z.1 "SecondTry") k.2.2.2.2.1) (hfr : fr1 + 1 ≤ fr) (hlo : 8 + (z.2.2.1 + 11) + lo1 ≤ lo) (hcs : cs + mc1 ≤ ce) (hsl : sl + ms1 ≤ so) (hS8 : S.length ≤ 8) (hdg : decode y.2.1 pc = .ok (.invokespecial idx, 3)) (h : qBE g k y st9 mc ms (pc + 3) L S (X1, M1) (cs + mc1) (sl + ms1)) : qBE g k y st9 mc ms pc L (As.reverse ++ .inr (some i) :: S) (X, M) cs sl := by
  intro r0
  obtain ⟨p, l, e, R, s, m, args, below, meth, c, c0, s0, Q⟩ := k
  obtain ⟨hx, hb, hml, hown, hts, hr, hlocks, hK, hRO, hNB, hB, hDD, hin, hR1, hR2, hR3, hR4⟩ := o
  intro H locs ls hZ0 hN hP hS hl
  have hG := q_goodIn hZ.1.1
  have hwy : q_wy z = Cond.code z.1 z.2.1 z.2.2.1 none :: q_tbl := by unfold q_wy; rw [hZ.2.2.2]
  have hR9 : fr1 + 1 ≤ R.frames ∧ 8 + (z.2.2.1 + 11) + lo1 ≤ R.locals := ⟨by omega, by omega⟩
  have hr9 := va_runIN (p := p) (l := l) (e := e) (R := R) (s := s) (m := m) (args := args) (below := below) (meth := meth) (c := c) (H := H) (locs := locs) (cells := cs) (slots := sl) (Ts := q_tbl) (cc := y.2.1) (nL := y.2.2.1) (own := y.1.cls) (b := g.2.2.1 i) (As := As.map (q_v g.2.2.1)) (rest := S.map (q_v g.2.2.1)) (g := F0 m pc ls ((As.reverse ++ .inr (some i) :: S).map (q_v g.2.2.1)))
    ⟨hx, hb, hml, hown, hts⟩ hM ⟨va_cnB (R := R) (s := s) (args := args) (own := y.1.cls) (index := idx) (y := z.1) (host := "SecondTry") (bytes := z.2.1) (maxL := z.2.2.1) (ret := none) (ws := q_wy z) (mc := mc1) (ms := ms1) (Ts := q_tbl) (rm := { frames := fr1, cells := mc1, slots := ms1, locals := lo1 }) As.length hts hG hwy rfl rfl hlk (hts _ hZ.1.2.1) ⟨hZ.1.2.2.2.1, hZ.1.2.2.2.2.1, hZ.1.2.2.2.2.2.1⟩ hR9, hZ.2.2.1, hts _ hZ.2.1⟩ ⟨q_blindB, fun U hU hW => ⟨rfl, by rw [hU]; exact hZ0, hN, by rw [hU]; exact hP, va_K.moved hW.alike hK, by rw [hU]; exact (hRO.kept hS).moved hW, hNB.moved hW, hB, hDD⟩⟩ rfl (by simp) hl.1 (by simp [q_v, va_rf, List.map_reverse]) (lv_room (by rw [q_cats]; exact hS8)) hdg ⟨by omega, by omega⟩
  intro T hT XX
  obtain ⟨w, s9, t, T9, L9, h0, X9, hL9, q1, q2, ⟨⟨hw, hsz9, hlen, hP9⟩, hz9, hk9⟩, go⟩ := hr9 T hT XX
  cases hw
  rw [h0] at hz9 hk9
  have hS9 : va_S g.2.2.2.1 s.heap T9.heap (locs ++ L9) := ⟨Nat.le_trans hS.1 (by rw [q1]; exact hz9), fun q a1 a2 => by rw [q1, hk9 q (Nat.lt_of_lt_of_le a1 hS.1) a2]; exact hS.2.1 q a1 a2, fun q hq => (List.mem_append.mp hq).elim (fun a => hS.2.2 q a) (fun a => hL9 q a)⟩
  obtain ⟨t2, a1, b1⟩ := h r0 T9.heap (locs ++ L9) ls (by rw [q1]; exact hsz9) hlen (by rw [q1]; exact hP9) hS9 hl T9 rfl X9
  exact ⟨t2, go t2 a1, b1⟩

/-- a constructor's contract out of a walk from its entry -/
theorem qBM.of {g : qG} {l : Launch} {fr lo mc ms n : Nat} {y : qMY} {As : List qV} {st st' : qSt} (hZ : qZI y n) (hlen : As.length ≤ y.2.2.1)
    (h : ∀ k : qK, k.2.1 = l → qOB g y fr lo mc ms k → qBE g k y st' mc ms 0 (As.map some ++ List.replicate (y.2.2.1 - As.length) none) [] st 0 0) : qBM g l fr lo y As st st' mc ms := by
  refine Met.ofW (cc := y.2.1) (maxL := y.2.2.1) (ret := y.2.2.2) hZ.1.2.2.1 rfl ?_
  intro p e s m args below meth c s₁ B hml hv
  obtain ⟨rfl, hZs, hN, hP, hK, hRO, hNB, hB, hDD⟩ := hv
  have hts := atoms_spec (ws := q_wy y) B.pre
  have hown : s.vm.findClass y.1.cls = some m.cls := findClass_of_methodNamed B.named
  have hlocks := B.notSynchronized
  have hr := B.returns
  have hin : meth.name = y.1.name := (name_of_methodNamed B.named B.method).1
  have hl := lv_entry (As.map (q_v g.2.2.1)) (n := y.2.2.1) (by rw [q_sl_len]; exact hlen)
  rw [lg_entry_eq]
  generalize (lg_sl (As.map (q_v g.2.2.1)) ++ List.replicate (y.2.2.1 - (lg_sl (As.map (q_v g.2.2.1))).length) Slot.unset).toArray = ls at hl ⊢
  have hl2 : lv_has ls y.2.2.1 (q_l g.2.2.1 0 (As.map some ++ List.replicate (y.2.2.1 - As.length) none)) := by
    rw [q_l_app, q_l_none, List.append_nil, ← q_args]
    exact hl
  refine h (p, l, e, (headSpec (q_wy y) { frames := fr, cells := mc, slots := ms, locals := lo }).room, s, m, _, below, meth, c, 0, 0, _) rfl ⟨B.exec, B.bytes, hml, hown, fun w hw => hts w (List.mem_cons_of_mem _ hw), hr, hlocks, hK, hRO, hNB, hB, hDD, hin, Nat.le_refl _, Nat.le_refl _, Nat.le_refl _, Nat.le_refl _⟩ ?_ s.heap [] ls hZs hN hP va_S.rf hl2
  intro H locs ls2 pc hZ2 hN2 hP2 hS2 hdg
  exact W.vret B.exec B.bytes (by rw [hr, hZ.2.2.2]) (fun t ht hW => ⟨⟨rfl, by rw [ht]; exact hZ2, hN2, by rw [ht]; exact hP2⟩, hS2.F ht⟩) hS2.2.2 hdg
