
/-! values, cells and states of the small machine: a reference is the number of a cell -/
abbrev qV : Type := Int32 ⊕ Option Nat
abbrev qSh : Type := (Nat × Nat) ⊕ (Nat × List (Option (Option Nat)))
abbrev qM : Type := Nat → Nat → Int32
abbrev qSt : Type := List qSh × qM
abbrev qG : Type := va_G × (Nat → ClassId) × (Nat → Nat) × (Nat → Prop) × Nat × Nat × (Nat → Int32)
abbrev qK : Type := Program × Launch × Env × Room × State × MethodId × Array Value × List Frame × Method × Code × Nat × Nat × (State → Prop)
abbrev qR : Type := Option (Int32 × qM)
def q_tbl : List Cond := lw_tbl.filter goodWord
def q_v (ad : Nat → Nat) : qV → Value
  | .inl v => .int v
  | .inr r => va_rf (r.map ad)
def q_fl (ad : Nat → Nat) (f : Nat → Int32) : Nat → List (Option (Option Nat)) → List Value
  | _, [] => []
  | k, none :: r => .int (f k) :: q_fl ad f (k + 1) r
  | k, some x :: r => va_rf (x.map ad) :: q_fl ad f (k + 1) r
def q_e (g : qG) (M : qM) (i : Nat) : qSh → va_E
  | .inl q => .inl (g.2.1 q.1, q.2, .inl (M i))
  | .inr q => .inr (q.1, q_fl g.2.2.1 (M i) 0 q.2)
def q_w (g : qG) (st : qSt) : va_W := st.1.mapIdx (fun i sh => (g.2.2.1 i, q_e g st.2 i sh))
def q_l (ad : Nat → Nat) : Nat → List (Option qV) → List (Nat × Value)
  | _, [] => []
  | i, none :: r => q_l ad (i + 1) r
  | i, some v :: r => (i, q_v ad v) :: q_l ad (i + 1) r
def mu (M : qM) (i j : Nat) (v : Int32) : qM := fun a b => if a = i ∧ b = j then v else M a b
def mr (M : qM) (i : Nat) (f : Nat → Int32) : qM := fun a => if a = i then f else M a
def q_t (g : qG) : List (ClassId × FieldType) := [(g.2.1 0, .int), (g.2.1 1, .byte), (g.2.1 2, .boolean)]
def q_let (k : Nat) : Int32 := ([107, 104, 120, 106, 121, 109, 100, 112, 113, 110, 111, 119] : List Int32).getD k 0
def q_Nw : Cond := .fieldLinkNest "SecondTry$LawReader" 104 "SecondTry" "LETTERS" "[I" "SecondTry"
def q_RO (g : qG) (U : State) (H : Heap) : Prop :=
  va_X (g.2.2.1 1000) g.2.2.2.2.2.1 g.2.2.2.2.2.2 U H ∧ g.2.2.1 1000 < H.size ∧ ¬ g.2.2.2.1 (g.2.2.1 1000) ∧ va_T .int (g.2.2.1 1001) 12 (fun j => .int (q_let j)) g.2.2.2.1 U H ∧ True ∧ True ∧ va_Z "SecondTry" "LETTERS" "[I" (.ref (g.2.2.1 1001)) g.2.2.2.1 U H ∧ va_Nw q_Nw U
def q_DD (g : qG) : Prop := (∀ i j, i < g.2.2.2.2.1 → j < g.2.2.2.2.1 → g.2.2.1 i = g.2.2.1 j → i = j) ∧ ∀ i, i < g.2.2.2.2.1 → g.2.2.2.1 (g.2.2.1 i)
/-- what a method's frame stands on -/
def qOk (g : qG) (d : Nat) (y : qMY) : qK → Prop := fun ⟨p, l, e, R, s, m, args, below, meth, c, cells, slots, Q⟩ =>
  p.tables.exec = Jvm.exec ∧ c.code = y.2.1 ∧ c.maxLocals = y.2.2.1 ∧ s.vm.findClass y.1.cls = some m.cls ∧ (∀ w ∈ q_tbl, w.before args s = true) ∧ meth.sig.returnType = y.2.2.2 ∧ meth.locks = false ∧ va_K g.1 q_cls (q_t g) s ∧ q_RO g s s.heap ∧ q_DD g ∧ d ≤ R.frames ∧ 64 * d ≤ R.locals ∧ cells ≤ R.cells ∧ slots ≤ R.slots
def qAW (g : qG) (k : qK) (y : qMY) (pc : Nat) (L : List (Option qV)) (S : List qV) (st : qSt) : Prop := match k with
  | ⟨p, l, e, R, s, m, args, below, meth, c, cells, slots, Q⟩ => ∀ (H : Heap) (locs : List Loc) (ls : Array Slot), st.1.length ≤ g.2.2.2.2.1 → va_P g.1 q_cls (q_w g st) H → va_S g.2.2.2.1 s.heap H locs → lv_has ls y.2.2.1 (q_l g.2.2.1 0 L) → W p l e R s m args below meth c H locs cells slots Q (F0 m pc ls (S.map (q_v g.2.2.1)))
def qRT (g : qG) (k : qK) (y : qMY) (v : Int32) (st : qSt) : Prop := match k with
  | ⟨p, l, e, R, s, m, args, below, meth, c, cells, slots, Q⟩ => ∀ (H : Heap) (locs : List Loc) (ls : Array Slot) (pc : Nat), st.1.length ≤ g.2.2.2.2.1 → va_P g.1 q_cls (q_w g st) H → va_S g.2.2.2.1 s.heap H locs →
    match y.2.2.2 with
    | none => decode y.2.1 pc = .ok (.return_, 1) → W p l e R s m args below meth c H locs cells slots Q (F0 m pc ls [])
    | some ty => narrow ty (.int v) = .int v → decode y.2.1 pc = .ok (.ireturn, 1) → W p l e R s m args below meth c H locs cells slots Q (F0 m pc ls [.int v])
/-- where E comes to an answer and a state, the frame comes to its end with them -/
def qAE (g : qG) (k : qK) (y : qMY) (Z : List qSh) (pc : Nat) (L : List (Option qV)) (S : List qV) (st : qSt) (E : qR) : Prop :=
  ∀ (v : Int32) (M' : qM), E = some (v, M') → qRT g k y v (Z, M') → qAW g k y pc L S st
def q_IV (g : qG) (st : qSt) (U : State) : Prop := st.1.length ≤ g.2.2.2.2.1 ∧ va_P g.1 q_cls (q_w g st) U.heap ∧ va_K g.1 q_cls (q_t g) U ∧ q_RO g U U.heap ∧ q_DD g
def q_rv (y : qMY) (v : Int32) : Option Value := match y.2.2.2 with
  | none => none
  | some _ => some (.int v)
def q_QC (g : qG) (y : qMY) (v : Int32) (st : qSt) : Array Value → State → Outcome → State → Prop := fun _ s0 oc t =>
  (oc = .returned (q_rv y v) ∧ st.1.length ≤ g.2.2.2.2.1 ∧ va_P g.1 q_cls (q_w g st) t.heap) ∧ va_F g.2.2.2.1 s0 t
def q_wy (y : qMY) : List Cond := .code y.1 y.2.1 y.2.2.1 y.2.2.2 :: q_tbl
def q_rm (d : Nat) : Room := { frames := d, cells := 0, slots := 0, locals := 64 * d }
/-- a method's contract: where E comes to an answer and a state, the method returns it and leaves the state -/
def qAM (g : qG) (l : Launch) (d : Nat) (y : qMY) (Z : List qSh) (As : List qV) (st : qSt) (E : qR) : Prop :=
  ∀ (v : Int32) (M' : qM), E = some (v, M') → Met l y.1 (q_wy y) (q_rm d) (va_Pc (As.map (q_v g.2.2.1)) (q_IV g st)) (q_QC g y v (Z, M')) 0 0 g.2.2.2.1
/-- what is said once of a method -/
def qZ (z : qMY) (n : Nat) : Prop := Cond.code z.1 z.2.1 z.2.2.1 z.2.2.2 ∈ q_tbl ∧ Cond.initialized z.1.cls ∈ q_tbl ∧ plainName z.1.cls = true ∧ z.1.cls ≠ "java/lang/invoke/MethodHandle" ∧ z.1.cls ≠ "java/lang/invoke/VarHandle" ∧ (parseMethodDescriptor z.1.desc).map (fun d => d.parameters.length) = some n ∧ z.2.2.1 ≤ 45
def qZV (z : qMY) (n : Nat) : Prop := qZ z n ∧ Cond.instanceMethod z.1 ∈ q_tbl ∧ Cond.selects z.1.cls z.1 z.1 ∈ q_tbl
def qZS (z : qMY) (n : Nat) : Prop := qZ z n ∧ Cond.static z.1 ∈ q_tbl
def qC (ci : Nat) (C : String) (T : u_T) (N : Nat) : Prop := q_cls[ci]? = some (C, T, N) ∧ (∀ w ∈ u_ws C T N, w ∈ q_tbl) ∧ (∃ ty : Nat → FieldType, ∀ k, k < N → parseFieldDescriptor (T k).2.2.1 = some (ty k)) ∧ ∀ a, a < N → ∀ b, b < N → a ≠ b → (T a).2.1 ≠ (T b).2.1
theorem q_in {w : Cond} (i : Nat) (h : tables_1[i]? = some w) (hg : goodWord w = true) : w ∈ q_tbl := List.mem_filter.mpr ⟨List.mem_append_right _ (List.mem_of_getElem? h), hg⟩
theorem q_inS {w : Cond} (i : Nat) (h : (k2_sels lw_privs)[i]? = some w) (hg : goodWord w = true) : w ∈ q_tbl := List.mem_filter.mpr ⟨List.mem_append_left _ (List.mem_of_getElem? h), hg⟩
theorem q_goodIn {z : qMY} (h : Cond.code z.1 z.2.1 z.2.2.1 z.2.2.2 ∈ q_tbl) : GoodIn q_tbl (q_wy z) := by
  intro w hw
  have hm : w ∈ q_tbl := (List.mem_cons.mp hw).elim (fun e => e ▸ h) id
  exact ⟨hm, good_of_word (List.mem_filter.mp hm).2⟩
theorem q_w_at {g : qG} {st : qSt} {i : Nat} {sh : qSh} (h : st.1[i]? = some sh) : (q_w g st)[i]? = some (g.2.2.1 i, q_e g st.2 i sh) := by
  simp [q_w, h]
theorem q_w_len {g : qG} {st : qSt} : (q_w g st).length = st.1.length := by simp [q_w]
theorem q_fl_at {ad : Nat → Nat} {f : Nat → Int32} : ∀ (fds : List (Option (Option Nat))) (k0 k : Nat), fds[k]? = some none → (q_fl ad f k0 fds)[k]? = some (.int (f (k0 + k)))
  | [], _, k, h => by simp at h
  | none :: r, k0, 0, _ => by simp [q_fl]
  | some x :: r, k0, 0, h => by simp at h
  | none :: r, k0, k + 1, h => by
    have := q_fl_at (ad := ad) (f := f) r (k0 + 1) k (by simpa using h)
    simp only [q_fl, List.getElem?_cons_succ]
    rw [this, show k0 + 1 + k = k0 + (k + 1) by omega]
  | some x :: r, k0, k + 1, h => by
    have := q_fl_at (ad := ad) (f := f) r (k0 + 1) k (by simpa using h)
    simp only [q_fl, List.getElem?_cons_succ]
    rw [this, show k0 + 1 + k = k0 + (k + 1) by omega]
theorem q_fl_atr {ad : Nat → Nat} {f : Nat → Int32} {x : Option Nat} : ∀ (fds : List (Option (Option Nat))) (k0 k : Nat), fds[k]? = some (some x) → (q_fl ad f k0 fds)[k]? = some (va_rf (x.map ad))
  | [], _, k, h => by simp at h
  | none :: r, k0, 0, h => by simp at h
  | some y :: r, k0, 0, h => by simp at h; simp [q_fl, h]
  | none :: r, k0, k + 1, h => by
    simp only [q_fl, List.getElem?_cons_succ]
    exact q_fl_atr r (k0 + 1) k (by simpa using h)
  | some y :: r, k0, k + 1, h => by
    simp only [q_fl, List.getElem?_cons_succ]
    exact q_fl_atr r (k0 + 1) k (by simpa using h)
theorem q_fl_len {ad : Nat → Nat} {f : Nat → Int32} : ∀ (fds : List (Option (Option Nat))) (k0 : Nat), (q_fl ad f k0 fds).length = fds.length
  | [], _ => rfl
  | none :: r, k0 => by simp [q_fl, q_fl_len r (k0 + 1)]
  | some x :: r, k0 => by simp [q_fl, q_fl_len r (k0 + 1)]
theorem q_fl_congr {ad : Nat → Nat} {f f' : Nat → Int32} : ∀ (fds : List (Option (Option Nat))) (k0 : Nat), (∀ j, k0 ≤ j → f j = f' j) → q_fl ad f k0 fds = q_fl ad f' k0 fds
  | [], _, _ => rfl
  | none :: r, k0, h => by simp only [q_fl]; rw [h k0 (Nat.le_refl _), q_fl_congr r (k0 + 1) (fun j hj => h j (by omega))]
  | some x :: r, k0, h => by simp only [q_fl]; rw [q_fl_congr r (k0 + 1) (fun j hj => h j (by omega))]
theorem q_fl_set {ad : Nat → Nat} {f : Nat → Int32} {v : Int32} : ∀ (fds : List (Option (Option Nat))) (k0 k : Nat), fds[k]? = some none → (q_fl ad f k0 fds).set k (.int v) = q_fl ad (upd f (k0 + k) v) k0 fds
  | [], _, k, h => by simp at h
  | some x :: r, k0, 0, h => by simp at h
  | none :: r, k0, 0, _ => by
    simp only [q_fl, List.set_cons_zero, Nat.add_zero]
    rw [pk_us, q_fl_congr (f := f) (f' := upd f k0 v) r (k0 + 1) (fun j hj => (pk_un (by omega)).symm)]
  | none :: r, k0, k + 1, h => by
    have := q_fl_set (ad := ad) (f := f) (v := v) r (k0 + 1) k (by simpa using h)
    simp only [q_fl, List.set_cons_succ]
    rw [this, show k0 + 1 + k = k0 + (k + 1) by omega, pk_un (by omega)]
  | some x :: r, k0, k + 1, h => by
    have := q_fl_set (ad := ad) (f := f) (v := v) r (k0 + 1) k (by simpa using h)
    simp only [q_fl, List.set_cons_succ]
    rw [this, show k0 + 1 + k = k0 + (k + 1) by omega]
theorem q_fl_setr {ad : Nat → Nat} {f : Nat → Int32} {x : Option Nat} : ∀ (fds : List (Option (Option Nat))) (k0 k : Nat), (∃ z, fds[k]? = some (some z)) → (q_fl ad f k0 fds).set k (va_rf (x.map ad)) = q_fl ad f k0 (fds.set k (some x))
  | [], _, k, h => by simp at h
  | none :: r, k0, 0, h => by simp at h
  | some y :: r, k0, 0, _ => by simp [q_fl]
  | none :: r, k0, k + 1, h => by
    simp only [q_fl, List.set_cons_succ]
    rw [q_fl_setr r (k0 + 1) k (by simpa using h)]
  | some y :: r, k0, k + 1, h => by
    simp only [q_fl, List.set_cons_succ]
    rw [q_fl_setr r (k0 + 1) k (by simpa using h)]
theorem mu_row {M : qM} {i j : Nat} {v : Int32} : mu M i j v i = upd (M i) j v := by
  funext b
  simp [mu, upd]
theorem mu_off {M : qM} {i j a : Nat} {v : Int32} (h : a ≠ i) : mu M i j v a = M a := by
  funext b
  simp [mu, h]
theorem mr_row {M : qM} {i : Nat} {f : Nat → Int32} : mr M i f i = f := by simp [mr]
theorem mr_off {M : qM} {i a : Nat} {f : Nat → Int32} (h : a ≠ i) : mr M i f a = M a := by simp [mr, h]
theorem q_e_off {g : qG} {M M' : qM} {i : Nat} {sh : qSh} (h : M' i = M i) : q_e g M' i sh = q_e g M i sh := by
  cases sh <;> simp [q_e, h]
theorem q_w_set {g : qG} {st st' : qSt} {i : Nat} {sh : qSh} {x : va_E} (h : st.1[i]? = some sh) (h1 : st'.1.length = st.1.length) (h2 : ∀ j, j ≠ i → st'.1[j]? = st.1[j]? ∧ st'.2 j = st.2 j) (h3 : ∃ sh', st'.1[i]? = some sh' ∧ q_e g st'.2 i sh' = x) : (q_w g st).set i (g.2.2.1 i, x) = q_w g st' := by
  apply List.ext_getElem?
  intro j
  have hi : i < (q_w g st).length := by rw [q_w_len]; exact (List.getElem?_eq_some_iff.mp h).1
  by_cases hj : j = i
  · subst hj
    obtain ⟨sh', e1, e2⟩ := h3
    rw [q_w_at e1, List.getElem?_set_self hi, e2]
  · rw [List.getElem?_set_ne (fun e => hj e.symm)]
    obtain ⟨a1, a2⟩ := h2 j hj
    simp only [q_w, List.getElem?_mapIdx, a1]
    congr 1
    funext sh
    rw [q_e_off (g := g) (sh := sh) a2]
theorem q_w_seta {g : qG} {st : qSt} {i j t n : Nat} {v : Int32} (h : st.1[i]? = some (.inl (t, n))) : (q_w g st).set i (g.2.2.1 i, .inl (g.2.1 t, n, .inl (upd (st.2 i) j v))) = q_w g (st.1, mu st.2 i j v) :=
  q_w_set h rfl (fun a ha => ⟨rfl, mu_off ha⟩) ⟨_, h, by simp [q_e, mu_row]⟩
theorem q_w_setm {g : qG} {st : qSt} {i t n : Nat} {f : Nat → Int32} (h : st.1[i]? = some (.inl (t, n))) : (q_w g st).set i (g.2.2.1 i, .inl (g.2.1 t, n, .inl f)) = q_w g (st.1, mr st.2 i f) :=
  q_w_set h rfl (fun a ha => ⟨rfl, mr_off ha⟩) ⟨_, h, by simp [q_e, mr_row]⟩
theorem q_w_setf {g : qG} {st : qSt} {i k ci : Nat} {fds : List (Option (Option Nat))} {v : Int32} (h : st.1[i]? = some (.inr (ci, fds))) (hk : fds[k]? = some none) : (q_w g st).set i (g.2.2.1 i, .inr (ci, (q_fl g.2.2.1 (st.2 i) 0 fds).set k (.int v))) = q_w g (st.1, mu st.2 i k v) :=
  q_w_set h rfl (fun a ha => ⟨rfl, mu_off ha⟩) ⟨_, h, by simp only [q_e, mu_row]; rw [q_fl_set fds 0 k hk, Nat.zero_add]⟩
theorem q_w_setr {g : qG} {st : qSt} {i k ci : Nat} {fds : List (Option (Option Nat))} {x : Option Nat} (h : st.1[i]? = some (.inr (ci, fds))) (hk : ∃ z, fds[k]? = some (some z)) : (q_w g st).set i (g.2.2.1 i, .inr (ci, (q_fl g.2.2.1 (st.2 i) 0 fds).set k (va_rf (x.map g.2.2.1)))) = q_w g (st.1.set i (.inr (ci, fds.set k (some x))), st.2) := by
  have hi := (List.getElem?_eq_some_iff.mp h).1
  exact q_w_set h (by simp) (fun a ha => ⟨by simp [List.getElem?_set_ne (fun e => ha e.symm)], rfl⟩) ⟨.inr (ci, fds.set k (some x)), by simp [List.getElem?_set_self hi], by simp only [q_e]; rw [q_fl_setr fds 0 k hk]⟩
theorem q_D {g : qG} {st : qSt} (h : q_DD g) (hN : st.1.length ≤ g.2.2.2.2.1) : va_D g.2.2.2.1 (q_w g st) := by
  have lt : ∀ (k : Nat) (q : Nat × va_E), (q_w g st)[k]? = some q → k < g.2.2.2.2.1 ∧ q.1 = g.2.2.1 k := by
    intro k q hq
    have hk := (List.getElem?_eq_some_iff.mp hq).1
    rw [q_w_len] at hk
    refine ⟨by omega, ?_⟩
    have := q_w_at (g := g) (st := st) (List.getElem?_eq_getElem hk)
    rw [this] at hq
    cases hq
    rfl
  refine ⟨fun i j a b ha hb hab => ?_, fun k q hq => ?_⟩
  · obtain ⟨a1, a2⟩ := lt i a ha
    obtain ⟨b1, b2⟩ := lt j b hb
    exact h.1 i j a1 b1 (by rw [← a2, ← b2]; exact hab)
  · obtain ⟨a1, a2⟩ := lt k q hq
    rw [a2]
    exact h.2 k a1
theorem q_l_mem {ad : Nat → Nat} {v : qV} : ∀ (L : List (Option qV)) (i0 i : Nat), L[i]? = some (some v) → (i0 + i, q_v ad v) ∈ q_l ad i0 L
  | [], _, _, h => by simp at h
  | none :: r, i0, 0, h => by simp at h
  | some x :: r, i0, 0, h => by
    simp at h
    subst h
    simp [q_l]
  | none :: r, i0, i + 1, h => by
    have := q_l_mem (ad := ad) r (i0 + 1) i (by simpa using h)
    rw [show i0 + (i + 1) = i0 + 1 + i by omega]
    exact this
  | some x :: r, i0, i + 1, h => by
    have := q_l_mem (ad := ad) r (i0 + 1) i (by simpa using h)
    rw [show i0 + (i + 1) = i0 + 1 + i by omega]
    exact List.mem_cons_of_mem _ this
theorem q_l_of {ad : Nat → Nat} {q : Nat × Value} : ∀ (L : List (Option qV)) (i0 : Nat), q ∈ q_l ad i0 L → ∃ i v, L[i]? = some (some v) ∧ q = (i0 + i, q_v ad v)
  | [], _, h => by simp [q_l] at h
  | none :: r, i0, h => by
    obtain ⟨i, v, h1, h2⟩ := q_l_of r (i0 + 1) h
    exact ⟨i + 1, v, by simpa using h1, by rw [h2, show i0 + (i + 1) = i0 + 1 + i by omega]⟩
  | some x :: r, i0, h => by
    rcases List.mem_cons.mp h with h | h
    · exact ⟨0, x, rfl, h⟩
    · obtain ⟨i, v, h1, h2⟩ := q_l_of r (i0 + 1) h
      exact ⟨i + 1, v, by simpa using h1, by rw [h2, show i0 + (i + 1) = i0 + 1 + i by omega]⟩
theorem q_v_cat (ad : Nat → Nat) (v : qV) : (q_v ad v).category = 1 := by
  cases v with
  | inl x => rfl
  | inr r => cases r <;> rfl
theorem q_l_at {ls : Array Slot} {nL : Nat} {ad : Nat → Nat} {L : List (Option qV)} {v : qV} {i : Nat} (h : lv_has ls nL (q_l ad 0 L)) (hi : L[i]? = some (some v)) : ls[i]? = some (.val (q_v ad v)) := by
  have := h.2.2 _ (q_l_mem L 0 i hi)
  rwa [Nat.zero_add] at this
theorem q_l_store {ls : Array Slot} {nL : Nat} {ad : Nat → Nat} {L : List (Option qV)} {v : qV} {i : Nat} (h : lv_has ls nL ((i, q_v ad v) :: (q_l ad 0 L).filter (fun q => !(q.1 == i) && !(q.1 + 1 == i && q.2.category == 2)))) : lv_has ls nL (q_l ad 0 (L.set i (some v))) := by
  refine ⟨h.1, h.2.1, fun q hq => ?_⟩
  obtain ⟨j, w, h1, h2⟩ := q_l_of _ _ hq
  rw [Nat.zero_add] at h2
  by_cases hj : j = i
  · subst hj
    by_cases hl : j < L.length
    · rw [List.getElem?_set_self hl] at h1
      cases h1
      exact h.2.2 q (by rw [h2]; exact List.mem_cons_self)
    · simp [List.getElem?_set, hl] at h1
  · rw [List.getElem?_set_ne (fun e => hj e.symm)] at h1
    refine h.2.2 q (List.mem_cons_of_mem _ (List.mem_filter.mpr ⟨?_, ?_⟩))
    · have := q_l_mem (ad := ad) L 0 j h1
      rw [Nat.zero_add] at this
      rw [h2]
      exact this
    · rw [h2]
      simp [hj, q_v_cat]
theorem q_RO.moved {g : qG} {u U : State} {H : Heap} (hW : u.WarmedH U.vm) (h : q_RO g u H) : q_RO g U H :=
  ⟨h.1.moved hW.alike, h.2.1, h.2.2.1, h.2.2.2.1.moved hW.alike, h.2.2.2.2.1, h.2.2.2.2.2.1, h.2.2.2.2.2.2.1.moved hW.alike, va_Nw.warmF hW h.2.2.2.2.2.2.2⟩
theorem q_RO.kept {g : qG} {U : State} {H H1 : Heap} {locs : List Loc} (hS : va_S g.2.2.2.1 H H1 locs) (h : q_RO g U H) : q_RO g U H1 :=
  ⟨h.1.kept (hS.2.1 _ h.2.1 h.2.2.1), Nat.lt_of_lt_of_le h.2.1 hS.1, h.2.2.1, h.2.2.2.1.kept hS.2.1, trivial, trivial, h.2.2.2.2.2.2.1.kept hS.2.1, h.2.2.2.2.2.2.2⟩
theorem q_RO.calling {g : qG} {U : State} {f : JFrame} {mk : MethodId} {a : Array Value} (h : q_RO g U U.heap) : q_RO g (U.calling f mk a) (U.calling f mk a).heap :=
  ⟨va_X.moved (u := U) (U := U.calling f mk a) (Vm.Alike.refl U.vm) h.1, h.2.1, h.2.2.1, va_T.moved (u := U) (U := U.calling f mk a) (Vm.Alike.refl U.vm) h.2.2.2.1, h.2.2.2.2.1, h.2.2.2.2.2.1, va_Z.moved (u := U) (U := U.calling f mk a) (Vm.Alike.refl U.vm) h.2.2.2.2.2.2.1, va_Nw.same rfl (u := U) (U := U.calling f mk a) rfl h.2.2.2.2.2.2.2⟩
theorem q_blind {g : qG} {st : qSt} {As : List Value} : FrameBlind (va_Pc As (q_IV g st)) := fun a U f mk q =>
  ⟨q.1, q.2.1, q.2.2.1, va_K.moved (u := U) (U := U.calling f mk a) (Vm.Alike.refl U.vm) q.2.2.2.1, q.2.2.2.2.1.calling, q.2.2.2.2.2⟩
