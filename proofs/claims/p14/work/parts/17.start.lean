/-! THE CLAIM OUT OF ONE WALK OF THE LAW'S BODY. Your part is whole_start (and what it stands on); all else here is the same for every law, but numbers. -/
def R_law : String := "SecondTryLaw"
def lw_P (b : Addr) (xs : List Int32) (args : Array Value) (s : State) : Prop := args = #[.ref b] ∧ s.IntsAt b xs ∧ xs.length ≤ 3584 ∧ (Jvm.Cond.and given_1 narrow_1).before args s = true
def lw_Q (_ : Array Value) (s : State) (o : Outcome) (t : State) : Prop := o = .returned (some (.int 1)) ∧ Framed s o t [] 600000 7302250
def lw_Z (below : List Frame) (a : Array Value) (s : State) : State → Prop := fun t => ∃ o, t.status = .running ∧ Ended t below o ∧ lw_Q a s o t
/-- the law's own end, with 1 on the stack, nothing written that was there before, its room as the claim has it -/
theorem lw_ret {p : Program} {l : Launch} {e : Env} {s : State} {m : MethodId} {below : List Frame} {meth : Method} {c : Code} {b : Nat} (hx : p.tables.exec = Jvm.exec) (hb : c.code = code) (hr : meth.sig.returnType = ret) (hlocks : meth.locks = false) {pc : Nat} {H : Heap} {ls : Array Slot} (hdg : decode code pc = .ok (.ireturn, 1)) : W p l e room_1 s m #[Value.ref b] below meth c H [] 600000 7302250 (lw_Z below #[Value.ref b] s) (F0 m pc ls [.int 1]) := by
  intro T hT X
  obtain ⟨fs, hret, hrun, hended, hW, hframe⟩ := X.leave (v := some (.int 1)) (hlocks := hlocks) (fun h => by rw [hr] at h; cases h)
  have hmeth' : T.vm.method? m = some meth := X.method'
  refine ⟨T.setFrames fs, ?_, .returned (some (.int 1)), hrun, hended, rfl, ⟨_, rfl⟩, hW, hframe⟩
  jvm_step X.here [X.here.top, hx, hb, hdg, hmeth', hr, ret, narrow_b1]
  (try refine ⟨rfl, ?_⟩); (try refine ⟨rfl, ?_⟩)
  first | (intro acts; rw [hret _ acts rfl rfl rfl]) | rw [hret _ _ rfl rfl rfl]
  exact Steps.refl _
/-- what holds at the law's entry: the machine, the code, the tables' words (any of lw_tbl by 'hts w (by decide +kernel)'), the script of L ints xs at the cell b, what the Statement gives of the start (any of its parts by flat_of_before) -/
def lw_At (p : Program) (s : State) (m : MethodId) (meth : Method) (c : Code) (b L : Nat) (xs : Nat → Int32) : Prop :=
  p.tables.exec = Jvm.exec ∧ c.code = code ∧ meth.sig.returnType = ret ∧ c.maxLocals = 4 ∧ s.vm.findClass R_law = some m.cls ∧ (∀ w ∈ lw_tbl, w.before #[Value.ref b] s = true) ∧ va_X b L xs s s.heap ∧ b < s.heap.size ∧ meth.locks = false ∧ (Jvm.Cond.and given_1 narrow_1).before #[Value.ref b] s = true

set_option maxRecDepth 100000 in
theorem cl_L_7 : Cond.classLink RL 7 RX11 ∈ q_tbl := q_in 18 rfl rfl
set_option maxRecDepth 100000 in
theorem cl_L_10 : Cond.classLink RL 10 RX12 ∈ q_tbl := q_in 1032 rfl rfl
set_option maxRecDepth 100000 in
theorem mc_L_9 : Cond.methodLink RL 9 yX11_init ∈ q_tbl := q_in 20 rfl rfl
set_option maxRecDepth 100000 in
theorem mc_L_12 : Cond.methodLink RL 12 yX12_init ∈ q_tbl := q_in 1034 rfl rfl
set_option maxRecDepth 100000 in
theorem in_X11 : Cond.instantiable RX11 13 ∈ q_tbl := q_in 19 rfl rfl
set_option maxRecDepth 100000 in
theorem ii_X11 : Cond.initialized RX11 ∈ q_tbl := q_in 1 rfl rfl
set_option maxRecDepth 100000 in
theorem in_X12 : Cond.instantiable RX12 68 ∈ q_tbl := q_in 1033 rfl rfl
set_option maxRecDepth 100000 in
theorem ii_X12 : Cond.initialized RX12 ∈ q_tbl := q_in 13 rfl rfl
theorem q_sub {w : Cond} (h : w ∈ q_tbl) : w ∈ lw_tbl := (List.mem_filter.mp h).1
theorem q_at {w : Cond} (i : Nat) (h : tables_1[i]? = some w) : w ∈ lw_tbl := List.mem_append_right _ (List.mem_of_getElem? h)
/-- the pure claim: the law's functional text comes to 1 -/
def qPure : Prop := ∀ g : qG, g.2.2.2.2.2.1 ≤ 3584 → ∃ (n m : Nat) (M0 M' : qM), f_model n q0 = some (0, M0) ∧ f_L_law g n m 37 46 0 M0 = some (1, M')
theorem qb_callM {g : qG} {k : qK} {y z : qMY} {fr lo ce so cs sl pc : Nat} {X : List qSh} {L : List (Option qV)} {S : List qV} {M : qM} (o : qOB g y fr lo ce so k) {i idx fr1 lo1 mc1 ms1 : Nat} {st1 : qSt} (hM : Met k.2.1 z.1 (q_wy z) { frames := fr1, cells := mc1, slots := ms1, locals := lo1 } (va_Pc ([.inr (some i)].map (q_v g.2.2.1)) (q_IB g (X, M))) (q_QC g z 0 st1) mc1 ms1 g.2.2.2.1) (hZ : qZI z 0) (hlk : Cond.methodLink y.1.cls idx z.1 ∈ q_tbl) (hfr : fr1 + 1 ≤ fr) (hlo : 8 + (z.2.2.1 + 11) + lo1 ≤ lo) (hcs : cs + mc1 ≤ ce) (hsl : sl + ms1 ≤ so) (hS8 : S.length ≤ 8) (hdg : decode y.2.1 pc = .ok (.invokespecial idx, 3))
    (h : qAW g (k.1, k.2.1, k.2.2.1, k.2.2.2.1, k.2.2.2.2.1, k.2.2.2.2.2.1, k.2.2.2.2.2.2.1, k.2.2.2.2.2.2.2.1, k.2.2.2.2.2.2.2.2.1, k.2.2.2.2.2.2.2.2.2.1, cs + mc1, sl + ms1, k.2.2.2.2.2.2.2.2.2.2.2.2) y (pc + 3) L S st1) : qBW g k y pc L (.inr (some i) :: S) (X, M) cs sl := by
  obtain ⟨p, l, e, R, s, m, args, below, meth, c, c0, s0, Q⟩ := k
  obtain ⟨hx, hb, hml, hown, hts, hr, hlocks, hK, hRO, hNB, hB, hDD, hin, hR1, hR2, hR3, hR4⟩ := o
  intro H locs ls hZ0 hN hP hS hl
  have hG := q_goodIn hZ.1.1
  have hwy : q_wy z = Cond.code z.1 z.2.1 z.2.2.1 none :: q_tbl := by unfold q_wy; rw [hZ.2.2.2]
  have hR9 : fr1 + 1 ≤ R.frames ∧ 8 + (z.2.2.1 + 11) + lo1 ≤ R.locals := ⟨by omega, by omega⟩
  have hr9 := va_runI (p := p) (l := l) (e := e) (R := R) (s := s) (m := m) (args := args) (below := below) (meth := meth) (c := c) (H := H) (locs := locs) (cells := cs) (slots := sl) (Ts := q_tbl) (cc := y.2.1) (nL := y.2.2.1) (own := y.1.cls) (b := g.2.2.1 i) (As := []) (rest := S.map (q_v g.2.2.1)) (g := F0 m pc ls ((.inr (some i) :: S).map (q_v g.2.2.1)))
    ⟨hx, hb, hml, hown, hts⟩ hM (cwI (R := R) (s := s) (args := args) (own := y.1.cls) (index := idx) (y := z.1) (bytes := z.2.1) (maxL := z.2.2.1) (ws := q_wy z) (mc := mc1) (ms := ms1) (Ts := q_tbl) (rm := { frames := fr1, cells := mc1, slots := ms1, locals := lo1 }) 0 hts hG hwy rfl rfl (hts _ hZ.1.2.1) (hts _ hlk) (hts _ hZ.2.1) hZ.2.2.1 ⟨hZ.1.2.2.2.1, hZ.1.2.2.2.2.1, hZ.1.2.2.2.2.2.1⟩ hR9) ⟨q_blindB, fun U hU hW => ⟨rfl, by rw [hU]; exact hZ0, hN, by rw [hU]; exact hP, va_K.moved hW.alike hK, by rw [hU]; exact (hRO.kept hS).moved hW, hNB.moved hW, hB, hDD⟩⟩ rfl rfl hl.1 rfl (lv_room (by rw [q_cats]; exact hS8)) hdg ⟨by omega, by omega⟩
  intro T hT XX
  obtain ⟨w, s9, t, T9, L9, h0, X9, hL9, q1, q2, ⟨⟨hw, hlen, hP9⟩, hz9, hk9⟩, go⟩ := hr9 T hT XX
  have hrv : q_rv z 0 = none := by unfold q_rv; rw [hZ.2.2.2]
  rw [hrv] at hw
  cases hw
  rw [h0] at hz9 hk9
  have hS9 : va_S g.2.2.2.1 s.heap T9.heap (locs ++ L9) := ⟨Nat.le_trans hS.1 (by rw [q1]; exact hz9), fun q a1 a2 => by rw [q1, hk9 q (Nat.lt_of_lt_of_le a1 hS.1) a2]; exact hS.2.1 q a1 a2, fun q hq => (List.mem_append.mp hq).elim (fun a => hS.2.2 q a) (fun a => hL9 q a)⟩
  obtain ⟨t2, a1, b1⟩ := h T9.heap (locs ++ L9) ls hlen (by rw [q1]; exact hP9) hS9 hl T9 rfl X9
  exact ⟨t2, go t2 a1, b1⟩
set_option maxHeartbeats 4000000 in
set_option maxRecDepth 100000 in
/-- the law from its entry, over the pure claim -/
theorem whole_start_open (hp : qPure) {p : Program} {e : Env} {s : State} {m : MethodId} {below : List Frame} {meth : Method} {c : Code} (l : Launch) {b L : Nat} {xs : Nat → Int32} (hL : L ≤ 3584) (C0 : lw_At p s m meth c b L xs) : W p l e room_1 s m #[Value.ref b] below meth c s.heap [] 0 0 (lw_Z below #[Value.ref b] s) (entryFrame m ([Value.ref b] : List Value).toArray 4) := by
  obtain ⟨hx, hb, hr, hml, hown, hts, hX, hbl, hlocks, hgv⟩ := C0
  have hs := flat_of_before _ hgv
  have hA : ∀ a : Nat, a < s.heap.size → ¬ (fun q : Nat => s.heap.size ≤ q) a := fun a h => Nat.not_le.mpr h
  obtain ⟨lt, hev, hT⟩ := va_Tof (args := #[Value.ref b]) (s := s) (tm := (.static "SecondTry" "LETTERS" "[I")) (ty := .int) (N := 12) (f := fun j => .int (q_let j)) (A := fun q : Nat => s.heap.size ≤ q) (by decide) (hs (.arrayOf (.static "SecondTry" "LETTERS" "[I") .int) (by decide +kernel)) (va_eqt (hs (.eq (.length (.static "SecondTry" "LETTERS" "[I")) (.int 12)) (by decide +kernel))) (fun j hj => by
    rcases (show j = 0 ∨ j = 1 ∨ j = 2 ∨ j = 3 ∨ j = 4 ∨ j = 5 ∨ j = 6 ∨ j = 7 ∨ j = 8 ∨ j = 9 ∨ j = 10 ∨ j = 11 by omega) with rfl | rfl | rfl | rfl | rfl | rfl | rfl | rfl | rfl | rfl | rfl | rfl
    · exact va_eqt (hs (.eq (.elem (.static "SecondTry" "LETTERS" "[I") (.int 0)) (.int 107)) (by decide +kernel))
    · exact va_eqt (hs (.eq (.elem (.static "SecondTry" "LETTERS" "[I") (.int 1)) (.int 104)) (by decide +kernel))
    · exact va_eqt (hs (.eq (.elem (.static "SecondTry" "LETTERS" "[I") (.int 2)) (.int 120)) (by decide +kernel))
    · exact va_eqt (hs (.eq (.elem (.static "SecondTry" "LETTERS" "[I") (.int 3)) (.int 106)) (by decide +kernel))
    · exact va_eqt (hs (.eq (.elem (.static "SecondTry" "LETTERS" "[I") (.int 4)) (.int 121)) (by decide +kernel))
    · exact va_eqt (hs (.eq (.elem (.static "SecondTry" "LETTERS" "[I") (.int 5)) (.int 109)) (by decide +kernel))
    · exact va_eqt (hs (.eq (.elem (.static "SecondTry" "LETTERS" "[I") (.int 6)) (.int 100)) (by decide +kernel))
    · exact va_eqt (hs (.eq (.elem (.static "SecondTry" "LETTERS" "[I") (.int 7)) (.int 112)) (by decide +kernel))
    · exact va_eqt (hs (.eq (.elem (.static "SecondTry" "LETTERS" "[I") (.int 8)) (.int 113)) (by decide +kernel))
    · exact va_eqt (hs (.eq (.elem (.static "SecondTry" "LETTERS" "[I") (.int 9)) (.int 110)) (by decide +kernel))
    · exact va_eqt (hs (.eq (.elem (.static "SecondTry" "LETTERS" "[I") (.int 10)) (.int 111)) (by decide +kernel))
    · exact va_eqt (hs (.eq (.elem (.static "SecondTry" "LETTERS" "[I") (.int 11)) (.int 119)) (by decide +kernel))) hA
  have hZst := va_Zof (hts _ (q_at 152 rfl)) (hts _ (q_sub ii_X11)) hev hA
  have hNB : q_NB s := ⟨va_Nw.of rfl (hts _ (q_at 28 rfl)), va_Nw.of rfl (hts _ (q_at 56 rfl)), va_Nw.of rfl (hts _ (q_at 89 rfl)), va_Nw.of rfl (hts _ (q_at 155 rfl)), va_Nw.of rfl (hts _ (q_at 258 rfl)), va_Nw.of rfl (hts _ (q_at 151 rfl))⟩
  have hNw : va_Nw q_Nw s := va_Nw.of rfl (hts _ (q_at 570 rfl))
  obtain ⟨cX0, iX0, hKnX0⟩ := u_known (C := RX0) (T := TX0) (N := 10) (n := 10) hts (fun w hw => q_sub (cf_X0.2.1 w hw)) (hts _ (q_sub in_X0))
  obtain ⟨cX1, iX1, hKnX1⟩ := u_known (C := RX1) (T := TX1) (N := 5) (n := 5) hts (fun w hw => q_sub (cf_X1.2.1 w hw)) (hts _ (q_sub in_X1))
  obtain ⟨cX2, iX2, hKnX2⟩ := u_known (C := RX2) (T := TX2) (N := 4) (n := 4) hts (fun w hw => q_sub (cf_X2.2.1 w hw)) (hts _ (q_sub in_X2))
  obtain ⟨cX3, iX3, hKnX3⟩ := u_known (C := RX3) (T := TX3) (N := 8) (n := 8) hts (fun w hw => q_sub (cf_X3.2.1 w hw)) (hts _ (q_sub in_X3))
  obtain ⟨cX4, iX4, hKnX4⟩ := u_known (C := RX4) (T := TX4) (N := 2) (n := 2) hts (fun w hw => q_sub (cf_X4.2.1 w hw)) (hts _ (q_sub in_X4))
  obtain ⟨cX5, iX5, hKnX5⟩ := u_known (C := RX5) (T := TX5) (N := 13) (n := 13) hts (fun w hw => q_sub (cf_X5.2.1 w hw)) (hts _ (q_sub in_X5))
  obtain ⟨cX6, iX6, hKnX6⟩ := u_known (C := RX6) (T := TX6) (N := 4) (n := 4) hts (fun w hw => q_sub (cf_X6.2.1 w hw)) (hts _ (q_sub in_X6))
  obtain ⟨cX7, iX7, hKnX7⟩ := u_known (C := RX7) (T := TX7) (N := 14) (n := 14) hts (fun w hw => q_sub (cf_X7.2.1 w hw)) (hts _ (q_sub in_X7))
  obtain ⟨cX8, iX8, hKnX8⟩ := u_known (C := RX8) (T := TX8) (N := 12) (n := 12) hts (fun w hw => q_sub (cf_X8.2.1 w hw)) (hts _ (q_sub in_X8))
  obtain ⟨cX9, iX9, hKnX9⟩ := u_known (C := RX9) (T := TX9) (N := 5) (n := 5) hts (fun w hw => q_sub (cf_X9.2.1 w hw)) (hts _ (q_sub in_X9))
  obtain ⟨cX10, iX10, hKnX10⟩ := u_known (C := RX10) (T := TX10) (N := 10) (n := 10) hts (fun w hw => q_sub (cf_X10.2.1 w hw)) (hts _ (q_sub in_X10))
  obtain ⟨cX11, iX11, hKnX11⟩ := u_known (C := RX11) (T := TX11) (N := 13) (n := 13) hts (fun w hw => q_sub (cf_X11.2.1 w hw)) (hts _ (q_sub in_X11))
  obtain ⟨cX12, iX12, hKnX12⟩ := u_known (C := RX12) (T := TX12) (N := 68) (n := 68) hts (fun w hw => q_sub (cf_X12.2.1 w hw)) (hts _ (q_sub in_X12))
  obtain ⟨aI, kI, mI, f1, f2, f3⟩ := Cond.arrayClass_spec (hts _ (q_sub ac_int))
  obtain ⟨aB, kB, mB, f4, f5, f6⟩ := Cond.arrayClass_spec (hts _ (q_sub ac_byte))
  obtain ⟨aZ, kZ, mZ, f7, f8, f9⟩ := Cond.arrayClass_spec (hts _ (q_sub ac_boolean))
  obtain ⟨g, hg⟩ : ∃ g : qG, g = ((fun k => ([cX0, cX1, cX2, cX3, cX4, cX5, cX6, cX7, cX8, cX9, cX10, cX11, cX12] : List ClassId).getD k cX0, fun k => ([iX0, iX1, iX2, iX3, iX4, iX5, iX6, iX7, iX8, iX9, iX10, iX11, iX12] : List (Nat → Nat)).getD k iX0), fun t => ([aI, aB, aZ] : List ClassId).getD t aI, fun i => if i < 1000 then s.heap.size + i else if i = 1000 then b else lt, fun q => s.heap.size ≤ q, 121, L, xs) := ⟨_, rfl⟩
  have hgN : g.2.2.2.2.1 = 121 := by rw [hg]
  have hgA : g.2.2.2.1 = fun q => s.heap.size ≤ q := by rw [hg]
  have hg0 : g.2.2.1 0 = s.heap.size := by rw [hg]; rfl
  have hK : va_K g.1 q_cls (q_t g) s := by
    rw [hg]
    refine ⟨fun k q hq => ?_, fun k q hq => ?_⟩
    · match k, hq with
    | 0, hq => cases hq; exact hKnX0
    | 1, hq => cases hq; exact hKnX1
    | 2, hq => cases hq; exact hKnX2
    | 3, hq => cases hq; exact hKnX3
    | 4, hq => cases hq; exact hKnX4
    | 5, hq => cases hq; exact hKnX5
    | 6, hq => cases hq; exact hKnX6
    | 7, hq => cases hq; exact hKnX7
    | 8, hq => cases hq; exact hKnX8
    | 9, hq => cases hq; exact hKnX9
    | 10, hq => cases hq; exact hKnX10
    | 11, hq => cases hq; exact hKnX11
    | 12, hq => cases hq; exact hKnX12
      | k + 13, hq => simp [q_cls] at hq
    · match k, hq with
      | 0, hq => cases hq; exact ⟨fun n z => ⟨fun k h => (by cases h), kI, f2, mI, f3⟩, f1⟩
      | 1, hq => cases hq; exact ⟨fun n z => ⟨fun k h => (by cases h), kB, f5, mB, f6⟩, f4⟩
      | 2, hq => cases hq; exact ⟨fun n z => ⟨fun k h => (by cases h), kZ, f8, mZ, f9⟩, f7⟩
      | k + 3, hq => simp [q_t] at hq
  have hRO : q_RO g s s.heap := by
    rw [hg]
    exact ⟨hX, hbl, hA b hbl, hT, trivial, trivial, hZst, hNw⟩
  have hB : q_base g := by
    rw [hg]
    refine ⟨fun i hi => ?_, fun q hq => ?_⟩
    · show (if i < 1000 then s.heap.size + i else if i = 1000 then b else lt) = s.heap.size + 0 + i
      have hi : i < 121 := hi
      rw [if_pos (by omega)]
      omega
    · exact hq
  have hDD : q_DD g := by
    refine ⟨fun i j hi hj hij => ?_, fun i hi => ?_⟩
    · rw [hB.1 i hi, hB.1 j hj] at hij
      omega
    · exact hB.2 _ (by rw [hB.1 i hi]; omega)
  obtain ⟨n, mm, M0, M', hE0, hE⟩ := hp g (by rw [hg]; exact hL)
  have ho : ∀ (y : qMY), y.2.1 = code → y.2.2.1 = 4 → y.1.cls = R_law → y.2.2.2 = ret → meth.name = y.1.name → qOB g y 2000 80000 500000 7000000 (p, l, e, room_1, s, m, #[Value.ref b], below, meth, c, 0, 0, lw_Z below #[Value.ref b] s) := by
    intro y h1 h2 h3 h4 h5
    exact ⟨hx, by rw [h1]; exact hb, by rw [h2]; exact hml, by rw [h3]; exact hown, fun w hw => hts w (q_sub hw), by rw [h4]; exact hr, hlocks, hK, hRO, hNB, hB, hDD, h5, by decide, by decide, by decide, by decide⟩
  have o := ho ((⟨R_law, meth.name, "([I)Z"⟩ : MethodName), cL_law, 4, some .boolean) rfl rfl rfl rfl rfl
  have hl := lv_entry ([Value.ref b]) (n := 4) (Nat.le_of_ble_eq_true rfl)
  rw [lg_entry_eq]
  generalize (lg_sl [Value.ref b] ++ List.replicate (4 - (lg_sl [Value.ref b]).length) Slot.unset).toArray = ls at hl ⊢
  have hl2 : lv_has ls 4 (q_l g.2.2.1 0 [some (.inr (some 1000)), none, none, none]) := by
    have e1 : q_l g.2.2.1 0 [some (.inr (some 1000)), none, none, none] = [(0, Value.ref b)] := by
      rw [hg]; rfl
    rw [e1]; exact hl
  have hP0 : va_P g.1 q_cls (q_w g ([], q0)) s.heap := fun k q h => by simp [q_w] at h
  have key : qBE g (p, l, e, room_1, s, m, #[Value.ref b], below, meth, c, 0, 0, lw_Z below #[Value.ref b] s) ((⟨R_law, meth.name, "([I)Z"⟩ : MethodName), cL_law, 4, some .boolean) (qL 0 0 ++ qL 0 0, q0) 0 0 0 [some (.inr (some 1000)), none, none, none] [] ([], q0) 0 0 := by
    refine qb_new (fds := [some none, some none, some none, some none, some none, some none, some none, some none, some none, some none, some none, some none, none]) (X' := xs_1) (i := 0) o cf_X11 cl_L_7 in_X11 ii_X11 (by decide +kernel) (fun _ => rfl) rfl rfl (by rw [hgN]; decide) (by decide) (by decide) (q_dm dm_L_law_0 0 rfl) ?_
    refine qb_dup o (q_dm dm_L_law_0 1 rfl) ?_
    refine qb_call (As := []) (S := [.inr (some 0)]) o (k_X11_init_0 g hgN _) zi_X11_init mc_L_9 (by decide) (by decide) (by decide) (by decide) (by decide) (q_dm dm_L_law_0 2 rfl) ?_
    refine qb_astore_n (L' := [some (.inr (some 1000)), some (.inr (some 0)), none, none]) o (q_dm dm_L_law_0 3 rfl) (Nat.le_of_ble_eq_true rfl) rfl ?_
    refine qb_new (fds := [some none, some none, some none, some none, some none, some none, none, some none, none, none, none, none, none, none, none, none, none, none, some none, some none, some none, some none, some none, some none, some none, some none, some none, some none, some none, some none, some none, some none, some none, some none, some none, none, none, none, none, none, none, none, none, none, none, some none, some none, some none, some none, some none, some none, some none, some none, some none, some none, some none, some none, some none, some none, none, none, none, some none, some none, some none, some none, some none, none]) (X' := xs_168) (i := 77) o cf_X12 cl_L_10 in_X12 ii_X12 (by decide +kernel) (fun _ => rfl) rfl rfl (by rw [hgN]; decide) (by decide) (by decide) (q_dm dm_L_law_0 4 rfl) ?_
    refine qb_dup o (q_dm dm_L_law_0 5 rfl) ?_
    intro _
    refine qb_callM (S := [.inr (some 77)]) o (k_model g hgN _ n M0 hE0) zi_X12_init mc_L_12 (by decide) (by decide) (by decide) (by decide) (by decide) (q_dm dm_L_law_0 6 rfl) ?_
    have oD : qOk g 68 zL_law (p, l, e, room_1, s, m, #[Value.ref b], below, meth, c, 121, 180520, lw_Z below #[Value.ref b] s) := ⟨hx, hb, hml, hown, fun w hw => hts w (q_sub hw), hr, hlocks, hK, hRO, hDD, by decide, by decide, by decide, by decide⟩
    have hR : ∀ (Z : List qSh) (M : qM), qRT g (p, l, e, room_1, s, m, #[Value.ref b], below, meth, c, 121, 180520, lw_Z below #[Value.ref b] s) zL_law 1 (Z, M) := by
      intro Z M H locs ls pc hN hP hS hn hdg
      refine va_forget (fun q hq => ?_) ?_
      · have := hS.2.2 q hq
        rw [hgA] at this
        exact this
      · exact W.widen (k := 600000) (n := 7302250) (by decide) (by decide) (lw_ret hx hb hr hlocks hdg)
    have hw : qAE g (p, l, e, room_1, s, m, #[Value.ref b], below, meth, c, 121, 180520, lw_Z below #[Value.ref b] s) zL_law (qL 0 0) 15 [some (.inr (some 1000)), some (.inr (some 0)), none, none] [.inr (some 77)] (qL 37 46, M0) (f_L_law g n mm 37 46 0 M0) := by
      refine qs_astore_n (L' := [some (.inr (some 1000)), some (.inr (some 0)), some (.inr (some 77)), none]) oD (q_dm dm_L_law_0 7 rfl) (by decide) rfl ?_
      refine qr_iconst oD (q_dm dm_L_law_0 8 rfl) ic_0 ?_
      refine qs_istore_n (L' := [some (.inr (some 1000)), some (.inr (some 0)), some (.inr (some 77)), some (.inl 0)]) oD (q_dm dm_L_law_0 9 rfl) (by decide) rfl ?_
      exact w_L_law hR n oD mm (qL 0 0) 37 46 (Or.inl rfl) (Or.inr rfl) 0 M0
    exact hw 1 M' hE (hR _ _)
  refine key ?_ s.heap [] ls (by rw [hg0]; rfl) (Nat.zero_le _) hP0 va_S.rf hl2
  intro H locs ls2 pc hZ2 hN2 hP2 hS2 hdg
  rw [hgN] at hN2
  have h9 : (qL 0 0 ++ qL 0 0).length = 242 := by rw [List.length_append, qL_len]
  have h8 : (qL 0 0 ++ qL 0 0).length ≤ 121 := hN2
  omega
