theorem qr_callx {g : qG} {k : qK} {d : Nat} {y : qMY} {pc : Nat} {Z X X1 : List qSh} {L : List (Option qV)} {S : List qV} {M : qM} {E : Int32 → qM → qR} (o : qOk g d y k) {z : qMY} {ty : FieldType} {As : List qV} {i d1 idx ci n : Nat} {fds : List (Option (Option Nat))} {T : u_T} {F : qR} (hM : qAM g k.2.1 d1 z X1 (.inr (some i) :: As) (X, M) F) (hd : d1 + 1 ≤ d) (hZ : qZV z As.length) (hz : z.2.2.2 = some ty) (hC : qC ci z.1.cls T n) (hsh : X[i]? = some (.inr (ci, fds))) (hlk : Cond.methodLink y.1.cls idx z.1 ∈ q_tbl) (hS8 : S.length ≤ 8) (hdg : decode y.2.1 pc = .ok (.invokevirtual idx, 3)) (kk : ∀ (r : Int32) (M1 : qM), qAE g k y Z (pc + 3) L (.inl r :: S) (X1, M1) (E r M1)) : qAE g k y Z pc L (As.reverse ++ .inr (some i) :: S) (X, M) (qc F E) := by
  intro v0 M0 e0 r0
  obtain ⟨p, l, e, R, s, m, args, below, meth, c, cells, slots, Q⟩ := k
  obtain ⟨hx, hb, hml, hown, hts, hr, hlocks, hK, hRO, hDD, hR1, hR2, hc1, hc2⟩ := o
  intro H locs ls hN hP hS hl
  obtain ⟨v1, M1, e1, e2⟩ := qc_some e0
  have hMt := hM v1 M1 e1
  have hG := q_goodIn hZ.1.1
  have hR9 : (q_rm d1).frames + 1 ≤ R.frames ∧ 8 + (z.2.2.1 + 11) + (q_rm d1).locals ≤ R.locals := ⟨by show d1 + 1 ≤ R.frames; omega, by show 8 + (z.2.2.1 + 11) + 64 * d1 ≤ R.locals; have := hZ.1.2.2.2.2.2.2; omega⟩
  have hcat : ∀ S1 : List qV, S1.length ≤ 8 → ((S1.map (q_v g.2.2.1)).map fun v => v.category).sum ≤ 8 := by
    intro S1 hS1
    have : ((S1.map (q_v g.2.2.1)).map fun v => v.category).sum = S1.length := by
      clear hS1
      induction S1 with
      | nil => rfl
      | cons a r ih => simp only [List.map_cons, List.sum_cons, List.length_cons, ih, q_v_cat]; omega
    rw [this]; exact hS1
  have hcb := callB_of (R := R) (s := s) (args := args) (own := y.1.cls) (index := idx) (y := z.1) (bytes := z.2.1) (maxL := z.2.2.1) (ret := z.2.2.2) (ws := q_wy z) (rm := q_rm d1) (mc := 0) (ms := 0) (Ts := q_tbl) As.length hts hG rfl rfl rfl (hts _ hZ.1.2.1) (hts _ hlk) ⟨hZ.1.2.2.2.1, hZ.1.2.2.2.2.1, hZ.1.2.2.2.2.2.1⟩ hR9
  have hr9 := va_runV (p := p) (l := l) (e := e) (R := R) (s := s) (m := m) (args := args) (below := below) (meth := meth) (c := c) (H := H) (locs := locs) (cells := cells) (slots := slots) (Ts := q_tbl) (cc := y.2.1) (nL := y.2.2.1) (own := y.1.cls) (C := z.1.cls) (b := g.2.2.1 i) (As := As.map (q_v g.2.2.1)) (rest := S.map (q_v g.2.2.1)) (g := F0 m pc ls ((As.reverse ++ .inr (some i) :: S).map (q_v g.2.2.1)))
    ⟨hx, hb, hml, hown, hts⟩ hMt ⟨hcb, hts _ hZ.2.1, hts _ hZ.2.2⟩ ⟨q_blind, va_recv hK hP hC.1 (q_w_at (g := g) (st := (X, M)) hsh), fun U hU hW => ⟨rfl, hN, by rw [hU]; exact hP, va_K.moved hW.alike hK, by rw [hU]; exact (hRO.kept hS).moved hW, hDD⟩⟩ rfl (by simp) hl.1 (by simp [q_v, va_rf, List.map_reverse]) (lv_room (hcat S hS8)) hdg ⟨by simpa using hc1, by simpa using hc2⟩
  intro T hT X
  obtain ⟨w, s9, t, T9, L9, h0, X9, hL9, q1, q2, ⟨⟨hw, hlen, hP9⟩, hz9, hk9⟩, go⟩ := hr9 T hT X
  have hw2 : w = q_rv z v1 := by cases hw; rfl
  subst hw2
  rw [h0] at hz9 hk9
  have hS9 : va_S g.2.2.2.1 s.heap T9.heap (locs ++ L9) := ⟨Nat.le_trans hS.1 (by rw [q1]; exact hz9), fun q a1 a2 => by rw [q1, hk9 q (Nat.lt_of_lt_of_le a1 hS.1) a2]; exact hS.2.1 q a1 a2, fun q hq => (List.mem_append.mp hq).elim (fun a => hS.2.2 q a) (fun a => hL9 q a)⟩
  obtain ⟨t2, a1, b1⟩ := kk v1 M1 v0 M0 e2 r0 T9.heap (locs ++ L9) ls hlen (by rw [q1]; exact hP9) hS9 hl T9 rfl X9
  refine ⟨t2, go t2 ?_, b1⟩
  simp only [q_rv, hz]
  exact a1

def qc2 (F1 F2 : qR) (E1 E2 : Int32 → qM → qR) : qR := match F1 with
  | some q => E1 q.1 q.2
  | none => qc F2 E2
theorem qr_law2 {g : qG} {k : qK} {d : Nat} {y : qMY} {pc : Nat} {Z X X1 : List qSh} {L : List (Option qV)} {S : List qV} {M : qM} {E1 E2 : Int32 → qM → qR} (o : qOk g d y k) {z : qMY} {ty : FieldType} {As : List qV} {i d1 idx ci n : Nat} {fds : List (Option (Option Nat))} {T : u_T} {F1 F2 : qR} (hM1 : qAM g k.2.1 d1 z X (.inr (some i) :: As) (X, M) F1) (hM2 : qAM g k.2.1 d1 z X1 (.inr (some i) :: As) (X, M) F2) (hd : d1 + 1 ≤ d) (hZ : qZV z As.length) (hz : z.2.2.2 = some ty) (hC : qC ci z.1.cls T n) (hsh : X[i]? = some (.inr (ci, fds))) (hlk : Cond.methodLink y.1.cls idx z.1 ∈ q_tbl) (hS8 : S.length ≤ 8) (hdg : decode y.2.1 pc = .ok (.invokevirtual idx, 3)) (kk1 : ∀ (r : Int32) (M1 : qM), qAE g k y Z (pc + 3) L (.inl r :: S) (X, M1) (E1 r M1)) (kk2 : ∀ (r : Int32) (M1 : qM), qAE g k y Z (pc + 3) L (.inl r :: S) (X1, M1) (E2 r M1)) : qAE g k y Z pc L (As.reverse ++ .inr (some i) :: S) (X, M) (qc2 F1 F2 E1 E2) := by
  cases hF : F1 with
  | some q =>
    have h := qr_callx o hM1 hd hZ hz hC hsh hlk hS8 hdg kk1
    rw [hF] at h
    exact h
  | none => exact qr_callx o hM2 hd hZ hz hC hsh hlk hS8 hdg kk2
theorem qr_one {g : qG} {k : qK} {d : Nat} {pc : Nat} {Z X : List qSh} {L : List (Option qV)} {M : qM} (o : qOk g d zL_law k) (hR : ∀ (Z : List qSh) (M : qM), qRT g k zL_law 1 (Z, M)) (hdg : decode zL_law.2.1 pc = .ok (.ireturn, 1)) : qAE g k zL_law Z pc L [.inl 1] (X, M) (some (1, M)) := by
  intro v M0 e r
  cases e
  exact qr_iret (Z := X) o rfl (by decide) hdg 1 M rfl (hR X M)
