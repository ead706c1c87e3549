abbrev lC : List Bx := [(77, 78, 9, 10), (77, 78, 11, 17), (85, 91, 0, 0)]
theorem T_c {M0 M : qM} {c s : Nat} {v : Int32} {f : qM → qR} {Q : Int32 → qM → Prop} (hc : (c = 77 ∧ (s = 9 ∨ (11 ≤ s ∧ s ≤ 16))) ∨ (85 ≤ c ∧ c ≤ 90)) (hG : G M) (hS : Sm lC M0 M) (hr : Rin c s v) (h : ∀ m : qM, m c s = v → (∀ s2, s2 ≠ s → m c s2 = M c s2) → (∀ c2, c2 ≠ c → m c2 = M c2) → G m → Sm lC M0 m → qT (f m) Q) : qT (qlm (mu M c s v) f) Q := by
  refine h _ mu_at (fun s2 h2 => mu_ne (Or.inr h2)) (fun c2 hc2 => mu_nc hc2) (G_mu hG hr (by unfold nW; omega)) ?_
  rcases hc with ⟨rfl, hs⟩ | hc
  · rcases hs with rfl | hs
    · exact hS.mu (i := 0) rfl ⟨by decide, by decide, Or.inr ⟨by decide, by decide⟩⟩
    · exact hS.mu (i := 1) rfl ⟨by decide, by decide, Or.inr ⟨by show 11 ≤ s; omega, by show s < 17; omega⟩⟩
  · exact hS.mu (i := 2) rfl ⟨by show 85 ≤ c; omega, by show c < 91; omega, Or.inl rfl⟩
def CSn (N : Int) (M : qM) : Prop := ∀ q : Nat, (q : Int) < N → WFs (M 85) (M 88 q).toInt.toNat (M 89 q).toInt.toNat ∧ WFs (M 85) (M 89 q).toInt.toNat (M 90 q).toInt.toNat ∧ (M 89 q).toInt ≤ (M 90 q).toInt ∧ (M 90 q).toInt ≤ (M 77 14).toInt
theorem CSn_cg {N : Int} {M M' : qM} (h : CSn N M) (e88 : ∀ q : Nat, (q : Int) < N → M' 88 q = M 88 q) (e89 : ∀ q : Nat, (q : Int) < N → M' 89 q = M 89 q) (e90 : ∀ q : Nat, (q : Int) < N → M' 90 q = M 90 q) (e85 : ∀ k : Nat, (k : Int) < (M 77 14).toInt → M' 85 k = M 85 k) (e14 : (M 77 14).toInt ≤ (M' 77 14).toInt) : CSn N M' := by
  intro q hq
  obtain ⟨h1, h2, h3, h4⟩ := h q hq
  rw [e88 q hq, e89 q hq, e90 q hq]
  exact ⟨WFs_cg h1 (fun k k1 k2 => e85 k (by omega)), WFs_cg h2 (fun k k1 k2 => e85 k (by omega)), h3, by omega⟩
theorem WFs_nil {c : Nat → Int32} {f : Nat} : WFs c f f := ⟨fun _ => 0, rfl, fun k h1 h2 => absurd h1 (by omega)⟩
abbrev Ql (M0 : qM) (pl0 : Int) (v : Int32) (M' : qM) : Prop := (0 ≤ v.toInt ∧ v.toInt ≤ 1) ∧ (v.toInt = 0 ∨ (CSn (M' 77 16).toInt M' ∧ (M' 77 14).toInt ≤ (M' 77 9).toInt ∧ (M' 77 9).toInt ≤ (M' 77 10).toInt ∧ pl0 ≤ (M' 77 9).toInt)) ∧ G M' ∧ Sm lC M0 M'
theorem m_clause99 {n : Nat} (hn : 200000 ≤ n) {M0 : qM} {pl0 : Int} (M : qM) (hG : G M) (hS : Sm lC M0 M) (hN : (M 77 16).toInt < 16) (hC : CSn (M 77 16).toInt M) (hW : WFs (M 85) (M 88 (M 77 16).toInt.toNat).toInt.toNat (M 77 14).toInt.toNat) (h1 : (M 77 14).toInt ≤ (M 77 9).toInt) (h2 : (M 77 9).toInt ≤ (M 77 10).toInt) (hp : pl0 ≤ (M 77 9).toInt) : qT (f_X12_readsClause_99 n M) (Ql M0 pl0) := by
  have h10 := r_77_10 hG
  have h14 := r_77_14 hG
  have h16 := r_77_16 hG
  unfold f_X12_readsClause_99
  refine T_qg rfl (by omega) (by omega) ?_
  refine T_c (Or.inr (by decide)) hG hS (i_rng (lo := 0) (hi := 250) rfl (by omega) (by omega)) ?_
  intro m1 a1 a2 a3 g1 s1
  have a77 : m1 77 = M 77 := a3 77 (by decide)
  have a85 : m1 85 = M 85 := a3 85 (by decide)
  refine T_qc (m_cond hn m1 g1 (Sm.rf (M := m1)) (by rw [a77]; exact h1) (by rw [a77]; exact h2)) ?_
  rw [a77, a85]
  rintro r2 m3 ⟨t1, t2, g3, s3⟩
  have s3' : Sm lC M0 m3 := s1.tr (s3.mono rfl)
  refine T_eq rfl l_0 (fun c => ?_) (fun c => ?_)
  · exact T_ret ⟨⟨by decide, by decide⟩, Or.inl l_0, g3, s3'⟩
  · obtain ⟨u1, u2, u3, u4, u5, u6⟩ := t2.resolve_left c
    have h103 := r_77_10 g3
    have h143 := r_77_14 g3
    have b16 : m3 77 16 = M 77 16 := by rw [s3 77 16 (by decide), a77]
    have b88 : m3 88 = M 88 := by rw [funext (fun s_ => s3 88 s_ (outc rfl)), a3 88 (by decide)]
    have b89 : m3 89 = m1 89 := funext (fun s_ => s3 89 s_ (outc rfl))
    have b90 : m3 90 = M 90 := by rw [funext (fun s_ => s3 90 s_ (outc rfl)), a3 90 (by decide)]
    rw [b16]
    refine T_qg rfl (by omega) (by omega) ?_
    refine T_c (Or.inr (by decide)) g3 s3' (i_rng (lo := 0) (hi := 250) rfl (by omega) (by omega)) ?_
    intro m4 c1 c2 c3 g4 s4
    have c77 : m4 77 = m3 77 := c3 77 (by decide)
    rw [c77, b16]
    have ew : (M 77 16 + 1).toInt = (M 77 16).toInt + 1 := i_add rfl l_1 (by omega) (by omega)
    refine T_c (Or.inl ⟨rfl, Or.inr (by decide)⟩) g4 s4 (i_rng (lo := 0) (hi := 16) ew (by omega) (by omega)) ?_
    intro m5 d1 d2 d3 g5 s5
    have w16 : (m5 77 16).toInt = (M 77 16).toInt + 1 := by rw [d1]; exact ew
    have f14 : m5 77 14 = m3 77 14 := by rw [d2 14 (by decide), c77]
    have f9 : m5 77 9 = m3 77 9 := by rw [d2 9 (by decide), c77]
    have f10 : m5 77 10 = m3 77 10 := by rw [d2 10 (by decide), c77]
    have f85 : m5 85 = m3 85 := by rw [d3 85 (by decide), c3 85 (by decide)]
    have f88 : m5 88 = M 88 := by rw [d3 88 (by decide), c3 88 (by decide), b88]
    have f89 : m5 89 = m1 89 := by rw [d3 89 (by decide), c3 89 (by decide), b89]
    have f90 : m5 90 = m4 90 := d3 90 (by decide)
    have x89 : m1 89 (M 77 16).toInt.toNat = M 77 14 := a1
    have x90 : m4 90 (M 77 16).toInt.toNat = m3 77 14 := c1
    have hle : (M 77 14).toInt ≤ (m3 77 14).toInt := by omega
    refine T_ret ⟨⟨by decide, by decide⟩, Or.inr ⟨?_, by rw [f14, f9]; omega, by rw [f9, f10]; omega, by rw [f9]; omega⟩, g5, s5⟩
    rw [w16]
    have hold : CSn (M 77 16).toInt m5 := CSn_cg hC (fun q _ => by rw [f88]) (fun q hq => by rw [f89]; exact a2 q (by rw [tnc]; omega)) (fun q hq => by rw [f90, c2 q (by rw [tnc]; omega), b90]) (fun k hk => by rw [f85]; exact u2 k (by omega)) (by rw [f14]; exact hle)
    intro q hq
    by_cases e : q = (M 77 16).toInt.toNat
    · subst e
      rw [f88, f89, f90, x89, x90, f85, f14]
      exact ⟨WFs_cg hW (fun k k1 k2 => u2 k k2), u1, hle, Int.le_refl _⟩
    · exact hold q (by omega)
theorem m_clause {n : Nat} (hn : 200000 ≤ n) (M : qM) (hG : G M) (hC : CSn (M 77 16).toInt M) (h1 : (M 77 14).toInt ≤ (M 77 9).toInt) (h2 : (M 77 9).toInt ≤ (M 77 10).toInt) : qT (f_X12_readsClause n M) (Ql M (M 77 9).toInt) := by
  have h10 := r_77_10 hG
  have h14 := r_77_14 hG
  have h16 := r_77_16 hG
  have h9 := r_77_9 hG
  unfold f_X12_readsClause
  refine T_qc (t_X12_here hn M hG) ?_
  rintro r1 m2 ⟨hr1, he1, hg1, hs1⟩
  have e1 := hs1.nil
  subst e1
  refine T_qc (t_X12_isClause hn r1 M hG) ?_
  rintro r3 m4 ⟨hr3, he3, hg3, hs3⟩
  have e3 := hs3.nil
  subst e3
  refine T_eq rfl l_0 (fun c => ?_) (fun c => ?_)
  · refine T_qc (t_X12_wrongAt hn (1 : Int32) (M 77 9) M hG (by decide)) ?_
    rintro r m9 ⟨hr9, hg, hs9⟩
    exact T_qb rfl (by omega) (by omega) (T_ret ⟨by omega, Or.inl (by omega), hg, hs9.mono rfl⟩)
  · refine T_eq rfl l_16 (fun c6 => ?_) (fun c6 => ?_)
    · refine T_qc (t_X12_wrongAt hn (4 : Int32) (M 77 9) M hG (by decide)) ?_
      rintro r m9 ⟨hr9, hg, hs9⟩
      exact T_qb rfl (by omega) (by omega) (T_ret ⟨by omega, Or.inl (by omega), hg, hs9.mono rfl⟩)
    · refine T_qg rfl (by omega) (by omega) ?_
      refine T_c (M0 := M) (Or.inr (by decide)) hG Sm.rf trivial ?_
      intro m5 a1 a2 a3 g5 s5
      have a77 : m5 77 = M 77 := a3 77 (by decide)
      rw [a77]
      have ep : (M 77 9 + 1).toInt = (M 77 9).toInt + 1 := i_add rfl l_1 (by omega) (by omega)
      refine T_c (Or.inl ⟨rfl, Or.inl rfl⟩) g5 s5 (i_rng (lo := 0) (hi := 240) ep (by omega) (by omega)) ?_
      intro m6 b1 b2 b3 g6 s6
      have b16 : m6 77 16 = M 77 16 := by rw [b2 16 (by decide), a77]
      have b14 : m6 77 14 = M 77 14 := by rw [b2 14 (by decide), a77]
      rw [b16]
      refine T_qg rfl (by omega) (by omega) ?_
      rw [b14]
      refine T_c (Or.inr (by decide)) g6 s6 (i_rng (lo := 0) (hi := 250) rfl (by omega) (by omega)) ?_
      intro m7 c1 c2 c3 g7 s7
      refine T_c (Or.inl ⟨rfl, Or.inr (by decide)⟩) g7 s7 trivial ?_
      intro m8 d1 d2 d3 g8 s8
      refine T_c (Or.inl ⟨rfl, Or.inr (by decide)⟩) g8 s8 (i_rng (lo := 0) (hi := 260) l_0 (by omega) (by omega)) ?_
      intro m9 f1 f2 f3 g9 s9
      have w9 : (m9 77 15).toInt = 0 := by rw [f1]; rfl
      have e16 : m9 77 16 = M 77 16 := by rw [f2 16 (by decide), d2 16 (by decide), c3 77 (by decide), b16]
      have e14 : m9 77 14 = M 77 14 := by rw [f2 14 (by decide), d2 14 (by decide), c3 77 (by decide), b14]
      have e10 : m9 77 10 = M 77 10 := by rw [f2 10 (by decide), d2 10 (by decide), c3 77 (by decide), b2 10 (by decide), a77]
      have e9 : (m9 77 9).toInt = (M 77 9).toInt + 1 := by rw [f2 9 (by decide), d2 9 (by decide), c3 77 (by decide), b1]; exact ep
      have e85 : m9 85 = M 85 := by rw [f3 85 (by decide), d3 85 (by decide), c3 85 (by decide), b3 85 (by decide), a3 85 (by decide)]
      have e88 : m9 88 = m7 88 := by rw [f3 88 (by decide), d3 88 (by decide)]
      have e89 : m9 89 = M 89 := by rw [f3 89 (by decide), d3 89 (by decide), c3 89 (by decide), b3 89 (by decide), a3 89 (by decide)]
      have e90 : m9 90 = M 90 := by rw [f3 90 (by decide), d3 90 (by decide), c3 90 (by decide), b3 90 (by decide), a3 90 (by decide)]
      have x88 : m9 88 (M 77 16).toInt.toNat = M 77 14 := by rw [e88]; exact c1
      have m688 : m6 88 = M 88 := by rw [b3 88 (by decide), a3 88 (by decide)]
      have hC9 : CSn (m9 77 16).toInt m9 := by
        rw [e16]
        exact CSn_cg hC (fun q hq => by rw [e88, c2 q (by rw [tnc]; omega), m688]) (fun q _ => by rw [e89]) (fun q _ => by rw [e90]) (fun k _ => by rw [e85]) (by rw [e14]; exact Int.le_refl _)
      refine T_eq rfl l_97 (fun c7 => ?_) (fun c7 => ?_)
      · refine m_clause99 hn m9 g9 s9 (by rw [e16]; omega) hC9 ?_ (by rw [e14, e9]; omega) (by rw [e9, e10]; omega) (by omega)
        rw [e16, x88, e14]
        exact WFs_nil
      · have hwc : wc (m9 86) 0 (m9 77 15).toInt.toNat = 0 := by rw [w9]; rfl
        have hI : SI (m9 77 14).toInt.toNat (m9 77 14).toInt.toNat 0 0 0 (fun _ => False) (m9 86) (m9 85) m9 := by
          refine ⟨?_, fun i _ i2 => absurd i2 (by omega), fun i hi => rfl, fun _ _ => rfl, ?_⟩
          · rw [hwc, e14, e9, e10]; omega
          · rw [hwc]; exact CI_init
        refine T_qc (m_sum hn (fun i hi => absurd hi (by omega)) (by omega) (by omega) m9 g9 (Sm.rf (M := m9)) hI (by rw [w9]; rfl)) ?_
        rintro r10 m11 ⟨t1, t2, g11, s11⟩
        have s11' : Sm lC M m11 := s9.tr (s11.mono rfl)
        refine T_eq rfl l_0 (fun c0 => ?_) (fun c0 => ?_)
        · exact T_ret ⟨⟨by decide, by decide⟩, Or.inl l_0, g11, s11'⟩
        · obtain ⟨u1, u2, u3⟩ := t2.resolve_left c0
          obtain ⟨j1, j2, j3, j4, j5⟩ := u1
          have u2' : (m11 77 15).toInt = 0 := u2
          have hwc2 : wc (m11 86) 0 (m11 77 15).toInt.toNat = 0 := by rw [u2']; rfl
          rw [hwc2] at j1
          have k16 : m11 77 16 = M 77 16 := by rw [s11 77 16 (by decide), e16]
          have k88 : m11 88 = m9 88 := funext (fun s_ => s11 88 s_ (outc rfl))
          have k89 : m11 89 = m9 89 := funext (fun s_ => s11 89 s_ (outc rfl))
          have k90 : m11 90 = m9 90 := funext (fun s_ => s11 90 s_ (outc rfl))
          have h1011 := r_77_10 g11
          have h1411 := r_77_14 g11
          have hC11 : CSn (m11 77 16).toInt m11 := by
            rw [k16, ← e16]
            exact CSn_cg hC9 (fun q _ => by rw [k88]) (fun q _ => by rw [k89]) (fun q _ => by rw [k90]) (fun k hk => j4 k (by omega)) (by omega)
          refine m_clause99 hn m11 g11 s11' (by rw [k16]; omega) hC11 ?_ (by omega) (by omega) (by omega)
          rw [k16, k88, x88, ← e14]
          exact CI_WFs j5 (fun k _ p => p) (by omega) (fun k => (r_85 g11 k).1)
/-! the law is taken over -/
def Rg (M : qM) : Prop := (∀ c s, Rin c s (M c s)) ∧ Wl M ∧ Ww M
theorem Rg_mu {M : qM} {c s : Nat} {v : Int32} (h : Rg M) (hr : Rin c s v) (hc : c ≠ 38 ∧ c ≠ 39 ∧ c ≠ 47 ∧ c ≠ 48 ∧ (c < 102 ∨ 104 < c)) : Rg (mu M c s v) := by
  obtain ⟨h1, h2, h4⟩ := h
  refine ⟨fun c2 s2 => ?_, fun w hw2 s2 => ?_, ?_⟩
  · by_cases e : c2 = c ∧ s2 = s
    · obtain ⟨rfl, rfl⟩ := e
      rw [mu_at]; exact hr
    · rw [mu_ne (by omega)]; exact h1 c2 s2
  · have a1 : w + 1 ≠ c := by rcases hw2 with rfl | rfl <;> omega
    have a2 : w + 2 ≠ c := by rcases hw2 with rfl | rfl <;> omega
    rw [mu_ne (Or.inl a1), mu_ne (Or.inl a2)]
    exact h2 w hw2 s2
  · unfold Ww
    rw [mu_nc (show 102 ≠ c by omega), mu_nc (show 103 ≠ c by omega), mu_nc (show 104 ≠ c by omega)]
    exact h4
theorem T_k {M : qM} {c s : Nat} {v : Int32} {f : qM → qR} {Q : Int32 → qM → Prop} (hR : Rg M) (hr : Rin c s v) (hc : c ≠ 38 ∧ c ≠ 39 ∧ c ≠ 47 ∧ c ≠ 48 ∧ (c < 102 ∨ 104 < c)) (h : ∀ m : qM, m c s = v → (∀ s2, s2 ≠ s → m c s2 = M c s2) → (∀ c2, c2 ≠ c → m c2 = M c2) → Rg m → qT (f m) Q) : qT (qlm (mu M c s v) f) Q :=
  h _ mu_at (fun s2 h2 => mu_ne (Or.inr h2)) (fun c2 hc2 => mu_nc hc2) (Rg_mu hR hr hc)
/-- what the taking over of a law leaves as it was -/
def Fl (A B : qM) : Prop := (∀ s : Nat, s < 8 ∨ 17 < s → B 77 s = A 77 s) ∧ ∀ c : Nat, c ≠ 77 → c < 85 ∨ 95 < c → B c = A c
theorem Fl_rf {A : qM} : Fl A A := ⟨fun _ _ => rfl, fun _ _ _ => rfl⟩
theorem Fl_tr {A B C : qM} (h : Fl A B) (k : Fl B C) : Fl A C := ⟨fun s hs => (k.1 s hs).trans (h.1 s hs), fun c h1 h2 => (k.2 c h1 h2).trans (h.2 c h1 h2)⟩
theorem Fl_1 {A B m : qM} {c s : Nat} (h : Fl A B) (hc : (c = 77 ∧ 8 ≤ s ∧ s ≤ 17) ∨ (85 ≤ c ∧ c ≤ 95)) (h1 : ∀ s2, s2 ≠ s → m c s2 = B c s2) (h2 : ∀ c2, c2 ≠ c → m c2 = B c2) : Fl A m := by
  refine ⟨fun s2 hs => ?_, fun c2 k1 k2 => ?_⟩
  · by_cases q : c = 77
    · subst q; rw [h1 s2 (by omega)]; exact h.1 s2 hs
    · rw [h2 77 (fun e => q e.symm)]; exact h.1 s2 hs
  · rw [h2 c2 (by omega)]; exact h.2 c2 k1 k2
theorem Fl_Sm {A B : qM} {l : List Bx} (h : Sm l A B) (hl : cov l [(77, 78, 8, 18), (85, 96, 0, 0)] = true) : Fl A B := by
  have h2 := h.mono hl
  refine ⟨fun s hs => h2 77 s (fun b hb hi => ?_), fun c h1 h3 => funext (fun s => h2 c s (fun b hb hi => ?_))⟩
  · simp only [List.mem_cons, List.not_mem_nil, or_false] at hb
    rcases hb with rfl | rfl
    · obtain ⟨_, _, q⟩ := hi
      have q2 : (18 : Nat) = 0 ∨ (8 ≤ s ∧ s < 18) := q
      omega
    · obtain ⟨q, _⟩ := hi
      have q2 : (85 : Nat) ≤ 77 := q
      omega
  · simp only [List.mem_cons, List.not_mem_nil, or_false] at hb
    rcases hb with rfl | rfl
    · obtain ⟨q, q1, _⟩ := hi
      have q2 : (77 : Nat) ≤ c := q
      have q3 : c < (78 : Nat) := q1
      omega
    · obtain ⟨q, q1, _⟩ := hi
      have q2 : (85 : Nat) ≤ c := q
      have q3 : c < (96 : Nat) := q1
      omega
theorem m_law138 {n : Nat} {A : qM} {B : Nat → Int32} : ∀ (m : Nat) (a3 : Int32) (M : qM), M 77 = B → Fl A M → Rg M → M 77 17 = M 77 16 → CSn (M 77 16).toInt M → (∀ k : Nat, (k : Int) < (M 77 14).toInt → M 91 k = M 85 k) → (∀ q : Nat, (q : Int) < a3.toInt → M 93 q = M 88 q ∧ M 94 q = M 89 q ∧ M 95 q = M 90 q) → 0 ≤ a3.toInt → a3.toInt ≤ 16 → 17 - a3.toInt < (m : Int) → qT (f_X12_law_138 n m a3 M) (fun _ M' => G M' ∧ Fl A M' ∧ M' 77 = B) := by
  intro m
  induction m with
  | zero => intro a3 M _ _ _ _ _ _ _ _ _ h; exfalso; omega
  | succ m ih =>
    intro a3 M hB hA hR h17 hC hk hq h0 h1 hm
    have h16 : 0 ≤ (M 77 16).toInt ∧ (M 77 16).toInt ≤ 16 := hR.1 77 16
    show qT (b_X12_law_138 n (f_X12_law_138 n m) a3 M) _
    unfold b_X12_law_138
    refine T_le rfl rfl (fun c => ?_) (fun c => ?_)
    · refine T_ret ⟨⟨hR.1, hR.2.1, ?_, hR.2.2⟩, hA, hB⟩
      intro q hq2
      rw [h17] at hq2
      obtain ⟨w1, w2, w3, w4⟩ := hC q hq2
      obtain ⟨e1, e2, e3⟩ := hq q (by omega)
      rw [e1, e2, e3]
      exact ⟨WFs_cg w1 (fun k k1 k2 => hk k (by omega)), WFs_cg w2 (fun k k1 k2 => hk k (by omega))⟩
    · refine T_qg rfl (by omega) (by omega) (T_qg rfl (by omega) (by omega) ?_)
      refine T_k hR trivial (by decide) ?_
      intro m1 a1 a2 a3' r1
      refine T_qg rfl (by omega) (by omega) (T_qg rfl (by omega) (by omega) ?_)
      refine T_k r1 (r1.1 88 _) (by decide) ?_
      intro m2 b1 b2 b3 r2
      refine T_qg rfl (by omega) (by omega) (T_qg rfl (by omega) (by omega) ?_)
      refine T_k r2 (r2.1 89 _) (by decide) ?_
      intro m3 c1 c2 c3 r3
      refine T_qg rfl (by omega) (by omega) (T_qg rfl (by omega) (by omega) ?_)
      refine T_k r3 (r3.1 90 _) (by decide) ?_
      intro m4 d1 d2 d3 r4
      refine T_ql (i_add rfl l_1 (by omega) (by omega)) ?_
      intro x hx
      have e77 : m4 77 = M 77 := by rw [d3 77 (by decide), c3 77 (by decide), b3 77 (by decide), a3' 77 (by decide)]
      have e85 : m4 85 = M 85 := by rw [d3 85 (by decide), c3 85 (by decide), b3 85 (by decide), a3' 85 (by decide)]
      have e91 : m4 91 = M 91 := by rw [d3 91 (by decide), c3 91 (by decide), b3 91 (by decide), a3' 91 (by decide)]
      have e88 : m4 88 = M 88 := by rw [d3 88 (by decide), c3 88 (by decide), b3 88 (by decide), a3' 88 (by decide)]
      have e89 : m4 89 = M 89 := by rw [d3 89 (by decide), c3 89 (by decide), b3 89 (by decide), a3' 89 (by decide)]
      have e90 : m4 90 = M 90 := by rw [d3 90 (by decide), c3 90 (by decide), b3 90 (by decide), a3' 90 (by decide)]
      refine ih x m4 (by rw [e77]; exact hB) (Fl_1 (Fl_1 (Fl_1 (Fl_1 hA (Or.inr (by decide)) a2 a3') (Or.inr (by decide)) b2 b3) (Or.inr (by decide)) c2 c3) (Or.inr (by decide)) d2 d3) r4 (by rw [e77]; exact h17) ?_ (by rw [e77, e85, e91]; exact hk) ?_ (by omega) (by omega) (by omega)
      · rw [e77]
        exact CSn_cg hC (fun q _ => by rw [e88]) (fun q _ => by rw [e89]) (fun q _ => by rw [e90]) (fun k _ => by rw [e85]) (by rw [e77]; exact Int.le_refl _)
      · intro q hq2
        rw [e88, e89, e90]
        by_cases e : q = a3.toNatClampNeg
        · subst e
          refine ⟨?_, ?_, ?_⟩
          · rw [d3 93 (by decide), c3 93 (by decide), b1, a3' 88 (by decide)]
          · rw [d3 94 (by decide), c1, b3 89 (by decide), a3' 89 (by decide)]
          · rw [d1, c3 90 (by decide), b3 90 (by decide), a3' 90 (by decide)]
        · have e' := e
          rw [tnc] at e'
          obtain ⟨k1, k2, k3⟩ := hq q (by omega)
          refine ⟨?_, ?_, ?_⟩
          · rw [d3 93 (by decide), c3 93 (by decide), b2 q e, a3' 93 (by decide)]; exact k1
          · rw [d3 94 (by decide), c2 q e, b3 94 (by decide), a3' 94 (by decide)]; exact k2
          · rw [d2 q e, c3 95 (by decide), b3 95 (by decide), a3' 95 (by decide)]; exact k3
theorem m_law110 {n : Nat} {A : qM} {B : Nat → Int32} (hn : 200000 ≤ n) : ∀ (m : Nat) (a3 : Int32) (M : qM), M 77 = B → Fl A M → Rg M → M 77 17 = M 77 16 → CSn (M 77 16).toInt M → (∀ k : Nat, (k : Int) < a3.toInt → M 91 k = M 85 k) → 0 ≤ a3.toInt → a3.toInt ≤ 260 → 261 - a3.toInt < (m : Int) → qT (f_X12_law_110 n m a3 M) (fun _ M' => G M' ∧ Fl A M' ∧ M' 77 = B) := by
  intro m
  induction m with
  | zero => intro a3 M _ _ _ _ _ _ _ _ h; exfalso; omega
  | succ m ih =>
    intro a3 M hB hA hR h17 hC hk h0 h1 hm
    have h14 : 0 ≤ (M 77 14).toInt ∧ (M 77 14).toInt ≤ 260 := hR.1 77 14
    show qT (b_X12_law_110 n (f_X12_law_110 n m) a3 M) _
    unfold b_X12_law_110
    refine T_le rfl rfl (fun c => ?_) (fun c => ?_)
    · exact m_law138 n 0 M hB hA hR h17 hC (fun k hk2 => hk k (by omega)) (fun q hq => absurd hq (by rw [l_0]; omega)) (by rw [l_0]; omega) (by rw [l_0]; omega) (by rw [l_0]; omega)
    · refine T_qg rfl (by omega) (by omega) (T_qg rfl (by omega) (by omega) ?_)
      refine T_k hR (hR.1 85 _) (by decide) ?_
      intro m1 a1 a2 a3' r1
      refine T_ql (i_add rfl l_1 (by omega) (by omega)) ?_
      intro x hx
      have e77 : m1 77 = M 77 := a3' 77 (by decide)
      have e85 : m1 85 = M 85 := a3' 85 (by decide)
      refine ih x m1 (by rw [e77]; exact hB) (Fl_1 hA (Or.inr (by decide)) a2 a3') r1 (by rw [e77]; exact h17) ?_ ?_ (by omega) (by omega) (by omega)
      · rw [e77]
        exact CSn_cg hC (fun q _ => by rw [a3' 88 (by decide)]) (fun q _ => by rw [a3' 89 (by decide)]) (fun q _ => by rw [a3' 90 (by decide)]) (fun k _ => by rw [e85]) (by rw [e77]; exact Int.le_refl _)
      · intro k hk2
        rw [e85]
        by_cases e : k = a3.toNatClampNeg
        · subst e; exact a1
        · rw [a2 k e]
          rw [tnc] at e
          exact hk k (by omega)
theorem m_law86 {n : Nat} {A : qM} (hn : 200000 ≤ n) (a2 : Int32) (M : qM) (hA : Fl A M) (hG : G M) (h : a2.toInt = 0 ∨ CSn (M 77 16).toInt M) : qT (f_X12_law_86 n a2 M) (fun _ M' => G M' ∧ Fl A M' ∧ (M' 77 8).toInt = 0) := by
  unfold f_X12_law_86
  have hR : Rg M := ⟨hG.1, hG.2.1, hG.2.2.2⟩
  have h16 := r_77_16 hG
  have g1 : G (mu M 77 8 0) := G_mu hG (i_rng (lo := 0) (hi := 260) l_0 (by omega) (by omega)) nw_77_8
  refine T_k hR (i_rng (lo := 0) (hi := 260) l_0 (by omega) (by omega)) (by decide) ?_
  intro m1 a1 b1 c1 r1
  refine T_eq rfl l_0 (fun c => ?_) (fun c => ?_)
  · refine T_ret ⟨?_, Fl_1 hA (Or.inl ⟨rfl, by decide, by decide⟩) b1 c1, by rw [a1]; rfl⟩
    have e : m1 = mu M 77 8 0 := by
      funext c2 s2
      by_cases q : c2 = 77
      · subst q
        by_cases q2 : s2 = 8
        · subst q2; rw [a1, mu_at]
        · rw [b1 s2 q2, mu_ne (Or.inr q2)]
      · rw [c1 c2 q, mu_nc q]
    rw [e]; exact g1
  · have hC := h.resolve_left c
    have e16 : m1 77 16 = M 77 16 := b1 16 (by decide)
    refine T_k r1 (i_rng (lo := 0) (hi := 16) rfl (by rw [e16]; omega) (by rw [e16]; omega)) (by decide) ?_
    intro m2 a2' b2 c2 r2
    have f16 : m2 77 16 = M 77 16 := by rw [b2 16 (by decide), e16]
    refine T_mono (m_law110 (B := m2 77) hn n 0 m2 rfl (Fl_1 (Fl_1 hA (Or.inl ⟨rfl, by decide, by decide⟩) b1 c1) (Or.inl ⟨rfl, by decide, by decide⟩) b2 c2) r2 (by rw [a2', f16, e16]) ?_ (fun k hk => absurd hk (by rw [l_0]; omega)) (by rw [l_0]; omega) (by rw [l_0]; omega) (by rw [l_0]; omega)) (fun _ M' p => ⟨p.1, p.2.1, by rw [p.2.2, b2 8 (by decide), a1]; rfl⟩)
    rw [f16]
    exact CSn_cg hC (fun q _ => by rw [c2 88 (by decide), c1 88 (by decide)]) (fun q _ => by rw [c2 89 (by decide), c1 89 (by decide)]) (fun q _ => by rw [c2 90 (by decide), c1 90 (by decide)]) (fun k _ => by rw [c2 85 (by decide), c1 85 (by decide)]) (by rw [b2 14 (by decide), b1 14 (by decide)]; exact Int.le_refl _)
theorem m_law46 {n : Nat} {A : qM} (hn : 200000 ≤ n) : ∀ (m : Nat) (a2 : Int32) (M : qM), Fl A M → G M → (a2.toInt = 0 ∨ (CSn (M 77 16).toInt M ∧ (M 77 14).toInt ≤ (M 77 9).toInt ∧ (M 77 9).toInt ≤ (M 77 10).toInt ∧ 242 - (M 77 9).toInt < (m : Int))) → 0 < m → qT (f_X12_law_46 n m a2 M) (fun _ M' => G M' ∧ Fl A M' ∧ (M' 77 8).toInt = 0) := by
  intro m
  induction m with
  | zero => intro a2 M _ _ _ h; exfalso; omega
  | succ m ih =>
    intro a2 M hA hG h hm
    have h9 := r_77_9 hG
    have h10 := r_77_10 hG
    show qT (b_X12_law_46 n (f_X12_law_46 n m) a2 M) _
    unfold b_X12_law_46
    refine T_eq rfl l_0 (fun c => ?_) (fun c => ?_)
    · exact m_law86 hn a2 M hA hG (Or.inl c)
    · obtain ⟨h1, h2, h3, h4⟩ := h.resolve_left c
      refine T_le rfl rfl (fun d => ?_) (fun d => ?_)
      · exact m_law86 hn a2 M hA hG (Or.inr h1)
      · refine T_qc (t_X12_takes hn (59 : Int32) M hG (by decide)) ?_
        rintro r1 m2 ⟨t1, t2, g2, s2⟩
        refine T_eq rfl l_0 (fun c1 => ?_) (fun c1 => ?_)
        · exact ih 0 m2 (Fl_tr hA (Fl_Sm s2 rfl)) g2 (Or.inl l_0) (by omega)
        · have e16 : m2 77 16 = M 77 16 := s2 77 16 (by decide)
          have e14 : m2 77 14 = M 77 14 := s2 77 14 (by decide)
          have e10 : m2 77 10 = M 77 10 := s2 77 10 (by decide)
          have hC : CSn (m2 77 16).toInt m2 := by
            rw [e16]
            exact CSn_cg h1 (fun q _ => s2 88 q (outc rfl)) (fun q _ => s2 89 q (outc rfl)) (fun q _ => s2 90 q (outc rfl)) (fun k _ => s2 85 k (outc rfl)) (by rw [e14]; exact Int.le_refl _)
          refine T_qc (m_clause hn m2 g2 hC (by rw [e14]; omega) (by rw [e10]; omega)) ?_
          rintro r3 m4 ⟨u1, u2, g4, s4⟩
          refine T_eq rfl l_0 (fun c3 => ?_) (fun c3 => ?_)
          · exact ih 0 m4 (Fl_tr (Fl_tr hA (Fl_Sm s2 rfl)) (Fl_Sm s4 rfl)) g4 (Or.inl l_0) (by omega)
          · obtain ⟨v1, v2, v3, v4⟩ := u2.resolve_left c3
            exact ih 1 m4 (Fl_tr (Fl_tr hA (Fl_Sm s2 rfl)) (Fl_Sm s4 rfl)) g4 (Or.inr ⟨v1, v2, v3, by omega⟩) (by omega)
theorem t_X12_law {n : Nat} (hn : 200000 ≤ n) (a1 : Int32) (M : qM) (hG : G M) : qT (f_X12_law n a1 M) (fun _ M' => G M' ∧ Fl M M' ∧ (((1 ≤ a1.toInt ∧ a1.toInt ≤ 240 ∧ a1.toInt ≤ (M 77 8).toInt) ∧ (M' 77 8).toInt = 0) ∨ (¬ (1 ≤ a1.toInt ∧ a1.toInt ≤ 240 ∧ a1.toInt ≤ (M 77 8).toInt) ∧ (M' 77 8).toInt = (M 77 8).toInt))) := by
  unfold f_X12_law
  refine T_qc (t_X12_in hn a1 (1 : Int32) (240 : Int32) M hG (by decide) (by decide)) ?_
  rintro r1 m2 ⟨hr1, he1, hg1, hs1⟩
  have e1 := hs1.nil
  subst e1
  rw [l_1, l_240] at he1
  refine T_eq rfl l_0 (fun c => ?_) (fun c => ?_)
  · exact T_ret ⟨hG, Fl_rf, Or.inr ⟨by omega, rfl⟩⟩
  · refine T_le rfl rfl (fun d => ?_) (fun d => ?_)
    · have ha := (he1.resolve_left (fun q => c q.1)).2
      refine T_mu (M0 := M) (l := [(77, 78, 9, 10)]) hG Sm.rf (i_rng (lo := 0) (hi := 240) l_0 (by omega) (by omega)) nw_77_9 (i := 0) rfl ⟨by decide, by decide, Or.inr ⟨by decide, by decide⟩⟩ ?_
      intro m3 a3 g3 k3
      refine T_mu (M0 := m3) (l := [(77, 78, 10, 11)]) g3 Sm.rf (i_rng (lo := 0) (hi := 240) rfl (by omega) (by omega)) nw_77_10 (i := 0) rfl ⟨by decide, by decide, Or.inr ⟨by decide, by decide⟩⟩ ?_
      intro m4 a4 g4 k4
      refine T_mu (M0 := m4) (l := [(77, 78, 14, 15)]) g4 Sm.rf (i_rng (lo := 0) (hi := 260) l_0 (by omega) (by omega)) nw_77_14 (i := 0) rfl ⟨by decide, by decide, Or.inr ⟨by decide, by decide⟩⟩ ?_
      intro m5 a5 g5 k5
      refine T_mu (M0 := m5) (l := [(77, 78, 16, 17)]) g5 Sm.rf (i_rng (lo := 0) (hi := 16) l_0 (by omega) (by omega)) nw_77_16 (i := 0) rfl ⟨by decide, by decide, Or.inr ⟨by decide, by decide⟩⟩ ?_
      intro m6 a6 g6 k6
      have e16 : (m6 77 16).toInt = 0 := by rw [a6, mu_at]; rfl
      have e14 : (m6 77 14).toInt = 0 := by rw [a6, mu_ne (Or.inr (by decide)), a5, mu_at]; rfl
      have e10 : (m6 77 10).toInt = a1.toInt := by rw [a6, mu_ne (Or.inr (by decide)), a5, mu_ne (Or.inr (by decide)), a4, mu_at]
      have e9 : (m6 77 9).toInt = 0 := by rw [a6, mu_ne (Or.inr (by decide)), a5, mu_ne (Or.inr (by decide)), a4, mu_ne (Or.inr (by decide)), a3, mu_at]; rfl
      refine T_qc (m_clause hn m6 g6 (fun q hq => absurd hq (by omega)) (by omega) (by omega)) ?_
      rintro r7 m8 ⟨u1, u2, g8, s8⟩
      have h9 := r_77_9 g8
      refine T_mono (m_law46 hn n r7 m8 (Fl_tr (Fl_tr (Fl_tr (Fl_tr (Fl_Sm k3 rfl) (Fl_Sm k4 rfl)) (Fl_Sm k5 rfl)) (Fl_Sm k6 rfl)) (Fl_Sm s8 rfl)) g8 ?_ (by omega)) (fun _ M' p => ⟨p.1, p.2.1, Or.inl ⟨by omega, p.2.2⟩⟩)
      rcases u2 with u2 | u2
      · exact Or.inl u2
      · exact Or.inr ⟨u2.1, u2.2.1, u2.2.2.1, by omega⟩
    · exact T_ret ⟨hG, Fl_rf, Or.inr ⟨by omega, rfl⟩⟩
