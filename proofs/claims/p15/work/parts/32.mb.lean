abbrev lQ : List Bx := [(77, 78, 9, 10), (77, 78, 11, 16), (85, 87, 0, 0)]
theorem T_w {M0 M : qM} {s : Nat} {v : Int32} {f : qM → qR} {Q : Int32 → qM → Prop} (hs : s = 9 ∨ (11 ≤ s ∧ s ≤ 15)) (hG : G M) (hS : Sm lQ M0 M) (hr : Rin 77 s v) (h : ∀ m : qM, m 77 s = v → (∀ s2, s2 ≠ s → m 77 s2 = M 77 s2) → (∀ c, c ≠ 77 → m c = M c) → G m → Sm lQ M0 m → qT (f m) Q) : qT (qlm (mu M 77 s v) f) Q := by
  refine h _ mu_at (fun s2 h2 => mu_ne (Or.inr h2)) (fun c hc => mu_nc hc) (G_mu hG hr (by unfold nW; omega)) ?_
  rcases hs with rfl | hs
  · exact hS.mu (i := 0) rfl ⟨by decide, by decide, Or.inr ⟨by decide, by decide⟩⟩
  · exact hS.mu (i := 1) rfl ⟨by decide, by decide, Or.inr ⟨by show 11 ≤ s; omega, by show s < 16; omega⟩⟩
theorem T_r {M0 M : qM} {c i : Nat} {v : Int32} {f : qM → qR} {Q : Int32 → qM → Prop} (hc : c = 85 ∨ c = 86) (hG : G M) (hS : Sm lQ M0 M) (hr : 0 ≤ v.toInt ∧ v.toInt ≤ 20000000) (h : ∀ m : qM, m c i = v → (∀ j, j ≠ i → m c j = M c j) → (∀ c2, c2 ≠ c → m c2 = M c2) → G m → Sm lQ M0 m → qT (f m) Q) : qT (qlm (mu M c i v) f) Q := by
  refine h _ mu_at (fun s2 h2 => mu_ne (Or.inr h2)) (fun c2 hc2 => mu_nc hc2) (G_mu hG ?_ ?_) (hS.mu (i := 2) rfl ⟨?_, ?_, Or.inl rfl⟩)
  · rcases hc with rfl | rfl
    · exact hr
    · exact hr
  · rcases hc with rfl | rfl
    · exact nw_85 _
    · exact nw_86 _
  · show 85 ≤ c; omega
  · show c < 87; omega
theorem m_notes {n : Nat} {M0 : qM} (a b : Int32) (M : qM) (hG : G M) (hS : Sm lQ M0 M) (ha : 0 ≤ a.toInt ∧ a.toInt ≤ 14) (hb : 0 ≤ b.toInt ∧ b.toInt ≤ 999999) (hc : (M 77 14).toInt < 250) : qT (f_X12_notes n a b M) (fun _ m => (m 77 14).toInt = (M 77 14).toInt + 1 ∧ (m 85 (M 77 14).toInt.toNat).toInt = 1048576 * a.toInt + b.toInt ∧ (∀ k, k ≠ (M 77 14).toInt.toNat → m 85 k = M 85 k) ∧ (∀ s, s ≠ 14 → m 77 s = M 77 s) ∧ (∀ c, c ≠ 77 → c ≠ 85 → m c = M c) ∧ G m ∧ Sm lQ M0 m) := by
  have h14 := r_77_14 hG
  unfold f_X12_notes
  refine T_qg rfl (by omega) (by omega) ?_
  have ev : ((1048576 : Int32) * a + b).toInt = 1048576 * a.toInt + b.toInt := i_add (i_mul l_1048576 rfl (by omega) (by omega)) rfl (by omega) (by omega)
  refine T_r (Or.inl rfl) hG hS (by rw [ev]; omega) ?_
  intro m1 e1 e2 e3 g1 s1
  have c1 : m1 77 14 = M 77 14 := by rw [e3 77 (by decide)]
  rw [c1]
  have ew : (M 77 14 + 1).toInt = (M 77 14).toInt + 1 := i_add rfl l_1 (by omega) (by omega)
  refine T_w (Or.inr (by decide)) g1 s1 (i_rng (lo := 0) (hi := 260) ew (by omega) (by omega)) ?_
  intro m2 d1 d2 d3 g2 s2
  refine T_ret ⟨by rw [d1]; exact ew, ?_, fun k hk => ?_, fun s hs => ?_, fun c h1 h2 => ?_, g2, s2⟩
  · rw [d3 85 (by decide)]
    have e4 : m1 85 (M 77 14).toInt.toNat = 1048576 * a + b := e1
    rw [e4]; exact ev
  · rw [d3 85 (by decide)]; exact e2 k hk
  · rw [d2 s hs, e3 77 (by decide)]
  · rw [d3 c h1, e3 c h2]
theorem m_top {n : Nat} (M : qM) (hG : G M) : qT (f_X12_waitTop n M) (fun v m => m = M ∧ ((v.toInt = -1 ∧ (M 77 15).toInt = 0) ∨ (1 ≤ (M 77 15).toInt ∧ v.toInt = (M 86 ((M 77 15).toInt - 1).toNat).toInt / 1048576))) := by
  have h15 := r_77_15 hG
  unfold f_X12_waitTop
  refine T_eq rfl l_0 (fun c => ?_) (fun c => ?_)
  · exact T_ret ⟨rfl, Or.inl ⟨l_m1, c⟩⟩
  · have e1 : (M 77 15 - 1).toInt = (M 77 15).toInt - 1 := i_sub rfl l_1 (by omega) (by omega)
    refine T_qg e1 (by omega) (by omega) (T_ret ⟨rfl, Or.inr ⟨by omega, ?_⟩⟩)
    have h86 := r_86 hG (M 77 15 - 1).toNatClampNeg
    rw [i_div rfl l_1048576 h86.1 (by decide), tnc, e1]
abbrev SI (f g b : Nat) (e s : Int) (P : Nat → Prop) (W0 C0 : Nat → Int32) (M : qM) : Prop := SJ f g b e s P W0 C0 (M 77 9).toInt (M 77 10).toInt (M 77 15).toInt (M 77 14).toInt (M 86) (M 85)
theorem SI_mk {f g b : Nat} {e s : Int} {P : Nat → Prop} {W0 C0 W C : Nat → Int32} {pl len wt cm : Int} {m : qM} (h : SJ f g b e s P W0 C0 pl len wt cm W C) (e1 : (m 77 9).toInt = pl) (e2 : (m 77 10).toInt = len) (e3 : (m 77 15).toInt = wt) (e4 : (m 77 14).toInt = cm) (e5 : m 86 = W) (e6 : m 85 = C) : SI f g b e s P W0 C0 m := by
  subst e1; subst e2; subst e3; subst e4; subst e5; subst e6
  exact h
/-- operators were taken off the top, nothing else -/
def Pm (M1 M : qM) : Prop := M 86 = M1 86 ∧ M 77 9 = M1 77 9 ∧ (M 77 15).toInt ≤ (M1 77 15).toInt ∧ ∀ i : Nat, (M 77 15).toInt ≤ (i : Int) → (i : Int) < (M1 77 15).toInt → 2 ≤ (M1 86 i).toInt / 1048576 ∧ (M1 86 i).toInt / 1048576 ≤ 6
theorem Pm_rf {M : qM} : Pm M M := ⟨rfl, rfl, Int.le_refl _, fun i h1 h2 => absurd h1 (by omega)⟩
abbrev Qc (f g b : Nat) (e s : Int) (P : Nat → Prop) (W0 C0 : Nat → Int32) (a : Int32) (M0 M1 : qM) (M' : qM) : Prop := SI f g b e s P W0 C0 M' ∧ Pm M1 M' ∧ (a.toInt ≠ 0 → (M' 77 15).toInt = 0 ∨ ¬ (2 ≤ (M' 86 ((M' 77 15).toInt - 1).toNat).toInt / 1048576 ∧ (M' 86 ((M' 77 15).toInt - 1).toNat).toInt / 1048576 ≤ 6)) ∧ G M' ∧ Sm lQ M0 M'
theorem m_closes {n : Nat} {f g b : Nat} {e s : Int} {P : Nat → Prop} {W0 C0 : Nat → Int32} (hw : ∀ i, i < b → ¬ (2 ≤ (W0 i).toInt / 1048576 ∧ (W0 i).toInt / 1048576 ≤ 6)) (he : 1 ≤ e) (hs : 0 ≤ s) (a : Int32) {M0 M1 : qM} : ∀ (m : Nat) (M : qM), G M → Sm lQ M0 M → SI f g b e s P W0 C0 M → Pm M1 M → (M 77 15).toInt < (m : Int) → qT (f_X12_closesSums_0 n m a M) (fun _ M' => Qc f g b e s P W0 C0 a M0 M1 M') := by
  intro m
  induction m with
  | zero => intro M hG _ _ _ h; have := r_77_15 hG; exfalso; omega
  | succ m ih =>
    intro M hG hS hI hP hm
    have h15 := r_77_15 hG
    have h10 := r_77_10 hG
    have h14 := r_77_14 hG
    have step : 1 ≤ (M 77 15).toInt → 2 ≤ (M 86 ((M 77 15).toInt - 1).toNat).toInt / 1048576 → (M 86 ((M 77 15).toInt - 1).toNat).toInt / 1048576 ≤ 6 → qT (f_X12_closesSums_37 n (f_X12_closesSums_0 n m) a M) (fun _ M' => Qc f g b e s P W0 C0 a M0 M1 M') := by
      intro k1 k2 k3
      have hI2 := hI
      obtain ⟨j1, j2, j3, j4, j5⟩ := hI2
      have hnn := wc_nn (W := M 86) (b := b) (M 77 15).toInt.toNat
      have hb : (b : Int) < (M 77 15).toInt := by
        apply Classical.byContradiction
        intro q
        have q2 := j3 ((M 77 15).toInt - 1).toNat (by omega)
        rw [q2] at k2 k3
        exact hw _ (by omega) ⟨k2, k3⟩
      unfold f_X12_closesSums_37
      refine T_qc (m_top M hG) ?_
      rintro r1 m2 ⟨rfl, ht⟩
      refine T_qc (m_notes r1 0 m2 hG hS (by omega) (by rw [l_0]; omega) (by omega)) ?_
      rintro _ m3 ⟨d1, d2, d3, d4, d5, g3, s3⟩
      have c15 : m3 77 15 = m2 77 15 := d4 15 (by decide)
      rw [c15]
      have ew : (m2 77 15 - 1).toInt = (m2 77 15).toInt - 1 := i_sub rfl l_1 (by omega) (by omega)
      refine T_w (Or.inr (by decide)) g3 s3 (i_rng (lo := 0) (hi := 260) ew (by omega) (by omega)) ?_
      intro m4 f1 f2 f3 g4 s4
      have w4 : (m4 77 15).toInt = (m2 77 15).toInt - 1 := by rw [f1]; exact ew
      have e86 : m4 86 = m2 86 := by rw [f3 86 (by decide), d5 86 (by decide) (by decide)]
      have e85 : m4 85 = m3 85 := f3 85 (by decide)
      have e9 : m4 77 9 = m2 77 9 := by rw [f2 9 (by decide), d4 9 (by decide)]
      have e10 : m4 77 10 = m2 77 10 := by rw [f2 10 (by decide), d4 10 (by decide)]
      have e14 : m4 77 14 = m3 77 14 := f2 14 (by decide)
      have tk : (m2 86 ((m4 77 15).toInt).toNat).toInt / 1048576 = (m2 86 ((m2 77 15).toInt - 1).toNat).toInt / 1048576 := by rw [w4]
      have p1 := (SJ_pop hI w4 hb (by rw [tk]; exact k2) (by rw [tk]; exact k3)).2
      have q1 := SJ_note (e' := e - 1) hI d1 d3 (by
        rw [d2, l_0]
        right; right
        exact ⟨by omega, by omega, by omega, by omega⟩)
      have q2 := (SJ_pop q1 w4 hb (by rw [tk]; exact k2) (by rw [tk]; exact k3)).1
      rw [show e - 1 + 1 = e by omega, show s - 1 + 1 = s by omega] at q2
      refine ih m4 g4 s4 (SI_mk q2 (by rw [e9]) (by rw [e10]) rfl (by rw [e14]) e86 e85) ⟨?_, ?_, ?_, ?_⟩ (by omega)
      · rw [e86]; exact hP.1
      · rw [e9]; exact hP.2.1
      · have := hP.2.2.1; omega
      · intro i i1 i2
        by_cases q : (m2 77 15).toInt ≤ (i : Int)
        · exact hP.2.2.2 i q i2
        · have q3 : i = ((m2 77 15).toInt - 1).toNat := by omega
          rw [← hP.1, q3]
          exact ⟨k2, k3⟩
    show qT (b_X12_closesSums_0 n (f_X12_closesSums_0 n m) a M) _
    unfold b_X12_closesSums_0
    have s17 : (∀ v : Int, (v = 4 ∨ v = 5 ∨ v = 6) → ¬ (1 ≤ (M 77 15).toInt ∧ v = (M 86 ((M 77 15).toInt - 1).toNat).toInt / 1048576)) → qT (f_X12_closesSums_17 n (f_X12_closesSums_0 n m) a M) (fun _ M' => Qc f g b e s P W0 C0 a M0 M1 M') := by
      intro hno
      unfold f_X12_closesSums_17
      refine T_eq rfl l_0 (fun c => ?_) (fun c => ?_)
      · exact T_ret ⟨hI, hP, fun h => absurd c h, hG, hS⟩
      · refine T_qc (m_top M hG) ?_
        rintro r1 m2 ⟨rfl, ht⟩
        refine T_eq rfl l_2 (fun c2 => ?_) (fun c2 => ?_)
        · exact step (by omega) (by omega) (by omega)
        · refine T_qc (m_top m2 hG) ?_
          rintro r3 m4 ⟨rfl, ht3⟩
          refine T_eq rfl l_3 (fun c3 => ?_) (fun c3 => ?_)
          · exact step (by omega) (by omega) (by omega)
          · refine T_ret ⟨hI, hP, fun _ => ?_, hG, hS⟩
            have n4 := hno 4 (by omega)
            have n5 := hno 5 (by omega)
            have n6 := hno 6 (by omega)
            omega
    refine T_qc (m_top M hG) ?_
    rintro r1 m2 ⟨rfl, ht⟩
    refine T_lt rfl l_4 (fun c => ?_) (fun c => ?_)
    · exact s17 (fun v hv => by omega)
    · refine T_qc (m_top m2 hG) ?_
      rintro r3 m4 ⟨rfl, ht3⟩
      refine T_le rfl l_6 (fun c3 => ?_) (fun c3 => ?_)
      · exact step (by omega) (by omega) (by omega)
      · exact s17 (fun v hv => by omega)
