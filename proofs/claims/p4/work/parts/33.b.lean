theorem T_qcE {F : qR} {f : Int32 → qM → qR} {P Q : Int32 → qM → Prop} (h : qT F Q) (k : ∀ v m, F = some (v, m) → Q v m → qT (f v m) P) : qT (qc F f) P := by
  obtain ⟨v, M, e, p⟩ := h
  have := k v M e p
  rw [e, qc_v]
  exact this
abbrev l_law : List Bx := [(1, 2, 1, 5), (37, 53, 0, 0)]
abbrev LQ (a1 : Int32) (M m : qM) : Prop := G m ∧ Sm l_law M m ∧ (((1 ≤ a1.toInt ∧ a1.toInt ≤ 240 ∧ a1.toInt ≤ (M 1 1).toInt) ∧ (m 1 1).toInt = 0) ∨ (¬ (1 ≤ a1.toInt ∧ a1.toInt ≤ 240 ∧ a1.toInt ≤ (M 1 1).toInt) ∧ (m 1 1).toInt = (M 1 1).toInt))
theorem T_qc2s {a1 : Int32} {M : qM} {F1 F2 : qR} {E1 E2 : Int32 → qM → qR} {P : Int32 → qM → Prop} (h : (∃ v m, F1 = some (v, m) ∧ LQ a1 M m) ∨ (F1 = none ∧ ∃ v m, F2 = some (v, m) ∧ LQ a1 M m)) (h1 : ∀ v m, F1 = some (v, m) → LQ a1 M m → qT (E1 v m) P) (h2 : ∀ v m, F2 = some (v, m) → LQ a1 M m → qT (E2 v m) P) : qT (qc2 F1 F2 E1 E2) P := by
  rcases h with ⟨v, m, e, g⟩ | ⟨e, v, m, e2, g⟩
  · have := h1 v m e g
    rw [e]; exact this
  · have := h2 v m e2 g
    rw [e, e2]; exact this
theorem law_tots {n : Nat} (hn : 200000 ≤ n) {j r : Nat} (hr : q_isLaw r) (a1 : Int32) (M : qM) (hG : G M) : (∃ v m, f_X11_law n j r a1 M = some (v, m) ∧ LQ a1 M m) ∨ (f_X11_law n j r a1 M = none ∧ ∃ v m, f_X11_lawS n j r a1 M = some (v, m) ∧ LQ a1 M m) := by
  unfold f_X11_law f_X11_lawS
  by_cases c1 : a1 < (1 : Int32)
  · rw [if_pos c1]; rw [Int32.lt_iff_toInt_lt] at c1; have z1 : (1 : Int32).toInt = 1 := rfl; exact Or.inl ⟨_, _, rfl, hG, Sm.rf, Or.inr ⟨by omega, rfl⟩⟩
  · rw [if_neg c1, if_neg c1]
    by_cases c2 : (240 : Int32) < a1
    · rw [if_pos c2]; rw [Int32.lt_iff_toInt_lt] at c2; have z1 : (240 : Int32).toInt = 240 := rfl; exact Or.inl ⟨_, _, rfl, hG, Sm.rf, Or.inr ⟨by omega, rfl⟩⟩
    · rw [if_neg c2, if_neg c2]
      by_cases c3 : a1 ≤ M 1 1
      · rw [if_pos c3, if_pos c3]
        rw [Int32.lt_iff_toInt_lt] at c1 c2
        rw [Int32.le_iff_toInt_le] at c3
        have z1 : (1 : Int32).toInt = 1 := rfl
        have z2 : (240 : Int32).toInt = 240 := rfl
        obtain ⟨v, m2, e, p⟩ := t_X4_read hn hr a1 M hG (by omega)
        obtain ⟨v3, m3, e3, p3⟩ := t_X9_clear hn m2 (p.1)
        have hs : Sm l_law M m3 := (Sm.mono (p.2) rfl).tr (Sm.mono (p3.2.2.2) rfl)
        have hz := p3.2.1
        rw [e, qc_v, qc_v, e3, qc_v, qc_v]
        by_cases c4 : v ≤ (0 : Int32)
        · rw [if_pos c4]; exact Or.inl ⟨_, _, rfl, p3.2.2.1, hs, Or.inl ⟨by omega, hz⟩⟩
        · rw [if_neg c4, if_neg c4]; exact Or.inr ⟨rfl, _, _, rfl, p3.2.2.1, hs, Or.inl ⟨by omega, hz⟩⟩
      · rw [if_neg c3]; rw [Int32.le_iff_toInt_le] at c3; exact Or.inl ⟨_, _, rfl, hG, Sm.rf, Or.inr ⟨by omega, rfl⟩⟩
theorem ofN {k : Nat} (h : k ≤ 3584) : (Int32.ofNat k).toInt = (k : Int) := nI_toInt (by omega)
set_option maxRecDepth 8000 in
set_option maxHeartbeats 4000000 in
theorem L_go {n : Nat} (hn : 200000 ≤ n) (g : qG) (hN : g.2.2.2.2.2.1 ≤ 3584) : ∀ (m j r : Nat), q_isLaw j → q_isLaw r → ∀ (a3 : Int32) (M : qM), 0 ≤ a3.toInt → a3.toInt ≤ 3600 → G M → (M 1 1).toInt = (M 77 8).toInt → (M 7 8).toInt = (M 78 312).toInt → (M 16 8).toInt = (M 80 312).toInt → (M 0 12).toInt = (M 77 67).toInt → 3700 - a3.toInt < (m : Int) → qT (f_L_law g n m j r a3 M) (fun v _ => v = 1) := by
  intro m
  induction m with
  | zero => intro j r _ _ a3 M _ _ _ _ _ _ _ h; exfalso; omega
  | succ m ih =>
    intro j r hj hr a3 M h0 h1 hG hR0 hR1 hR2 hR3 hm
    show qT (b_L_law g n j r (f_L_law g n m j r) (f_L_law g n m r j) a3 M) _
    unfold b_L_law
    refine T_lt (i_sub (ofN hN) l_7 (by omega) (by omega)) rfl (fun c => T_ret rfl) (fun c => ?_)
    refine T_qg rfl (by omega) (by omega) ?_
    refine T_sw rfl l_0 (fun s1_ => ?_) (fun s1_ => ?_)
    · refine T_qg (i_add rfl l_1 (by omega) (by omega)) (by omega) (by omega) ?_
      refine T_qg (i_add rfl l_2 (by omega) (by omega)) (by omega) (by omega) ?_
      refine T_qg (i_add rfl l_3 (by omega) (by omega)) (by omega) (by omega) ?_
      refine T_qg (i_add rfl l_4 (by omega) (by omega)) (by omega) (by omega) ?_
      refine T_qcE (t_X11_kind hn _ _ _ _ M hG) ?_
      intro r2_ m3_ e6_ p5_
      have g4_ := p5_.2.1
      have f7_ : (m3_ 1 1).toInt = (M 1 1).toInt := by rw [p5_.2.2 1 1 (by decide)]
      have f8_ : (m3_ 77 8).toInt = (M 77 8).toInt := by rw [p5_.2.2 77 8 (by decide)]
      have f9_ : (m3_ 7 8).toInt = (M 7 8).toInt := by rw [p5_.2.2 7 8 (by decide)]
      have f10_ : (m3_ 78 312).toInt = (M 78 312).toInt := by rw [p5_.2.2 78 312 (by decide)]
      have f11_ : (m3_ 16 8).toInt = (M 16 8).toInt := by rw [p5_.2.2 16 8 (by decide)]
      have f12_ : (m3_ 80 312).toInt = (M 80 312).toInt := by rw [p5_.2.2 80 312 (by decide)]
      have f13_ : (m3_ 0 12).toInt = (M 0 12).toInt := by rw [p5_.2.2 0 12 (by decide)]
      have f14_ : (m3_ 77 67).toInt = (M 77 67).toInt := by rw [p5_.2.2 77 67 (by decide)]
      refine T_qg (i_add rfl l_1 (by omega) (by omega)) (by omega) (by omega) ?_
      refine T_qg (i_add rfl l_2 (by omega) (by omega)) (by omega) (by omega) ?_
      refine T_qg (i_add rfl l_3 (by omega) (by omega)) (by omega) (by omega) ?_
      refine T_qg (i_add rfl l_4 (by omega) (by omega)) (by omega) (by omega) ?_
      refine T_qcE (t_X12_kind hn _ _ _ _ m3_ g4_) ?_
      intro r15_ m16_ e19_ p18_
      have g17_ := p18_.2.1
      have f20_ : (m16_ 1 1).toInt = (m3_ 1 1).toInt := by rw [p18_.2.2 1 1 (by decide)]
      have f21_ : (m16_ 77 8).toInt = (m3_ 77 8).toInt := by rw [p18_.2.2 77 8 (by decide)]
      have f22_ : (m16_ 7 8).toInt = (m3_ 7 8).toInt := by rw [p18_.2.2 7 8 (by decide)]
      have f23_ : (m16_ 78 312).toInt = (m3_ 78 312).toInt := by rw [p18_.2.2 78 312 (by decide)]
      have f24_ : (m16_ 16 8).toInt = (m3_ 16 8).toInt := by rw [p18_.2.2 16 8 (by decide)]
      have f25_ : (m16_ 80 312).toInt = (m3_ 80 312).toInt := by rw [p18_.2.2 80 312 (by decide)]
      have f26_ : (m16_ 0 12).toInt = (m3_ 0 12).toInt := by rw [p18_.2.2 0 12 (by decide)]
      have f27_ : (m16_ 77 67).toInt = (m3_ 77 67).toInt := by rw [p18_.2.2 77 67 (by decide)]
      have q28_ : (m16_ 1 1).toInt = (m16_ 77 8).toInt := by omega
      have q29_ : (m16_ 7 8).toInt = (m16_ 78 312).toInt := by omega
      have q30_ : (m16_ 16 8).toInt = (m16_ 80 312).toInt := by omega
      have q31_ : (m16_ 0 12).toInt = (m16_ 77 67).toInt := by omega
      refine T_ql (i_add rfl l_7 (by omega) (by omega)) ?_
      intro x32_ h33_
      exact ih j r hj hr x32_ m16_ (by omega) (by omega) g17_ q28_ q29_ q30_ q31_ (by omega)
    refine T_sw rfl l_1 (fun s34_ => ?_) (fun s34_ => ?_)
    · refine T_qg (i_add rfl l_1 (by omega) (by omega)) (by omega) (by omega) ?_
      refine T_qg (i_add rfl l_2 (by omega) (by omega)) (by omega) (by omega) ?_
      refine T_qcE (t_X11_person hn _ _ M hG) ?_
      intro r35_ m36_ e39_ p38_
      have g37_ := p38_.2.2.1
      have f40_ : (m36_ 1 1).toInt = (M 1 1).toInt := by rw [p38_.2.2.2 1 1 (by decide)]
      have f41_ : (m36_ 77 8).toInt = (M 77 8).toInt := by rw [p38_.2.2.2 77 8 (by decide)]
      have f42_ : (m36_ 78 312).toInt = (M 78 312).toInt := by rw [p38_.2.2.2 78 312 (by decide)]
      have f43_ : (m36_ 16 8).toInt = (M 16 8).toInt := by rw [p38_.2.2.2 16 8 (by decide)]
      have f44_ : (m36_ 80 312).toInt = (M 80 312).toInt := by rw [p38_.2.2.2 80 312 (by decide)]
      have f45_ : (m36_ 0 12).toInt = (M 0 12).toInt := by rw [p38_.2.2.2 0 12 (by decide)]
      have f46_ : (m36_ 77 67).toInt = (M 77 67).toInt := by rw [p38_.2.2.2 77 67 (by decide)]
      have w47_ := p38_.2.1
      refine T_qg (i_add rfl l_1 (by omega) (by omega)) (by omega) (by omega) ?_
      refine T_qg (i_add rfl l_2 (by omega) (by omega)) (by omega) (by omega) ?_
      refine T_qcE (t_X12_person hn _ _ m36_ g37_) ?_
      intro r48_ m49_ e52_ p51_
      have g50_ := p51_.2.2.1
      have f53_ : (m49_ 1 1).toInt = (m36_ 1 1).toInt := by rw [p51_.2.2.2 1 1 (by decide)]
      have f54_ : (m49_ 77 8).toInt = (m36_ 77 8).toInt := by rw [p51_.2.2.2 77 8 (by decide)]
      have f55_ : (m49_ 7 8).toInt = (m36_ 7 8).toInt := by rw [p51_.2.2.2 7 8 (by decide)]
      have f56_ : (m49_ 16 8).toInt = (m36_ 16 8).toInt := by rw [p51_.2.2.2 16 8 (by decide)]
      have f57_ : (m49_ 80 312).toInt = (m36_ 80 312).toInt := by rw [p51_.2.2.2 80 312 (by decide)]
      have f58_ : (m49_ 0 12).toInt = (m36_ 0 12).toInt := by rw [p51_.2.2.2 0 12 (by decide)]
      have f59_ : (m49_ 77 67).toInt = (m36_ 77 67).toInt := by rw [p51_.2.2.2 77 67 (by decide)]
      have w60_ := p51_.2.1
      have b61_ : m36_ 78 312 = M 7 8 := Int32.toInt_inj.mp (by omega)
      rw [b61_] at w60_
      have q62_ : (m49_ 1 1).toInt = (m49_ 77 8).toInt := by omega
      have q63_ : (m49_ 7 8).toInt = (m49_ 78 312).toInt := by omega
      have q64_ : (m49_ 16 8).toInt = (m49_ 80 312).toInt := by omega
      have q65_ : (m49_ 0 12).toInt = (m49_ 77 67).toInt := by omega
      refine T_ql (i_add rfl l_7 (by omega) (by omega)) ?_
      intro x66_ h67_
      exact ih j r hj hr x66_ m49_ (by omega) (by omega) g50_ q62_ q63_ q64_ q65_ (by omega)
    refine T_sw rfl l_2 (fun s68_ => ?_) (fun s68_ => ?_)
    · refine T_qg (i_add rfl l_1 (by omega) (by omega)) (by omega) (by omega) ?_
      refine T_qg (i_add rfl l_2 (by omega) (by omega)) (by omega) (by omega) ?_
      refine T_qg (i_add rfl l_3 (by omega) (by omega)) (by omega) (by omega) ?_
      refine T_qg (i_add rfl l_4 (by omega) (by omega)) (by omega) (by omega) ?_
      refine T_qg (i_add rfl l_5 (by omega) (by omega)) (by omega) (by omega) ?_
      refine T_qcE (t_X11_feed hn _ _ _ _ _ M hG) ?_
      intro r69_ m70_ e73_ p72_
      have g71_ := p72_.2.2.1
      have f74_ : (m70_ 77 8).toInt = (M 77 8).toInt := by rw [p72_.2.2.2 77 8 (by decide)]
      have f75_ : (m70_ 7 8).toInt = (M 7 8).toInt := by rw [p72_.2.2.2 7 8 (by decide)]
      have f76_ : (m70_ 78 312).toInt = (M 78 312).toInt := by rw [p72_.2.2.2 78 312 (by decide)]
      have f77_ : (m70_ 16 8).toInt = (M 16 8).toInt := by rw [p72_.2.2.2 16 8 (by decide)]
      have f78_ : (m70_ 80 312).toInt = (M 80 312).toInt := by rw [p72_.2.2.2 80 312 (by decide)]
      have f79_ : (m70_ 0 12).toInt = (M 0 12).toInt := by rw [p72_.2.2.2 0 12 (by decide)]
      have f80_ : (m70_ 77 67).toInt = (M 77 67).toInt := by rw [p72_.2.2.2 77 67 (by decide)]
      have w81_ := p72_.2.1
      refine T_qg (i_add rfl l_1 (by omega) (by omega)) (by omega) (by omega) ?_
      refine T_qg (i_add rfl l_2 (by omega) (by omega)) (by omega) (by omega) ?_
      refine T_qg (i_add rfl l_3 (by omega) (by omega)) (by omega) (by omega) ?_
      refine T_qg (i_add rfl l_4 (by omega) (by omega)) (by omega) (by omega) ?_
      refine T_qg (i_add rfl l_5 (by omega) (by omega)) (by omega) (by omega) ?_
      refine T_qcE (t_X12_feed hn _ _ _ _ _ m70_ g71_) ?_
      intro r82_ m83_ e86_ p85_
      have g84_ := p85_.2.2.1
      have f87_ : (m83_ 1 1).toInt = (m70_ 1 1).toInt := by rw [p85_.2.2.2 1 1 (by decide)]
      have f88_ : (m83_ 7 8).toInt = (m70_ 7 8).toInt := by rw [p85_.2.2.2 7 8 (by decide)]
      have f89_ : (m83_ 78 312).toInt = (m70_ 78 312).toInt := by rw [p85_.2.2.2 78 312 (by decide)]
      have f90_ : (m83_ 16 8).toInt = (m70_ 16 8).toInt := by rw [p85_.2.2.2 16 8 (by decide)]
      have f91_ : (m83_ 80 312).toInt = (m70_ 80 312).toInt := by rw [p85_.2.2.2 80 312 (by decide)]
      have f92_ : (m83_ 0 12).toInt = (m70_ 0 12).toInt := by rw [p85_.2.2.2 0 12 (by decide)]
      have f93_ : (m83_ 77 67).toInt = (m70_ 77 67).toInt := by rw [p85_.2.2.2 77 67 (by decide)]
      have w94_ := p85_.2.1
      have q95_ : (m83_ 1 1).toInt = (m83_ 77 8).toInt := by omega
      have q96_ : (m83_ 7 8).toInt = (m83_ 78 312).toInt := by omega
      have q97_ : (m83_ 16 8).toInt = (m83_ 80 312).toInt := by omega
      have q98_ : (m83_ 0 12).toInt = (m83_ 77 67).toInt := by omega
      have w99_ : r69_ = r82_ := Int32.toInt_inj.mp (by omega)
      rw [if_pos w99_]
      refine T_ql (i_add rfl l_7 (by omega) (by omega)) ?_
      intro x100_ h101_
      exact ih j r hj hr x100_ m83_ (by omega) (by omega) g84_ q95_ q96_ q97_ q98_ (by omega)
    refine T_sw rfl l_3 (fun s102_ => ?_) (fun s102_ => ?_)
    · refine T_qg (i_add rfl l_1 (by omega) (by omega)) (by omega) (by omega) ?_
      refine T_qc2s (law_tots hn hr _ M hG) (fun v_ m_ ee_ p_ => ?_) (fun v_ m_ ee_ p_ => ?_)
      · have f103_ : (m_ 77 8).toInt = (M 77 8).toInt := by rw [p_.2.1 77 8 (by decide)]
        have f104_ : (m_ 7 8).toInt = (M 7 8).toInt := by rw [p_.2.1 7 8 (by decide)]
        have f105_ : (m_ 78 312).toInt = (M 78 312).toInt := by rw [p_.2.1 78 312 (by decide)]
        have f106_ : (m_ 16 8).toInt = (M 16 8).toInt := by rw [p_.2.1 16 8 (by decide)]
        have f107_ : (m_ 80 312).toInt = (M 80 312).toInt := by rw [p_.2.1 80 312 (by decide)]
        have f108_ : (m_ 0 12).toInt = (M 0 12).toInt := by rw [p_.2.1 0 12 (by decide)]
        have f109_ : (m_ 77 67).toInt = (M 77 67).toInt := by rw [p_.2.1 77 67 (by decide)]
        have w110_ := p_.2.2
        refine T_qg (i_add rfl l_1 (by omega) (by omega)) (by omega) (by omega) ?_
        refine T_qcE (t_X12_law hn _ m_ p_.1) ?_
        intro r111_ m112_ e115_ p114_
        have g113_ := p114_.1
        have f116_ : (m112_ 1 1).toInt = (m_ 1 1).toInt := by rw [show m112_ 1 1 = m_ 1 1 from congrFun (p114_.2.1.2 1 (by decide) (by decide)) 1]
        have f117_ : (m112_ 7 8).toInt = (m_ 7 8).toInt := by rw [show m112_ 7 8 = m_ 7 8 from congrFun (p114_.2.1.2 7 (by decide) (by decide)) 8]
        have f118_ : (m112_ 78 312).toInt = (m_ 78 312).toInt := by rw [show m112_ 78 312 = m_ 78 312 from congrFun (p114_.2.1.2 78 (by decide) (by decide)) 312]
        have f119_ : (m112_ 16 8).toInt = (m_ 16 8).toInt := by rw [show m112_ 16 8 = m_ 16 8 from congrFun (p114_.2.1.2 16 (by decide) (by decide)) 8]
        have f120_ : (m112_ 80 312).toInt = (m_ 80 312).toInt := by rw [show m112_ 80 312 = m_ 80 312 from congrFun (p114_.2.1.2 80 (by decide) (by decide)) 312]
        have f121_ : (m112_ 0 12).toInt = (m_ 0 12).toInt := by rw [show m112_ 0 12 = m_ 0 12 from congrFun (p114_.2.1.2 0 (by decide) (by decide)) 12]
        have f122_ : (m112_ 77 67).toInt = (m_ 77 67).toInt := by rw [show m112_ 77 67 = m_ 77 67 from p114_.2.1.1 67 (by decide)]
        have w123_ := p114_.2.2
        have q124_ : (m112_ 1 1).toInt = (m112_ 77 8).toInt := by omega
        have q125_ : (m112_ 7 8).toInt = (m112_ 78 312).toInt := by omega
        have q126_ : (m112_ 16 8).toInt = (m112_ 80 312).toInt := by omega
        have q127_ : (m112_ 0 12).toInt = (m112_ 77 67).toInt := by omega
        refine T_ql (i_add rfl l_7 (by omega) (by omega)) ?_
        intro x128_ h129_
        exact ih j r hj hr x128_ m112_ (by omega) (by omega) g113_ q124_ q125_ q126_ q127_ (by omega)
      · have f130_ : (m_ 77 8).toInt = (M 77 8).toInt := by rw [p_.2.1 77 8 (by decide)]
        have f131_ : (m_ 7 8).toInt = (M 7 8).toInt := by rw [p_.2.1 7 8 (by decide)]
        have f132_ : (m_ 78 312).toInt = (M 78 312).toInt := by rw [p_.2.1 78 312 (by decide)]
        have f133_ : (m_ 16 8).toInt = (M 16 8).toInt := by rw [p_.2.1 16 8 (by decide)]
        have f134_ : (m_ 80 312).toInt = (M 80 312).toInt := by rw [p_.2.1 80 312 (by decide)]
        have f135_ : (m_ 0 12).toInt = (M 0 12).toInt := by rw [p_.2.1 0 12 (by decide)]
        have f136_ : (m_ 77 67).toInt = (M 77 67).toInt := by rw [p_.2.1 77 67 (by decide)]
        have w137_ := p_.2.2
        refine T_qg (i_add rfl l_1 (by omega) (by omega)) (by omega) (by omega) ?_
        refine T_qcE (t_X12_law hn _ m_ p_.1) ?_
        intro r138_ m139_ e142_ p141_
        have g140_ := p141_.1
        have f143_ : (m139_ 1 1).toInt = (m_ 1 1).toInt := by rw [show m139_ 1 1 = m_ 1 1 from congrFun (p141_.2.1.2 1 (by decide) (by decide)) 1]
        have f144_ : (m139_ 7 8).toInt = (m_ 7 8).toInt := by rw [show m139_ 7 8 = m_ 7 8 from congrFun (p141_.2.1.2 7 (by decide) (by decide)) 8]
        have f145_ : (m139_ 78 312).toInt = (m_ 78 312).toInt := by rw [show m139_ 78 312 = m_ 78 312 from congrFun (p141_.2.1.2 78 (by decide) (by decide)) 312]
        have f146_ : (m139_ 16 8).toInt = (m_ 16 8).toInt := by rw [show m139_ 16 8 = m_ 16 8 from congrFun (p141_.2.1.2 16 (by decide) (by decide)) 8]
        have f147_ : (m139_ 80 312).toInt = (m_ 80 312).toInt := by rw [show m139_ 80 312 = m_ 80 312 from congrFun (p141_.2.1.2 80 (by decide) (by decide)) 312]
        have f148_ : (m139_ 0 12).toInt = (m_ 0 12).toInt := by rw [show m139_ 0 12 = m_ 0 12 from congrFun (p141_.2.1.2 0 (by decide) (by decide)) 12]
        have f149_ : (m139_ 77 67).toInt = (m_ 77 67).toInt := by rw [show m139_ 77 67 = m_ 77 67 from p141_.2.1.1 67 (by decide)]
        have w150_ := p141_.2.2
        have q151_ : (m139_ 1 1).toInt = (m139_ 77 8).toInt := by omega
        have q152_ : (m139_ 7 8).toInt = (m139_ 78 312).toInt := by omega
        have q153_ : (m139_ 16 8).toInt = (m139_ 80 312).toInt := by omega
        have q154_ : (m139_ 0 12).toInt = (m139_ 77 67).toInt := by omega
        refine T_ql (i_add rfl l_7 (by omega) (by omega)) ?_
        intro x155_ h156_
        exact ih r j hr hj x155_ m139_ (by omega) (by omega) g140_ q151_ q152_ q153_ q154_ (by omega)
    refine T_sw rfl l_4 (fun s157_ => ?_) (fun s157_ => ?_)
    · refine T_qg (i_add rfl l_1 (by omega) (by omega)) (by omega) (by omega) ?_
      refine T_qg (i_add rfl l_2 (by omega) (by omega)) (by omega) (by omega) ?_
      refine T_qcE (t_X11_plan hn _ _ M hG) ?_
      intro r158_ m159_ e162_ p161_
      have g160_ := p161_.2.1
      have f163_ : (m159_ 77 8).toInt = (M 77 8).toInt := by rw [p161_.2.2 77 8 (by decide)]
      have f164_ : (m159_ 7 8).toInt = (M 7 8).toInt := by rw [p161_.2.2 7 8 (by decide)]
      have f165_ : (m159_ 78 312).toInt = (M 78 312).toInt := by rw [p161_.2.2 78 312 (by decide)]
      have f166_ : (m159_ 16 8).toInt = (M 16 8).toInt := by rw [p161_.2.2 16 8 (by decide)]
      have f167_ : (m159_ 80 312).toInt = (M 80 312).toInt := by rw [p161_.2.2 80 312 (by decide)]
      have f168_ : (m159_ 0 12).toInt = (M 0 12).toInt := by rw [p161_.2.2 0 12 (by decide)]
      have f169_ : (m159_ 77 67).toInt = (M 77 67).toInt := by rw [p161_.2.2 77 67 (by decide)]
      have w170_ := p161_.1
      refine T_qg (i_add rfl l_1 (by omega) (by omega)) (by omega) (by omega) ?_
      refine T_qg (i_add rfl l_2 (by omega) (by omega)) (by omega) (by omega) ?_
      refine T_qcE (t_X12_plan hn _ _ m159_ g160_) ?_
      intro r171_ m172_ e175_ p174_
      have g173_ := p174_.2.1
      have f176_ : (m172_ 1 1).toInt = (m159_ 1 1).toInt := by rw [p174_.2.2 1 1 (by decide)]
      have f177_ : (m172_ 7 8).toInt = (m159_ 7 8).toInt := by rw [p174_.2.2 7 8 (by decide)]
      have f178_ : (m172_ 78 312).toInt = (m159_ 78 312).toInt := by rw [p174_.2.2 78 312 (by decide)]
      have f179_ : (m172_ 16 8).toInt = (m159_ 16 8).toInt := by rw [p174_.2.2 16 8 (by decide)]
      have f180_ : (m172_ 80 312).toInt = (m159_ 80 312).toInt := by rw [p174_.2.2 80 312 (by decide)]
      have f181_ : (m172_ 0 12).toInt = (m159_ 0 12).toInt := by rw [p174_.2.2 0 12 (by decide)]
      have f182_ : (m172_ 77 67).toInt = (m159_ 77 67).toInt := by rw [p174_.2.2 77 67 (by decide)]
      have w183_ := p174_.1
      have b184_ : m159_ 78 312 = M 7 8 := Int32.toInt_inj.mp (by omega)
      rw [b184_] at w183_
      have q185_ : (m172_ 1 1).toInt = (m172_ 77 8).toInt := by omega
      have q186_ : (m172_ 7 8).toInt = (m172_ 78 312).toInt := by omega
      have q187_ : (m172_ 16 8).toInt = (m172_ 80 312).toInt := by omega
      have q188_ : (m172_ 0 12).toInt = (m172_ 77 67).toInt := by omega
      refine T_ql (i_add rfl l_7 (by omega) (by omega)) ?_
      intro x189_ h190_
      exact ih j r hj hr x189_ m172_ (by omega) (by omega) g173_ q185_ q186_ q187_ q188_ (by omega)
    refine T_sw rfl l_5 (fun s191_ => ?_) (fun s191_ => ?_)
    · refine T_qg (i_add rfl l_1 (by omega) (by omega)) (by omega) (by omega) ?_
      refine T_qg (i_add rfl l_2 (by omega) (by omega)) (by omega) (by omega) ?_
      refine T_qg (i_add rfl l_3 (by omega) (by omega)) (by omega) (by omega) ?_
      refine T_qcE (t_X11_tries hn hj _ _ _ M hG) ?_
      intro r192_ m193_ e196_ p195_
      have g194_ := p195_.2.1
      have f197_ : (m193_ 1 1).toInt = (M 1 1).toInt := by rw [p195_.2.2 1 1 (by decide)]
      have f198_ : (m193_ 77 8).toInt = (M 77 8).toInt := by rw [p195_.2.2 77 8 (by decide)]
      have f199_ : (m193_ 7 8).toInt = (M 7 8).toInt := by rw [p195_.2.2 7 8 (by decide)]
      have f200_ : (m193_ 78 312).toInt = (M 78 312).toInt := by rw [p195_.2.2 78 312 (by decide)]
      have f201_ : (m193_ 16 8).toInt = (M 16 8).toInt := by rw [p195_.2.2 16 8 (by decide)]
      have f202_ : (m193_ 80 312).toInt = (M 80 312).toInt := by rw [p195_.2.2 80 312 (by decide)]
      have f203_ : (m193_ 0 12).toInt = (M 0 12).toInt := by rw [p195_.2.2 0 12 (by decide)]
      have f204_ : (m193_ 77 67).toInt = (M 77 67).toInt := by rw [p195_.2.2 77 67 (by decide)]
      refine T_qg (i_add rfl l_1 (by omega) (by omega)) (by omega) (by omega) ?_
      refine T_qg (i_add rfl l_2 (by omega) (by omega)) (by omega) (by omega) ?_
      refine T_qg (i_add rfl l_3 (by omega) (by omega)) (by omega) (by omega) ?_
      refine T_qcE (t_X12_tries hn _ _ _ m193_ g194_) ?_
      intro r205_ m206_ e209_ p208_
      have g207_ := p208_.2.1
      have f210_ : (m206_ 1 1).toInt = (m193_ 1 1).toInt := by rw [p208_.2.2 1 1 (by decide)]
      have f211_ : (m206_ 77 8).toInt = (m193_ 77 8).toInt := by rw [p208_.2.2 77 8 (by decide)]
      have f212_ : (m206_ 7 8).toInt = (m193_ 7 8).toInt := by rw [p208_.2.2 7 8 (by decide)]
      have f213_ : (m206_ 78 312).toInt = (m193_ 78 312).toInt := by rw [p208_.2.2 78 312 (by decide)]
      have f214_ : (m206_ 16 8).toInt = (m193_ 16 8).toInt := by rw [p208_.2.2 16 8 (by decide)]
      have f215_ : (m206_ 80 312).toInt = (m193_ 80 312).toInt := by rw [p208_.2.2 80 312 (by decide)]
      have f216_ : (m206_ 0 12).toInt = (m193_ 0 12).toInt := by rw [p208_.2.2 0 12 (by decide)]
      have f217_ : (m206_ 77 67).toInt = (m193_ 77 67).toInt := by rw [p208_.2.2 77 67 (by decide)]
      have q218_ : (m206_ 1 1).toInt = (m206_ 77 8).toInt := by omega
      have q219_ : (m206_ 7 8).toInt = (m206_ 78 312).toInt := by omega
      have q220_ : (m206_ 16 8).toInt = (m206_ 80 312).toInt := by omega
      have q221_ : (m206_ 0 12).toInt = (m206_ 77 67).toInt := by omega
      refine T_ql (i_add rfl l_7 (by omega) (by omega)) ?_
      intro x222_ h223_
      exact ih j r hj hr x222_ m206_ (by omega) (by omega) g207_ q218_ q219_ q220_ q221_ (by omega)
    refine T_sw rfl l_6 (fun s224_ => ?_) (fun s224_ => ?_)
    · refine T_qg (i_add rfl l_1 (by omega) (by omega)) (by omega) (by omega) ?_
      refine T_qg (i_add rfl l_2 (by omega) (by omega)) (by omega) (by omega) ?_
      refine T_qg (i_add rfl l_3 (by omega) (by omega)) (by omega) (by omega) ?_
      refine T_qcE (t_X11_buys hn hj _ _ _ M hG) ?_
      intro r225_ m226_ e229_ p228_
      have g227_ := p228_.2.1
      have f230_ : (m226_ 1 1).toInt = (M 1 1).toInt := by rw [p228_.2.2 1 1 (by decide)]
      have f231_ : (m226_ 77 8).toInt = (M 77 8).toInt := by rw [p228_.2.2 77 8 (by decide)]
      have f232_ : (m226_ 7 8).toInt = (M 7 8).toInt := by rw [p228_.2.2 7 8 (by decide)]
      have f233_ : (m226_ 78 312).toInt = (M 78 312).toInt := by rw [p228_.2.2 78 312 (by decide)]
      have f234_ : (m226_ 16 8).toInt = (M 16 8).toInt := by rw [p228_.2.2 16 8 (by decide)]
      have f235_ : (m226_ 80 312).toInt = (M 80 312).toInt := by rw [p228_.2.2 80 312 (by decide)]
      have f236_ : (m226_ 0 12).toInt = (M 0 12).toInt := by rw [p228_.2.2 0 12 (by decide)]
      have f237_ : (m226_ 77 67).toInt = (M 77 67).toInt := by rw [p228_.2.2 77 67 (by decide)]
      refine T_qg (i_add rfl l_1 (by omega) (by omega)) (by omega) (by omega) ?_
      refine T_qg (i_add rfl l_2 (by omega) (by omega)) (by omega) (by omega) ?_
      refine T_qg (i_add rfl l_3 (by omega) (by omega)) (by omega) (by omega) ?_
      refine T_qcE (t_X12_buys hn _ _ _ m226_ g227_) ?_
      intro r238_ m239_ e242_ p241_
      have g240_ := p241_.2.1
      have f243_ : (m239_ 1 1).toInt = (m226_ 1 1).toInt := by rw [p241_.2.2 1 1 (by decide)]
      have f244_ : (m239_ 77 8).toInt = (m226_ 77 8).toInt := by rw [p241_.2.2 77 8 (by decide)]
      have f245_ : (m239_ 7 8).toInt = (m226_ 7 8).toInt := by rw [p241_.2.2 7 8 (by decide)]
      have f246_ : (m239_ 78 312).toInt = (m226_ 78 312).toInt := by rw [p241_.2.2 78 312 (by decide)]
      have f247_ : (m239_ 16 8).toInt = (m226_ 16 8).toInt := by rw [p241_.2.2 16 8 (by decide)]
      have f248_ : (m239_ 80 312).toInt = (m226_ 80 312).toInt := by rw [p241_.2.2 80 312 (by decide)]
      have f249_ : (m239_ 0 12).toInt = (m226_ 0 12).toInt := by rw [p241_.2.2 0 12 (by decide)]
      have f250_ : (m239_ 77 67).toInt = (m226_ 77 67).toInt := by rw [p241_.2.2 77 67 (by decide)]
      have q251_ : (m239_ 1 1).toInt = (m239_ 77 8).toInt := by omega
      have q252_ : (m239_ 7 8).toInt = (m239_ 78 312).toInt := by omega
      have q253_ : (m239_ 16 8).toInt = (m239_ 80 312).toInt := by omega
      have q254_ : (m239_ 0 12).toInt = (m239_ 77 67).toInt := by omega
      refine T_ql (i_add rfl l_7 (by omega) (by omega)) ?_
      intro x255_ h256_
      exact ih j r hj hr x255_ m239_ (by omega) (by omega) g240_ q251_ q252_ q253_ q254_ (by omega)
    refine T_sw rfl l_7 (fun s257_ => ?_) (fun s257_ => ?_)
    · refine T_qg (i_add rfl l_1 (by omega) (by omega)) (by omega) (by omega) ?_
      refine T_qcE (t_X11_days hn hj _ M hG) ?_
      intro r258_ m259_ e262_ p261_
      have g260_ := p261_.2.1
      have f263_ : (m259_ 1 1).toInt = (M 1 1).toInt := by rw [p261_.2.2 1 1 (by decide)]
      have f264_ : (m259_ 77 8).toInt = (M 77 8).toInt := by rw [p261_.2.2 77 8 (by decide)]
      have f265_ : (m259_ 7 8).toInt = (M 7 8).toInt := by rw [p261_.2.2 7 8 (by decide)]
      have f266_ : (m259_ 78 312).toInt = (M 78 312).toInt := by rw [p261_.2.2 78 312 (by decide)]
      have f267_ : (m259_ 16 8).toInt = (M 16 8).toInt := by rw [p261_.2.2 16 8 (by decide)]
      have f268_ : (m259_ 80 312).toInt = (M 80 312).toInt := by rw [p261_.2.2 80 312 (by decide)]
      have f269_ : (m259_ 0 12).toInt = (M 0 12).toInt := by rw [p261_.2.2 0 12 (by decide)]
      have f270_ : (m259_ 77 67).toInt = (M 77 67).toInt := by rw [p261_.2.2 77 67 (by decide)]
      refine T_qg (i_add rfl l_1 (by omega) (by omega)) (by omega) (by omega) ?_
      refine T_qcE (t_X12_days hn _ m259_ g260_) ?_
      intro r271_ m272_ e275_ p274_
      have g273_ := p274_.2.1
      have f276_ : (m272_ 1 1).toInt = (m259_ 1 1).toInt := by rw [p274_.2.2 1 1 (by decide)]
      have f277_ : (m272_ 77 8).toInt = (m259_ 77 8).toInt := by rw [p274_.2.2 77 8 (by decide)]
      have f278_ : (m272_ 7 8).toInt = (m259_ 7 8).toInt := by rw [p274_.2.2 7 8 (by decide)]
      have f279_ : (m272_ 78 312).toInt = (m259_ 78 312).toInt := by rw [p274_.2.2 78 312 (by decide)]
      have f280_ : (m272_ 16 8).toInt = (m259_ 16 8).toInt := by rw [p274_.2.2 16 8 (by decide)]
      have f281_ : (m272_ 80 312).toInt = (m259_ 80 312).toInt := by rw [p274_.2.2 80 312 (by decide)]
      have f282_ : (m272_ 0 12).toInt = (m259_ 0 12).toInt := by rw [p274_.2.2 0 12 (by decide)]
      have f283_ : (m272_ 77 67).toInt = (m259_ 77 67).toInt := by rw [p274_.2.2 77 67 (by decide)]
      have q284_ : (m272_ 1 1).toInt = (m272_ 77 8).toInt := by omega
      have q285_ : (m272_ 7 8).toInt = (m272_ 78 312).toInt := by omega
      have q286_ : (m272_ 16 8).toInt = (m272_ 80 312).toInt := by omega
      have q287_ : (m272_ 0 12).toInt = (m272_ 77 67).toInt := by omega
      refine T_ql (i_add rfl l_7 (by omega) (by omega)) ?_
      intro x288_ h289_
      exact ih j r hj hr x288_ m272_ (by omega) (by omega) g273_ q284_ q285_ q286_ q287_ (by omega)
    refine T_sw rfl l_8 (fun s290_ => ?_) (fun s290_ => ?_)
    · refine T_qg (i_add rfl l_1 (by omega) (by omega)) (by omega) (by omega) ?_
      refine T_qg (i_add rfl l_2 (by omega) (by omega)) (by omega) (by omega) ?_
      refine T_qcE (t_X11_tried hn hj _ _ M hG) ?_
      intro r291_ m292_ e295_ p294_
      have g293_ := p294_.1
      have f296_ : (m292_ 1 1).toInt = (M 1 1).toInt := by rw [p294_.2 1 1 (by decide)]
      have f297_ : (m292_ 77 8).toInt = (M 77 8).toInt := by rw [p294_.2 77 8 (by decide)]
      have f298_ : (m292_ 7 8).toInt = (M 7 8).toInt := by rw [p294_.2 7 8 (by decide)]
      have f299_ : (m292_ 78 312).toInt = (M 78 312).toInt := by rw [p294_.2 78 312 (by decide)]
      have f300_ : (m292_ 16 8).toInt = (M 16 8).toInt := by rw [p294_.2 16 8 (by decide)]
      have f301_ : (m292_ 80 312).toInt = (M 80 312).toInt := by rw [p294_.2 80 312 (by decide)]
      have f302_ : (m292_ 0 12).toInt = (M 0 12).toInt := by rw [p294_.2 0 12 (by decide)]
      have f303_ : (m292_ 77 67).toInt = (M 77 67).toInt := by rw [p294_.2 77 67 (by decide)]
      refine T_qg (i_add rfl l_1 (by omega) (by omega)) (by omega) (by omega) ?_
      refine T_qg (i_add rfl l_2 (by omega) (by omega)) (by omega) (by omega) ?_
      refine T_qcE (t_X12_tried hn _ _ m292_ g293_) ?_
      intro r304_ m305_ e308_ p307_
      have g306_ := p307_.2.1
      have f309_ : (m305_ 1 1).toInt = (m292_ 1 1).toInt := by rw [p307_.2.2 1 1 (by decide)]
      have f310_ : (m305_ 77 8).toInt = (m292_ 77 8).toInt := by rw [p307_.2.2 77 8 (by decide)]
      have f311_ : (m305_ 7 8).toInt = (m292_ 7 8).toInt := by rw [p307_.2.2 7 8 (by decide)]
      have f312_ : (m305_ 16 8).toInt = (m292_ 16 8).toInt := by rw [p307_.2.2 16 8 (by decide)]
      have f313_ : (m305_ 80 312).toInt = (m292_ 80 312).toInt := by rw [p307_.2.2 80 312 (by decide)]
      have f314_ : (m305_ 0 12).toInt = (m292_ 0 12).toInt := by rw [p307_.2.2 0 12 (by decide)]
      have f315_ : (m305_ 77 67).toInt = (m292_ 77 67).toInt := by rw [p307_.2.2 77 67 (by decide)]
      have w316_ := p307_.1
      have q317_ : (m305_ 1 1).toInt = (m305_ 77 8).toInt := by omega
      have q318_ : (m305_ 7 8).toInt = (m305_ 78 312).toInt := by omega
      have q319_ : (m305_ 16 8).toInt = (m305_ 80 312).toInt := by omega
      have q320_ : (m305_ 0 12).toInt = (m305_ 77 67).toInt := by omega
      refine T_ql (i_add rfl l_7 (by omega) (by omega)) ?_
      intro x321_ h322_
      exact ih j r hj hr x321_ m305_ (by omega) (by omega) g306_ q317_ q318_ q319_ q320_ (by omega)
    refine T_sw rfl l_9 (fun s323_ => ?_) (fun s323_ => ?_)
    · refine T_qg (i_add rfl l_1 (by omega) (by omega)) (by omega) (by omega) ?_
      refine T_qg (i_add rfl l_2 (by omega) (by omega)) (by omega) (by omega) ?_
      refine T_qg (i_add rfl l_3 (by omega) (by omega)) (by omega) (by omega) ?_
      refine T_qcE (t_X11_has hn hj _ _ _ M hG) ?_
      intro r324_ m325_ e328_ p327_
      have g326_ := p327_.1
      have f329_ : (m325_ 1 1).toInt = (M 1 1).toInt := by rw [p327_.2 1 1 (by decide)]
      have f330_ : (m325_ 77 8).toInt = (M 77 8).toInt := by rw [p327_.2 77 8 (by decide)]
      have f331_ : (m325_ 7 8).toInt = (M 7 8).toInt := by rw [p327_.2 7 8 (by decide)]
      have f332_ : (m325_ 78 312).toInt = (M 78 312).toInt := by rw [p327_.2 78 312 (by decide)]
      have f333_ : (m325_ 16 8).toInt = (M 16 8).toInt := by rw [p327_.2 16 8 (by decide)]
      have f334_ : (m325_ 80 312).toInt = (M 80 312).toInt := by rw [p327_.2 80 312 (by decide)]
      have f335_ : (m325_ 0 12).toInt = (M 0 12).toInt := by rw [p327_.2 0 12 (by decide)]
      have f336_ : (m325_ 77 67).toInt = (M 77 67).toInt := by rw [p327_.2 77 67 (by decide)]
      refine T_qg (i_add rfl l_1 (by omega) (by omega)) (by omega) (by omega) ?_
      refine T_qg (i_add rfl l_2 (by omega) (by omega)) (by omega) (by omega) ?_
      refine T_qg (i_add rfl l_3 (by omega) (by omega)) (by omega) (by omega) ?_
      refine T_qcE (t_X12_has hn _ _ _ m325_ g326_) ?_
      intro r337_ m338_ e341_ p340_
      have g339_ := p340_.2.1
      have f342_ : (m338_ 1 1).toInt = (m325_ 1 1).toInt := by rw [p340_.2.2 1 1 (by decide)]
      have f343_ : (m338_ 77 8).toInt = (m325_ 77 8).toInt := by rw [p340_.2.2 77 8 (by decide)]
      have f344_ : (m338_ 7 8).toInt = (m325_ 7 8).toInt := by rw [p340_.2.2 7 8 (by decide)]
      have f345_ : (m338_ 16 8).toInt = (m325_ 16 8).toInt := by rw [p340_.2.2 16 8 (by decide)]
      have f346_ : (m338_ 80 312).toInt = (m325_ 80 312).toInt := by rw [p340_.2.2 80 312 (by decide)]
      have f347_ : (m338_ 0 12).toInt = (m325_ 0 12).toInt := by rw [p340_.2.2 0 12 (by decide)]
      have f348_ : (m338_ 77 67).toInt = (m325_ 77 67).toInt := by rw [p340_.2.2 77 67 (by decide)]
      have w349_ := p340_.1
      have q350_ : (m338_ 1 1).toInt = (m338_ 77 8).toInt := by omega
      have q351_ : (m338_ 7 8).toInt = (m338_ 78 312).toInt := by omega
      have q352_ : (m338_ 16 8).toInt = (m338_ 80 312).toInt := by omega
      have q353_ : (m338_ 0 12).toInt = (m338_ 77 67).toInt := by omega
      refine T_ql (i_add rfl l_7 (by omega) (by omega)) ?_
      intro x354_ h355_
      exact ih j r hj hr x354_ m338_ (by omega) (by omega) g339_ q350_ q351_ q352_ q353_ (by omega)
    refine T_sw rfl l_10 (fun s356_ => ?_) (fun s356_ => ?_)
    · refine T_qg (i_add rfl l_1 (by omega) (by omega)) (by omega) (by omega) ?_
      refine T_qg (i_add rfl l_2 (by omega) (by omega)) (by omega) (by omega) ?_
      refine T_qcE (t_X11_alike hn hj _ _ M hG) ?_
      intro r357_ m358_ e361_ p360_
      have g359_ := p360_.2.1
      have f362_ : (m358_ 1 1).toInt = (M 1 1).toInt := by rw [p360_.2.2 1 1 (by decide)]
      have f363_ : (m358_ 77 8).toInt = (M 77 8).toInt := by rw [p360_.2.2 77 8 (by decide)]
      have f364_ : (m358_ 7 8).toInt = (M 7 8).toInt := by rw [p360_.2.2 7 8 (by decide)]
      have f365_ : (m358_ 78 312).toInt = (M 78 312).toInt := by rw [p360_.2.2 78 312 (by decide)]
      have f366_ : (m358_ 16 8).toInt = (M 16 8).toInt := by rw [p360_.2.2 16 8 (by decide)]
      have f367_ : (m358_ 80 312).toInt = (M 80 312).toInt := by rw [p360_.2.2 80 312 (by decide)]
      have f368_ : (m358_ 0 12).toInt = (M 0 12).toInt := by rw [p360_.2.2 0 12 (by decide)]
      have f369_ : (m358_ 77 67).toInt = (M 77 67).toInt := by rw [p360_.2.2 77 67 (by decide)]
      refine T_qg (i_add rfl l_1 (by omega) (by omega)) (by omega) (by omega) ?_
      refine T_qg (i_add rfl l_2 (by omega) (by omega)) (by omega) (by omega) ?_
      refine T_qcE (t_X12_alike hn _ _ m358_ g359_) ?_
      intro r370_ m371_ e374_ p373_
      have g372_ := p373_.2.1
      have f375_ : (m371_ 1 1).toInt = (m358_ 1 1).toInt := by rw [p373_.2.2 1 1 (by decide)]
      have f376_ : (m371_ 77 8).toInt = (m358_ 77 8).toInt := by rw [p373_.2.2 77 8 (by decide)]
      have f377_ : (m371_ 7 8).toInt = (m358_ 7 8).toInt := by rw [p373_.2.2 7 8 (by decide)]
      have f378_ : (m371_ 78 312).toInt = (m358_ 78 312).toInt := by rw [p373_.2.2 78 312 (by decide)]
      have f379_ : (m371_ 16 8).toInt = (m358_ 16 8).toInt := by rw [p373_.2.2 16 8 (by decide)]
      have f380_ : (m371_ 80 312).toInt = (m358_ 80 312).toInt := by rw [p373_.2.2 80 312 (by decide)]
      have f381_ : (m371_ 0 12).toInt = (m358_ 0 12).toInt := by rw [p373_.2.2 0 12 (by decide)]
      have f382_ : (m371_ 77 67).toInt = (m358_ 77 67).toInt := by rw [p373_.2.2 77 67 (by decide)]
      have q383_ : (m371_ 1 1).toInt = (m371_ 77 8).toInt := by omega
      have q384_ : (m371_ 7 8).toInt = (m371_ 78 312).toInt := by omega
      have q385_ : (m371_ 16 8).toInt = (m371_ 80 312).toInt := by omega
      have q386_ : (m371_ 0 12).toInt = (m371_ 77 67).toInt := by omega
      refine T_ql (i_add rfl l_7 (by omega) (by omega)) ?_
      intro x387_ h388_
      exact ih j r hj hr x387_ m371_ (by omega) (by omega) g372_ q383_ q384_ q385_ q386_ (by omega)
    refine T_sw rfl l_11 (fun s389_ => ?_) (fun s389_ => ?_)
    · refine T_qg (i_add rfl l_1 (by omega) (by omega)) (by omega) (by omega) ?_
      refine T_qg (i_add rfl l_2 (by omega) (by omega)) (by omega) (by omega) ?_
      refine T_qg (i_add rfl l_3 (by omega) (by omega)) (by omega) (by omega) ?_
      refine T_qcE (t_X11_cost hn hj _ _ _ M hG) ?_
      intro r390_ m391_ e394_ p393_
      have g392_ := p393_.2.1
      have f395_ : (m391_ 1 1).toInt = (M 1 1).toInt := by rw [p393_.2.2 1 1 (by decide)]
      have f396_ : (m391_ 77 8).toInt = (M 77 8).toInt := by rw [p393_.2.2 77 8 (by decide)]
      have f397_ : (m391_ 7 8).toInt = (M 7 8).toInt := by rw [p393_.2.2 7 8 (by decide)]
      have f398_ : (m391_ 78 312).toInt = (M 78 312).toInt := by rw [p393_.2.2 78 312 (by decide)]
      have f399_ : (m391_ 16 8).toInt = (M 16 8).toInt := by rw [p393_.2.2 16 8 (by decide)]
      have f400_ : (m391_ 80 312).toInt = (M 80 312).toInt := by rw [p393_.2.2 80 312 (by decide)]
      have f401_ : (m391_ 0 12).toInt = (M 0 12).toInt := by rw [p393_.2.2 0 12 (by decide)]
      have f402_ : (m391_ 77 67).toInt = (M 77 67).toInt := by rw [p393_.2.2 77 67 (by decide)]
      refine T_qg (i_add rfl l_1 (by omega) (by omega)) (by omega) (by omega) ?_
      refine T_qg (i_add rfl l_2 (by omega) (by omega)) (by omega) (by omega) ?_
      refine T_qg (i_add rfl l_3 (by omega) (by omega)) (by omega) (by omega) ?_
      refine T_qcE (t_X12_cost hn _ _ _ m391_ g392_) ?_
      intro r403_ m404_ e407_ p406_
      have g405_ := p406_.2.1
      have f408_ : (m404_ 1 1).toInt = (m391_ 1 1).toInt := by rw [p406_.2.2 1 1 (by decide)]
      have f409_ : (m404_ 77 8).toInt = (m391_ 77 8).toInt := by rw [p406_.2.2 77 8 (by decide)]
      have f410_ : (m404_ 7 8).toInt = (m391_ 7 8).toInt := by rw [p406_.2.2 7 8 (by decide)]
      have f411_ : (m404_ 78 312).toInt = (m391_ 78 312).toInt := by rw [p406_.2.2 78 312 (by decide)]
      have f412_ : (m404_ 16 8).toInt = (m391_ 16 8).toInt := by rw [p406_.2.2 16 8 (by decide)]
      have f413_ : (m404_ 80 312).toInt = (m391_ 80 312).toInt := by rw [p406_.2.2 80 312 (by decide)]
      have f414_ : (m404_ 0 12).toInt = (m391_ 0 12).toInt := by rw [p406_.2.2 0 12 (by decide)]
      have f415_ : (m404_ 77 67).toInt = (m391_ 77 67).toInt := by rw [p406_.2.2 77 67 (by decide)]
      have q416_ : (m404_ 1 1).toInt = (m404_ 77 8).toInt := by omega
      have q417_ : (m404_ 7 8).toInt = (m404_ 78 312).toInt := by omega
      have q418_ : (m404_ 16 8).toInt = (m404_ 80 312).toInt := by omega
      have q419_ : (m404_ 0 12).toInt = (m404_ 77 67).toInt := by omega
      refine T_ql (i_add rfl l_7 (by omega) (by omega)) ?_
      intro x420_ h421_
      exact ih j r hj hr x420_ m404_ (by omega) (by omega) g405_ q416_ q417_ q418_ q419_ (by omega)
    refine T_sw rfl l_12 (fun s422_ => ?_) (fun s422_ => ?_)
    · refine T_qg (i_add rfl l_1 (by omega) (by omega)) (by omega) (by omega) ?_
      refine T_qg (i_add rfl l_2 (by omega) (by omega)) (by omega) (by omega) ?_
      refine T_qg (i_add rfl l_3 (by omega) (by omega)) (by omega) (by omega) ?_
      refine T_qg (i_add rfl l_4 (by omega) (by omega)) (by omega) (by omega) ?_
      refine T_qg (i_add rfl l_5 (by omega) (by omega)) (by omega) (by omega) ?_
      refine T_qcE (t_X11_soonest hn hj _ _ _ _ _ M hG) ?_
      intro r423_ m424_ e427_ p426_
      have g425_ := p426_.1
      have f428_ : (m424_ 1 1).toInt = (M 1 1).toInt := by rw [p426_.2 1 1 (by decide)]
      have f429_ : (m424_ 77 8).toInt = (M 77 8).toInt := by rw [p426_.2 77 8 (by decide)]
      have f430_ : (m424_ 7 8).toInt = (M 7 8).toInt := by rw [p426_.2 7 8 (by decide)]
      have f431_ : (m424_ 78 312).toInt = (M 78 312).toInt := by rw [p426_.2 78 312 (by decide)]
      have f432_ : (m424_ 16 8).toInt = (M 16 8).toInt := by rw [p426_.2 16 8 (by decide)]
      have f433_ : (m424_ 80 312).toInt = (M 80 312).toInt := by rw [p426_.2 80 312 (by decide)]
      have f434_ : (m424_ 0 12).toInt = (M 0 12).toInt := by rw [p426_.2 0 12 (by decide)]
      have f435_ : (m424_ 77 67).toInt = (M 77 67).toInt := by rw [p426_.2 77 67 (by decide)]
      refine T_qg (i_add rfl l_1 (by omega) (by omega)) (by omega) (by omega) ?_
      refine T_qg (i_add rfl l_2 (by omega) (by omega)) (by omega) (by omega) ?_
      refine T_qg (i_add rfl l_3 (by omega) (by omega)) (by omega) (by omega) ?_
      refine T_qg (i_add rfl l_4 (by omega) (by omega)) (by omega) (by omega) ?_
      refine T_qg (i_add rfl l_5 (by omega) (by omega)) (by omega) (by omega) ?_
      refine T_qcE (t_X12_soonest hn _ _ _ _ _ m424_ g425_) ?_
      intro r436_ m437_ e440_ p439_
      have g438_ := p439_.1
      have f441_ : (m437_ 1 1).toInt = (m424_ 1 1).toInt := by rw [p439_.2 1 1 (by decide)]
      have f442_ : (m437_ 77 8).toInt = (m424_ 77 8).toInt := by rw [p439_.2 77 8 (by decide)]
      have f443_ : (m437_ 7 8).toInt = (m424_ 7 8).toInt := by rw [p439_.2 7 8 (by decide)]
      have f444_ : (m437_ 78 312).toInt = (m424_ 78 312).toInt := by rw [p439_.2 78 312 (by decide)]
      have f445_ : (m437_ 16 8).toInt = (m424_ 16 8).toInt := by rw [p439_.2 16 8 (by decide)]
      have f446_ : (m437_ 80 312).toInt = (m424_ 80 312).toInt := by rw [p439_.2 80 312 (by decide)]
      have f447_ : (m437_ 0 12).toInt = (m424_ 0 12).toInt := by rw [p439_.2 0 12 (by decide)]
      have f448_ : (m437_ 77 67).toInt = (m424_ 77 67).toInt := by rw [p439_.2 77 67 (by decide)]
      have q449_ : (m437_ 1 1).toInt = (m437_ 77 8).toInt := by omega
      have q450_ : (m437_ 7 8).toInt = (m437_ 78 312).toInt := by omega
      have q451_ : (m437_ 16 8).toInt = (m437_ 80 312).toInt := by omega
      have q452_ : (m437_ 0 12).toInt = (m437_ 77 67).toInt := by omega
      refine T_ql (i_add rfl l_7 (by omega) (by omega)) ?_
      intro x453_ h454_
      exact ih j r hj hr x453_ m437_ (by omega) (by omega) g438_ q449_ q450_ q451_ q452_ (by omega)
    refine T_sw rfl l_13 (fun s455_ => ?_) (fun s455_ => ?_)
    · refine T_qg (i_add rfl l_1 (by omega) (by omega)) (by omega) (by omega) ?_
      refine T_qg (i_add rfl l_2 (by omega) (by omega)) (by omega) (by omega) ?_
      refine T_qg (i_add rfl l_3 (by omega) (by omega)) (by omega) (by omega) ?_
      refine T_qg (i_add rfl l_4 (by omega) (by omega)) (by omega) (by omega) ?_
      refine T_qg (i_add rfl l_5 (by omega) (by omega)) (by omega) (by omega) ?_
      refine T_qcE (t_X11_cheapest hn hj _ _ _ _ _ M hG) ?_
      intro r456_ m457_ e460_ p459_
      have g458_ := p459_.1
      have f461_ : (m457_ 1 1).toInt = (M 1 1).toInt := by rw [p459_.2 1 1 (by decide)]
      have f462_ : (m457_ 77 8).toInt = (M 77 8).toInt := by rw [p459_.2 77 8 (by decide)]
      have f463_ : (m457_ 7 8).toInt = (M 7 8).toInt := by rw [p459_.2 7 8 (by decide)]
      have f464_ : (m457_ 78 312).toInt = (M 78 312).toInt := by rw [p459_.2 78 312 (by decide)]
      have f465_ : (m457_ 16 8).toInt = (M 16 8).toInt := by rw [p459_.2 16 8 (by decide)]
      have f466_ : (m457_ 80 312).toInt = (M 80 312).toInt := by rw [p459_.2 80 312 (by decide)]
      have f467_ : (m457_ 0 12).toInt = (M 0 12).toInt := by rw [p459_.2 0 12 (by decide)]
      have f468_ : (m457_ 77 67).toInt = (M 77 67).toInt := by rw [p459_.2 77 67 (by decide)]
      refine T_qg (i_add rfl l_1 (by omega) (by omega)) (by omega) (by omega) ?_
      refine T_qg (i_add rfl l_2 (by omega) (by omega)) (by omega) (by omega) ?_
      refine T_qg (i_add rfl l_3 (by omega) (by omega)) (by omega) (by omega) ?_
      refine T_qg (i_add rfl l_4 (by omega) (by omega)) (by omega) (by omega) ?_
      refine T_qg (i_add rfl l_5 (by omega) (by omega)) (by omega) (by omega) ?_
      refine T_qcE (t_X12_cheapest hn _ _ _ _ _ m457_ g458_) ?_
      intro r469_ m470_ e473_ p472_
      have g471_ := p472_.1
      have f474_ : (m470_ 1 1).toInt = (m457_ 1 1).toInt := by rw [p472_.2 1 1 (by decide)]
      have f475_ : (m470_ 77 8).toInt = (m457_ 77 8).toInt := by rw [p472_.2 77 8 (by decide)]
      have f476_ : (m470_ 7 8).toInt = (m457_ 7 8).toInt := by rw [p472_.2 7 8 (by decide)]
      have f477_ : (m470_ 78 312).toInt = (m457_ 78 312).toInt := by rw [p472_.2 78 312 (by decide)]
      have f478_ : (m470_ 16 8).toInt = (m457_ 16 8).toInt := by rw [p472_.2 16 8 (by decide)]
      have f479_ : (m470_ 80 312).toInt = (m457_ 80 312).toInt := by rw [p472_.2 80 312 (by decide)]
      have f480_ : (m470_ 0 12).toInt = (m457_ 0 12).toInt := by rw [p472_.2 0 12 (by decide)]
      have f481_ : (m470_ 77 67).toInt = (m457_ 77 67).toInt := by rw [p472_.2 77 67 (by decide)]
      have q482_ : (m470_ 1 1).toInt = (m470_ 77 8).toInt := by omega
      have q483_ : (m470_ 7 8).toInt = (m470_ 78 312).toInt := by omega
      have q484_ : (m470_ 16 8).toInt = (m470_ 80 312).toInt := by omega
      have q485_ : (m470_ 0 12).toInt = (m470_ 77 67).toInt := by omega
      refine T_ql (i_add rfl l_7 (by omega) (by omega)) ?_
      intro x486_ h487_
      exact ih j r hj hr x486_ m470_ (by omega) (by omega) g471_ q482_ q483_ q484_ q485_ (by omega)
    refine T_sw rfl l_14 (fun s488_ => ?_) (fun s488_ => ?_)
    · refine T_qg (i_add rfl l_1 (by omega) (by omega)) (by omega) (by omega) ?_
      refine T_qg (i_add rfl l_2 (by omega) (by omega)) (by omega) (by omega) ?_
      refine T_qg (i_add rfl l_3 (by omega) (by omega)) (by omega) (by omega) ?_
      refine T_qcE (t_X11_loophole hn hj _ _ _ M hG) ?_
      intro r489_ m490_ e493_ p492_
      have g491_ := p492_.1
      have f494_ : (m490_ 1 1).toInt = (M 1 1).toInt := by rw [p492_.2 1 1 (by decide)]
      have f495_ : (m490_ 77 8).toInt = (M 77 8).toInt := by rw [p492_.2 77 8 (by decide)]
      have f496_ : (m490_ 7 8).toInt = (M 7 8).toInt := by rw [p492_.2 7 8 (by decide)]
      have f497_ : (m490_ 78 312).toInt = (M 78 312).toInt := by rw [p492_.2 78 312 (by decide)]
      have f498_ : (m490_ 16 8).toInt = (M 16 8).toInt := by rw [p492_.2 16 8 (by decide)]
      have f499_ : (m490_ 80 312).toInt = (M 80 312).toInt := by rw [p492_.2 80 312 (by decide)]
      have f500_ : (m490_ 0 12).toInt = (M 0 12).toInt := by rw [p492_.2 0 12 (by decide)]
      have f501_ : (m490_ 77 67).toInt = (M 77 67).toInt := by rw [p492_.2 77 67 (by decide)]
      refine T_qg (i_add rfl l_1 (by omega) (by omega)) (by omega) (by omega) ?_
      refine T_qg (i_add rfl l_2 (by omega) (by omega)) (by omega) (by omega) ?_
      refine T_qg (i_add rfl l_3 (by omega) (by omega)) (by omega) (by omega) ?_
      refine T_qcE (t_X12_loophole hn _ _ _ m490_ g491_) ?_
      intro r502_ m503_ e506_ p505_
      have g504_ := p505_.1
      have f507_ : (m503_ 1 1).toInt = (m490_ 1 1).toInt := by rw [p505_.2 1 1 (by decide)]
      have f508_ : (m503_ 77 8).toInt = (m490_ 77 8).toInt := by rw [p505_.2 77 8 (by decide)]
      have f509_ : (m503_ 7 8).toInt = (m490_ 7 8).toInt := by rw [p505_.2 7 8 (by decide)]
      have f510_ : (m503_ 78 312).toInt = (m490_ 78 312).toInt := by rw [p505_.2 78 312 (by decide)]
      have f511_ : (m503_ 16 8).toInt = (m490_ 16 8).toInt := by rw [p505_.2 16 8 (by decide)]
      have f512_ : (m503_ 80 312).toInt = (m490_ 80 312).toInt := by rw [p505_.2 80 312 (by decide)]
      have f513_ : (m503_ 0 12).toInt = (m490_ 0 12).toInt := by rw [p505_.2 0 12 (by decide)]
      have f514_ : (m503_ 77 67).toInt = (m490_ 77 67).toInt := by rw [p505_.2 77 67 (by decide)]
      have q515_ : (m503_ 1 1).toInt = (m503_ 77 8).toInt := by omega
      have q516_ : (m503_ 7 8).toInt = (m503_ 78 312).toInt := by omega
      have q517_ : (m503_ 16 8).toInt = (m503_ 80 312).toInt := by omega
      have q518_ : (m503_ 0 12).toInt = (m503_ 77 67).toInt := by omega
      refine T_ql (i_add rfl l_7 (by omega) (by omega)) ?_
      intro x519_ h520_
      exact ih j r hj hr x519_ m503_ (by omega) (by omega) g504_ q515_ q516_ q517_ q518_ (by omega)
    refine T_sw rfl l_15 (fun s521_ => ?_) (fun s521_ => ?_)
    · refine T_qg (i_add rfl l_1 (by omega) (by omega)) (by omega) (by omega) ?_
      refine T_qg (i_add rfl l_2 (by omega) (by omega)) (by omega) (by omega) ?_
      refine T_qg (i_add rfl l_3 (by omega) (by omega)) (by omega) (by omega) ?_
      refine T_qcE (t_X11_jobs hn hj _ _ _ M hG) ?_
      intro r522_ m523_ e526_ p525_
      have g524_ := p525_.2.2.1
      have f527_ : (m523_ 77 8).toInt = (M 77 8).toInt := by rw [p525_.2.2.2 77 8 (by decide)]
      have f528_ : (m523_ 7 8).toInt = (M 7 8).toInt := by rw [p525_.2.2.2 7 8 (by decide)]
      have f529_ : (m523_ 78 312).toInt = (M 78 312).toInt := by rw [p525_.2.2.2 78 312 (by decide)]
      have f530_ : (m523_ 16 8).toInt = (M 16 8).toInt := by rw [p525_.2.2.2 16 8 (by decide)]
      have f531_ : (m523_ 80 312).toInt = (M 80 312).toInt := by rw [p525_.2.2.2 80 312 (by decide)]
      have f532_ : (m523_ 0 12).toInt = (M 0 12).toInt := by rw [p525_.2.2.2 0 12 (by decide)]
      have f533_ : (m523_ 77 67).toInt = (M 77 67).toInt := by rw [p525_.2.2.2 77 67 (by decide)]
      have w534_ := p525_.2.1
      refine T_qg (i_add rfl l_1 (by omega) (by omega)) (by omega) (by omega) ?_
      refine T_qg (i_add rfl l_2 (by omega) (by omega)) (by omega) (by omega) ?_
      refine T_qg (i_add rfl l_3 (by omega) (by omega)) (by omega) (by omega) ?_
      refine T_qcE (t_X12_jobs hn _ _ _ m523_ g524_) ?_
      intro r535_ m536_ e539_ p538_
      have g537_ := p538_.2.1
      have f540_ : (m536_ 1 1).toInt = (m523_ 1 1).toInt := by rw [p538_.2.2 1 1 (by decide)]
      have f541_ : (m536_ 7 8).toInt = (m523_ 7 8).toInt := by rw [p538_.2.2 7 8 (by decide)]
      have f542_ : (m536_ 78 312).toInt = (m523_ 78 312).toInt := by rw [p538_.2.2 78 312 (by decide)]
      have f543_ : (m536_ 16 8).toInt = (m523_ 16 8).toInt := by rw [p538_.2.2 16 8 (by decide)]
      have f544_ : (m536_ 80 312).toInt = (m523_ 80 312).toInt := by rw [p538_.2.2 80 312 (by decide)]
      have f545_ : (m536_ 0 12).toInt = (m523_ 0 12).toInt := by rw [p538_.2.2 0 12 (by decide)]
      have f546_ : (m536_ 77 67).toInt = (m523_ 77 67).toInt := by rw [p538_.2.2 77 67 (by decide)]
      have w547_ := p538_.1
      have q548_ : (m536_ 1 1).toInt = (m536_ 77 8).toInt := by omega
      have q549_ : (m536_ 7 8).toInt = (m536_ 78 312).toInt := by omega
      have q550_ : (m536_ 16 8).toInt = (m536_ 80 312).toInt := by omega
      have q551_ : (m536_ 0 12).toInt = (m536_ 77 67).toInt := by omega
      refine T_ql (i_add rfl l_7 (by omega) (by omega)) ?_
      intro x552_ h553_
      exact ih j r hj hr x552_ m536_ (by omega) (by omega) g537_ q548_ q549_ q550_ q551_ (by omega)
    refine T_sw rfl l_16 (fun s554_ => ?_) (fun s554_ => ?_)
    · refine T_qg (i_add rfl l_1 (by omega) (by omega)) (by omega) (by omega) ?_
      refine T_qg (i_add rfl l_2 (by omega) (by omega)) (by omega) (by omega) ?_
      refine T_qg (i_add rfl l_3 (by omega) (by omega)) (by omega) (by omega) ?_
      refine T_qcE (t_X11_rivals hn _ _ _ M hG) ?_
      intro r555_ m556_ e559_ p558_
      have g557_ := p558_.1
      have f560_ : (m556_ 1 1).toInt = (M 1 1).toInt := by rw [p558_.2 1 1 (by decide)]
      have f561_ : (m556_ 77 8).toInt = (M 77 8).toInt := by rw [p558_.2 77 8 (by decide)]
      have f562_ : (m556_ 7 8).toInt = (M 7 8).toInt := by rw [p558_.2 7 8 (by decide)]
      have f563_ : (m556_ 78 312).toInt = (M 78 312).toInt := by rw [p558_.2 78 312 (by decide)]
      have f564_ : (m556_ 16 8).toInt = (M 16 8).toInt := by rw [p558_.2 16 8 (by decide)]
      have f565_ : (m556_ 80 312).toInt = (M 80 312).toInt := by rw [p558_.2 80 312 (by decide)]
      have f566_ : (m556_ 0 12).toInt = (M 0 12).toInt := by rw [p558_.2 0 12 (by decide)]
      have f567_ : (m556_ 77 67).toInt = (M 77 67).toInt := by rw [p558_.2 77 67 (by decide)]
      refine T_qg (i_add rfl l_1 (by omega) (by omega)) (by omega) (by omega) ?_
      refine T_qg (i_add rfl l_2 (by omega) (by omega)) (by omega) (by omega) ?_
      refine T_qg (i_add rfl l_3 (by omega) (by omega)) (by omega) (by omega) ?_
      refine T_qcE (t_X12_rivals hn _ _ _ m556_ g557_) ?_
      intro r568_ m569_ e572_ p571_
      have g570_ := p571_.1
      have f573_ : (m569_ 1 1).toInt = (m556_ 1 1).toInt := by rw [p571_.2 1 1 (by decide)]
      have f574_ : (m569_ 77 8).toInt = (m556_ 77 8).toInt := by rw [p571_.2 77 8 (by decide)]
      have f575_ : (m569_ 7 8).toInt = (m556_ 7 8).toInt := by rw [p571_.2 7 8 (by decide)]
      have f576_ : (m569_ 78 312).toInt = (m556_ 78 312).toInt := by rw [p571_.2 78 312 (by decide)]
      have f577_ : (m569_ 16 8).toInt = (m556_ 16 8).toInt := by rw [p571_.2 16 8 (by decide)]
      have f578_ : (m569_ 80 312).toInt = (m556_ 80 312).toInt := by rw [p571_.2 80 312 (by decide)]
      have f579_ : (m569_ 0 12).toInt = (m556_ 0 12).toInt := by rw [p571_.2 0 12 (by decide)]
      have f580_ : (m569_ 77 67).toInt = (m556_ 77 67).toInt := by rw [p571_.2 77 67 (by decide)]
      have q581_ : (m569_ 1 1).toInt = (m569_ 77 8).toInt := by omega
      have q582_ : (m569_ 7 8).toInt = (m569_ 78 312).toInt := by omega
      have q583_ : (m569_ 16 8).toInt = (m569_ 80 312).toInt := by omega
      have q584_ : (m569_ 0 12).toInt = (m569_ 77 67).toInt := by omega
      refine T_ql (i_add rfl l_7 (by omega) (by omega)) ?_
      intro x585_ h586_
      exact ih j r hj hr x585_ m569_ (by omega) (by omega) g570_ q581_ q582_ q583_ q584_ (by omega)
    refine T_sw rfl l_17 (fun s587_ => ?_) (fun s587_ => ?_)
    · refine T_qg (i_add rfl l_1 (by omega) (by omega)) (by omega) (by omega) ?_
      refine T_qg (i_add rfl l_2 (by omega) (by omega)) (by omega) (by omega) ?_
      refine T_qg (i_add rfl l_3 (by omega) (by omega)) (by omega) (by omega) ?_
      refine T_qg (i_add rfl l_4 (by omega) (by omega)) (by omega) (by omega) ?_
      refine T_qcE (t_X11_histories hn hj _ _ _ _ M hG) ?_
      intro r588_ m589_ e592_ p591_
      have g590_ := p591_.2.1
      have f593_ : (m589_ 77 8).toInt = (M 77 8).toInt := by rw [p591_.2.2 77 8 (by decide)]
      have f594_ : (m589_ 7 8).toInt = (M 7 8).toInt := by rw [p591_.2.2 7 8 (by decide)]
      have f595_ : (m589_ 78 312).toInt = (M 78 312).toInt := by rw [p591_.2.2 78 312 (by decide)]
      have f596_ : (m589_ 16 8).toInt = (M 16 8).toInt := by rw [p591_.2.2 16 8 (by decide)]
      have f597_ : (m589_ 80 312).toInt = (M 80 312).toInt := by rw [p591_.2.2 80 312 (by decide)]
      have f598_ : (m589_ 0 12).toInt = (M 0 12).toInt := by rw [p591_.2.2 0 12 (by decide)]
      have f599_ : (m589_ 77 67).toInt = (M 77 67).toInt := by rw [p591_.2.2 77 67 (by decide)]
      have w600_ := p591_.1
      refine T_qg (i_add rfl l_1 (by omega) (by omega)) (by omega) (by omega) ?_
      refine T_qg (i_add rfl l_2 (by omega) (by omega)) (by omega) (by omega) ?_
      refine T_qg (i_add rfl l_3 (by omega) (by omega)) (by omega) (by omega) ?_
      refine T_qg (i_add rfl l_4 (by omega) (by omega)) (by omega) (by omega) ?_
      refine T_qcE (t_X12_histories hn _ _ _ _ m589_ g590_) ?_
      intro r601_ m602_ e605_ p604_
      have g603_ := p604_.2.1
      have f606_ : (m602_ 1 1).toInt = (m589_ 1 1).toInt := by rw [p604_.2.2 1 1 (by decide)]
      have f607_ : (m602_ 7 8).toInt = (m589_ 7 8).toInt := by rw [p604_.2.2 7 8 (by decide)]
      have f608_ : (m602_ 78 312).toInt = (m589_ 78 312).toInt := by rw [p604_.2.2 78 312 (by decide)]
      have f609_ : (m602_ 16 8).toInt = (m589_ 16 8).toInt := by rw [p604_.2.2 16 8 (by decide)]
      have f610_ : (m602_ 80 312).toInt = (m589_ 80 312).toInt := by rw [p604_.2.2 80 312 (by decide)]
      have f611_ : (m602_ 0 12).toInt = (m589_ 0 12).toInt := by rw [p604_.2.2 0 12 (by decide)]
      have f612_ : (m602_ 77 67).toInt = (m589_ 77 67).toInt := by rw [p604_.2.2 77 67 (by decide)]
      have w613_ := p604_.1
      have q614_ : (m602_ 1 1).toInt = (m602_ 77 8).toInt := by omega
      have q615_ : (m602_ 7 8).toInt = (m602_ 78 312).toInt := by omega
      have q616_ : (m602_ 16 8).toInt = (m602_ 80 312).toInt := by omega
      have q617_ : (m602_ 0 12).toInt = (m602_ 77 67).toInt := by omega
      refine T_ql (i_add rfl l_7 (by omega) (by omega)) ?_
      intro x618_ h619_
      exact ih j r hj hr x618_ m602_ (by omega) (by omega) g603_ q614_ q615_ q616_ q617_ (by omega)
    refine T_sw rfl l_18 (fun s620_ => ?_) (fun s620_ => ?_)
    · refine T_qg (i_add rfl l_1 (by omega) (by omega)) (by omega) (by omega) ?_
      refine T_qg (i_add rfl l_2 (by omega) (by omega)) (by omega) (by omega) ?_
      refine T_qg (i_add rfl l_3 (by omega) (by omega)) (by omega) (by omega) ?_
      refine T_qg (i_add rfl l_4 (by omega) (by omega)) (by omega) (by omega) ?_
      refine T_eq rfl l_0 (fun c621_ => ?_) (fun c621_ => ?_)
      · refine T_qg (i_add rfl l_5 (by omega) (by omega)) (by omega) (by omega) ?_
        refine T_eq rfl l_0 (fun c622_ => ?_) (fun c622_ => ?_)
        · refine T_qg (i_add rfl l_6 (by omega) (by omega)) (by omega) (by omega) ?_
          refine T_qcE (t_X11_game hn _ _ _ _ _ _ M hG (by decide) (by decide)) ?_
          intro r623_ m624_ e627_ p626_
          have g625_ := p626_.2.1
          have f628_ : (m624_ 1 1).toInt = (M 1 1).toInt := by rw [p626_.2.2 1 1 (by decide)]
          have f629_ : (m624_ 77 8).toInt = (M 77 8).toInt := by rw [p626_.2.2 77 8 (by decide)]
          have f630_ : (m624_ 7 8).toInt = (M 7 8).toInt := by rw [p626_.2.2 7 8 (by decide)]
          have f631_ : (m624_ 78 312).toInt = (M 78 312).toInt := by rw [p626_.2.2 78 312 (by decide)]
          have f632_ : (m624_ 16 8).toInt = (M 16 8).toInt := by rw [p626_.2.2 16 8 (by decide)]
          have f633_ : (m624_ 80 312).toInt = (M 80 312).toInt := by rw [p626_.2.2 80 312 (by decide)]
          have f634_ : (m624_ 0 12).toInt = (M 0 12).toInt := by rw [p626_.2.2 0 12 (by decide)]
          have f635_ : (m624_ 77 67).toInt = (M 77 67).toInt := by rw [p626_.2.2 77 67 (by decide)]
          refine T_qg (i_add rfl l_1 (by omega) (by omega)) (by omega) (by omega) ?_
          refine T_qg (i_add rfl l_2 (by omega) (by omega)) (by omega) (by omega) ?_
          refine T_qg (i_add rfl l_3 (by omega) (by omega)) (by omega) (by omega) ?_
          refine T_qg (i_add rfl l_4 (by omega) (by omega)) (by omega) (by omega) ?_
          refine T_eq rfl l_0 (fun c636_ => ?_) (fun c636_ => ?_)
          · refine T_qg (i_add rfl l_5 (by omega) (by omega)) (by omega) (by omega) ?_
            refine T_eq rfl l_0 (fun c637_ => ?_) (fun c637_ => ?_)
            · refine T_qg (i_add rfl l_6 (by omega) (by omega)) (by omega) (by omega) ?_
              refine T_qcE (t_X12_game hn _ _ _ _ _ _ m624_ g625_ (by decide) (by decide)) ?_
              intro r638_ m639_ e642_ p641_
              have g640_ := p641_.2.1
              have f643_ : (m639_ 1 1).toInt = (m624_ 1 1).toInt := by rw [p641_.2.2 1 1 (by decide)]
              have f644_ : (m639_ 77 8).toInt = (m624_ 77 8).toInt := by rw [p641_.2.2 77 8 (by decide)]
              have f645_ : (m639_ 7 8).toInt = (m624_ 7 8).toInt := by rw [p641_.2.2 7 8 (by decide)]
              have f646_ : (m639_ 78 312).toInt = (m624_ 78 312).toInt := by rw [p641_.2.2 78 312 (by decide)]
              have f647_ : (m639_ 16 8).toInt = (m624_ 16 8).toInt := by rw [p641_.2.2 16 8 (by decide)]
              have f648_ : (m639_ 80 312).toInt = (m624_ 80 312).toInt := by rw [p641_.2.2 80 312 (by decide)]
              have f649_ : (m639_ 0 12).toInt = (m624_ 0 12).toInt := by rw [p641_.2.2 0 12 (by decide)]
              have f650_ : (m639_ 77 67).toInt = (m624_ 77 67).toInt := by rw [p641_.2.2 77 67 (by decide)]
              have q651_ : (m639_ 1 1).toInt = (m639_ 77 8).toInt := by omega
              have q652_ : (m639_ 7 8).toInt = (m639_ 78 312).toInt := by omega
              have q653_ : (m639_ 16 8).toInt = (m639_ 80 312).toInt := by omega
              have q654_ : (m639_ 0 12).toInt = (m639_ 77 67).toInt := by omega
              refine T_ql (i_add rfl l_7 (by omega) (by omega)) ?_
              intro x655_ h656_
              exact ih j r hj hr x655_ m639_ (by omega) (by omega) g640_ q651_ q652_ q653_ q654_ (by omega)
            · refine T_qg (i_add rfl l_6 (by omega) (by omega)) (by omega) (by omega) ?_
              refine T_qcE (t_X12_game hn _ _ _ _ _ _ m624_ g625_ (by decide) (by decide)) ?_
              intro r657_ m658_ e661_ p660_
              have g659_ := p660_.2.1
              have f662_ : (m658_ 1 1).toInt = (m624_ 1 1).toInt := by rw [p660_.2.2 1 1 (by decide)]
              have f663_ : (m658_ 77 8).toInt = (m624_ 77 8).toInt := by rw [p660_.2.2 77 8 (by decide)]
              have f664_ : (m658_ 7 8).toInt = (m624_ 7 8).toInt := by rw [p660_.2.2 7 8 (by decide)]
              have f665_ : (m658_ 78 312).toInt = (m624_ 78 312).toInt := by rw [p660_.2.2 78 312 (by decide)]
              have f666_ : (m658_ 16 8).toInt = (m624_ 16 8).toInt := by rw [p660_.2.2 16 8 (by decide)]
              have f667_ : (m658_ 80 312).toInt = (m624_ 80 312).toInt := by rw [p660_.2.2 80 312 (by decide)]
              have f668_ : (m658_ 0 12).toInt = (m624_ 0 12).toInt := by rw [p660_.2.2 0 12 (by decide)]
              have f669_ : (m658_ 77 67).toInt = (m624_ 77 67).toInt := by rw [p660_.2.2 77 67 (by decide)]
              have q670_ : (m658_ 1 1).toInt = (m658_ 77 8).toInt := by omega
              have q671_ : (m658_ 7 8).toInt = (m658_ 78 312).toInt := by omega
              have q672_ : (m658_ 16 8).toInt = (m658_ 80 312).toInt := by omega
              have q673_ : (m658_ 0 12).toInt = (m658_ 77 67).toInt := by omega
              refine T_ql (i_add rfl l_7 (by omega) (by omega)) ?_
              intro x674_ h675_
              exact ih j r hj hr x674_ m658_ (by omega) (by omega) g659_ q670_ q671_ q672_ q673_ (by omega)
          · refine T_qg (i_add rfl l_5 (by omega) (by omega)) (by omega) (by omega) ?_
            refine T_eq rfl l_0 (fun c676_ => ?_) (fun c676_ => ?_)
            · refine T_qg (i_add rfl l_6 (by omega) (by omega)) (by omega) (by omega) ?_
              refine T_qcE (t_X12_game hn _ _ _ _ _ _ m624_ g625_ (by decide) (by decide)) ?_
              intro r677_ m678_ e681_ p680_
              have g679_ := p680_.2.1
              have f682_ : (m678_ 1 1).toInt = (m624_ 1 1).toInt := by rw [p680_.2.2 1 1 (by decide)]
              have f683_ : (m678_ 77 8).toInt = (m624_ 77 8).toInt := by rw [p680_.2.2 77 8 (by decide)]
              have f684_ : (m678_ 7 8).toInt = (m624_ 7 8).toInt := by rw [p680_.2.2 7 8 (by decide)]
              have f685_ : (m678_ 78 312).toInt = (m624_ 78 312).toInt := by rw [p680_.2.2 78 312 (by decide)]
              have f686_ : (m678_ 16 8).toInt = (m624_ 16 8).toInt := by rw [p680_.2.2 16 8 (by decide)]
              have f687_ : (m678_ 80 312).toInt = (m624_ 80 312).toInt := by rw [p680_.2.2 80 312 (by decide)]
              have f688_ : (m678_ 0 12).toInt = (m624_ 0 12).toInt := by rw [p680_.2.2 0 12 (by decide)]
              have f689_ : (m678_ 77 67).toInt = (m624_ 77 67).toInt := by rw [p680_.2.2 77 67 (by decide)]
              have q690_ : (m678_ 1 1).toInt = (m678_ 77 8).toInt := by omega
              have q691_ : (m678_ 7 8).toInt = (m678_ 78 312).toInt := by omega
              have q692_ : (m678_ 16 8).toInt = (m678_ 80 312).toInt := by omega
              have q693_ : (m678_ 0 12).toInt = (m678_ 77 67).toInt := by omega
              refine T_ql (i_add rfl l_7 (by omega) (by omega)) ?_
              intro x694_ h695_
              exact ih j r hj hr x694_ m678_ (by omega) (by omega) g679_ q690_ q691_ q692_ q693_ (by omega)
            · refine T_qg (i_add rfl l_6 (by omega) (by omega)) (by omega) (by omega) ?_
              refine T_qcE (t_X12_game hn _ _ _ _ _ _ m624_ g625_ (by decide) (by decide)) ?_
              intro r696_ m697_ e700_ p699_
              have g698_ := p699_.2.1
              have f701_ : (m697_ 1 1).toInt = (m624_ 1 1).toInt := by rw [p699_.2.2 1 1 (by decide)]
              have f702_ : (m697_ 77 8).toInt = (m624_ 77 8).toInt := by rw [p699_.2.2 77 8 (by decide)]
              have f703_ : (m697_ 7 8).toInt = (m624_ 7 8).toInt := by rw [p699_.2.2 7 8 (by decide)]
              have f704_ : (m697_ 78 312).toInt = (m624_ 78 312).toInt := by rw [p699_.2.2 78 312 (by decide)]
              have f705_ : (m697_ 16 8).toInt = (m624_ 16 8).toInt := by rw [p699_.2.2 16 8 (by decide)]
              have f706_ : (m697_ 80 312).toInt = (m624_ 80 312).toInt := by rw [p699_.2.2 80 312 (by decide)]
              have f707_ : (m697_ 0 12).toInt = (m624_ 0 12).toInt := by rw [p699_.2.2 0 12 (by decide)]
              have f708_ : (m697_ 77 67).toInt = (m624_ 77 67).toInt := by rw [p699_.2.2 77 67 (by decide)]
              have q709_ : (m697_ 1 1).toInt = (m697_ 77 8).toInt := by omega
              have q710_ : (m697_ 7 8).toInt = (m697_ 78 312).toInt := by omega
              have q711_ : (m697_ 16 8).toInt = (m697_ 80 312).toInt := by omega
              have q712_ : (m697_ 0 12).toInt = (m697_ 77 67).toInt := by omega
              refine T_ql (i_add rfl l_7 (by omega) (by omega)) ?_
              intro x713_ h714_
              exact ih j r hj hr x713_ m697_ (by omega) (by omega) g698_ q709_ q710_ q711_ q712_ (by omega)
        · refine T_qg (i_add rfl l_6 (by omega) (by omega)) (by omega) (by omega) ?_
          refine T_qcE (t_X11_game hn _ _ _ _ _ _ M hG (by decide) (by decide)) ?_
          intro r715_ m716_ e719_ p718_
          have g717_ := p718_.2.1
          have f720_ : (m716_ 1 1).toInt = (M 1 1).toInt := by rw [p718_.2.2 1 1 (by decide)]
          have f721_ : (m716_ 77 8).toInt = (M 77 8).toInt := by rw [p718_.2.2 77 8 (by decide)]
          have f722_ : (m716_ 7 8).toInt = (M 7 8).toInt := by rw [p718_.2.2 7 8 (by decide)]
          have f723_ : (m716_ 78 312).toInt = (M 78 312).toInt := by rw [p718_.2.2 78 312 (by decide)]
          have f724_ : (m716_ 16 8).toInt = (M 16 8).toInt := by rw [p718_.2.2 16 8 (by decide)]
          have f725_ : (m716_ 80 312).toInt = (M 80 312).toInt := by rw [p718_.2.2 80 312 (by decide)]
          have f726_ : (m716_ 0 12).toInt = (M 0 12).toInt := by rw [p718_.2.2 0 12 (by decide)]
          have f727_ : (m716_ 77 67).toInt = (M 77 67).toInt := by rw [p718_.2.2 77 67 (by decide)]
          refine T_qg (i_add rfl l_1 (by omega) (by omega)) (by omega) (by omega) ?_
          refine T_qg (i_add rfl l_2 (by omega) (by omega)) (by omega) (by omega) ?_
          refine T_qg (i_add rfl l_3 (by omega) (by omega)) (by omega) (by omega) ?_
          refine T_qg (i_add rfl l_4 (by omega) (by omega)) (by omega) (by omega) ?_
          refine T_eq rfl l_0 (fun c728_ => ?_) (fun c728_ => ?_)
          · refine T_qg (i_add rfl l_5 (by omega) (by omega)) (by omega) (by omega) ?_
            refine T_eq rfl l_0 (fun c729_ => ?_) (fun c729_ => ?_)
            · refine T_qg (i_add rfl l_6 (by omega) (by omega)) (by omega) (by omega) ?_
              refine T_qcE (t_X12_game hn _ _ _ _ _ _ m716_ g717_ (by decide) (by decide)) ?_
              intro r730_ m731_ e734_ p733_
              have g732_ := p733_.2.1
              have f735_ : (m731_ 1 1).toInt = (m716_ 1 1).toInt := by rw [p733_.2.2 1 1 (by decide)]
              have f736_ : (m731_ 77 8).toInt = (m716_ 77 8).toInt := by rw [p733_.2.2 77 8 (by decide)]
              have f737_ : (m731_ 7 8).toInt = (m716_ 7 8).toInt := by rw [p733_.2.2 7 8 (by decide)]
              have f738_ : (m731_ 78 312).toInt = (m716_ 78 312).toInt := by rw [p733_.2.2 78 312 (by decide)]
              have f739_ : (m731_ 16 8).toInt = (m716_ 16 8).toInt := by rw [p733_.2.2 16 8 (by decide)]
              have f740_ : (m731_ 80 312).toInt = (m716_ 80 312).toInt := by rw [p733_.2.2 80 312 (by decide)]
              have f741_ : (m731_ 0 12).toInt = (m716_ 0 12).toInt := by rw [p733_.2.2 0 12 (by decide)]
              have f742_ : (m731_ 77 67).toInt = (m716_ 77 67).toInt := by rw [p733_.2.2 77 67 (by decide)]
              have q743_ : (m731_ 1 1).toInt = (m731_ 77 8).toInt := by omega
              have q744_ : (m731_ 7 8).toInt = (m731_ 78 312).toInt := by omega
              have q745_ : (m731_ 16 8).toInt = (m731_ 80 312).toInt := by omega
              have q746_ : (m731_ 0 12).toInt = (m731_ 77 67).toInt := by omega
              refine T_ql (i_add rfl l_7 (by omega) (by omega)) ?_
              intro x747_ h748_
              exact ih j r hj hr x747_ m731_ (by omega) (by omega) g732_ q743_ q744_ q745_ q746_ (by omega)
            · refine T_qg (i_add rfl l_6 (by omega) (by omega)) (by omega) (by omega) ?_
              refine T_qcE (t_X12_game hn _ _ _ _ _ _ m716_ g717_ (by decide) (by decide)) ?_
              intro r749_ m750_ e753_ p752_
              have g751_ := p752_.2.1
              have f754_ : (m750_ 1 1).toInt = (m716_ 1 1).toInt := by rw [p752_.2.2 1 1 (by decide)]
              have f755_ : (m750_ 77 8).toInt = (m716_ 77 8).toInt := by rw [p752_.2.2 77 8 (by decide)]
              have f756_ : (m750_ 7 8).toInt = (m716_ 7 8).toInt := by rw [p752_.2.2 7 8 (by decide)]
              have f757_ : (m750_ 78 312).toInt = (m716_ 78 312).toInt := by rw [p752_.2.2 78 312 (by decide)]
              have f758_ : (m750_ 16 8).toInt = (m716_ 16 8).toInt := by rw [p752_.2.2 16 8 (by decide)]
              have f759_ : (m750_ 80 312).toInt = (m716_ 80 312).toInt := by rw [p752_.2.2 80 312 (by decide)]
              have f760_ : (m750_ 0 12).toInt = (m716_ 0 12).toInt := by rw [p752_.2.2 0 12 (by decide)]
              have f761_ : (m750_ 77 67).toInt = (m716_ 77 67).toInt := by rw [p752_.2.2 77 67 (by decide)]
              have q762_ : (m750_ 1 1).toInt = (m750_ 77 8).toInt := by omega
              have q763_ : (m750_ 7 8).toInt = (m750_ 78 312).toInt := by omega
              have q764_ : (m750_ 16 8).toInt = (m750_ 80 312).toInt := by omega
              have q765_ : (m750_ 0 12).toInt = (m750_ 77 67).toInt := by omega
              refine T_ql (i_add rfl l_7 (by omega) (by omega)) ?_
              intro x766_ h767_
              exact ih j r hj hr x766_ m750_ (by omega) (by omega) g751_ q762_ q763_ q764_ q765_ (by omega)
          · refine T_qg (i_add rfl l_5 (by omega) (by omega)) (by omega) (by omega) ?_
            refine T_eq rfl l_0 (fun c768_ => ?_) (fun c768_ => ?_)
            · refine T_qg (i_add rfl l_6 (by omega) (by omega)) (by omega) (by omega) ?_
              refine T_qcE (t_X12_game hn _ _ _ _ _ _ m716_ g717_ (by decide) (by decide)) ?_
              intro r769_ m770_ e773_ p772_
              have g771_ := p772_.2.1
              have f774_ : (m770_ 1 1).toInt = (m716_ 1 1).toInt := by rw [p772_.2.2 1 1 (by decide)]
              have f775_ : (m770_ 77 8).toInt = (m716_ 77 8).toInt := by rw [p772_.2.2 77 8 (by decide)]
              have f776_ : (m770_ 7 8).toInt = (m716_ 7 8).toInt := by rw [p772_.2.2 7 8 (by decide)]
              have f777_ : (m770_ 78 312).toInt = (m716_ 78 312).toInt := by rw [p772_.2.2 78 312 (by decide)]
              have f778_ : (m770_ 16 8).toInt = (m716_ 16 8).toInt := by rw [p772_.2.2 16 8 (by decide)]
              have f779_ : (m770_ 80 312).toInt = (m716_ 80 312).toInt := by rw [p772_.2.2 80 312 (by decide)]
              have f780_ : (m770_ 0 12).toInt = (m716_ 0 12).toInt := by rw [p772_.2.2 0 12 (by decide)]
              have f781_ : (m770_ 77 67).toInt = (m716_ 77 67).toInt := by rw [p772_.2.2 77 67 (by decide)]
              have q782_ : (m770_ 1 1).toInt = (m770_ 77 8).toInt := by omega
              have q783_ : (m770_ 7 8).toInt = (m770_ 78 312).toInt := by omega
              have q784_ : (m770_ 16 8).toInt = (m770_ 80 312).toInt := by omega
              have q785_ : (m770_ 0 12).toInt = (m770_ 77 67).toInt := by omega
              refine T_ql (i_add rfl l_7 (by omega) (by omega)) ?_
              intro x786_ h787_
              exact ih j r hj hr x786_ m770_ (by omega) (by omega) g771_ q782_ q783_ q784_ q785_ (by omega)
            · refine T_qg (i_add rfl l_6 (by omega) (by omega)) (by omega) (by omega) ?_
              refine T_qcE (t_X12_game hn _ _ _ _ _ _ m716_ g717_ (by decide) (by decide)) ?_
              intro r788_ m789_ e792_ p791_
              have g790_ := p791_.2.1
              have f793_ : (m789_ 1 1).toInt = (m716_ 1 1).toInt := by rw [p791_.2.2 1 1 (by decide)]
              have f794_ : (m789_ 77 8).toInt = (m716_ 77 8).toInt := by rw [p791_.2.2 77 8 (by decide)]
              have f795_ : (m789_ 7 8).toInt = (m716_ 7 8).toInt := by rw [p791_.2.2 7 8 (by decide)]
              have f796_ : (m789_ 78 312).toInt = (m716_ 78 312).toInt := by rw [p791_.2.2 78 312 (by decide)]
              have f797_ : (m789_ 16 8).toInt = (m716_ 16 8).toInt := by rw [p791_.2.2 16 8 (by decide)]
              have f798_ : (m789_ 80 312).toInt = (m716_ 80 312).toInt := by rw [p791_.2.2 80 312 (by decide)]
              have f799_ : (m789_ 0 12).toInt = (m716_ 0 12).toInt := by rw [p791_.2.2 0 12 (by decide)]
              have f800_ : (m789_ 77 67).toInt = (m716_ 77 67).toInt := by rw [p791_.2.2 77 67 (by decide)]
              have q801_ : (m789_ 1 1).toInt = (m789_ 77 8).toInt := by omega
              have q802_ : (m789_ 7 8).toInt = (m789_ 78 312).toInt := by omega
              have q803_ : (m789_ 16 8).toInt = (m789_ 80 312).toInt := by omega
              have q804_ : (m789_ 0 12).toInt = (m789_ 77 67).toInt := by omega
              refine T_ql (i_add rfl l_7 (by omega) (by omega)) ?_
              intro x805_ h806_
              exact ih j r hj hr x805_ m789_ (by omega) (by omega) g790_ q801_ q802_ q803_ q804_ (by omega)
      · refine T_qg (i_add rfl l_5 (by omega) (by omega)) (by omega) (by omega) ?_
        refine T_eq rfl l_0 (fun c807_ => ?_) (fun c807_ => ?_)
        · refine T_qg (i_add rfl l_6 (by omega) (by omega)) (by omega) (by omega) ?_
          refine T_qcE (t_X11_game hn _ _ _ _ _ _ M hG (by decide) (by decide)) ?_
          intro r808_ m809_ e812_ p811_
          have g810_ := p811_.2.1
          have f813_ : (m809_ 1 1).toInt = (M 1 1).toInt := by rw [p811_.2.2 1 1 (by decide)]
          have f814_ : (m809_ 77 8).toInt = (M 77 8).toInt := by rw [p811_.2.2 77 8 (by decide)]
          have f815_ : (m809_ 7 8).toInt = (M 7 8).toInt := by rw [p811_.2.2 7 8 (by decide)]
          have f816_ : (m809_ 78 312).toInt = (M 78 312).toInt := by rw [p811_.2.2 78 312 (by decide)]
          have f817_ : (m809_ 16 8).toInt = (M 16 8).toInt := by rw [p811_.2.2 16 8 (by decide)]
          have f818_ : (m809_ 80 312).toInt = (M 80 312).toInt := by rw [p811_.2.2 80 312 (by decide)]
          have f819_ : (m809_ 0 12).toInt = (M 0 12).toInt := by rw [p811_.2.2 0 12 (by decide)]
          have f820_ : (m809_ 77 67).toInt = (M 77 67).toInt := by rw [p811_.2.2 77 67 (by decide)]
          refine T_qg (i_add rfl l_1 (by omega) (by omega)) (by omega) (by omega) ?_
          refine T_qg (i_add rfl l_2 (by omega) (by omega)) (by omega) (by omega) ?_
          refine T_qg (i_add rfl l_3 (by omega) (by omega)) (by omega) (by omega) ?_
          refine T_qg (i_add rfl l_4 (by omega) (by omega)) (by omega) (by omega) ?_
          refine T_eq rfl l_0 (fun c821_ => ?_) (fun c821_ => ?_)
          · refine T_qg (i_add rfl l_5 (by omega) (by omega)) (by omega) (by omega) ?_
            refine T_eq rfl l_0 (fun c822_ => ?_) (fun c822_ => ?_)
            · refine T_qg (i_add rfl l_6 (by omega) (by omega)) (by omega) (by omega) ?_
              refine T_qcE (t_X12_game hn _ _ _ _ _ _ m809_ g810_ (by decide) (by decide)) ?_
              intro r823_ m824_ e827_ p826_
              have g825_ := p826_.2.1
              have f828_ : (m824_ 1 1).toInt = (m809_ 1 1).toInt := by rw [p826_.2.2 1 1 (by decide)]
              have f829_ : (m824_ 77 8).toInt = (m809_ 77 8).toInt := by rw [p826_.2.2 77 8 (by decide)]
              have f830_ : (m824_ 7 8).toInt = (m809_ 7 8).toInt := by rw [p826_.2.2 7 8 (by decide)]
              have f831_ : (m824_ 78 312).toInt = (m809_ 78 312).toInt := by rw [p826_.2.2 78 312 (by decide)]
              have f832_ : (m824_ 16 8).toInt = (m809_ 16 8).toInt := by rw [p826_.2.2 16 8 (by decide)]
              have f833_ : (m824_ 80 312).toInt = (m809_ 80 312).toInt := by rw [p826_.2.2 80 312 (by decide)]
              have f834_ : (m824_ 0 12).toInt = (m809_ 0 12).toInt := by rw [p826_.2.2 0 12 (by decide)]
              have f835_ : (m824_ 77 67).toInt = (m809_ 77 67).toInt := by rw [p826_.2.2 77 67 (by decide)]
              have q836_ : (m824_ 1 1).toInt = (m824_ 77 8).toInt := by omega
              have q837_ : (m824_ 7 8).toInt = (m824_ 78 312).toInt := by omega
              have q838_ : (m824_ 16 8).toInt = (m824_ 80 312).toInt := by omega
              have q839_ : (m824_ 0 12).toInt = (m824_ 77 67).toInt := by omega
              refine T_ql (i_add rfl l_7 (by omega) (by omega)) ?_
              intro x840_ h841_
              exact ih j r hj hr x840_ m824_ (by omega) (by omega) g825_ q836_ q837_ q838_ q839_ (by omega)
            · refine T_qg (i_add rfl l_6 (by omega) (by omega)) (by omega) (by omega) ?_
              refine T_qcE (t_X12_game hn _ _ _ _ _ _ m809_ g810_ (by decide) (by decide)) ?_
              intro r842_ m843_ e846_ p845_
              have g844_ := p845_.2.1
              have f847_ : (m843_ 1 1).toInt = (m809_ 1 1).toInt := by rw [p845_.2.2 1 1 (by decide)]
              have f848_ : (m843_ 77 8).toInt = (m809_ 77 8).toInt := by rw [p845_.2.2 77 8 (by decide)]
              have f849_ : (m843_ 7 8).toInt = (m809_ 7 8).toInt := by rw [p845_.2.2 7 8 (by decide)]
              have f850_ : (m843_ 78 312).toInt = (m809_ 78 312).toInt := by rw [p845_.2.2 78 312 (by decide)]
              have f851_ : (m843_ 16 8).toInt = (m809_ 16 8).toInt := by rw [p845_.2.2 16 8 (by decide)]
              have f852_ : (m843_ 80 312).toInt = (m809_ 80 312).toInt := by rw [p845_.2.2 80 312 (by decide)]
              have f853_ : (m843_ 0 12).toInt = (m809_ 0 12).toInt := by rw [p845_.2.2 0 12 (by decide)]
              have f854_ : (m843_ 77 67).toInt = (m809_ 77 67).toInt := by rw [p845_.2.2 77 67 (by decide)]
              have q855_ : (m843_ 1 1).toInt = (m843_ 77 8).toInt := by omega
              have q856_ : (m843_ 7 8).toInt = (m843_ 78 312).toInt := by omega
              have q857_ : (m843_ 16 8).toInt = (m843_ 80 312).toInt := by omega
              have q858_ : (m843_ 0 12).toInt = (m843_ 77 67).toInt := by omega
              refine T_ql (i_add rfl l_7 (by omega) (by omega)) ?_
              intro x859_ h860_
              exact ih j r hj hr x859_ m843_ (by omega) (by omega) g844_ q855_ q856_ q857_ q858_ (by omega)
          · refine T_qg (i_add rfl l_5 (by omega) (by omega)) (by omega) (by omega) ?_
            refine T_eq rfl l_0 (fun c861_ => ?_) (fun c861_ => ?_)
            · refine T_qg (i_add rfl l_6 (by omega) (by omega)) (by omega) (by omega) ?_
              refine T_qcE (t_X12_game hn _ _ _ _ _ _ m809_ g810_ (by decide) (by decide)) ?_
              intro r862_ m863_ e866_ p865_
              have g864_ := p865_.2.1
              have f867_ : (m863_ 1 1).toInt = (m809_ 1 1).toInt := by rw [p865_.2.2 1 1 (by decide)]
              have f868_ : (m863_ 77 8).toInt = (m809_ 77 8).toInt := by rw [p865_.2.2 77 8 (by decide)]
              have f869_ : (m863_ 7 8).toInt = (m809_ 7 8).toInt := by rw [p865_.2.2 7 8 (by decide)]
              have f870_ : (m863_ 78 312).toInt = (m809_ 78 312).toInt := by rw [p865_.2.2 78 312 (by decide)]
              have f871_ : (m863_ 16 8).toInt = (m809_ 16 8).toInt := by rw [p865_.2.2 16 8 (by decide)]
              have f872_ : (m863_ 80 312).toInt = (m809_ 80 312).toInt := by rw [p865_.2.2 80 312 (by decide)]
              have f873_ : (m863_ 0 12).toInt = (m809_ 0 12).toInt := by rw [p865_.2.2 0 12 (by decide)]
              have f874_ : (m863_ 77 67).toInt = (m809_ 77 67).toInt := by rw [p865_.2.2 77 67 (by decide)]
              have q875_ : (m863_ 1 1).toInt = (m863_ 77 8).toInt := by omega
              have q876_ : (m863_ 7 8).toInt = (m863_ 78 312).toInt := by omega
              have q877_ : (m863_ 16 8).toInt = (m863_ 80 312).toInt := by omega
              have q878_ : (m863_ 0 12).toInt = (m863_ 77 67).toInt := by omega
              refine T_ql (i_add rfl l_7 (by omega) (by omega)) ?_
              intro x879_ h880_
              exact ih j r hj hr x879_ m863_ (by omega) (by omega) g864_ q875_ q876_ q877_ q878_ (by omega)
            · refine T_qg (i_add rfl l_6 (by omega) (by omega)) (by omega) (by omega) ?_
              refine T_qcE (t_X12_game hn _ _ _ _ _ _ m809_ g810_ (by decide) (by decide)) ?_
              intro r881_ m882_ e885_ p884_
              have g883_ := p884_.2.1
              have f886_ : (m882_ 1 1).toInt = (m809_ 1 1).toInt := by rw [p884_.2.2 1 1 (by decide)]
              have f887_ : (m882_ 77 8).toInt = (m809_ 77 8).toInt := by rw [p884_.2.2 77 8 (by decide)]
              have f888_ : (m882_ 7 8).toInt = (m809_ 7 8).toInt := by rw [p884_.2.2 7 8 (by decide)]
              have f889_ : (m882_ 78 312).toInt = (m809_ 78 312).toInt := by rw [p884_.2.2 78 312 (by decide)]
              have f890_ : (m882_ 16 8).toInt = (m809_ 16 8).toInt := by rw [p884_.2.2 16 8 (by decide)]
              have f891_ : (m882_ 80 312).toInt = (m809_ 80 312).toInt := by rw [p884_.2.2 80 312 (by decide)]
              have f892_ : (m882_ 0 12).toInt = (m809_ 0 12).toInt := by rw [p884_.2.2 0 12 (by decide)]
              have f893_ : (m882_ 77 67).toInt = (m809_ 77 67).toInt := by rw [p884_.2.2 77 67 (by decide)]
              have q894_ : (m882_ 1 1).toInt = (m882_ 77 8).toInt := by omega
              have q895_ : (m882_ 7 8).toInt = (m882_ 78 312).toInt := by omega
              have q896_ : (m882_ 16 8).toInt = (m882_ 80 312).toInt := by omega
              have q897_ : (m882_ 0 12).toInt = (m882_ 77 67).toInt := by omega
              refine T_ql (i_add rfl l_7 (by omega) (by omega)) ?_
              intro x898_ h899_
              exact ih j r hj hr x898_ m882_ (by omega) (by omega) g883_ q894_ q895_ q896_ q897_ (by omega)
        · refine T_qg (i_add rfl l_6 (by omega) (by omega)) (by omega) (by omega) ?_
          refine T_qcE (t_X11_game hn _ _ _ _ _ _ M hG (by decide) (by decide)) ?_
          intro r900_ m901_ e904_ p903_
          have g902_ := p903_.2.1
          have f905_ : (m901_ 1 1).toInt = (M 1 1).toInt := by rw [p903_.2.2 1 1 (by decide)]
          have f906_ : (m901_ 77 8).toInt = (M 77 8).toInt := by rw [p903_.2.2 77 8 (by decide)]
          have f907_ : (m901_ 7 8).toInt = (M 7 8).toInt := by rw [p903_.2.2 7 8 (by decide)]
          have f908_ : (m901_ 78 312).toInt = (M 78 312).toInt := by rw [p903_.2.2 78 312 (by decide)]
          have f909_ : (m901_ 16 8).toInt = (M 16 8).toInt := by rw [p903_.2.2 16 8 (by decide)]
          have f910_ : (m901_ 80 312).toInt = (M 80 312).toInt := by rw [p903_.2.2 80 312 (by decide)]
          have f911_ : (m901_ 0 12).toInt = (M 0 12).toInt := by rw [p903_.2.2 0 12 (by decide)]
          have f912_ : (m901_ 77 67).toInt = (M 77 67).toInt := by rw [p903_.2.2 77 67 (by decide)]
          refine T_qg (i_add rfl l_1 (by omega) (by omega)) (by omega) (by omega) ?_
          refine T_qg (i_add rfl l_2 (by omega) (by omega)) (by omega) (by omega) ?_
          refine T_qg (i_add rfl l_3 (by omega) (by omega)) (by omega) (by omega) ?_
          refine T_qg (i_add rfl l_4 (by omega) (by omega)) (by omega) (by omega) ?_
          refine T_eq rfl l_0 (fun c913_ => ?_) (fun c913_ => ?_)
          · refine T_qg (i_add rfl l_5 (by omega) (by omega)) (by omega) (by omega) ?_
            refine T_eq rfl l_0 (fun c914_ => ?_) (fun c914_ => ?_)
            · refine T_qg (i_add rfl l_6 (by omega) (by omega)) (by omega) (by omega) ?_
              refine T_qcE (t_X12_game hn _ _ _ _ _ _ m901_ g902_ (by decide) (by decide)) ?_
              intro r915_ m916_ e919_ p918_
              have g917_ := p918_.2.1
              have f920_ : (m916_ 1 1).toInt = (m901_ 1 1).toInt := by rw [p918_.2.2 1 1 (by decide)]
              have f921_ : (m916_ 77 8).toInt = (m901_ 77 8).toInt := by rw [p918_.2.2 77 8 (by decide)]
              have f922_ : (m916_ 7 8).toInt = (m901_ 7 8).toInt := by rw [p918_.2.2 7 8 (by decide)]
              have f923_ : (m916_ 78 312).toInt = (m901_ 78 312).toInt := by rw [p918_.2.2 78 312 (by decide)]
              have f924_ : (m916_ 16 8).toInt = (m901_ 16 8).toInt := by rw [p918_.2.2 16 8 (by decide)]
              have f925_ : (m916_ 80 312).toInt = (m901_ 80 312).toInt := by rw [p918_.2.2 80 312 (by decide)]
              have f926_ : (m916_ 0 12).toInt = (m901_ 0 12).toInt := by rw [p918_.2.2 0 12 (by decide)]
              have f927_ : (m916_ 77 67).toInt = (m901_ 77 67).toInt := by rw [p918_.2.2 77 67 (by decide)]
              have q928_ : (m916_ 1 1).toInt = (m916_ 77 8).toInt := by omega
              have q929_ : (m916_ 7 8).toInt = (m916_ 78 312).toInt := by omega
              have q930_ : (m916_ 16 8).toInt = (m916_ 80 312).toInt := by omega
              have q931_ : (m916_ 0 12).toInt = (m916_ 77 67).toInt := by omega
              refine T_ql (i_add rfl l_7 (by omega) (by omega)) ?_
              intro x932_ h933_
              exact ih j r hj hr x932_ m916_ (by omega) (by omega) g917_ q928_ q929_ q930_ q931_ (by omega)
            · refine T_qg (i_add rfl l_6 (by omega) (by omega)) (by omega) (by omega) ?_
              refine T_qcE (t_X12_game hn _ _ _ _ _ _ m901_ g902_ (by decide) (by decide)) ?_
              intro r934_ m935_ e938_ p937_
              have g936_ := p937_.2.1
              have f939_ : (m935_ 1 1).toInt = (m901_ 1 1).toInt := by rw [p937_.2.2 1 1 (by decide)]
              have f940_ : (m935_ 77 8).toInt = (m901_ 77 8).toInt := by rw [p937_.2.2 77 8 (by decide)]
              have f941_ : (m935_ 7 8).toInt = (m901_ 7 8).toInt := by rw [p937_.2.2 7 8 (by decide)]
              have f942_ : (m935_ 78 312).toInt = (m901_ 78 312).toInt := by rw [p937_.2.2 78 312 (by decide)]
              have f943_ : (m935_ 16 8).toInt = (m901_ 16 8).toInt := by rw [p937_.2.2 16 8 (by decide)]
              have f944_ : (m935_ 80 312).toInt = (m901_ 80 312).toInt := by rw [p937_.2.2 80 312 (by decide)]
              have f945_ : (m935_ 0 12).toInt = (m901_ 0 12).toInt := by rw [p937_.2.2 0 12 (by decide)]
              have f946_ : (m935_ 77 67).toInt = (m901_ 77 67).toInt := by rw [p937_.2.2 77 67 (by decide)]
              have q947_ : (m935_ 1 1).toInt = (m935_ 77 8).toInt := by omega
              have q948_ : (m935_ 7 8).toInt = (m935_ 78 312).toInt := by omega
              have q949_ : (m935_ 16 8).toInt = (m935_ 80 312).toInt := by omega
              have q950_ : (m935_ 0 12).toInt = (m935_ 77 67).toInt := by omega
              refine T_ql (i_add rfl l_7 (by omega) (by omega)) ?_
              intro x951_ h952_
              exact ih j r hj hr x951_ m935_ (by omega) (by omega) g936_ q947_ q948_ q949_ q950_ (by omega)
          · refine T_qg (i_add rfl l_5 (by omega) (by omega)) (by omega) (by omega) ?_
            refine T_eq rfl l_0 (fun c953_ => ?_) (fun c953_ => ?_)
            · refine T_qg (i_add rfl l_6 (by omega) (by omega)) (by omega) (by omega) ?_
              refine T_qcE (t_X12_game hn _ _ _ _ _ _ m901_ g902_ (by decide) (by decide)) ?_
              intro r954_ m955_ e958_ p957_
              have g956_ := p957_.2.1
              have f959_ : (m955_ 1 1).toInt = (m901_ 1 1).toInt := by rw [p957_.2.2 1 1 (by decide)]
              have f960_ : (m955_ 77 8).toInt = (m901_ 77 8).toInt := by rw [p957_.2.2 77 8 (by decide)]
              have f961_ : (m955_ 7 8).toInt = (m901_ 7 8).toInt := by rw [p957_.2.2 7 8 (by decide)]
              have f962_ : (m955_ 78 312).toInt = (m901_ 78 312).toInt := by rw [p957_.2.2 78 312 (by decide)]
              have f963_ : (m955_ 16 8).toInt = (m901_ 16 8).toInt := by rw [p957_.2.2 16 8 (by decide)]
              have f964_ : (m955_ 80 312).toInt = (m901_ 80 312).toInt := by rw [p957_.2.2 80 312 (by decide)]
              have f965_ : (m955_ 0 12).toInt = (m901_ 0 12).toInt := by rw [p957_.2.2 0 12 (by decide)]
              have f966_ : (m955_ 77 67).toInt = (m901_ 77 67).toInt := by rw [p957_.2.2 77 67 (by decide)]
              have q967_ : (m955_ 1 1).toInt = (m955_ 77 8).toInt := by omega
              have q968_ : (m955_ 7 8).toInt = (m955_ 78 312).toInt := by omega
              have q969_ : (m955_ 16 8).toInt = (m955_ 80 312).toInt := by omega
              have q970_ : (m955_ 0 12).toInt = (m955_ 77 67).toInt := by omega
              refine T_ql (i_add rfl l_7 (by omega) (by omega)) ?_
              intro x971_ h972_
              exact ih j r hj hr x971_ m955_ (by omega) (by omega) g956_ q967_ q968_ q969_ q970_ (by omega)
            · refine T_qg (i_add rfl l_6 (by omega) (by omega)) (by omega) (by omega) ?_
              refine T_qcE (t_X12_game hn _ _ _ _ _ _ m901_ g902_ (by decide) (by decide)) ?_
              intro r973_ m974_ e977_ p976_
              have g975_ := p976_.2.1
              have f978_ : (m974_ 1 1).toInt = (m901_ 1 1).toInt := by rw [p976_.2.2 1 1 (by decide)]
              have f979_ : (m974_ 77 8).toInt = (m901_ 77 8).toInt := by rw [p976_.2.2 77 8 (by decide)]
              have f980_ : (m974_ 7 8).toInt = (m901_ 7 8).toInt := by rw [p976_.2.2 7 8 (by decide)]
              have f981_ : (m974_ 78 312).toInt = (m901_ 78 312).toInt := by rw [p976_.2.2 78 312 (by decide)]
              have f982_ : (m974_ 16 8).toInt = (m901_ 16 8).toInt := by rw [p976_.2.2 16 8 (by decide)]
              have f983_ : (m974_ 80 312).toInt = (m901_ 80 312).toInt := by rw [p976_.2.2 80 312 (by decide)]
              have f984_ : (m974_ 0 12).toInt = (m901_ 0 12).toInt := by rw [p976_.2.2 0 12 (by decide)]
              have f985_ : (m974_ 77 67).toInt = (m901_ 77 67).toInt := by rw [p976_.2.2 77 67 (by decide)]
              have q986_ : (m974_ 1 1).toInt = (m974_ 77 8).toInt := by omega
              have q987_ : (m974_ 7 8).toInt = (m974_ 78 312).toInt := by omega
              have q988_ : (m974_ 16 8).toInt = (m974_ 80 312).toInt := by omega
              have q989_ : (m974_ 0 12).toInt = (m974_ 77 67).toInt := by omega
              refine T_ql (i_add rfl l_7 (by omega) (by omega)) ?_
              intro x990_ h991_
              exact ih j r hj hr x990_ m974_ (by omega) (by omega) g975_ q986_ q987_ q988_ q989_ (by omega)
    refine T_sw rfl l_19 (fun s992_ => ?_) (fun s992_ => ?_)
    · refine T_qg (i_add rfl l_1 (by omega) (by omega)) (by omega) (by omega) ?_
      refine T_qg (i_add rfl l_2 (by omega) (by omega)) (by omega) (by omega) ?_
      refine T_qg (i_add rfl l_3 (by omega) (by omega)) (by omega) (by omega) ?_
      refine T_qg (i_add rfl l_4 (by omega) (by omega)) (by omega) (by omega) ?_
      refine T_qg (i_add rfl l_5 (by omega) (by omega)) (by omega) (by omega) ?_
      refine T_qg (i_add rfl l_6 (by omega) (by omega)) (by omega) (by omega) ?_
      refine T_qcE (t_X11_court hn _ _ _ _ _ _ M hG) ?_
      intro r993_ m994_ e997_ p996_
      have g995_ := p996_.2.1
      have f998_ : (m994_ 1 1).toInt = (M 1 1).toInt := by rw [p996_.2.2 1 1 (by decide)]
      have f999_ : (m994_ 77 8).toInt = (M 77 8).toInt := by rw [p996_.2.2 77 8 (by decide)]
      have f1000_ : (m994_ 7 8).toInt = (M 7 8).toInt := by rw [p996_.2.2 7 8 (by decide)]
      have f1001_ : (m994_ 78 312).toInt = (M 78 312).toInt := by rw [p996_.2.2 78 312 (by decide)]
      have f1002_ : (m994_ 16 8).toInt = (M 16 8).toInt := by rw [p996_.2.2 16 8 (by decide)]
      have f1003_ : (m994_ 80 312).toInt = (M 80 312).toInt := by rw [p996_.2.2 80 312 (by decide)]
      have f1004_ : (m994_ 0 12).toInt = (M 0 12).toInt := by rw [p996_.2.2 0 12 (by decide)]
      have f1005_ : (m994_ 77 67).toInt = (M 77 67).toInt := by rw [p996_.2.2 77 67 (by decide)]
      refine T_qg (i_add rfl l_1 (by omega) (by omega)) (by omega) (by omega) ?_
      refine T_qg (i_add rfl l_2 (by omega) (by omega)) (by omega) (by omega) ?_
      refine T_qg (i_add rfl l_3 (by omega) (by omega)) (by omega) (by omega) ?_
      refine T_qg (i_add rfl l_4 (by omega) (by omega)) (by omega) (by omega) ?_
      refine T_qg (i_add rfl l_5 (by omega) (by omega)) (by omega) (by omega) ?_
      refine T_qg (i_add rfl l_6 (by omega) (by omega)) (by omega) (by omega) ?_
      refine T_qcE (t_X12_court hn _ _ _ _ _ _ m994_ g995_) ?_
      intro r1006_ m1007_ e1010_ p1009_
      have g1008_ := p1009_.2.1
      have f1011_ : (m1007_ 1 1).toInt = (m994_ 1 1).toInt := by rw [p1009_.2.2 1 1 (by decide)]
      have f1012_ : (m1007_ 77 8).toInt = (m994_ 77 8).toInt := by rw [p1009_.2.2 77 8 (by decide)]
      have f1013_ : (m1007_ 7 8).toInt = (m994_ 7 8).toInt := by rw [p1009_.2.2 7 8 (by decide)]
      have f1014_ : (m1007_ 78 312).toInt = (m994_ 78 312).toInt := by rw [p1009_.2.2 78 312 (by decide)]
      have f1015_ : (m1007_ 16 8).toInt = (m994_ 16 8).toInt := by rw [p1009_.2.2 16 8 (by decide)]
      have f1016_ : (m1007_ 80 312).toInt = (m994_ 80 312).toInt := by rw [p1009_.2.2 80 312 (by decide)]
      have f1017_ : (m1007_ 0 12).toInt = (m994_ 0 12).toInt := by rw [p1009_.2.2 0 12 (by decide)]
      have f1018_ : (m1007_ 77 67).toInt = (m994_ 77 67).toInt := by rw [p1009_.2.2 77 67 (by decide)]
      have q1019_ : (m1007_ 1 1).toInt = (m1007_ 77 8).toInt := by omega
      have q1020_ : (m1007_ 7 8).toInt = (m1007_ 78 312).toInt := by omega
      have q1021_ : (m1007_ 16 8).toInt = (m1007_ 80 312).toInt := by omega
      have q1022_ : (m1007_ 0 12).toInt = (m1007_ 77 67).toInt := by omega
      refine T_ql (i_add rfl l_7 (by omega) (by omega)) ?_
      intro x1023_ h1024_
      exact ih j r hj hr x1023_ m1007_ (by omega) (by omega) g1008_ q1019_ q1020_ q1021_ q1022_ (by omega)
    refine T_sw rfl l_20 (fun s1025_ => ?_) (fun s1025_ => ?_)
    · refine T_qcE (t_X11_keep hn M hG) ?_
      intro r1026_ m1027_ e1030_ p1029_
      have g1028_ := p1029_.2.1
      have f1031_ : (m1027_ 1 1).toInt = (M 1 1).toInt := by rw [p1029_.2.2 1 1 (by decide)]
      have f1032_ : (m1027_ 77 8).toInt = (M 77 8).toInt := by rw [p1029_.2.2 77 8 (by decide)]
      have f1033_ : (m1027_ 7 8).toInt = (M 7 8).toInt := by rw [p1029_.2.2 7 8 (by decide)]
      have f1034_ : (m1027_ 78 312).toInt = (M 78 312).toInt := by rw [p1029_.2.2 78 312 (by decide)]
      have f1035_ : (m1027_ 80 312).toInt = (M 80 312).toInt := by rw [p1029_.2.2 80 312 (by decide)]
      have f1036_ : (m1027_ 77 67).toInt = (M 77 67).toInt := by rw [p1029_.2.2 77 67 (by decide)]
      have w1037_ := p1029_.1
      refine T_qcE (t_X12_keep hn m1027_ g1028_) ?_
      intro r1038_ m1039_ e1042_ p1041_
      have g1040_ := p1041_.2.1
      have f1043_ : (m1039_ 1 1).toInt = (m1027_ 1 1).toInt := by rw [p1041_.2.2 1 1 (by decide)]
      have f1044_ : (m1039_ 77 8).toInt = (m1027_ 77 8).toInt := by rw [p1041_.2.2 77 8 (by decide)]
      have f1045_ : (m1039_ 7 8).toInt = (m1027_ 7 8).toInt := by rw [p1041_.2.2 7 8 (by decide)]
      have f1046_ : (m1039_ 78 312).toInt = (m1027_ 78 312).toInt := by rw [p1041_.2.2 78 312 (by decide)]
      have f1047_ : (m1039_ 16 8).toInt = (m1027_ 16 8).toInt := by rw [p1041_.2.2 16 8 (by decide)]
      have f1048_ : (m1039_ 0 12).toInt = (m1027_ 0 12).toInt := by rw [p1041_.2.2 0 12 (by decide)]
      have w1049_ := p1041_.1
      have q1050_ : (m1039_ 1 1).toInt = (m1039_ 77 8).toInt := by omega
      have q1051_ : (m1039_ 7 8).toInt = (m1039_ 78 312).toInt := by omega
      have q1052_ : (m1039_ 16 8).toInt = (m1039_ 80 312).toInt := by omega
      have q1053_ : (m1039_ 0 12).toInt = (m1039_ 77 67).toInt := by omega
      refine T_ql (i_add rfl l_7 (by omega) (by omega)) ?_
      intro x1054_ h1055_
      exact ih j r hj hr x1054_ m1039_ (by omega) (by omega) g1040_ q1050_ q1051_ q1052_ q1053_ (by omega)
    refine T_sw rfl l_21 (fun s1056_ => ?_) (fun s1056_ => ?_)
    · refine T_qcE (t_X11_undo hn M hG) ?_
      intro r1057_ m1058_ e1061_ p1060_
      have g1059_ := p1060_.2.2.1
      have f1062_ : (m1058_ 1 1).toInt = (M 1 1).toInt := by rw [p1060_.2.2.2 1 1 (by decide)]
      have f1063_ : (m1058_ 77 8).toInt = (M 77 8).toInt := by rw [p1060_.2.2.2 77 8 (by decide)]
      have f1064_ : (m1058_ 78 312).toInt = (M 78 312).toInt := by rw [p1060_.2.2.2 78 312 (by decide)]
      have f1065_ : (m1058_ 16 8).toInt = (M 16 8).toInt := by rw [p1060_.2.2.2 16 8 (by decide)]
      have f1066_ : (m1058_ 80 312).toInt = (M 80 312).toInt := by rw [p1060_.2.2.2 80 312 (by decide)]
      have f1067_ : (m1058_ 0 12).toInt = (M 0 12).toInt := by rw [p1060_.2.2.2 0 12 (by decide)]
      have f1068_ : (m1058_ 77 67).toInt = (M 77 67).toInt := by rw [p1060_.2.2.2 77 67 (by decide)]
      have w1069_ := p1060_.2.1
      refine T_qcE (t_X12_undo hn m1058_ g1059_) ?_
      intro r1070_ m1071_ e1074_ p1073_
      have g1072_ := p1073_.2.2.1
      have f1075_ : (m1071_ 1 1).toInt = (m1058_ 1 1).toInt := by rw [p1073_.2.2.2 1 1 (by decide)]
      have f1076_ : (m1071_ 77 8).toInt = (m1058_ 77 8).toInt := by rw [p1073_.2.2.2 77 8 (by decide)]
      have f1077_ : (m1071_ 7 8).toInt = (m1058_ 7 8).toInt := by rw [p1073_.2.2.2 7 8 (by decide)]
      have f1078_ : (m1071_ 16 8).toInt = (m1058_ 16 8).toInt := by rw [p1073_.2.2.2 16 8 (by decide)]
      have f1079_ : (m1071_ 80 312).toInt = (m1058_ 80 312).toInt := by rw [p1073_.2.2.2 80 312 (by decide)]
      have f1080_ : (m1071_ 0 12).toInt = (m1058_ 0 12).toInt := by rw [p1073_.2.2.2 0 12 (by decide)]
      have f1081_ : (m1071_ 77 67).toInt = (m1058_ 77 67).toInt := by rw [p1073_.2.2.2 77 67 (by decide)]
      have w1082_ := p1073_.2.1
      have q1083_ : (m1071_ 1 1).toInt = (m1071_ 77 8).toInt := by omega
      have q1084_ : (m1071_ 7 8).toInt = (m1071_ 78 312).toInt := by omega
      have q1085_ : (m1071_ 16 8).toInt = (m1071_ 80 312).toInt := by omega
      have q1086_ : (m1071_ 0 12).toInt = (m1071_ 77 67).toInt := by omega
      refine T_ql (i_add rfl l_7 (by omega) (by omega)) ?_
      intro x1087_ h1088_
      exact ih j r hj hr x1087_ m1071_ (by omega) (by omega) g1072_ q1083_ q1084_ q1085_ q1086_ (by omega)
    refine T_sw rfl l_22 (fun s1089_ => ?_) (fun s1089_ => ?_)
    · refine T_qg (i_add rfl l_1 (by omega) (by omega)) (by omega) (by omega) ?_
      refine T_qg (i_add rfl l_2 (by omega) (by omega)) (by omega) (by omega) ?_
      refine T_qcE (t_X11_check hn _ _ M hG) ?_
      intro r1090_ m1091_ e1094_ p1093_
      have g1092_ := p1093_.2.2.1
      have f1095_ : (m1091_ 77 8).toInt = (M 77 8).toInt := by rw [p1093_.2.2.2 77 8 (by decide)]
      have f1096_ : (m1091_ 7 8).toInt = (M 7 8).toInt := by rw [p1093_.2.2.2 7 8 (by decide)]
      have f1097_ : (m1091_ 78 312).toInt = (M 78 312).toInt := by rw [p1093_.2.2.2 78 312 (by decide)]
      have f1098_ : (m1091_ 16 8).toInt = (M 16 8).toInt := by rw [p1093_.2.2.2 16 8 (by decide)]
      have f1099_ : (m1091_ 80 312).toInt = (M 80 312).toInt := by rw [p1093_.2.2.2 80 312 (by decide)]
      have f1100_ : (m1091_ 0 12).toInt = (M 0 12).toInt := by rw [p1093_.2.2.2 0 12 (by decide)]
      have f1101_ : (m1091_ 77 67).toInt = (M 77 67).toInt := by rw [p1093_.2.2.2 77 67 (by decide)]
      have w1102_ := p1093_.2.1
      refine T_qg (i_add rfl l_1 (by omega) (by omega)) (by omega) (by omega) ?_
      refine T_qg (i_add rfl l_2 (by omega) (by omega)) (by omega) (by omega) ?_
      refine T_qcE (t_X12_check hn _ _ m1091_ g1092_) ?_
      intro r1103_ m1104_ e1107_ p1106_
      have g1105_ := p1106_.2.2.1
      have f1108_ : (m1104_ 1 1).toInt = (m1091_ 1 1).toInt := by rw [p1106_.2.2.2 1 1 (by decide)]
      have f1109_ : (m1104_ 7 8).toInt = (m1091_ 7 8).toInt := by rw [p1106_.2.2.2 7 8 (by decide)]
      have f1110_ : (m1104_ 78 312).toInt = (m1091_ 78 312).toInt := by rw [p1106_.2.2.2 78 312 (by decide)]
      have f1111_ : (m1104_ 16 8).toInt = (m1091_ 16 8).toInt := by rw [p1106_.2.2.2 16 8 (by decide)]
      have f1112_ : (m1104_ 80 312).toInt = (m1091_ 80 312).toInt := by rw [p1106_.2.2.2 80 312 (by decide)]
      have f1113_ : (m1104_ 0 12).toInt = (m1091_ 0 12).toInt := by rw [p1106_.2.2.2 0 12 (by decide)]
      have f1114_ : (m1104_ 77 67).toInt = (m1091_ 77 67).toInt := by rw [p1106_.2.2.2 77 67 (by decide)]
      have w1115_ := p1106_.2.1
      have b1116_ : m1091_ 78 312 = M 7 8 := Int32.toInt_inj.mp (by omega)
      rw [b1116_] at w1115_
      have q1117_ : (m1104_ 1 1).toInt = (m1104_ 77 8).toInt := by omega
      have q1118_ : (m1104_ 7 8).toInt = (m1104_ 78 312).toInt := by omega
      have q1119_ : (m1104_ 16 8).toInt = (m1104_ 80 312).toInt := by omega
      have q1120_ : (m1104_ 0 12).toInt = (m1104_ 77 67).toInt := by omega
      refine T_ql (i_add rfl l_7 (by omega) (by omega)) ?_
      intro x1121_ h1122_
      exact ih j r hj hr x1121_ m1104_ (by omega) (by omega) g1105_ q1117_ q1118_ q1119_ q1120_ (by omega)
    refine T_sw rfl l_23 (fun s1123_ => ?_) (fun s1123_ => ?_)
    · refine T_qg (i_add rfl l_1 (by omega) (by omega)) (by omega) (by omega) ?_
      refine T_qcE (t_X11_count hn hj _ M hG) ?_
      intro r1124_ m1125_ e1128_ p1127_
      have g1126_ := p1127_.1
      have f1129_ : (m1125_ 1 1).toInt = (M 1 1).toInt := by rw [p1127_.2 1 1 (by decide)]
      have f1130_ : (m1125_ 77 8).toInt = (M 77 8).toInt := by rw [p1127_.2 77 8 (by decide)]
      have f1131_ : (m1125_ 7 8).toInt = (M 7 8).toInt := by rw [p1127_.2 7 8 (by decide)]
      have f1132_ : (m1125_ 78 312).toInt = (M 78 312).toInt := by rw [p1127_.2 78 312 (by decide)]
      have f1133_ : (m1125_ 16 8).toInt = (M 16 8).toInt := by rw [p1127_.2 16 8 (by decide)]
      have f1134_ : (m1125_ 80 312).toInt = (M 80 312).toInt := by rw [p1127_.2 80 312 (by decide)]
      have f1135_ : (m1125_ 0 12).toInt = (M 0 12).toInt := by rw [p1127_.2 0 12 (by decide)]
      have f1136_ : (m1125_ 77 67).toInt = (M 77 67).toInt := by rw [p1127_.2 77 67 (by decide)]
      refine T_qg (i_add rfl l_1 (by omega) (by omega)) (by omega) (by omega) ?_
      refine T_qcE (t_X12_count hn _ m1125_ g1126_) ?_
      intro r1137_ m1138_ e1141_ p1140_
      have g1139_ := p1140_.1
      have f1142_ : (m1138_ 1 1).toInt = (m1125_ 1 1).toInt := by rw [p1140_.2 1 1 (by decide)]
      have f1143_ : (m1138_ 77 8).toInt = (m1125_ 77 8).toInt := by rw [p1140_.2 77 8 (by decide)]
      have f1144_ : (m1138_ 7 8).toInt = (m1125_ 7 8).toInt := by rw [p1140_.2 7 8 (by decide)]
      have f1145_ : (m1138_ 78 312).toInt = (m1125_ 78 312).toInt := by rw [p1140_.2 78 312 (by decide)]
      have f1146_ : (m1138_ 16 8).toInt = (m1125_ 16 8).toInt := by rw [p1140_.2 16 8 (by decide)]
      have f1147_ : (m1138_ 80 312).toInt = (m1125_ 80 312).toInt := by rw [p1140_.2 80 312 (by decide)]
      have f1148_ : (m1138_ 0 12).toInt = (m1125_ 0 12).toInt := by rw [p1140_.2 0 12 (by decide)]
      have f1149_ : (m1138_ 77 67).toInt = (m1125_ 77 67).toInt := by rw [p1140_.2 77 67 (by decide)]
      have q1150_ : (m1138_ 1 1).toInt = (m1138_ 77 8).toInt := by omega
      have q1151_ : (m1138_ 7 8).toInt = (m1138_ 78 312).toInt := by omega
      have q1152_ : (m1138_ 16 8).toInt = (m1138_ 80 312).toInt := by omega
      have q1153_ : (m1138_ 0 12).toInt = (m1138_ 77 67).toInt := by omega
      refine T_ql (i_add rfl l_7 (by omega) (by omega)) ?_
      intro x1154_ h1155_
      exact ih j r hj hr x1154_ m1138_ (by omega) (by omega) g1139_ q1150_ q1151_ q1152_ q1153_ (by omega)
    refine T_sw0 ?_
    refine T_ql (i_add rfl l_7 (by omega) (by omega)) ?_
    intro x1156_ h1157_
    exact ih j r hj hr x1156_ M (by omega) (by omega) hG hR0 hR1 hR2 hR3 (by omega)
theorem pure_all : qPure := by
  intro g hN
  obtain ⟨M0, e, hF, hG⟩ := freshG
  obtain ⟨v, M', e2, hv⟩ := L_go (n := 200000) (Nat.le_refl _) g hN 4000 37 46 (Or.inl rfl) (Or.inr rfl) 0 M0 (by decide) (by decide) hG (by rw [hF.1 1 1 (by decide), hF.1 77 8 (by decide)]) (by rw [hF.1 7 8 (by decide), hF.2.1 312 (by decide)]) (by rw [hF.1 16 8 (by decide), hF.2.2 80 312 (by decide) (by decide) (by decide) (by decide)]) (by rw [hF.1 0 12 (by decide), hF.1 77 67 (by decide)]) (by have z : ((0 : Int32).toInt : Int) = 0 := rfl; omega)
  subst hv
  exact ⟨200000, 4000, M0, M', e, e2⟩
