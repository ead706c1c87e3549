theorem T_qcE {F : qR} {f : Int32 → qM → qR} {P Q : Int32 → qM → Prop} (h : qT F Q) (k : ∀ v m, F = some (v, m) → Q v m → qT (f v m) P) : qT (qc F f) P := by
  obtain ⟨v, M, e, p⟩ := h
  have := k v M e p
  rw [e, qc_v]
  exact this
abbrev l_law : List Bx := [(1, 2, 1, 5), (37, 53, 0, 0)]
abbrev LQ (a1 : Int32) (M m : qM) : Prop := G m ∧ Sm l_law M m ∧ (((1 ≤ a1.toInt ∧ a1.toInt ≤ 240 ∧ a1.toInt ≤ (M 1 1).toInt) ∧ (m 1 1).toInt = 0) ∨ (¬ (1 ≤ a1.toInt ∧ a1.toInt ≤ 240 ∧ a1.toInt ≤ (M 1 1).toInt) ∧ (m 1 1).toInt = (M 1 1).toInt))
theorem T_qc2s {a1 : Int32} {M : qM} {F1 F2 : qR} {E1 E2 : Int32 → qM → qR} {P : Int32 → qM → Prop} (h : (∃ v m, F1 = some (v, m) ∧ LQ a1 M m) ∨ (F1 = none ∧ ∃ v m, F2 = some (v, m) ∧ LQ a1 M m)) (h1 : ∀ v m, F1 = some (v, m) → LQ a1 M m → qT (E1 v m) P) (h2 : ∀ v m, F2 = some (v, m) → LQ a1 M m → qT (E2 v m) P) : qT (qc2 F1 F2 E1 E2) P := by
  rcases h with ⟨v, m, e, g⟩ | ⟨e, v, m, e2, g⟩
  · have := h1 v m e g
    rw [e]; exact this
  · have := h2 v m e2 g
    rw [e, e2]; exact this
theorem law_tots {n : Nat} (hn : 200000 ≤ n) {j r : Nat} (hr : q_isLaw r) (a1 : Int32) (M : qM) (hG : G M) : (∃ v m, f_X11_law n j r a1 M = some (v, m) ∧ LQ a1 M m) ∨ (f_X11_law n j r a1 M = none ∧ ∃ v m, f_X11_lawS n j r a1 M = some (v, m) ∧ LQ a1 M m) := by
  unfold f_X11_law f_X11_lawS
  by_cases c1 : a1 < (1 : Int32)
  · rw [if_pos c1]; rw [Int32.lt_iff_toInt_lt] at c1; have z1 : (1 : Int32).toInt = 1 := rfl; exact Or.inl ⟨_, _, rfl, hG, Sm.rf, Or.inr ⟨by omega, rfl⟩⟩
  · rw [if_neg c1, if_neg c1]
    by_cases c2 : (240 : Int32) < a1
    · rw [if_pos c2]; rw [Int32.lt_iff_toInt_lt] at c2; have z1 : (240 : Int32).toInt = 240 := rfl; exact Or.inl ⟨_, _, rfl, hG, Sm.rf, Or.inr ⟨by omega, rfl⟩⟩
    · rw [if_neg c2, if_neg c2]
      by_cases c3 : a1 ≤ M 1 1
      · rw [if_pos c3, if_pos c3]
        rw [Int32.lt_iff_toInt_lt] at c1 c2
        rw [Int32.le_iff_toInt_le] at c3
        have z1 : (1 : Int32).toInt = 1 := rfl
        have z2 : (240 : Int32).toInt = 240 := rfl
        obtain ⟨v, m2, e, p⟩ := t_X4_read hn hr a1 M hG (by omega)
        obtain ⟨v3, m3, e3, p3⟩ := t_X9_clear hn m2 (p.1)
        have hs : Sm l_law M m3 := (Sm.mono (p.2) rfl).tr (Sm.mono (p3.2.2.2) rfl)
        have hz := p3.2.1
        rw [e, qc_v, qc_v, e3, qc_v, qc_v]
        by_cases c4 : v ≤ (0 : Int32)
        · rw [if_pos c4]; exact Or.inl ⟨_, _, rfl, p3.2.2.1, hs, Or.inl ⟨by omega, hz⟩⟩
        · rw [if_neg c4, if_neg c4]; exact Or.inr ⟨rfl, _, _, rfl, p3.2.2.1, hs, Or.inl ⟨by omega, hz⟩⟩
      · rw [if_neg c3]; rw [Int32.le_iff_toInt_le] at c3; exact Or.inl ⟨_, _, rfl, hG, Sm.rf, Or.inr ⟨by omega, rfl⟩⟩
theorem ofN {k : Nat} (h : k ≤ 3584) : (Int32.ofNat k).toInt = (k : Int) := nI_toInt (by omega)
set_option maxRecDepth 8000 in
set_option maxHeartbeats 4000000 in
theorem L_go {n : Nat} (hn : 200000 ≤ n) (g : qG) (hN : g.2.2.2.2.2.1 ≤ 3584) : ∀ (m j r : Nat), q_isLaw j → q_isLaw r → ∀ (a3 : Int32) (M : qM), 0 ≤ a3.toInt → a3.toInt ≤ 3600 → G M → (M 7 9).toInt = (M 78 313).toInt → (M 16 9).toInt = (M 80 313).toInt → (M 0 12).toInt = (M 77 67).toInt → 3700 - a3.toInt < (m : Int) → qT (f_L_law g n m j r a3 M) (fun v _ => v = 1) := by
  intro m
  induction m with
  | zero => intro j r _ _ a3 M _ _ _ _ _ _ h; exfalso; omega
  | succ m ih =>
    intro j r hj hr a3 M h0 h1 hG hR0 hR1 hR2 hm
    show qT (b_L_law g n j r (f_L_law g n m j r) (f_L_law g n m r j) a3 M) _
    unfold b_L_law
    refine T_lt (i_sub (ofN hN) l_7 (by omega) (by omega)) rfl (fun c => T_ret rfl) (fun c => ?_)
    refine T_qg rfl (by omega) (by omega) ?_
    refine T_sw rfl l_0 (fun s1_ => ?_) (fun s1_ => ?_)
    · refine T_qg (i_add rfl l_1 (by omega) (by omega)) (by omega) (by omega) ?_
      refine T_qg (i_add rfl l_2 (by omega) (by omega)) (by omega) (by omega) ?_
      refine T_qg (i_add rfl l_3 (by omega) (by omega)) (by omega) (by omega) ?_
      refine T_qg (i_add rfl l_4 (by omega) (by omega)) (by omega) (by omega) ?_
      refine T_qcE (t_X11_kind hn _ _ _ _ M hG) ?_
      intro r2_ m3_ e6_ p5_
      have g4_ := p5_.2.1
      have f7_ : (m3_ 7 9).toInt = (M 7 9).toInt := by rw [p5_.2.2 7 9 (by decide)]
      have f8_ : (m3_ 78 313).toInt = (M 78 313).toInt := by rw [p5_.2.2 78 313 (by decide)]
      have f9_ : (m3_ 16 9).toInt = (M 16 9).toInt := by rw [p5_.2.2 16 9 (by decide)]
      have f10_ : (m3_ 80 313).toInt = (M 80 313).toInt := by rw [p5_.2.2 80 313 (by decide)]
      have f11_ : (m3_ 0 12).toInt = (M 0 12).toInt := by rw [p5_.2.2 0 12 (by decide)]
      have f12_ : (m3_ 77 67).toInt = (M 77 67).toInt := by rw [p5_.2.2 77 67 (by decide)]
      refine T_qg (i_add rfl l_1 (by omega) (by omega)) (by omega) (by omega) ?_
      refine T_qg (i_add rfl l_2 (by omega) (by omega)) (by omega) (by omega) ?_
      refine T_qg (i_add rfl l_3 (by omega) (by omega)) (by omega) (by omega) ?_
      refine T_qg (i_add rfl l_4 (by omega) (by omega)) (by omega) (by omega) ?_
      refine T_qcE (t_X12_kind hn _ _ _ _ m3_ g4_) ?_
      intro r13_ m14_ e17_ p16_
      have g15_ := p16_.2.1
      have f18_ : (m14_ 7 9).toInt = (m3_ 7 9).toInt := by rw [p16_.2.2 7 9 (by decide)]
      have f19_ : (m14_ 78 313).toInt = (m3_ 78 313).toInt := by rw [p16_.2.2 78 313 (by decide)]
      have f20_ : (m14_ 16 9).toInt = (m3_ 16 9).toInt := by rw [p16_.2.2 16 9 (by decide)]
      have f21_ : (m14_ 80 313).toInt = (m3_ 80 313).toInt := by rw [p16_.2.2 80 313 (by decide)]
      have f22_ : (m14_ 0 12).toInt = (m3_ 0 12).toInt := by rw [p16_.2.2 0 12 (by decide)]
      have f23_ : (m14_ 77 67).toInt = (m3_ 77 67).toInt := by rw [p16_.2.2 77 67 (by decide)]
      have q24_ : (m14_ 7 9).toInt = (m14_ 78 313).toInt := by omega
      have q25_ : (m14_ 16 9).toInt = (m14_ 80 313).toInt := by omega
      have q26_ : (m14_ 0 12).toInt = (m14_ 77 67).toInt := by omega
      refine T_ql (i_add rfl l_7 (by omega) (by omega)) ?_
      intro x27_ h28_
      exact ih j r hj hr x27_ m14_ (by omega) (by omega) g15_ q24_ q25_ q26_ (by omega)
    refine T_sw rfl l_1 (fun s29_ => ?_) (fun s29_ => ?_)
    · refine T_qg (i_add rfl l_1 (by omega) (by omega)) (by omega) (by omega) ?_
      refine T_qg (i_add rfl l_2 (by omega) (by omega)) (by omega) (by omega) ?_
      refine T_qcE (t_X11_person hn _ _ M hG) ?_
      intro r30_ m31_ e34_ p33_
      have g32_ := p33_.2.2.1
      have f35_ : (m31_ 7 9).toInt = (M 7 9).toInt := by rw [p33_.2.2.2 7 9 (by decide)]
      have f36_ : (m31_ 78 313).toInt = (M 78 313).toInt := by rw [p33_.2.2.2 78 313 (by decide)]
      have f37_ : (m31_ 16 9).toInt = (M 16 9).toInt := by rw [p33_.2.2.2 16 9 (by decide)]
      have f38_ : (m31_ 80 313).toInt = (M 80 313).toInt := by rw [p33_.2.2.2 80 313 (by decide)]
      have f39_ : (m31_ 0 12).toInt = (M 0 12).toInt := by rw [p33_.2.2.2 0 12 (by decide)]
      have f40_ : (m31_ 77 67).toInt = (M 77 67).toInt := by rw [p33_.2.2.2 77 67 (by decide)]
      refine T_qg (i_add rfl l_1 (by omega) (by omega)) (by omega) (by omega) ?_
      refine T_qg (i_add rfl l_2 (by omega) (by omega)) (by omega) (by omega) ?_
      refine T_qcE (t_X12_person hn _ _ m31_ g32_) ?_
      intro r41_ m42_ e45_ p44_
      have g43_ := p44_.2.2.1
      have f46_ : (m42_ 7 9).toInt = (m31_ 7 9).toInt := by rw [p44_.2.2.2 7 9 (by decide)]
      have f47_ : (m42_ 78 313).toInt = (m31_ 78 313).toInt := by rw [p44_.2.2.2 78 313 (by decide)]
      have f48_ : (m42_ 16 9).toInt = (m31_ 16 9).toInt := by rw [p44_.2.2.2 16 9 (by decide)]
      have f49_ : (m42_ 80 313).toInt = (m31_ 80 313).toInt := by rw [p44_.2.2.2 80 313 (by decide)]
      have f50_ : (m42_ 0 12).toInt = (m31_ 0 12).toInt := by rw [p44_.2.2.2 0 12 (by decide)]
      have f51_ : (m42_ 77 67).toInt = (m31_ 77 67).toInt := by rw [p44_.2.2.2 77 67 (by decide)]
      have q52_ : (m42_ 7 9).toInt = (m42_ 78 313).toInt := by omega
      have q53_ : (m42_ 16 9).toInt = (m42_ 80 313).toInt := by omega
      have q54_ : (m42_ 0 12).toInt = (m42_ 77 67).toInt := by omega
      refine T_ql (i_add rfl l_7 (by omega) (by omega)) ?_
      intro x55_ h56_
      exact ih j r hj hr x55_ m42_ (by omega) (by omega) g43_ q52_ q53_ q54_ (by omega)
    refine T_sw rfl l_2 (fun s57_ => ?_) (fun s57_ => ?_)
    · refine T_qg (i_add rfl l_1 (by omega) (by omega)) (by omega) (by omega) ?_
      refine T_qg (i_add rfl l_2 (by omega) (by omega)) (by omega) (by omega) ?_
      refine T_qg (i_add rfl l_3 (by omega) (by omega)) (by omega) (by omega) ?_
      refine T_qg (i_add rfl l_4 (by omega) (by omega)) (by omega) (by omega) ?_
      refine T_qg (i_add rfl l_5 (by omega) (by omega)) (by omega) (by omega) ?_
      refine T_qcE (t_X11_feed hn _ _ _ _ _ M hG) ?_
      intro r58_ m59_ e62_ p61_
      have g60_ := p61_.2.2.1
      have f63_ : (m59_ 7 9).toInt = (M 7 9).toInt := by rw [p61_.2.2.2 7 9 (by decide)]
      have f64_ : (m59_ 78 313).toInt = (M 78 313).toInt := by rw [p61_.2.2.2 78 313 (by decide)]
      have f65_ : (m59_ 16 9).toInt = (M 16 9).toInt := by rw [p61_.2.2.2 16 9 (by decide)]
      have f66_ : (m59_ 80 313).toInt = (M 80 313).toInt := by rw [p61_.2.2.2 80 313 (by decide)]
      have f67_ : (m59_ 0 12).toInt = (M 0 12).toInt := by rw [p61_.2.2.2 0 12 (by decide)]
      have f68_ : (m59_ 77 67).toInt = (M 77 67).toInt := by rw [p61_.2.2.2 77 67 (by decide)]
      refine T_qg (i_add rfl l_1 (by omega) (by omega)) (by omega) (by omega) ?_
      refine T_qg (i_add rfl l_2 (by omega) (by omega)) (by omega) (by omega) ?_
      refine T_qg (i_add rfl l_3 (by omega) (by omega)) (by omega) (by omega) ?_
      refine T_qg (i_add rfl l_4 (by omega) (by omega)) (by omega) (by omega) ?_
      refine T_qg (i_add rfl l_5 (by omega) (by omega)) (by omega) (by omega) ?_
      refine T_qcE (t_X12_feed hn _ _ _ _ _ m59_ g60_) ?_
      intro r69_ m70_ e73_ p72_
      have g71_ := p72_.2.2.1
      have f74_ : (m70_ 7 9).toInt = (m59_ 7 9).toInt := by rw [p72_.2.2.2 7 9 (by decide)]
      have f75_ : (m70_ 78 313).toInt = (m59_ 78 313).toInt := by rw [p72_.2.2.2 78 313 (by decide)]
      have f76_ : (m70_ 16 9).toInt = (m59_ 16 9).toInt := by rw [p72_.2.2.2 16 9 (by decide)]
      have f77_ : (m70_ 80 313).toInt = (m59_ 80 313).toInt := by rw [p72_.2.2.2 80 313 (by decide)]
      have f78_ : (m70_ 0 12).toInt = (m59_ 0 12).toInt := by rw [p72_.2.2.2 0 12 (by decide)]
      have f79_ : (m70_ 77 67).toInt = (m59_ 77 67).toInt := by rw [p72_.2.2.2 77 67 (by decide)]
      have q80_ : (m70_ 7 9).toInt = (m70_ 78 313).toInt := by omega
      have q81_ : (m70_ 16 9).toInt = (m70_ 80 313).toInt := by omega
      have q82_ : (m70_ 0 12).toInt = (m70_ 77 67).toInt := by omega
      refine T_ql (i_add rfl l_7 (by omega) (by omega)) ?_
      intro x83_ h84_
      exact ih j r hj hr x83_ m70_ (by omega) (by omega) g71_ q80_ q81_ q82_ (by omega)
    refine T_sw rfl l_3 (fun s85_ => ?_) (fun s85_ => ?_)
    · refine T_qg (i_add rfl l_1 (by omega) (by omega)) (by omega) (by omega) ?_
      refine T_qc2s (law_tots hn hr _ M hG) (fun v_ m_ ee_ p_ => ?_) (fun v_ m_ ee_ p_ => ?_)
      · have f86_ : (m_ 7 9).toInt = (M 7 9).toInt := by rw [p_.2.1 7 9 (by decide)]
        have f87_ : (m_ 78 313).toInt = (M 78 313).toInt := by rw [p_.2.1 78 313 (by decide)]
        have f88_ : (m_ 16 9).toInt = (M 16 9).toInt := by rw [p_.2.1 16 9 (by decide)]
        have f89_ : (m_ 80 313).toInt = (M 80 313).toInt := by rw [p_.2.1 80 313 (by decide)]
        have f90_ : (m_ 0 12).toInt = (M 0 12).toInt := by rw [p_.2.1 0 12 (by decide)]
        have f91_ : (m_ 77 67).toInt = (M 77 67).toInt := by rw [p_.2.1 77 67 (by decide)]
        refine T_qg (i_add rfl l_1 (by omega) (by omega)) (by omega) (by omega) ?_
        refine T_qcE (t_X12_law hn _ m_ p_.1) ?_
        intro r92_ m93_ e96_ p95_
        have g94_ := p95_.1
        have f97_ : (m93_ 7 9).toInt = (m_ 7 9).toInt := by rw [show m93_ 7 9 = m_ 7 9 from congrFun (p95_.2.1.2 7 (by decide) (by decide)) 9]
        have f98_ : (m93_ 78 313).toInt = (m_ 78 313).toInt := by rw [show m93_ 78 313 = m_ 78 313 from congrFun (p95_.2.1.2 78 (by decide) (by decide)) 313]
        have f99_ : (m93_ 16 9).toInt = (m_ 16 9).toInt := by rw [show m93_ 16 9 = m_ 16 9 from congrFun (p95_.2.1.2 16 (by decide) (by decide)) 9]
        have f100_ : (m93_ 80 313).toInt = (m_ 80 313).toInt := by rw [show m93_ 80 313 = m_ 80 313 from congrFun (p95_.2.1.2 80 (by decide) (by decide)) 313]
        have f101_ : (m93_ 0 12).toInt = (m_ 0 12).toInt := by rw [show m93_ 0 12 = m_ 0 12 from congrFun (p95_.2.1.2 0 (by decide) (by decide)) 12]
        have f102_ : (m93_ 77 67).toInt = (m_ 77 67).toInt := by rw [show m93_ 77 67 = m_ 77 67 from p95_.2.1.1 67 (by decide)]
        have q103_ : (m93_ 7 9).toInt = (m93_ 78 313).toInt := by omega
        have q104_ : (m93_ 16 9).toInt = (m93_ 80 313).toInt := by omega
        have q105_ : (m93_ 0 12).toInt = (m93_ 77 67).toInt := by omega
        refine T_ql (i_add rfl l_7 (by omega) (by omega)) ?_
        intro x106_ h107_
        exact ih j r hj hr x106_ m93_ (by omega) (by omega) g94_ q103_ q104_ q105_ (by omega)
      · have f108_ : (m_ 7 9).toInt = (M 7 9).toInt := by rw [p_.2.1 7 9 (by decide)]
        have f109_ : (m_ 78 313).toInt = (M 78 313).toInt := by rw [p_.2.1 78 313 (by decide)]
        have f110_ : (m_ 16 9).toInt = (M 16 9).toInt := by rw [p_.2.1 16 9 (by decide)]
        have f111_ : (m_ 80 313).toInt = (M 80 313).toInt := by rw [p_.2.1 80 313 (by decide)]
        have f112_ : (m_ 0 12).toInt = (M 0 12).toInt := by rw [p_.2.1 0 12 (by decide)]
        have f113_ : (m_ 77 67).toInt = (M 77 67).toInt := by rw [p_.2.1 77 67 (by decide)]
        refine T_qg (i_add rfl l_1 (by omega) (by omega)) (by omega) (by omega) ?_
        refine T_qcE (t_X12_law hn _ m_ p_.1) ?_
        intro r114_ m115_ e118_ p117_
        have g116_ := p117_.1
        have f119_ : (m115_ 7 9).toInt = (m_ 7 9).toInt := by rw [show m115_ 7 9 = m_ 7 9 from congrFun (p117_.2.1.2 7 (by decide) (by decide)) 9]
        have f120_ : (m115_ 78 313).toInt = (m_ 78 313).toInt := by rw [show m115_ 78 313 = m_ 78 313 from congrFun (p117_.2.1.2 78 (by decide) (by decide)) 313]
        have f121_ : (m115_ 16 9).toInt = (m_ 16 9).toInt := by rw [show m115_ 16 9 = m_ 16 9 from congrFun (p117_.2.1.2 16 (by decide) (by decide)) 9]
        have f122_ : (m115_ 80 313).toInt = (m_ 80 313).toInt := by rw [show m115_ 80 313 = m_ 80 313 from congrFun (p117_.2.1.2 80 (by decide) (by decide)) 313]
        have f123_ : (m115_ 0 12).toInt = (m_ 0 12).toInt := by rw [show m115_ 0 12 = m_ 0 12 from congrFun (p117_.2.1.2 0 (by decide) (by decide)) 12]
        have f124_ : (m115_ 77 67).toInt = (m_ 77 67).toInt := by rw [show m115_ 77 67 = m_ 77 67 from p117_.2.1.1 67 (by decide)]
        have q125_ : (m115_ 7 9).toInt = (m115_ 78 313).toInt := by omega
        have q126_ : (m115_ 16 9).toInt = (m115_ 80 313).toInt := by omega
        have q127_ : (m115_ 0 12).toInt = (m115_ 77 67).toInt := by omega
        refine T_ql (i_add rfl l_7 (by omega) (by omega)) ?_
        intro x128_ h129_
        exact ih r j hr hj x128_ m115_ (by omega) (by omega) g116_ q125_ q126_ q127_ (by omega)
    refine T_sw rfl l_4 (fun s130_ => ?_) (fun s130_ => ?_)
    · refine T_qg (i_add rfl l_1 (by omega) (by omega)) (by omega) (by omega) ?_
      refine T_qg (i_add rfl l_2 (by omega) (by omega)) (by omega) (by omega) ?_
      refine T_qcE (t_X11_plan hn _ _ M hG) ?_
      intro r131_ m132_ e135_ p134_
      have g133_ := p134_.2.1
      have f136_ : (m132_ 7 9).toInt = (M 7 9).toInt := by rw [p134_.2.2 7 9 (by decide)]
      have f137_ : (m132_ 78 313).toInt = (M 78 313).toInt := by rw [p134_.2.2 78 313 (by decide)]
      have f138_ : (m132_ 16 9).toInt = (M 16 9).toInt := by rw [p134_.2.2 16 9 (by decide)]
      have f139_ : (m132_ 80 313).toInt = (M 80 313).toInt := by rw [p134_.2.2 80 313 (by decide)]
      have f140_ : (m132_ 0 12).toInt = (M 0 12).toInt := by rw [p134_.2.2 0 12 (by decide)]
      have f141_ : (m132_ 77 67).toInt = (M 77 67).toInt := by rw [p134_.2.2 77 67 (by decide)]
      refine T_qg (i_add rfl l_1 (by omega) (by omega)) (by omega) (by omega) ?_
      refine T_qg (i_add rfl l_2 (by omega) (by omega)) (by omega) (by omega) ?_
      refine T_qcE (t_X12_plan hn _ _ m132_ g133_) ?_
      intro r142_ m143_ e146_ p145_
      have g144_ := p145_.2.1
      have f147_ : (m143_ 7 9).toInt = (m132_ 7 9).toInt := by rw [p145_.2.2 7 9 (by decide)]
      have f148_ : (m143_ 78 313).toInt = (m132_ 78 313).toInt := by rw [p145_.2.2 78 313 (by decide)]
      have f149_ : (m143_ 16 9).toInt = (m132_ 16 9).toInt := by rw [p145_.2.2 16 9 (by decide)]
      have f150_ : (m143_ 80 313).toInt = (m132_ 80 313).toInt := by rw [p145_.2.2 80 313 (by decide)]
      have f151_ : (m143_ 0 12).toInt = (m132_ 0 12).toInt := by rw [p145_.2.2 0 12 (by decide)]
      have f152_ : (m143_ 77 67).toInt = (m132_ 77 67).toInt := by rw [p145_.2.2 77 67 (by decide)]
      have q153_ : (m143_ 7 9).toInt = (m143_ 78 313).toInt := by omega
      have q154_ : (m143_ 16 9).toInt = (m143_ 80 313).toInt := by omega
      have q155_ : (m143_ 0 12).toInt = (m143_ 77 67).toInt := by omega
      refine T_ql (i_add rfl l_7 (by omega) (by omega)) ?_
      intro x156_ h157_
      exact ih j r hj hr x156_ m143_ (by omega) (by omega) g144_ q153_ q154_ q155_ (by omega)
    refine T_sw rfl l_5 (fun s158_ => ?_) (fun s158_ => ?_)
    · refine T_qg (i_add rfl l_1 (by omega) (by omega)) (by omega) (by omega) ?_
      refine T_qg (i_add rfl l_2 (by omega) (by omega)) (by omega) (by omega) ?_
      refine T_qg (i_add rfl l_3 (by omega) (by omega)) (by omega) (by omega) ?_
      refine T_qcE (t_X11_tries hn hj _ _ _ M hG) ?_
      intro r159_ m160_ e163_ p162_
      have g161_ := p162_.2.1
      have f164_ : (m160_ 7 9).toInt = (M 7 9).toInt := by rw [p162_.2.2 7 9 (by decide)]
      have f165_ : (m160_ 78 313).toInt = (M 78 313).toInt := by rw [p162_.2.2 78 313 (by decide)]
      have f166_ : (m160_ 16 9).toInt = (M 16 9).toInt := by rw [p162_.2.2 16 9 (by decide)]
      have f167_ : (m160_ 80 313).toInt = (M 80 313).toInt := by rw [p162_.2.2 80 313 (by decide)]
      have f168_ : (m160_ 0 12).toInt = (M 0 12).toInt := by rw [p162_.2.2 0 12 (by decide)]
      have f169_ : (m160_ 77 67).toInt = (M 77 67).toInt := by rw [p162_.2.2 77 67 (by decide)]
      refine T_qg (i_add rfl l_1 (by omega) (by omega)) (by omega) (by omega) ?_
      refine T_qg (i_add rfl l_2 (by omega) (by omega)) (by omega) (by omega) ?_
      refine T_qg (i_add rfl l_3 (by omega) (by omega)) (by omega) (by omega) ?_
      refine T_qcE (t_X12_tries hn _ _ _ m160_ g161_) ?_
      intro r170_ m171_ e174_ p173_
      have g172_ := p173_.2.1
      have f175_ : (m171_ 7 9).toInt = (m160_ 7 9).toInt := by rw [p173_.2.2 7 9 (by decide)]
      have f176_ : (m171_ 78 313).toInt = (m160_ 78 313).toInt := by rw [p173_.2.2 78 313 (by decide)]
      have f177_ : (m171_ 16 9).toInt = (m160_ 16 9).toInt := by rw [p173_.2.2 16 9 (by decide)]
      have f178_ : (m171_ 80 313).toInt = (m160_ 80 313).toInt := by rw [p173_.2.2 80 313 (by decide)]
      have f179_ : (m171_ 0 12).toInt = (m160_ 0 12).toInt := by rw [p173_.2.2 0 12 (by decide)]
      have f180_ : (m171_ 77 67).toInt = (m160_ 77 67).toInt := by rw [p173_.2.2 77 67 (by decide)]
      have q181_ : (m171_ 7 9).toInt = (m171_ 78 313).toInt := by omega
      have q182_ : (m171_ 16 9).toInt = (m171_ 80 313).toInt := by omega
      have q183_ : (m171_ 0 12).toInt = (m171_ 77 67).toInt := by omega
      refine T_ql (i_add rfl l_7 (by omega) (by omega)) ?_
      intro x184_ h185_
      exact ih j r hj hr x184_ m171_ (by omega) (by omega) g172_ q181_ q182_ q183_ (by omega)
    refine T_sw rfl l_6 (fun s186_ => ?_) (fun s186_ => ?_)
    · refine T_qg (i_add rfl l_1 (by omega) (by omega)) (by omega) (by omega) ?_
      refine T_qg (i_add rfl l_2 (by omega) (by omega)) (by omega) (by omega) ?_
      refine T_qg (i_add rfl l_3 (by omega) (by omega)) (by omega) (by omega) ?_
      refine T_qcE (t_X11_buys hn hj _ _ _ M hG) ?_
      intro r187_ m188_ e191_ p190_
      have g189_ := p190_.2.1
      have f192_ : (m188_ 7 9).toInt = (M 7 9).toInt := by rw [p190_.2.2 7 9 (by decide)]
      have f193_ : (m188_ 78 313).toInt = (M 78 313).toInt := by rw [p190_.2.2 78 313 (by decide)]
      have f194_ : (m188_ 16 9).toInt = (M 16 9).toInt := by rw [p190_.2.2 16 9 (by decide)]
      have f195_ : (m188_ 80 313).toInt = (M 80 313).toInt := by rw [p190_.2.2 80 313 (by decide)]
      have f196_ : (m188_ 0 12).toInt = (M 0 12).toInt := by rw [p190_.2.2 0 12 (by decide)]
      have f197_ : (m188_ 77 67).toInt = (M 77 67).toInt := by rw [p190_.2.2 77 67 (by decide)]
      refine T_qg (i_add rfl l_1 (by omega) (by omega)) (by omega) (by omega) ?_
      refine T_qg (i_add rfl l_2 (by omega) (by omega)) (by omega) (by omega) ?_
      refine T_qg (i_add rfl l_3 (by omega) (by omega)) (by omega) (by omega) ?_
      refine T_qcE (t_X12_buys hn _ _ _ m188_ g189_) ?_
      intro r198_ m199_ e202_ p201_
      have g200_ := p201_.2.1
      have f203_ : (m199_ 7 9).toInt = (m188_ 7 9).toInt := by rw [p201_.2.2 7 9 (by decide)]
      have f204_ : (m199_ 78 313).toInt = (m188_ 78 313).toInt := by rw [p201_.2.2 78 313 (by decide)]
      have f205_ : (m199_ 16 9).toInt = (m188_ 16 9).toInt := by rw [p201_.2.2 16 9 (by decide)]
      have f206_ : (m199_ 80 313).toInt = (m188_ 80 313).toInt := by rw [p201_.2.2 80 313 (by decide)]
      have f207_ : (m199_ 0 12).toInt = (m188_ 0 12).toInt := by rw [p201_.2.2 0 12 (by decide)]
      have f208_ : (m199_ 77 67).toInt = (m188_ 77 67).toInt := by rw [p201_.2.2 77 67 (by decide)]
      have q209_ : (m199_ 7 9).toInt = (m199_ 78 313).toInt := by omega
      have q210_ : (m199_ 16 9).toInt = (m199_ 80 313).toInt := by omega
      have q211_ : (m199_ 0 12).toInt = (m199_ 77 67).toInt := by omega
      refine T_ql (i_add rfl l_7 (by omega) (by omega)) ?_
      intro x212_ h213_
      exact ih j r hj hr x212_ m199_ (by omega) (by omega) g200_ q209_ q210_ q211_ (by omega)
    refine T_sw rfl l_7 (fun s214_ => ?_) (fun s214_ => ?_)
    · refine T_qg (i_add rfl l_1 (by omega) (by omega)) (by omega) (by omega) ?_
      refine T_qcE (t_X11_days hn hj _ M hG) ?_
      intro r215_ m216_ e219_ p218_
      have g217_ := p218_.2.1
      have f220_ : (m216_ 78 313).toInt = (M 78 313).toInt := by rw [p218_.2.2 78 313 (by decide)]
      have f221_ : (m216_ 16 9).toInt = (M 16 9).toInt := by rw [p218_.2.2 16 9 (by decide)]
      have f222_ : (m216_ 80 313).toInt = (M 80 313).toInt := by rw [p218_.2.2 80 313 (by decide)]
      have f223_ : (m216_ 0 12).toInt = (M 0 12).toInt := by rw [p218_.2.2 0 12 (by decide)]
      have f224_ : (m216_ 77 67).toInt = (M 77 67).toInt := by rw [p218_.2.2 77 67 (by decide)]
      have w225_ := p218_.1
      refine T_qg (i_add rfl l_1 (by omega) (by omega)) (by omega) (by omega) ?_
      refine T_qcE (t_X12_days hn _ m216_ g217_) ?_
      intro r226_ m227_ e230_ p229_
      have g228_ := p229_.2.1
      have f231_ : (m227_ 7 9).toInt = (m216_ 7 9).toInt := by rw [p229_.2.2 7 9 (by decide)]
      have f232_ : (m227_ 16 9).toInt = (m216_ 16 9).toInt := by rw [p229_.2.2 16 9 (by decide)]
      have f233_ : (m227_ 80 313).toInt = (m216_ 80 313).toInt := by rw [p229_.2.2 80 313 (by decide)]
      have f234_ : (m227_ 0 12).toInt = (m216_ 0 12).toInt := by rw [p229_.2.2 0 12 (by decide)]
      have f235_ : (m227_ 77 67).toInt = (m216_ 77 67).toInt := by rw [p229_.2.2 77 67 (by decide)]
      have w236_ := p229_.1
      have q237_ : (m227_ 7 9).toInt = (m227_ 78 313).toInt := by omega
      have q238_ : (m227_ 16 9).toInt = (m227_ 80 313).toInt := by omega
      have q239_ : (m227_ 0 12).toInt = (m227_ 77 67).toInt := by omega
      refine T_ql (i_add rfl l_7 (by omega) (by omega)) ?_
      intro x240_ h241_
      exact ih j r hj hr x240_ m227_ (by omega) (by omega) g228_ q237_ q238_ q239_ (by omega)
    refine T_sw rfl l_8 (fun s242_ => ?_) (fun s242_ => ?_)
    · refine T_qg (i_add rfl l_1 (by omega) (by omega)) (by omega) (by omega) ?_
      refine T_qg (i_add rfl l_2 (by omega) (by omega)) (by omega) (by omega) ?_
      refine T_qcE (t_X11_tried hn hj _ _ M hG) ?_
      intro r243_ m244_ e247_ p246_
      have g245_ := p246_.1
      have f248_ : (m244_ 7 9).toInt = (M 7 9).toInt := by rw [p246_.2 7 9 (by decide)]
      have f249_ : (m244_ 78 313).toInt = (M 78 313).toInt := by rw [p246_.2 78 313 (by decide)]
      have f250_ : (m244_ 16 9).toInt = (M 16 9).toInt := by rw [p246_.2 16 9 (by decide)]
      have f251_ : (m244_ 80 313).toInt = (M 80 313).toInt := by rw [p246_.2 80 313 (by decide)]
      have f252_ : (m244_ 0 12).toInt = (M 0 12).toInt := by rw [p246_.2 0 12 (by decide)]
      have f253_ : (m244_ 77 67).toInt = (M 77 67).toInt := by rw [p246_.2 77 67 (by decide)]
      refine T_qg (i_add rfl l_1 (by omega) (by omega)) (by omega) (by omega) ?_
      refine T_qg (i_add rfl l_2 (by omega) (by omega)) (by omega) (by omega) ?_
      refine T_qcE (t_X12_tried hn _ _ m244_ g245_) ?_
      intro r254_ m255_ e258_ p257_
      have g256_ := p257_.2.1
      have f259_ : (m255_ 7 9).toInt = (m244_ 7 9).toInt := by rw [p257_.2.2 7 9 (by decide)]
      have f260_ : (m255_ 16 9).toInt = (m244_ 16 9).toInt := by rw [p257_.2.2 16 9 (by decide)]
      have f261_ : (m255_ 80 313).toInt = (m244_ 80 313).toInt := by rw [p257_.2.2 80 313 (by decide)]
      have f262_ : (m255_ 0 12).toInt = (m244_ 0 12).toInt := by rw [p257_.2.2 0 12 (by decide)]
      have f263_ : (m255_ 77 67).toInt = (m244_ 77 67).toInt := by rw [p257_.2.2 77 67 (by decide)]
      have w264_ := p257_.1
      have q265_ : (m255_ 7 9).toInt = (m255_ 78 313).toInt := by omega
      have q266_ : (m255_ 16 9).toInt = (m255_ 80 313).toInt := by omega
      have q267_ : (m255_ 0 12).toInt = (m255_ 77 67).toInt := by omega
      refine T_ql (i_add rfl l_7 (by omega) (by omega)) ?_
      intro x268_ h269_
      exact ih j r hj hr x268_ m255_ (by omega) (by omega) g256_ q265_ q266_ q267_ (by omega)
    refine T_sw rfl l_9 (fun s270_ => ?_) (fun s270_ => ?_)
    · refine T_qg (i_add rfl l_1 (by omega) (by omega)) (by omega) (by omega) ?_
      refine T_qg (i_add rfl l_2 (by omega) (by omega)) (by omega) (by omega) ?_
      refine T_qg (i_add rfl l_3 (by omega) (by omega)) (by omega) (by omega) ?_
      refine T_qcE (t_X11_has hn hj _ _ _ M hG) ?_
      intro r271_ m272_ e275_ p274_
      have g273_ := p274_.1
      have f276_ : (m272_ 7 9).toInt = (M 7 9).toInt := by rw [p274_.2 7 9 (by decide)]
      have f277_ : (m272_ 78 313).toInt = (M 78 313).toInt := by rw [p274_.2 78 313 (by decide)]
      have f278_ : (m272_ 16 9).toInt = (M 16 9).toInt := by rw [p274_.2 16 9 (by decide)]
      have f279_ : (m272_ 80 313).toInt = (M 80 313).toInt := by rw [p274_.2 80 313 (by decide)]
      have f280_ : (m272_ 0 12).toInt = (M 0 12).toInt := by rw [p274_.2 0 12 (by decide)]
      have f281_ : (m272_ 77 67).toInt = (M 77 67).toInt := by rw [p274_.2 77 67 (by decide)]
      refine T_qg (i_add rfl l_1 (by omega) (by omega)) (by omega) (by omega) ?_
      refine T_qg (i_add rfl l_2 (by omega) (by omega)) (by omega) (by omega) ?_
      refine T_qg (i_add rfl l_3 (by omega) (by omega)) (by omega) (by omega) ?_
      refine T_qcE (t_X12_has hn _ _ _ m272_ g273_) ?_
      intro r282_ m283_ e286_ p285_
      have g284_ := p285_.2.1
      have f287_ : (m283_ 7 9).toInt = (m272_ 7 9).toInt := by rw [p285_.2.2 7 9 (by decide)]
      have f288_ : (m283_ 16 9).toInt = (m272_ 16 9).toInt := by rw [p285_.2.2 16 9 (by decide)]
      have f289_ : (m283_ 80 313).toInt = (m272_ 80 313).toInt := by rw [p285_.2.2 80 313 (by decide)]
      have f290_ : (m283_ 0 12).toInt = (m272_ 0 12).toInt := by rw [p285_.2.2 0 12 (by decide)]
      have f291_ : (m283_ 77 67).toInt = (m272_ 77 67).toInt := by rw [p285_.2.2 77 67 (by decide)]
      have w292_ := p285_.1
      have q293_ : (m283_ 7 9).toInt = (m283_ 78 313).toInt := by omega
      have q294_ : (m283_ 16 9).toInt = (m283_ 80 313).toInt := by omega
      have q295_ : (m283_ 0 12).toInt = (m283_ 77 67).toInt := by omega
      refine T_ql (i_add rfl l_7 (by omega) (by omega)) ?_
      intro x296_ h297_
      exact ih j r hj hr x296_ m283_ (by omega) (by omega) g284_ q293_ q294_ q295_ (by omega)
    refine T_sw rfl l_10 (fun s298_ => ?_) (fun s298_ => ?_)
    · refine T_qg (i_add rfl l_1 (by omega) (by omega)) (by omega) (by omega) ?_
      refine T_qg (i_add rfl l_2 (by omega) (by omega)) (by omega) (by omega) ?_
      refine T_qcE (t_X11_alike hn hj _ _ M hG) ?_
      intro r299_ m300_ e303_ p302_
      have g301_ := p302_.2.1
      have f304_ : (m300_ 7 9).toInt = (M 7 9).toInt := by rw [p302_.2.2 7 9 (by decide)]
      have f305_ : (m300_ 78 313).toInt = (M 78 313).toInt := by rw [p302_.2.2 78 313 (by decide)]
      have f306_ : (m300_ 16 9).toInt = (M 16 9).toInt := by rw [p302_.2.2 16 9 (by decide)]
      have f307_ : (m300_ 80 313).toInt = (M 80 313).toInt := by rw [p302_.2.2 80 313 (by decide)]
      have f308_ : (m300_ 0 12).toInt = (M 0 12).toInt := by rw [p302_.2.2 0 12 (by decide)]
      have f309_ : (m300_ 77 67).toInt = (M 77 67).toInt := by rw [p302_.2.2 77 67 (by decide)]
      refine T_qg (i_add rfl l_1 (by omega) (by omega)) (by omega) (by omega) ?_
      refine T_qg (i_add rfl l_2 (by omega) (by omega)) (by omega) (by omega) ?_
      refine T_qcE (t_X12_alike hn _ _ m300_ g301_) ?_
      intro r310_ m311_ e314_ p313_
      have g312_ := p313_.2.1
      have f315_ : (m311_ 7 9).toInt = (m300_ 7 9).toInt := by rw [p313_.2.2 7 9 (by decide)]
      have f316_ : (m311_ 78 313).toInt = (m300_ 78 313).toInt := by rw [p313_.2.2 78 313 (by decide)]
      have f317_ : (m311_ 16 9).toInt = (m300_ 16 9).toInt := by rw [p313_.2.2 16 9 (by decide)]
      have f318_ : (m311_ 80 313).toInt = (m300_ 80 313).toInt := by rw [p313_.2.2 80 313 (by decide)]
      have f319_ : (m311_ 0 12).toInt = (m300_ 0 12).toInt := by rw [p313_.2.2 0 12 (by decide)]
      have f320_ : (m311_ 77 67).toInt = (m300_ 77 67).toInt := by rw [p313_.2.2 77 67 (by decide)]
      have q321_ : (m311_ 7 9).toInt = (m311_ 78 313).toInt := by omega
      have q322_ : (m311_ 16 9).toInt = (m311_ 80 313).toInt := by omega
      have q323_ : (m311_ 0 12).toInt = (m311_ 77 67).toInt := by omega
      refine T_ql (i_add rfl l_7 (by omega) (by omega)) ?_
      intro x324_ h325_
      exact ih j r hj hr x324_ m311_ (by omega) (by omega) g312_ q321_ q322_ q323_ (by omega)
    refine T_sw rfl l_11 (fun s326_ => ?_) (fun s326_ => ?_)
    · refine T_qg (i_add rfl l_1 (by omega) (by omega)) (by omega) (by omega) ?_
      refine T_qg (i_add rfl l_2 (by omega) (by omega)) (by omega) (by omega) ?_
      refine T_qg (i_add rfl l_3 (by omega) (by omega)) (by omega) (by omega) ?_
      refine T_qcE (t_X11_cost hn hj _ _ _ M hG) ?_
      intro r327_ m328_ e331_ p330_
      have g329_ := p330_.2.1
      have f332_ : (m328_ 7 9).toInt = (M 7 9).toInt := by rw [p330_.2.2 7 9 (by decide)]
      have f333_ : (m328_ 78 313).toInt = (M 78 313).toInt := by rw [p330_.2.2 78 313 (by decide)]
      have f334_ : (m328_ 16 9).toInt = (M 16 9).toInt := by rw [p330_.2.2 16 9 (by decide)]
      have f335_ : (m328_ 80 313).toInt = (M 80 313).toInt := by rw [p330_.2.2 80 313 (by decide)]
      have f336_ : (m328_ 0 12).toInt = (M 0 12).toInt := by rw [p330_.2.2 0 12 (by decide)]
      have f337_ : (m328_ 77 67).toInt = (M 77 67).toInt := by rw [p330_.2.2 77 67 (by decide)]
      refine T_qg (i_add rfl l_1 (by omega) (by omega)) (by omega) (by omega) ?_
      refine T_qg (i_add rfl l_2 (by omega) (by omega)) (by omega) (by omega) ?_
      refine T_qg (i_add rfl l_3 (by omega) (by omega)) (by omega) (by omega) ?_
      refine T_qcE (t_X12_cost hn _ _ _ m328_ g329_) ?_
      intro r338_ m339_ e342_ p341_
      have g340_ := p341_.2.1
      have f343_ : (m339_ 7 9).toInt = (m328_ 7 9).toInt := by rw [p341_.2.2 7 9 (by decide)]
      have f344_ : (m339_ 78 313).toInt = (m328_ 78 313).toInt := by rw [p341_.2.2 78 313 (by decide)]
      have f345_ : (m339_ 16 9).toInt = (m328_ 16 9).toInt := by rw [p341_.2.2 16 9 (by decide)]
      have f346_ : (m339_ 80 313).toInt = (m328_ 80 313).toInt := by rw [p341_.2.2 80 313 (by decide)]
      have f347_ : (m339_ 0 12).toInt = (m328_ 0 12).toInt := by rw [p341_.2.2 0 12 (by decide)]
      have f348_ : (m339_ 77 67).toInt = (m328_ 77 67).toInt := by rw [p341_.2.2 77 67 (by decide)]
      have q349_ : (m339_ 7 9).toInt = (m339_ 78 313).toInt := by omega
      have q350_ : (m339_ 16 9).toInt = (m339_ 80 313).toInt := by omega
      have q351_ : (m339_ 0 12).toInt = (m339_ 77 67).toInt := by omega
      refine T_ql (i_add rfl l_7 (by omega) (by omega)) ?_
      intro x352_ h353_
      exact ih j r hj hr x352_ m339_ (by omega) (by omega) g340_ q349_ q350_ q351_ (by omega)
    refine T_sw rfl l_12 (fun s354_ => ?_) (fun s354_ => ?_)
    · refine T_qg (i_add rfl l_1 (by omega) (by omega)) (by omega) (by omega) ?_
      refine T_qg (i_add rfl l_2 (by omega) (by omega)) (by omega) (by omega) ?_
      refine T_qg (i_add rfl l_3 (by omega) (by omega)) (by omega) (by omega) ?_
      refine T_qg (i_add rfl l_4 (by omega) (by omega)) (by omega) (by omega) ?_
      refine T_qg (i_add rfl l_5 (by omega) (by omega)) (by omega) (by omega) ?_
      refine T_qcE (t_X11_soonest hn hj _ _ _ _ _ M hG) ?_
      intro r355_ m356_ e359_ p358_
      have g357_ := p358_.1
      have f360_ : (m356_ 7 9).toInt = (M 7 9).toInt := by rw [p358_.2 7 9 (by decide)]
      have f361_ : (m356_ 78 313).toInt = (M 78 313).toInt := by rw [p358_.2 78 313 (by decide)]
      have f362_ : (m356_ 16 9).toInt = (M 16 9).toInt := by rw [p358_.2 16 9 (by decide)]
      have f363_ : (m356_ 80 313).toInt = (M 80 313).toInt := by rw [p358_.2 80 313 (by decide)]
      have f364_ : (m356_ 0 12).toInt = (M 0 12).toInt := by rw [p358_.2 0 12 (by decide)]
      have f365_ : (m356_ 77 67).toInt = (M 77 67).toInt := by rw [p358_.2 77 67 (by decide)]
      refine T_qg (i_add rfl l_1 (by omega) (by omega)) (by omega) (by omega) ?_
      refine T_qg (i_add rfl l_2 (by omega) (by omega)) (by omega) (by omega) ?_
      refine T_qg (i_add rfl l_3 (by omega) (by omega)) (by omega) (by omega) ?_
      refine T_qg (i_add rfl l_4 (by omega) (by omega)) (by omega) (by omega) ?_
      refine T_qg (i_add rfl l_5 (by omega) (by omega)) (by omega) (by omega) ?_
      refine T_qcE (t_X12_soonest hn _ _ _ _ _ m356_ g357_) ?_
      intro r366_ m367_ e370_ p369_
      have g368_ := p369_.1
      have f371_ : (m367_ 7 9).toInt = (m356_ 7 9).toInt := by rw [p369_.2 7 9 (by decide)]
      have f372_ : (m367_ 78 313).toInt = (m356_ 78 313).toInt := by rw [p369_.2 78 313 (by decide)]
      have f373_ : (m367_ 16 9).toInt = (m356_ 16 9).toInt := by rw [p369_.2 16 9 (by decide)]
      have f374_ : (m367_ 80 313).toInt = (m356_ 80 313).toInt := by rw [p369_.2 80 313 (by decide)]
      have f375_ : (m367_ 0 12).toInt = (m356_ 0 12).toInt := by rw [p369_.2 0 12 (by decide)]
      have f376_ : (m367_ 77 67).toInt = (m356_ 77 67).toInt := by rw [p369_.2 77 67 (by decide)]
      have q377_ : (m367_ 7 9).toInt = (m367_ 78 313).toInt := by omega
      have q378_ : (m367_ 16 9).toInt = (m367_ 80 313).toInt := by omega
      have q379_ : (m367_ 0 12).toInt = (m367_ 77 67).toInt := by omega
      refine T_ql (i_add rfl l_7 (by omega) (by omega)) ?_
      intro x380_ h381_
      exact ih j r hj hr x380_ m367_ (by omega) (by omega) g368_ q377_ q378_ q379_ (by omega)
    refine T_sw rfl l_13 (fun s382_ => ?_) (fun s382_ => ?_)
    · refine T_qg (i_add rfl l_1 (by omega) (by omega)) (by omega) (by omega) ?_
      refine T_qg (i_add rfl l_2 (by omega) (by omega)) (by omega) (by omega) ?_
      refine T_qg (i_add rfl l_3 (by omega) (by omega)) (by omega) (by omega) ?_
      refine T_qg (i_add rfl l_4 (by omega) (by omega)) (by omega) (by omega) ?_
      refine T_qg (i_add rfl l_5 (by omega) (by omega)) (by omega) (by omega) ?_
      refine T_qcE (t_X11_cheapest hn hj _ _ _ _ _ M hG) ?_
      intro r383_ m384_ e387_ p386_
      have g385_ := p386_.1
      have f388_ : (m384_ 7 9).toInt = (M 7 9).toInt := by rw [p386_.2 7 9 (by decide)]
      have f389_ : (m384_ 78 313).toInt = (M 78 313).toInt := by rw [p386_.2 78 313 (by decide)]
      have f390_ : (m384_ 16 9).toInt = (M 16 9).toInt := by rw [p386_.2 16 9 (by decide)]
      have f391_ : (m384_ 80 313).toInt = (M 80 313).toInt := by rw [p386_.2 80 313 (by decide)]
      have f392_ : (m384_ 0 12).toInt = (M 0 12).toInt := by rw [p386_.2 0 12 (by decide)]
      have f393_ : (m384_ 77 67).toInt = (M 77 67).toInt := by rw [p386_.2 77 67 (by decide)]
      refine T_qg (i_add rfl l_1 (by omega) (by omega)) (by omega) (by omega) ?_
      refine T_qg (i_add rfl l_2 (by omega) (by omega)) (by omega) (by omega) ?_
      refine T_qg (i_add rfl l_3 (by omega) (by omega)) (by omega) (by omega) ?_
      refine T_qg (i_add rfl l_4 (by omega) (by omega)) (by omega) (by omega) ?_
      refine T_qg (i_add rfl l_5 (by omega) (by omega)) (by omega) (by omega) ?_
      refine T_qcE (t_X12_cheapest hn _ _ _ _ _ m384_ g385_) ?_
      intro r394_ m395_ e398_ p397_
      have g396_ := p397_.1
      have f399_ : (m395_ 7 9).toInt = (m384_ 7 9).toInt := by rw [p397_.2 7 9 (by decide)]
      have f400_ : (m395_ 78 313).toInt = (m384_ 78 313).toInt := by rw [p397_.2 78 313 (by decide)]
      have f401_ : (m395_ 16 9).toInt = (m384_ 16 9).toInt := by rw [p397_.2 16 9 (by decide)]
      have f402_ : (m395_ 80 313).toInt = (m384_ 80 313).toInt := by rw [p397_.2 80 313 (by decide)]
      have f403_ : (m395_ 0 12).toInt = (m384_ 0 12).toInt := by rw [p397_.2 0 12 (by decide)]
      have f404_ : (m395_ 77 67).toInt = (m384_ 77 67).toInt := by rw [p397_.2 77 67 (by decide)]
      have q405_ : (m395_ 7 9).toInt = (m395_ 78 313).toInt := by omega
      have q406_ : (m395_ 16 9).toInt = (m395_ 80 313).toInt := by omega
      have q407_ : (m395_ 0 12).toInt = (m395_ 77 67).toInt := by omega
      refine T_ql (i_add rfl l_7 (by omega) (by omega)) ?_
      intro x408_ h409_
      exact ih j r hj hr x408_ m395_ (by omega) (by omega) g396_ q405_ q406_ q407_ (by omega)
    refine T_sw rfl l_14 (fun s410_ => ?_) (fun s410_ => ?_)
    · refine T_qg (i_add rfl l_1 (by omega) (by omega)) (by omega) (by omega) ?_
      refine T_qg (i_add rfl l_2 (by omega) (by omega)) (by omega) (by omega) ?_
      refine T_qg (i_add rfl l_3 (by omega) (by omega)) (by omega) (by omega) ?_
      refine T_qcE (t_X11_loophole hn hj _ _ _ M hG) ?_
      intro r411_ m412_ e415_ p414_
      have g413_ := p414_.1
      have f416_ : (m412_ 7 9).toInt = (M 7 9).toInt := by rw [p414_.2 7 9 (by decide)]
      have f417_ : (m412_ 78 313).toInt = (M 78 313).toInt := by rw [p414_.2 78 313 (by decide)]
      have f418_ : (m412_ 16 9).toInt = (M 16 9).toInt := by rw [p414_.2 16 9 (by decide)]
      have f419_ : (m412_ 80 313).toInt = (M 80 313).toInt := by rw [p414_.2 80 313 (by decide)]
      have f420_ : (m412_ 0 12).toInt = (M 0 12).toInt := by rw [p414_.2 0 12 (by decide)]
      have f421_ : (m412_ 77 67).toInt = (M 77 67).toInt := by rw [p414_.2 77 67 (by decide)]
      refine T_qg (i_add rfl l_1 (by omega) (by omega)) (by omega) (by omega) ?_
      refine T_qg (i_add rfl l_2 (by omega) (by omega)) (by omega) (by omega) ?_
      refine T_qg (i_add rfl l_3 (by omega) (by omega)) (by omega) (by omega) ?_
      refine T_qcE (t_X12_loophole hn _ _ _ m412_ g413_) ?_
      intro r422_ m423_ e426_ p425_
      have g424_ := p425_.1
      have f427_ : (m423_ 7 9).toInt = (m412_ 7 9).toInt := by rw [p425_.2 7 9 (by decide)]
      have f428_ : (m423_ 78 313).toInt = (m412_ 78 313).toInt := by rw [p425_.2 78 313 (by decide)]
      have f429_ : (m423_ 16 9).toInt = (m412_ 16 9).toInt := by rw [p425_.2 16 9 (by decide)]
      have f430_ : (m423_ 80 313).toInt = (m412_ 80 313).toInt := by rw [p425_.2 80 313 (by decide)]
      have f431_ : (m423_ 0 12).toInt = (m412_ 0 12).toInt := by rw [p425_.2 0 12 (by decide)]
      have f432_ : (m423_ 77 67).toInt = (m412_ 77 67).toInt := by rw [p425_.2 77 67 (by decide)]
      have q433_ : (m423_ 7 9).toInt = (m423_ 78 313).toInt := by omega
      have q434_ : (m423_ 16 9).toInt = (m423_ 80 313).toInt := by omega
      have q435_ : (m423_ 0 12).toInt = (m423_ 77 67).toInt := by omega
      refine T_ql (i_add rfl l_7 (by omega) (by omega)) ?_
      intro x436_ h437_
      exact ih j r hj hr x436_ m423_ (by omega) (by omega) g424_ q433_ q434_ q435_ (by omega)
    refine T_sw rfl l_15 (fun s438_ => ?_) (fun s438_ => ?_)
    · refine T_qg (i_add rfl l_1 (by omega) (by omega)) (by omega) (by omega) ?_
      refine T_qg (i_add rfl l_2 (by omega) (by omega)) (by omega) (by omega) ?_
      refine T_qg (i_add rfl l_3 (by omega) (by omega)) (by omega) (by omega) ?_
      refine T_qcE (t_X11_jobs hn hj _ _ _ M hG) ?_
      intro r439_ m440_ e443_ p442_
      have g441_ := p442_.2.2.1
      have f444_ : (m440_ 7 9).toInt = (M 7 9).toInt := by rw [p442_.2.2.2 7 9 (by decide)]
      have f445_ : (m440_ 78 313).toInt = (M 78 313).toInt := by rw [p442_.2.2.2 78 313 (by decide)]
      have f446_ : (m440_ 16 9).toInt = (M 16 9).toInt := by rw [p442_.2.2.2 16 9 (by decide)]
      have f447_ : (m440_ 80 313).toInt = (M 80 313).toInt := by rw [p442_.2.2.2 80 313 (by decide)]
      have f448_ : (m440_ 0 12).toInt = (M 0 12).toInt := by rw [p442_.2.2.2 0 12 (by decide)]
      have f449_ : (m440_ 77 67).toInt = (M 77 67).toInt := by rw [p442_.2.2.2 77 67 (by decide)]
      refine T_qg (i_add rfl l_1 (by omega) (by omega)) (by omega) (by omega) ?_
      refine T_qg (i_add rfl l_2 (by omega) (by omega)) (by omega) (by omega) ?_
      refine T_qg (i_add rfl l_3 (by omega) (by omega)) (by omega) (by omega) ?_
      refine T_qcE (t_X12_jobs hn _ _ _ m440_ g441_) ?_
      intro r450_ m451_ e454_ p453_
      have g452_ := p453_.2.1
      have f455_ : (m451_ 7 9).toInt = (m440_ 7 9).toInt := by rw [p453_.2.2 7 9 (by decide)]
      have f456_ : (m451_ 78 313).toInt = (m440_ 78 313).toInt := by rw [p453_.2.2 78 313 (by decide)]
      have f457_ : (m451_ 16 9).toInt = (m440_ 16 9).toInt := by rw [p453_.2.2 16 9 (by decide)]
      have f458_ : (m451_ 80 313).toInt = (m440_ 80 313).toInt := by rw [p453_.2.2 80 313 (by decide)]
      have f459_ : (m451_ 0 12).toInt = (m440_ 0 12).toInt := by rw [p453_.2.2 0 12 (by decide)]
      have f460_ : (m451_ 77 67).toInt = (m440_ 77 67).toInt := by rw [p453_.2.2 77 67 (by decide)]
      have q461_ : (m451_ 7 9).toInt = (m451_ 78 313).toInt := by omega
      have q462_ : (m451_ 16 9).toInt = (m451_ 80 313).toInt := by omega
      have q463_ : (m451_ 0 12).toInt = (m451_ 77 67).toInt := by omega
      refine T_ql (i_add rfl l_7 (by omega) (by omega)) ?_
      intro x464_ h465_
      exact ih j r hj hr x464_ m451_ (by omega) (by omega) g452_ q461_ q462_ q463_ (by omega)
    refine T_sw rfl l_16 (fun s466_ => ?_) (fun s466_ => ?_)
    · refine T_qg (i_add rfl l_1 (by omega) (by omega)) (by omega) (by omega) ?_
      refine T_qg (i_add rfl l_2 (by omega) (by omega)) (by omega) (by omega) ?_
      refine T_qg (i_add rfl l_3 (by omega) (by omega)) (by omega) (by omega) ?_
      refine T_qcE (t_X11_rivals hn _ _ _ M hG) ?_
      intro r467_ m468_ e471_ p470_
      have g469_ := p470_.1
      have f472_ : (m468_ 7 9).toInt = (M 7 9).toInt := by rw [p470_.2 7 9 (by decide)]
      have f473_ : (m468_ 78 313).toInt = (M 78 313).toInt := by rw [p470_.2 78 313 (by decide)]
      have f474_ : (m468_ 16 9).toInt = (M 16 9).toInt := by rw [p470_.2 16 9 (by decide)]
      have f475_ : (m468_ 80 313).toInt = (M 80 313).toInt := by rw [p470_.2 80 313 (by decide)]
      have f476_ : (m468_ 0 12).toInt = (M 0 12).toInt := by rw [p470_.2 0 12 (by decide)]
      have f477_ : (m468_ 77 67).toInt = (M 77 67).toInt := by rw [p470_.2 77 67 (by decide)]
      refine T_qg (i_add rfl l_1 (by omega) (by omega)) (by omega) (by omega) ?_
      refine T_qg (i_add rfl l_2 (by omega) (by omega)) (by omega) (by omega) ?_
      refine T_qg (i_add rfl l_3 (by omega) (by omega)) (by omega) (by omega) ?_
      refine T_qcE (t_X12_rivals hn _ _ _ m468_ g469_) ?_
      intro r478_ m479_ e482_ p481_
      have g480_ := p481_.1
      have f483_ : (m479_ 7 9).toInt = (m468_ 7 9).toInt := by rw [p481_.2 7 9 (by decide)]
      have f484_ : (m479_ 78 313).toInt = (m468_ 78 313).toInt := by rw [p481_.2 78 313 (by decide)]
      have f485_ : (m479_ 16 9).toInt = (m468_ 16 9).toInt := by rw [p481_.2 16 9 (by decide)]
      have f486_ : (m479_ 80 313).toInt = (m468_ 80 313).toInt := by rw [p481_.2 80 313 (by decide)]
      have f487_ : (m479_ 0 12).toInt = (m468_ 0 12).toInt := by rw [p481_.2 0 12 (by decide)]
      have f488_ : (m479_ 77 67).toInt = (m468_ 77 67).toInt := by rw [p481_.2 77 67 (by decide)]
      have q489_ : (m479_ 7 9).toInt = (m479_ 78 313).toInt := by omega
      have q490_ : (m479_ 16 9).toInt = (m479_ 80 313).toInt := by omega
      have q491_ : (m479_ 0 12).toInt = (m479_ 77 67).toInt := by omega
      refine T_ql (i_add rfl l_7 (by omega) (by omega)) ?_
      intro x492_ h493_
      exact ih j r hj hr x492_ m479_ (by omega) (by omega) g480_ q489_ q490_ q491_ (by omega)
    refine T_sw rfl l_17 (fun s494_ => ?_) (fun s494_ => ?_)
    · refine T_qg (i_add rfl l_1 (by omega) (by omega)) (by omega) (by omega) ?_
      refine T_qg (i_add rfl l_2 (by omega) (by omega)) (by omega) (by omega) ?_
      refine T_qg (i_add rfl l_3 (by omega) (by omega)) (by omega) (by omega) ?_
      refine T_qg (i_add rfl l_4 (by omega) (by omega)) (by omega) (by omega) ?_
      refine T_qcE (t_X11_histories hn hj _ _ _ _ M hG) ?_
      intro r495_ m496_ e499_ p498_
      have g497_ := p498_.2.1
      have f500_ : (m496_ 7 9).toInt = (M 7 9).toInt := by rw [p498_.2.2 7 9 (by decide)]
      have f501_ : (m496_ 78 313).toInt = (M 78 313).toInt := by rw [p498_.2.2 78 313 (by decide)]
      have f502_ : (m496_ 16 9).toInt = (M 16 9).toInt := by rw [p498_.2.2 16 9 (by decide)]
      have f503_ : (m496_ 80 313).toInt = (M 80 313).toInt := by rw [p498_.2.2 80 313 (by decide)]
      have f504_ : (m496_ 0 12).toInt = (M 0 12).toInt := by rw [p498_.2.2 0 12 (by decide)]
      have f505_ : (m496_ 77 67).toInt = (M 77 67).toInt := by rw [p498_.2.2 77 67 (by decide)]
      refine T_qg (i_add rfl l_1 (by omega) (by omega)) (by omega) (by omega) ?_
      refine T_qg (i_add rfl l_2 (by omega) (by omega)) (by omega) (by omega) ?_
      refine T_qg (i_add rfl l_3 (by omega) (by omega)) (by omega) (by omega) ?_
      refine T_qg (i_add rfl l_4 (by omega) (by omega)) (by omega) (by omega) ?_
      refine T_qcE (t_X12_histories hn _ _ _ _ m496_ g497_) ?_
      intro r506_ m507_ e510_ p509_
      have g508_ := p509_.2.1
      have f511_ : (m507_ 7 9).toInt = (m496_ 7 9).toInt := by rw [p509_.2.2 7 9 (by decide)]
      have f512_ : (m507_ 78 313).toInt = (m496_ 78 313).toInt := by rw [p509_.2.2 78 313 (by decide)]
      have f513_ : (m507_ 16 9).toInt = (m496_ 16 9).toInt := by rw [p509_.2.2 16 9 (by decide)]
      have f514_ : (m507_ 80 313).toInt = (m496_ 80 313).toInt := by rw [p509_.2.2 80 313 (by decide)]
      have f515_ : (m507_ 0 12).toInt = (m496_ 0 12).toInt := by rw [p509_.2.2 0 12 (by decide)]
      have f516_ : (m507_ 77 67).toInt = (m496_ 77 67).toInt := by rw [p509_.2.2 77 67 (by decide)]
      have q517_ : (m507_ 7 9).toInt = (m507_ 78 313).toInt := by omega
      have q518_ : (m507_ 16 9).toInt = (m507_ 80 313).toInt := by omega
      have q519_ : (m507_ 0 12).toInt = (m507_ 77 67).toInt := by omega
      refine T_ql (i_add rfl l_7 (by omega) (by omega)) ?_
      intro x520_ h521_
      exact ih j r hj hr x520_ m507_ (by omega) (by omega) g508_ q517_ q518_ q519_ (by omega)
    refine T_sw rfl l_18 (fun s522_ => ?_) (fun s522_ => ?_)
    · refine T_qg (i_add rfl l_1 (by omega) (by omega)) (by omega) (by omega) ?_
      refine T_qg (i_add rfl l_2 (by omega) (by omega)) (by omega) (by omega) ?_
      refine T_qg (i_add rfl l_3 (by omega) (by omega)) (by omega) (by omega) ?_
      refine T_qg (i_add rfl l_4 (by omega) (by omega)) (by omega) (by omega) ?_
      refine T_eq rfl l_0 (fun c523_ => ?_) (fun c523_ => ?_)
      · refine T_qg (i_add rfl l_5 (by omega) (by omega)) (by omega) (by omega) ?_
        refine T_eq rfl l_0 (fun c524_ => ?_) (fun c524_ => ?_)
        · refine T_qg (i_add rfl l_6 (by omega) (by omega)) (by omega) (by omega) ?_
          refine T_qcE (t_X11_game hn _ _ _ _ _ _ M hG (by decide) (by decide)) ?_
          intro r525_ m526_ e529_ p528_
          have g527_ := p528_.2.1
          have f530_ : (m526_ 7 9).toInt = (M 7 9).toInt := by rw [p528_.2.2 7 9 (by decide)]
          have f531_ : (m526_ 78 313).toInt = (M 78 313).toInt := by rw [p528_.2.2 78 313 (by decide)]
          have f532_ : (m526_ 16 9).toInt = (M 16 9).toInt := by rw [p528_.2.2 16 9 (by decide)]
          have f533_ : (m526_ 80 313).toInt = (M 80 313).toInt := by rw [p528_.2.2 80 313 (by decide)]
          have f534_ : (m526_ 0 12).toInt = (M 0 12).toInt := by rw [p528_.2.2 0 12 (by decide)]
          have f535_ : (m526_ 77 67).toInt = (M 77 67).toInt := by rw [p528_.2.2 77 67 (by decide)]
          refine T_qg (i_add rfl l_1 (by omega) (by omega)) (by omega) (by omega) ?_
          refine T_qg (i_add rfl l_2 (by omega) (by omega)) (by omega) (by omega) ?_
          refine T_qg (i_add rfl l_3 (by omega) (by omega)) (by omega) (by omega) ?_
          refine T_qg (i_add rfl l_4 (by omega) (by omega)) (by omega) (by omega) ?_
          refine T_eq rfl l_0 (fun c536_ => ?_) (fun c536_ => ?_)
          · refine T_qg (i_add rfl l_5 (by omega) (by omega)) (by omega) (by omega) ?_
            refine T_eq rfl l_0 (fun c537_ => ?_) (fun c537_ => ?_)
            · refine T_qg (i_add rfl l_6 (by omega) (by omega)) (by omega) (by omega) ?_
              refine T_qcE (t_X12_game hn _ _ _ _ _ _ m526_ g527_ (by decide) (by decide)) ?_
              intro r538_ m539_ e542_ p541_
              have g540_ := p541_.2.1
              have f543_ : (m539_ 7 9).toInt = (m526_ 7 9).toInt := by rw [p541_.2.2 7 9 (by decide)]
              have f544_ : (m539_ 78 313).toInt = (m526_ 78 313).toInt := by rw [p541_.2.2 78 313 (by decide)]
              have f545_ : (m539_ 16 9).toInt = (m526_ 16 9).toInt := by rw [p541_.2.2 16 9 (by decide)]
              have f546_ : (m539_ 80 313).toInt = (m526_ 80 313).toInt := by rw [p541_.2.2 80 313 (by decide)]
              have f547_ : (m539_ 0 12).toInt = (m526_ 0 12).toInt := by rw [p541_.2.2 0 12 (by decide)]
              have f548_ : (m539_ 77 67).toInt = (m526_ 77 67).toInt := by rw [p541_.2.2 77 67 (by decide)]
              have q549_ : (m539_ 7 9).toInt = (m539_ 78 313).toInt := by omega
              have q550_ : (m539_ 16 9).toInt = (m539_ 80 313).toInt := by omega
              have q551_ : (m539_ 0 12).toInt = (m539_ 77 67).toInt := by omega
              refine T_ql (i_add rfl l_7 (by omega) (by omega)) ?_
              intro x552_ h553_
              exact ih j r hj hr x552_ m539_ (by omega) (by omega) g540_ q549_ q550_ q551_ (by omega)
            · refine T_qg (i_add rfl l_6 (by omega) (by omega)) (by omega) (by omega) ?_
              refine T_qcE (t_X12_game hn _ _ _ _ _ _ m526_ g527_ (by decide) (by decide)) ?_
              intro r554_ m555_ e558_ p557_
              have g556_ := p557_.2.1
              have f559_ : (m555_ 7 9).toInt = (m526_ 7 9).toInt := by rw [p557_.2.2 7 9 (by decide)]
              have f560_ : (m555_ 78 313).toInt = (m526_ 78 313).toInt := by rw [p557_.2.2 78 313 (by decide)]
              have f561_ : (m555_ 16 9).toInt = (m526_ 16 9).toInt := by rw [p557_.2.2 16 9 (by decide)]
              have f562_ : (m555_ 80 313).toInt = (m526_ 80 313).toInt := by rw [p557_.2.2 80 313 (by decide)]
              have f563_ : (m555_ 0 12).toInt = (m526_ 0 12).toInt := by rw [p557_.2.2 0 12 (by decide)]
              have f564_ : (m555_ 77 67).toInt = (m526_ 77 67).toInt := by rw [p557_.2.2 77 67 (by decide)]
              have q565_ : (m555_ 7 9).toInt = (m555_ 78 313).toInt := by omega
              have q566_ : (m555_ 16 9).toInt = (m555_ 80 313).toInt := by omega
              have q567_ : (m555_ 0 12).toInt = (m555_ 77 67).toInt := by omega
              refine T_ql (i_add rfl l_7 (by omega) (by omega)) ?_
              intro x568_ h569_
              exact ih j r hj hr x568_ m555_ (by omega) (by omega) g556_ q565_ q566_ q567_ (by omega)
          · refine T_qg (i_add rfl l_5 (by omega) (by omega)) (by omega) (by omega) ?_
            refine T_eq rfl l_0 (fun c570_ => ?_) (fun c570_ => ?_)
            · refine T_qg (i_add rfl l_6 (by omega) (by omega)) (by omega) (by omega) ?_
              refine T_qcE (t_X12_game hn _ _ _ _ _ _ m526_ g527_ (by decide) (by decide)) ?_
              intro r571_ m572_ e575_ p574_
              have g573_ := p574_.2.1
              have f576_ : (m572_ 7 9).toInt = (m526_ 7 9).toInt := by rw [p574_.2.2 7 9 (by decide)]
              have f577_ : (m572_ 78 313).toInt = (m526_ 78 313).toInt := by rw [p574_.2.2 78 313 (by decide)]
              have f578_ : (m572_ 16 9).toInt = (m526_ 16 9).toInt := by rw [p574_.2.2 16 9 (by decide)]
              have f579_ : (m572_ 80 313).toInt = (m526_ 80 313).toInt := by rw [p574_.2.2 80 313 (by decide)]
              have f580_ : (m572_ 0 12).toInt = (m526_ 0 12).toInt := by rw [p574_.2.2 0 12 (by decide)]
              have f581_ : (m572_ 77 67).toInt = (m526_ 77 67).toInt := by rw [p574_.2.2 77 67 (by decide)]
              have q582_ : (m572_ 7 9).toInt = (m572_ 78 313).toInt := by omega
              have q583_ : (m572_ 16 9).toInt = (m572_ 80 313).toInt := by omega
              have q584_ : (m572_ 0 12).toInt = (m572_ 77 67).toInt := by omega
              refine T_ql (i_add rfl l_7 (by omega) (by omega)) ?_
              intro x585_ h586_
              exact ih j r hj hr x585_ m572_ (by omega) (by omega) g573_ q582_ q583_ q584_ (by omega)
            · refine T_qg (i_add rfl l_6 (by omega) (by omega)) (by omega) (by omega) ?_
              refine T_qcE (t_X12_game hn _ _ _ _ _ _ m526_ g527_ (by decide) (by decide)) ?_
              intro r587_ m588_ e591_ p590_
              have g589_ := p590_.2.1
              have f592_ : (m588_ 7 9).toInt = (m526_ 7 9).toInt := by rw [p590_.2.2 7 9 (by decide)]
              have f593_ : (m588_ 78 313).toInt = (m526_ 78 313).toInt := by rw [p590_.2.2 78 313 (by decide)]
              have f594_ : (m588_ 16 9).toInt = (m526_ 16 9).toInt := by rw [p590_.2.2 16 9 (by decide)]
              have f595_ : (m588_ 80 313).toInt = (m526_ 80 313).toInt := by rw [p590_.2.2 80 313 (by decide)]
              have f596_ : (m588_ 0 12).toInt = (m526_ 0 12).toInt := by rw [p590_.2.2 0 12 (by decide)]
              have f597_ : (m588_ 77 67).toInt = (m526_ 77 67).toInt := by rw [p590_.2.2 77 67 (by decide)]
              have q598_ : (m588_ 7 9).toInt = (m588_ 78 313).toInt := by omega
              have q599_ : (m588_ 16 9).toInt = (m588_ 80 313).toInt := by omega
              have q600_ : (m588_ 0 12).toInt = (m588_ 77 67).toInt := by omega
              refine T_ql (i_add rfl l_7 (by omega) (by omega)) ?_
              intro x601_ h602_
              exact ih j r hj hr x601_ m588_ (by omega) (by omega) g589_ q598_ q599_ q600_ (by omega)
        · refine T_qg (i_add rfl l_6 (by omega) (by omega)) (by omega) (by omega) ?_
          refine T_qcE (t_X11_game hn _ _ _ _ _ _ M hG (by decide) (by decide)) ?_
          intro r603_ m604_ e607_ p606_
          have g605_ := p606_.2.1
          have f608_ : (m604_ 7 9).toInt = (M 7 9).toInt := by rw [p606_.2.2 7 9 (by decide)]
          have f609_ : (m604_ 78 313).toInt = (M 78 313).toInt := by rw [p606_.2.2 78 313 (by decide)]
          have f610_ : (m604_ 16 9).toInt = (M 16 9).toInt := by rw [p606_.2.2 16 9 (by decide)]
          have f611_ : (m604_ 80 313).toInt = (M 80 313).toInt := by rw [p606_.2.2 80 313 (by decide)]
          have f612_ : (m604_ 0 12).toInt = (M 0 12).toInt := by rw [p606_.2.2 0 12 (by decide)]
          have f613_ : (m604_ 77 67).toInt = (M 77 67).toInt := by rw [p606_.2.2 77 67 (by decide)]
          refine T_qg (i_add rfl l_1 (by omega) (by omega)) (by omega) (by omega) ?_
          refine T_qg (i_add rfl l_2 (by omega) (by omega)) (by omega) (by omega) ?_
          refine T_qg (i_add rfl l_3 (by omega) (by omega)) (by omega) (by omega) ?_
          refine T_qg (i_add rfl l_4 (by omega) (by omega)) (by omega) (by omega) ?_
          refine T_eq rfl l_0 (fun c614_ => ?_) (fun c614_ => ?_)
          · refine T_qg (i_add rfl l_5 (by omega) (by omega)) (by omega) (by omega) ?_
            refine T_eq rfl l_0 (fun c615_ => ?_) (fun c615_ => ?_)
            · refine T_qg (i_add rfl l_6 (by omega) (by omega)) (by omega) (by omega) ?_
              refine T_qcE (t_X12_game hn _ _ _ _ _ _ m604_ g605_ (by decide) (by decide)) ?_
              intro r616_ m617_ e620_ p619_
              have g618_ := p619_.2.1
              have f621_ : (m617_ 7 9).toInt = (m604_ 7 9).toInt := by rw [p619_.2.2 7 9 (by decide)]
              have f622_ : (m617_ 78 313).toInt = (m604_ 78 313).toInt := by rw [p619_.2.2 78 313 (by decide)]
              have f623_ : (m617_ 16 9).toInt = (m604_ 16 9).toInt := by rw [p619_.2.2 16 9 (by decide)]
              have f624_ : (m617_ 80 313).toInt = (m604_ 80 313).toInt := by rw [p619_.2.2 80 313 (by decide)]
              have f625_ : (m617_ 0 12).toInt = (m604_ 0 12).toInt := by rw [p619_.2.2 0 12 (by decide)]
              have f626_ : (m617_ 77 67).toInt = (m604_ 77 67).toInt := by rw [p619_.2.2 77 67 (by decide)]
              have q627_ : (m617_ 7 9).toInt = (m617_ 78 313).toInt := by omega
              have q628_ : (m617_ 16 9).toInt = (m617_ 80 313).toInt := by omega
              have q629_ : (m617_ 0 12).toInt = (m617_ 77 67).toInt := by omega
              refine T_ql (i_add rfl l_7 (by omega) (by omega)) ?_
              intro x630_ h631_
              exact ih j r hj hr x630_ m617_ (by omega) (by omega) g618_ q627_ q628_ q629_ (by omega)
            · refine T_qg (i_add rfl l_6 (by omega) (by omega)) (by omega) (by omega) ?_
              refine T_qcE (t_X12_game hn _ _ _ _ _ _ m604_ g605_ (by decide) (by decide)) ?_
              intro r632_ m633_ e636_ p635_
              have g634_ := p635_.2.1
              have f637_ : (m633_ 7 9).toInt = (m604_ 7 9).toInt := by rw [p635_.2.2 7 9 (by decide)]
              have f638_ : (m633_ 78 313).toInt = (m604_ 78 313).toInt := by rw [p635_.2.2 78 313 (by decide)]
              have f639_ : (m633_ 16 9).toInt = (m604_ 16 9).toInt := by rw [p635_.2.2 16 9 (by decide)]
              have f640_ : (m633_ 80 313).toInt = (m604_ 80 313).toInt := by rw [p635_.2.2 80 313 (by decide)]
              have f641_ : (m633_ 0 12).toInt = (m604_ 0 12).toInt := by rw [p635_.2.2 0 12 (by decide)]
              have f642_ : (m633_ 77 67).toInt = (m604_ 77 67).toInt := by rw [p635_.2.2 77 67 (by decide)]
              have q643_ : (m633_ 7 9).toInt = (m633_ 78 313).toInt := by omega
              have q644_ : (m633_ 16 9).toInt = (m633_ 80 313).toInt := by omega
              have q645_ : (m633_ 0 12).toInt = (m633_ 77 67).toInt := by omega
              refine T_ql (i_add rfl l_7 (by omega) (by omega)) ?_
              intro x646_ h647_
              exact ih j r hj hr x646_ m633_ (by omega) (by omega) g634_ q643_ q644_ q645_ (by omega)
          · refine T_qg (i_add rfl l_5 (by omega) (by omega)) (by omega) (by omega) ?_
            refine T_eq rfl l_0 (fun c648_ => ?_) (fun c648_ => ?_)
            · refine T_qg (i_add rfl l_6 (by omega) (by omega)) (by omega) (by omega) ?_
              refine T_qcE (t_X12_game hn _ _ _ _ _ _ m604_ g605_ (by decide) (by decide)) ?_
              intro r649_ m650_ e653_ p652_
              have g651_ := p652_.2.1
              have f654_ : (m650_ 7 9).toInt = (m604_ 7 9).toInt := by rw [p652_.2.2 7 9 (by decide)]
              have f655_ : (m650_ 78 313).toInt = (m604_ 78 313).toInt := by rw [p652_.2.2 78 313 (by decide)]
              have f656_ : (m650_ 16 9).toInt = (m604_ 16 9).toInt := by rw [p652_.2.2 16 9 (by decide)]
              have f657_ : (m650_ 80 313).toInt = (m604_ 80 313).toInt := by rw [p652_.2.2 80 313 (by decide)]
              have f658_ : (m650_ 0 12).toInt = (m604_ 0 12).toInt := by rw [p652_.2.2 0 12 (by decide)]
              have f659_ : (m650_ 77 67).toInt = (m604_ 77 67).toInt := by rw [p652_.2.2 77 67 (by decide)]
              have q660_ : (m650_ 7 9).toInt = (m650_ 78 313).toInt := by omega
              have q661_ : (m650_ 16 9).toInt = (m650_ 80 313).toInt := by omega
              have q662_ : (m650_ 0 12).toInt = (m650_ 77 67).toInt := by omega
              refine T_ql (i_add rfl l_7 (by omega) (by omega)) ?_
              intro x663_ h664_
              exact ih j r hj hr x663_ m650_ (by omega) (by omega) g651_ q660_ q661_ q662_ (by omega)
            · refine T_qg (i_add rfl l_6 (by omega) (by omega)) (by omega) (by omega) ?_
              refine T_qcE (t_X12_game hn _ _ _ _ _ _ m604_ g605_ (by decide) (by decide)) ?_
              intro r665_ m666_ e669_ p668_
              have g667_ := p668_.2.1
              have f670_ : (m666_ 7 9).toInt = (m604_ 7 9).toInt := by rw [p668_.2.2 7 9 (by decide)]
              have f671_ : (m666_ 78 313).toInt = (m604_ 78 313).toInt := by rw [p668_.2.2 78 313 (by decide)]
              have f672_ : (m666_ 16 9).toInt = (m604_ 16 9).toInt := by rw [p668_.2.2 16 9 (by decide)]
              have f673_ : (m666_ 80 313).toInt = (m604_ 80 313).toInt := by rw [p668_.2.2 80 313 (by decide)]
              have f674_ : (m666_ 0 12).toInt = (m604_ 0 12).toInt := by rw [p668_.2.2 0 12 (by decide)]
              have f675_ : (m666_ 77 67).toInt = (m604_ 77 67).toInt := by rw [p668_.2.2 77 67 (by decide)]
              have q676_ : (m666_ 7 9).toInt = (m666_ 78 313).toInt := by omega
              have q677_ : (m666_ 16 9).toInt = (m666_ 80 313).toInt := by omega
              have q678_ : (m666_ 0 12).toInt = (m666_ 77 67).toInt := by omega
              refine T_ql (i_add rfl l_7 (by omega) (by omega)) ?_
              intro x679_ h680_
              exact ih j r hj hr x679_ m666_ (by omega) (by omega) g667_ q676_ q677_ q678_ (by omega)
      · refine T_qg (i_add rfl l_5 (by omega) (by omega)) (by omega) (by omega) ?_
        refine T_eq rfl l_0 (fun c681_ => ?_) (fun c681_ => ?_)
        · refine T_qg (i_add rfl l_6 (by omega) (by omega)) (by omega) (by omega) ?_
          refine T_qcE (t_X11_game hn _ _ _ _ _ _ M hG (by decide) (by decide)) ?_
          intro r682_ m683_ e686_ p685_
          have g684_ := p685_.2.1
          have f687_ : (m683_ 7 9).toInt = (M 7 9).toInt := by rw [p685_.2.2 7 9 (by decide)]
          have f688_ : (m683_ 78 313).toInt = (M 78 313).toInt := by rw [p685_.2.2 78 313 (by decide)]
          have f689_ : (m683_ 16 9).toInt = (M 16 9).toInt := by rw [p685_.2.2 16 9 (by decide)]
          have f690_ : (m683_ 80 313).toInt = (M 80 313).toInt := by rw [p685_.2.2 80 313 (by decide)]
          have f691_ : (m683_ 0 12).toInt = (M 0 12).toInt := by rw [p685_.2.2 0 12 (by decide)]
          have f692_ : (m683_ 77 67).toInt = (M 77 67).toInt := by rw [p685_.2.2 77 67 (by decide)]
          refine T_qg (i_add rfl l_1 (by omega) (by omega)) (by omega) (by omega) ?_
          refine T_qg (i_add rfl l_2 (by omega) (by omega)) (by omega) (by omega) ?_
          refine T_qg (i_add rfl l_3 (by omega) (by omega)) (by omega) (by omega) ?_
          refine T_qg (i_add rfl l_4 (by omega) (by omega)) (by omega) (by omega) ?_
          refine T_eq rfl l_0 (fun c693_ => ?_) (fun c693_ => ?_)
          · refine T_qg (i_add rfl l_5 (by omega) (by omega)) (by omega) (by omega) ?_
            refine T_eq rfl l_0 (fun c694_ => ?_) (fun c694_ => ?_)
            · refine T_qg (i_add rfl l_6 (by omega) (by omega)) (by omega) (by omega) ?_
              refine T_qcE (t_X12_game hn _ _ _ _ _ _ m683_ g684_ (by decide) (by decide)) ?_
              intro r695_ m696_ e699_ p698_
              have g697_ := p698_.2.1
              have f700_ : (m696_ 7 9).toInt = (m683_ 7 9).toInt := by rw [p698_.2.2 7 9 (by decide)]
              have f701_ : (m696_ 78 313).toInt = (m683_ 78 313).toInt := by rw [p698_.2.2 78 313 (by decide)]
              have f702_ : (m696_ 16 9).toInt = (m683_ 16 9).toInt := by rw [p698_.2.2 16 9 (by decide)]
              have f703_ : (m696_ 80 313).toInt = (m683_ 80 313).toInt := by rw [p698_.2.2 80 313 (by decide)]
              have f704_ : (m696_ 0 12).toInt = (m683_ 0 12).toInt := by rw [p698_.2.2 0 12 (by decide)]
              have f705_ : (m696_ 77 67).toInt = (m683_ 77 67).toInt := by rw [p698_.2.2 77 67 (by decide)]
              have q706_ : (m696_ 7 9).toInt = (m696_ 78 313).toInt := by omega
              have q707_ : (m696_ 16 9).toInt = (m696_ 80 313).toInt := by omega
              have q708_ : (m696_ 0 12).toInt = (m696_ 77 67).toInt := by omega
              refine T_ql (i_add rfl l_7 (by omega) (by omega)) ?_
              intro x709_ h710_
              exact ih j r hj hr x709_ m696_ (by omega) (by omega) g697_ q706_ q707_ q708_ (by omega)
            · refine T_qg (i_add rfl l_6 (by omega) (by omega)) (by omega) (by omega) ?_
              refine T_qcE (t_X12_game hn _ _ _ _ _ _ m683_ g684_ (by decide) (by decide)) ?_
              intro r711_ m712_ e715_ p714_
              have g713_ := p714_.2.1
              have f716_ : (m712_ 7 9).toInt = (m683_ 7 9).toInt := by rw [p714_.2.2 7 9 (by decide)]
              have f717_ : (m712_ 78 313).toInt = (m683_ 78 313).toInt := by rw [p714_.2.2 78 313 (by decide)]
              have f718_ : (m712_ 16 9).toInt = (m683_ 16 9).toInt := by rw [p714_.2.2 16 9 (by decide)]
              have f719_ : (m712_ 80 313).toInt = (m683_ 80 313).toInt := by rw [p714_.2.2 80 313 (by decide)]
              have f720_ : (m712_ 0 12).toInt = (m683_ 0 12).toInt := by rw [p714_.2.2 0 12 (by decide)]
              have f721_ : (m712_ 77 67).toInt = (m683_ 77 67).toInt := by rw [p714_.2.2 77 67 (by decide)]
              have q722_ : (m712_ 7 9).toInt = (m712_ 78 313).toInt := by omega
              have q723_ : (m712_ 16 9).toInt = (m712_ 80 313).toInt := by omega
              have q724_ : (m712_ 0 12).toInt = (m712_ 77 67).toInt := by omega
              refine T_ql (i_add rfl l_7 (by omega) (by omega)) ?_
              intro x725_ h726_
              exact ih j r hj hr x725_ m712_ (by omega) (by omega) g713_ q722_ q723_ q724_ (by omega)
          · refine T_qg (i_add rfl l_5 (by omega) (by omega)) (by omega) (by omega) ?_
            refine T_eq rfl l_0 (fun c727_ => ?_) (fun c727_ => ?_)
            · refine T_qg (i_add rfl l_6 (by omega) (by omega)) (by omega) (by omega) ?_
              refine T_qcE (t_X12_game hn _ _ _ _ _ _ m683_ g684_ (by decide) (by decide)) ?_
              intro r728_ m729_ e732_ p731_
              have g730_ := p731_.2.1
              have f733_ : (m729_ 7 9).toInt = (m683_ 7 9).toInt := by rw [p731_.2.2 7 9 (by decide)]
              have f734_ : (m729_ 78 313).toInt = (m683_ 78 313).toInt := by rw [p731_.2.2 78 313 (by decide)]
              have f735_ : (m729_ 16 9).toInt = (m683_ 16 9).toInt := by rw [p731_.2.2 16 9 (by decide)]
              have f736_ : (m729_ 80 313).toInt = (m683_ 80 313).toInt := by rw [p731_.2.2 80 313 (by decide)]
              have f737_ : (m729_ 0 12).toInt = (m683_ 0 12).toInt := by rw [p731_.2.2 0 12 (by decide)]
              have f738_ : (m729_ 77 67).toInt = (m683_ 77 67).toInt := by rw [p731_.2.2 77 67 (by decide)]
              have q739_ : (m729_ 7 9).toInt = (m729_ 78 313).toInt := by omega
              have q740_ : (m729_ 16 9).toInt = (m729_ 80 313).toInt := by omega
              have q741_ : (m729_ 0 12).toInt = (m729_ 77 67).toInt := by omega
              refine T_ql (i_add rfl l_7 (by omega) (by omega)) ?_
              intro x742_ h743_
              exact ih j r hj hr x742_ m729_ (by omega) (by omega) g730_ q739_ q740_ q741_ (by omega)
            · refine T_qg (i_add rfl l_6 (by omega) (by omega)) (by omega) (by omega) ?_
              refine T_qcE (t_X12_game hn _ _ _ _ _ _ m683_ g684_ (by decide) (by decide)) ?_
              intro r744_ m745_ e748_ p747_
              have g746_ := p747_.2.1
              have f749_ : (m745_ 7 9).toInt = (m683_ 7 9).toInt := by rw [p747_.2.2 7 9 (by decide)]
              have f750_ : (m745_ 78 313).toInt = (m683_ 78 313).toInt := by rw [p747_.2.2 78 313 (by decide)]
              have f751_ : (m745_ 16 9).toInt = (m683_ 16 9).toInt := by rw [p747_.2.2 16 9 (by decide)]
              have f752_ : (m745_ 80 313).toInt = (m683_ 80 313).toInt := by rw [p747_.2.2 80 313 (by decide)]
              have f753_ : (m745_ 0 12).toInt = (m683_ 0 12).toInt := by rw [p747_.2.2 0 12 (by decide)]
              have f754_ : (m745_ 77 67).toInt = (m683_ 77 67).toInt := by rw [p747_.2.2 77 67 (by decide)]
              have q755_ : (m745_ 7 9).toInt = (m745_ 78 313).toInt := by omega
              have q756_ : (m745_ 16 9).toInt = (m745_ 80 313).toInt := by omega
              have q757_ : (m745_ 0 12).toInt = (m745_ 77 67).toInt := by omega
              refine T_ql (i_add rfl l_7 (by omega) (by omega)) ?_
              intro x758_ h759_
              exact ih j r hj hr x758_ m745_ (by omega) (by omega) g746_ q755_ q756_ q757_ (by omega)
        · refine T_qg (i_add rfl l_6 (by omega) (by omega)) (by omega) (by omega) ?_
          refine T_qcE (t_X11_game hn _ _ _ _ _ _ M hG (by decide) (by decide)) ?_
          intro r760_ m761_ e764_ p763_
          have g762_ := p763_.2.1
          have f765_ : (m761_ 7 9).toInt = (M 7 9).toInt := by rw [p763_.2.2 7 9 (by decide)]
          have f766_ : (m761_ 78 313).toInt = (M 78 313).toInt := by rw [p763_.2.2 78 313 (by decide)]
          have f767_ : (m761_ 16 9).toInt = (M 16 9).toInt := by rw [p763_.2.2 16 9 (by decide)]
          have f768_ : (m761_ 80 313).toInt = (M 80 313).toInt := by rw [p763_.2.2 80 313 (by decide)]
          have f769_ : (m761_ 0 12).toInt = (M 0 12).toInt := by rw [p763_.2.2 0 12 (by decide)]
          have f770_ : (m761_ 77 67).toInt = (M 77 67).toInt := by rw [p763_.2.2 77 67 (by decide)]
          refine T_qg (i_add rfl l_1 (by omega) (by omega)) (by omega) (by omega) ?_
          refine T_qg (i_add rfl l_2 (by omega) (by omega)) (by omega) (by omega) ?_
          refine T_qg (i_add rfl l_3 (by omega) (by omega)) (by omega) (by omega) ?_
          refine T_qg (i_add rfl l_4 (by omega) (by omega)) (by omega) (by omega) ?_
          refine T_eq rfl l_0 (fun c771_ => ?_) (fun c771_ => ?_)
          · refine T_qg (i_add rfl l_5 (by omega) (by omega)) (by omega) (by omega) ?_
            refine T_eq rfl l_0 (fun c772_ => ?_) (fun c772_ => ?_)
            · refine T_qg (i_add rfl l_6 (by omega) (by omega)) (by omega) (by omega) ?_
              refine T_qcE (t_X12_game hn _ _ _ _ _ _ m761_ g762_ (by decide) (by decide)) ?_
              intro r773_ m774_ e777_ p776_
              have g775_ := p776_.2.1
              have f778_ : (m774_ 7 9).toInt = (m761_ 7 9).toInt := by rw [p776_.2.2 7 9 (by decide)]
              have f779_ : (m774_ 78 313).toInt = (m761_ 78 313).toInt := by rw [p776_.2.2 78 313 (by decide)]
              have f780_ : (m774_ 16 9).toInt = (m761_ 16 9).toInt := by rw [p776_.2.2 16 9 (by decide)]
              have f781_ : (m774_ 80 313).toInt = (m761_ 80 313).toInt := by rw [p776_.2.2 80 313 (by decide)]
              have f782_ : (m774_ 0 12).toInt = (m761_ 0 12).toInt := by rw [p776_.2.2 0 12 (by decide)]
              have f783_ : (m774_ 77 67).toInt = (m761_ 77 67).toInt := by rw [p776_.2.2 77 67 (by decide)]
              have q784_ : (m774_ 7 9).toInt = (m774_ 78 313).toInt := by omega
              have q785_ : (m774_ 16 9).toInt = (m774_ 80 313).toInt := by omega
              have q786_ : (m774_ 0 12).toInt = (m774_ 77 67).toInt := by omega
              refine T_ql (i_add rfl l_7 (by omega) (by omega)) ?_
              intro x787_ h788_
              exact ih j r hj hr x787_ m774_ (by omega) (by omega) g775_ q784_ q785_ q786_ (by omega)
            · refine T_qg (i_add rfl l_6 (by omega) (by omega)) (by omega) (by omega) ?_
              refine T_qcE (t_X12_game hn _ _ _ _ _ _ m761_ g762_ (by decide) (by decide)) ?_
              intro r789_ m790_ e793_ p792_
              have g791_ := p792_.2.1
              have f794_ : (m790_ 7 9).toInt = (m761_ 7 9).toInt := by rw [p792_.2.2 7 9 (by decide)]
              have f795_ : (m790_ 78 313).toInt = (m761_ 78 313).toInt := by rw [p792_.2.2 78 313 (by decide)]
              have f796_ : (m790_ 16 9).toInt = (m761_ 16 9).toInt := by rw [p792_.2.2 16 9 (by decide)]
              have f797_ : (m790_ 80 313).toInt = (m761_ 80 313).toInt := by rw [p792_.2.2 80 313 (by decide)]
              have f798_ : (m790_ 0 12).toInt = (m761_ 0 12).toInt := by rw [p792_.2.2 0 12 (by decide)]
              have f799_ : (m790_ 77 67).toInt = (m761_ 77 67).toInt := by rw [p792_.2.2 77 67 (by decide)]
              have q800_ : (m790_ 7 9).toInt = (m790_ 78 313).toInt := by omega
              have q801_ : (m790_ 16 9).toInt = (m790_ 80 313).toInt := by omega
              have q802_ : (m790_ 0 12).toInt = (m790_ 77 67).toInt := by omega
              refine T_ql (i_add rfl l_7 (by omega) (by omega)) ?_
              intro x803_ h804_
              exact ih j r hj hr x803_ m790_ (by omega) (by omega) g791_ q800_ q801_ q802_ (by omega)
          · refine T_qg (i_add rfl l_5 (by omega) (by omega)) (by omega) (by omega) ?_
            refine T_eq rfl l_0 (fun c805_ => ?_) (fun c805_ => ?_)
            · refine T_qg (i_add rfl l_6 (by omega) (by omega)) (by omega) (by omega) ?_
              refine T_qcE (t_X12_game hn _ _ _ _ _ _ m761_ g762_ (by decide) (by decide)) ?_
              intro r806_ m807_ e810_ p809_
              have g808_ := p809_.2.1
              have f811_ : (m807_ 7 9).toInt = (m761_ 7 9).toInt := by rw [p809_.2.2 7 9 (by decide)]
              have f812_ : (m807_ 78 313).toInt = (m761_ 78 313).toInt := by rw [p809_.2.2 78 313 (by decide)]
              have f813_ : (m807_ 16 9).toInt = (m761_ 16 9).toInt := by rw [p809_.2.2 16 9 (by decide)]
              have f814_ : (m807_ 80 313).toInt = (m761_ 80 313).toInt := by rw [p809_.2.2 80 313 (by decide)]
              have f815_ : (m807_ 0 12).toInt = (m761_ 0 12).toInt := by rw [p809_.2.2 0 12 (by decide)]
              have f816_ : (m807_ 77 67).toInt = (m761_ 77 67).toInt := by rw [p809_.2.2 77 67 (by decide)]
              have q817_ : (m807_ 7 9).toInt = (m807_ 78 313).toInt := by omega
              have q818_ : (m807_ 16 9).toInt = (m807_ 80 313).toInt := by omega
              have q819_ : (m807_ 0 12).toInt = (m807_ 77 67).toInt := by omega
              refine T_ql (i_add rfl l_7 (by omega) (by omega)) ?_
              intro x820_ h821_
              exact ih j r hj hr x820_ m807_ (by omega) (by omega) g808_ q817_ q818_ q819_ (by omega)
            · refine T_qg (i_add rfl l_6 (by omega) (by omega)) (by omega) (by omega) ?_
              refine T_qcE (t_X12_game hn _ _ _ _ _ _ m761_ g762_ (by decide) (by decide)) ?_
              intro r822_ m823_ e826_ p825_
              have g824_ := p825_.2.1
              have f827_ : (m823_ 7 9).toInt = (m761_ 7 9).toInt := by rw [p825_.2.2 7 9 (by decide)]
              have f828_ : (m823_ 78 313).toInt = (m761_ 78 313).toInt := by rw [p825_.2.2 78 313 (by decide)]
              have f829_ : (m823_ 16 9).toInt = (m761_ 16 9).toInt := by rw [p825_.2.2 16 9 (by decide)]
              have f830_ : (m823_ 80 313).toInt = (m761_ 80 313).toInt := by rw [p825_.2.2 80 313 (by decide)]
              have f831_ : (m823_ 0 12).toInt = (m761_ 0 12).toInt := by rw [p825_.2.2 0 12 (by decide)]
              have f832_ : (m823_ 77 67).toInt = (m761_ 77 67).toInt := by rw [p825_.2.2 77 67 (by decide)]
              have q833_ : (m823_ 7 9).toInt = (m823_ 78 313).toInt := by omega
              have q834_ : (m823_ 16 9).toInt = (m823_ 80 313).toInt := by omega
              have q835_ : (m823_ 0 12).toInt = (m823_ 77 67).toInt := by omega
              refine T_ql (i_add rfl l_7 (by omega) (by omega)) ?_
              intro x836_ h837_
              exact ih j r hj hr x836_ m823_ (by omega) (by omega) g824_ q833_ q834_ q835_ (by omega)
    refine T_sw rfl l_19 (fun s838_ => ?_) (fun s838_ => ?_)
    · refine T_qg (i_add rfl l_1 (by omega) (by omega)) (by omega) (by omega) ?_
      refine T_qg (i_add rfl l_2 (by omega) (by omega)) (by omega) (by omega) ?_
      refine T_qg (i_add rfl l_3 (by omega) (by omega)) (by omega) (by omega) ?_
      refine T_qg (i_add rfl l_4 (by omega) (by omega)) (by omega) (by omega) ?_
      refine T_qg (i_add rfl l_5 (by omega) (by omega)) (by omega) (by omega) ?_
      refine T_qg (i_add rfl l_6 (by omega) (by omega)) (by omega) (by omega) ?_
      refine T_qcE (t_X11_court hn _ _ _ _ _ _ M hG) ?_
      intro r839_ m840_ e843_ p842_
      have g841_ := p842_.2.1
      have f844_ : (m840_ 7 9).toInt = (M 7 9).toInt := by rw [p842_.2.2 7 9 (by decide)]
      have f845_ : (m840_ 78 313).toInt = (M 78 313).toInt := by rw [p842_.2.2 78 313 (by decide)]
      have f846_ : (m840_ 16 9).toInt = (M 16 9).toInt := by rw [p842_.2.2 16 9 (by decide)]
      have f847_ : (m840_ 80 313).toInt = (M 80 313).toInt := by rw [p842_.2.2 80 313 (by decide)]
      have f848_ : (m840_ 0 12).toInt = (M 0 12).toInt := by rw [p842_.2.2 0 12 (by decide)]
      have f849_ : (m840_ 77 67).toInt = (M 77 67).toInt := by rw [p842_.2.2 77 67 (by decide)]
      refine T_qg (i_add rfl l_1 (by omega) (by omega)) (by omega) (by omega) ?_
      refine T_qg (i_add rfl l_2 (by omega) (by omega)) (by omega) (by omega) ?_
      refine T_qg (i_add rfl l_3 (by omega) (by omega)) (by omega) (by omega) ?_
      refine T_qg (i_add rfl l_4 (by omega) (by omega)) (by omega) (by omega) ?_
      refine T_qg (i_add rfl l_5 (by omega) (by omega)) (by omega) (by omega) ?_
      refine T_qg (i_add rfl l_6 (by omega) (by omega)) (by omega) (by omega) ?_
      refine T_qcE (t_X12_court hn _ _ _ _ _ _ m840_ g841_) ?_
      intro r850_ m851_ e854_ p853_
      have g852_ := p853_.2.1
      have f855_ : (m851_ 7 9).toInt = (m840_ 7 9).toInt := by rw [p853_.2.2 7 9 (by decide)]
      have f856_ : (m851_ 78 313).toInt = (m840_ 78 313).toInt := by rw [p853_.2.2 78 313 (by decide)]
      have f857_ : (m851_ 16 9).toInt = (m840_ 16 9).toInt := by rw [p853_.2.2 16 9 (by decide)]
      have f858_ : (m851_ 80 313).toInt = (m840_ 80 313).toInt := by rw [p853_.2.2 80 313 (by decide)]
      have f859_ : (m851_ 0 12).toInt = (m840_ 0 12).toInt := by rw [p853_.2.2 0 12 (by decide)]
      have f860_ : (m851_ 77 67).toInt = (m840_ 77 67).toInt := by rw [p853_.2.2 77 67 (by decide)]
      have q861_ : (m851_ 7 9).toInt = (m851_ 78 313).toInt := by omega
      have q862_ : (m851_ 16 9).toInt = (m851_ 80 313).toInt := by omega
      have q863_ : (m851_ 0 12).toInt = (m851_ 77 67).toInt := by omega
      refine T_ql (i_add rfl l_7 (by omega) (by omega)) ?_
      intro x864_ h865_
      exact ih j r hj hr x864_ m851_ (by omega) (by omega) g852_ q861_ q862_ q863_ (by omega)
    refine T_sw rfl l_20 (fun s866_ => ?_) (fun s866_ => ?_)
    · refine T_qcE (t_X11_keep hn M hG) ?_
      intro r867_ m868_ e871_ p870_
      have g869_ := p870_.2.1
      have f872_ : (m868_ 7 9).toInt = (M 7 9).toInt := by rw [p870_.2.2 7 9 (by decide)]
      have f873_ : (m868_ 78 313).toInt = (M 78 313).toInt := by rw [p870_.2.2 78 313 (by decide)]
      have f874_ : (m868_ 80 313).toInt = (M 80 313).toInt := by rw [p870_.2.2 80 313 (by decide)]
      have f875_ : (m868_ 77 67).toInt = (M 77 67).toInt := by rw [p870_.2.2 77 67 (by decide)]
      have w876_ := p870_.1
      refine T_qcE (t_X12_keep hn m868_ g869_) ?_
      intro r877_ m878_ e881_ p880_
      have g879_ := p880_.2.1
      have f882_ : (m878_ 7 9).toInt = (m868_ 7 9).toInt := by rw [p880_.2.2 7 9 (by decide)]
      have f883_ : (m878_ 78 313).toInt = (m868_ 78 313).toInt := by rw [p880_.2.2 78 313 (by decide)]
      have f884_ : (m878_ 16 9).toInt = (m868_ 16 9).toInt := by rw [p880_.2.2 16 9 (by decide)]
      have f885_ : (m878_ 0 12).toInt = (m868_ 0 12).toInt := by rw [p880_.2.2 0 12 (by decide)]
      have w886_ := p880_.1
      have q887_ : (m878_ 7 9).toInt = (m878_ 78 313).toInt := by omega
      have q888_ : (m878_ 16 9).toInt = (m878_ 80 313).toInt := by omega
      have q889_ : (m878_ 0 12).toInt = (m878_ 77 67).toInt := by omega
      have w890_ : r867_ = r877_ := Int32.toInt_inj.mp (by omega)
      rw [if_pos w890_]
      refine T_ql (i_add rfl l_7 (by omega) (by omega)) ?_
      intro x891_ h892_
      exact ih j r hj hr x891_ m878_ (by omega) (by omega) g879_ q887_ q888_ q889_ (by omega)
    refine T_sw rfl l_21 (fun s893_ => ?_) (fun s893_ => ?_)
    · refine T_qcE (t_X11_undo hn M hG) ?_
      intro r894_ m895_ e898_ p897_
      have g896_ := p897_.2.2.1
      have f899_ : (m895_ 78 313).toInt = (M 78 313).toInt := by rw [p897_.2.2.2 78 313 (by decide)]
      have f900_ : (m895_ 16 9).toInt = (M 16 9).toInt := by rw [p897_.2.2.2 16 9 (by decide)]
      have f901_ : (m895_ 80 313).toInt = (M 80 313).toInt := by rw [p897_.2.2.2 80 313 (by decide)]
      have f902_ : (m895_ 0 12).toInt = (M 0 12).toInt := by rw [p897_.2.2.2 0 12 (by decide)]
      have f903_ : (m895_ 77 67).toInt = (M 77 67).toInt := by rw [p897_.2.2.2 77 67 (by decide)]
      have w904_ := p897_.2.1
      refine T_qcE (t_X12_undo hn m895_ g896_) ?_
      intro r905_ m906_ e909_ p908_
      have g907_ := p908_.2.2.1
      have f910_ : (m906_ 7 9).toInt = (m895_ 7 9).toInt := by rw [p908_.2.2.2 7 9 (by decide)]
      have f911_ : (m906_ 16 9).toInt = (m895_ 16 9).toInt := by rw [p908_.2.2.2 16 9 (by decide)]
      have f912_ : (m906_ 80 313).toInt = (m895_ 80 313).toInt := by rw [p908_.2.2.2 80 313 (by decide)]
      have f913_ : (m906_ 0 12).toInt = (m895_ 0 12).toInt := by rw [p908_.2.2.2 0 12 (by decide)]
      have f914_ : (m906_ 77 67).toInt = (m895_ 77 67).toInt := by rw [p908_.2.2.2 77 67 (by decide)]
      have w915_ := p908_.2.1
      have q916_ : (m906_ 7 9).toInt = (m906_ 78 313).toInt := by omega
      have q917_ : (m906_ 16 9).toInt = (m906_ 80 313).toInt := by omega
      have q918_ : (m906_ 0 12).toInt = (m906_ 77 67).toInt := by omega
      refine T_ql (i_add rfl l_7 (by omega) (by omega)) ?_
      intro x919_ h920_
      exact ih j r hj hr x919_ m906_ (by omega) (by omega) g907_ q916_ q917_ q918_ (by omega)
    refine T_sw rfl l_22 (fun s921_ => ?_) (fun s921_ => ?_)
    · refine T_qg (i_add rfl l_1 (by omega) (by omega)) (by omega) (by omega) ?_
      refine T_qg (i_add rfl l_2 (by omega) (by omega)) (by omega) (by omega) ?_
      refine T_qcE (t_X11_check hn _ _ M hG) ?_
      intro r922_ m923_ e926_ p925_
      have g924_ := p925_.2.2.1
      have f927_ : (m923_ 7 9).toInt = (M 7 9).toInt := by rw [p925_.2.2.2 7 9 (by decide)]
      have f928_ : (m923_ 78 313).toInt = (M 78 313).toInt := by rw [p925_.2.2.2 78 313 (by decide)]
      have f929_ : (m923_ 16 9).toInt = (M 16 9).toInt := by rw [p925_.2.2.2 16 9 (by decide)]
      have f930_ : (m923_ 80 313).toInt = (M 80 313).toInt := by rw [p925_.2.2.2 80 313 (by decide)]
      have f931_ : (m923_ 0 12).toInt = (M 0 12).toInt := by rw [p925_.2.2.2 0 12 (by decide)]
      have f932_ : (m923_ 77 67).toInt = (M 77 67).toInt := by rw [p925_.2.2.2 77 67 (by decide)]
      refine T_qg (i_add rfl l_1 (by omega) (by omega)) (by omega) (by omega) ?_
      refine T_qg (i_add rfl l_2 (by omega) (by omega)) (by omega) (by omega) ?_
      refine T_qcE (t_X12_check hn _ _ m923_ g924_) ?_
      intro r933_ m934_ e937_ p936_
      have g935_ := p936_.2.2.1
      have f938_ : (m934_ 7 9).toInt = (m923_ 7 9).toInt := by rw [p936_.2.2.2 7 9 (by decide)]
      have f939_ : (m934_ 78 313).toInt = (m923_ 78 313).toInt := by rw [p936_.2.2.2 78 313 (by decide)]
      have f940_ : (m934_ 16 9).toInt = (m923_ 16 9).toInt := by rw [p936_.2.2.2 16 9 (by decide)]
      have f941_ : (m934_ 80 313).toInt = (m923_ 80 313).toInt := by rw [p936_.2.2.2 80 313 (by decide)]
      have f942_ : (m934_ 0 12).toInt = (m923_ 0 12).toInt := by rw [p936_.2.2.2 0 12 (by decide)]
      have f943_ : (m934_ 77 67).toInt = (m923_ 77 67).toInt := by rw [p936_.2.2.2 77 67 (by decide)]
      have q944_ : (m934_ 7 9).toInt = (m934_ 78 313).toInt := by omega
      have q945_ : (m934_ 16 9).toInt = (m934_ 80 313).toInt := by omega
      have q946_ : (m934_ 0 12).toInt = (m934_ 77 67).toInt := by omega
      refine T_ql (i_add rfl l_7 (by omega) (by omega)) ?_
      intro x947_ h948_
      exact ih j r hj hr x947_ m934_ (by omega) (by omega) g935_ q944_ q945_ q946_ (by omega)
    refine T_sw rfl l_23 (fun s949_ => ?_) (fun s949_ => ?_)
    · refine T_qg (i_add rfl l_1 (by omega) (by omega)) (by omega) (by omega) ?_
      refine T_qcE (t_X11_count hn hj _ M hG) ?_
      intro r950_ m951_ e954_ p953_
      have g952_ := p953_.1
      have f955_ : (m951_ 7 9).toInt = (M 7 9).toInt := by rw [p953_.2 7 9 (by decide)]
      have f956_ : (m951_ 78 313).toInt = (M 78 313).toInt := by rw [p953_.2 78 313 (by decide)]
      have f957_ : (m951_ 16 9).toInt = (M 16 9).toInt := by rw [p953_.2 16 9 (by decide)]
      have f958_ : (m951_ 80 313).toInt = (M 80 313).toInt := by rw [p953_.2 80 313 (by decide)]
      have f959_ : (m951_ 0 12).toInt = (M 0 12).toInt := by rw [p953_.2 0 12 (by decide)]
      have f960_ : (m951_ 77 67).toInt = (M 77 67).toInt := by rw [p953_.2 77 67 (by decide)]
      refine T_qg (i_add rfl l_1 (by omega) (by omega)) (by omega) (by omega) ?_
      refine T_qcE (t_X12_count hn _ m951_ g952_) ?_
      intro r961_ m962_ e965_ p964_
      have g963_ := p964_.1
      have f966_ : (m962_ 7 9).toInt = (m951_ 7 9).toInt := by rw [p964_.2 7 9 (by decide)]
      have f967_ : (m962_ 78 313).toInt = (m951_ 78 313).toInt := by rw [p964_.2 78 313 (by decide)]
      have f968_ : (m962_ 16 9).toInt = (m951_ 16 9).toInt := by rw [p964_.2 16 9 (by decide)]
      have f969_ : (m962_ 80 313).toInt = (m951_ 80 313).toInt := by rw [p964_.2 80 313 (by decide)]
      have f970_ : (m962_ 0 12).toInt = (m951_ 0 12).toInt := by rw [p964_.2 0 12 (by decide)]
      have f971_ : (m962_ 77 67).toInt = (m951_ 77 67).toInt := by rw [p964_.2 77 67 (by decide)]
      have q972_ : (m962_ 7 9).toInt = (m962_ 78 313).toInt := by omega
      have q973_ : (m962_ 16 9).toInt = (m962_ 80 313).toInt := by omega
      have q974_ : (m962_ 0 12).toInt = (m962_ 77 67).toInt := by omega
      refine T_ql (i_add rfl l_7 (by omega) (by omega)) ?_
      intro x975_ h976_
      exact ih j r hj hr x975_ m962_ (by omega) (by omega) g963_ q972_ q973_ q974_ (by omega)
    refine T_sw0 ?_
    refine T_ql (i_add rfl l_7 (by omega) (by omega)) ?_
    intro x977_ h978_
    exact ih j r hj hr x977_ M (by omega) (by omega) hG hR0 hR1 hR2 (by omega)
theorem pure_all : qPure := by
  intro g hN
  obtain ⟨M0, e, hF, hG⟩ := freshG
  obtain ⟨v, M', e2, hv⟩ := L_go (n := 200000) (Nat.le_refl _) g hN 4000 37 46 (Or.inl rfl) (Or.inr rfl) 0 M0 (by decide) (by decide) hG (by rw [hF.1 7 9 (by decide), hF.2.1 313 (by decide)]) (by rw [hF.1 16 9 (by decide), hF.2.2 80 313 (by decide) (by decide) (by decide) (by decide)]) (by rw [hF.1 0 12 (by decide), hF.1 77 67 (by decide)]) (by have z : ((0 : Int32).toInt : Int) = 0 := rfl; omega)
  subst hv
  exact ⟨200000, 4000, M0, M', e, e2⟩
