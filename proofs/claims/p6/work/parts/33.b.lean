theorem T_qcE {F : qR} {f : Int32 → qM → qR} {P Q : Int32 → qM → Prop} (h : qT F Q) (k : ∀ v m, F = some (v, m) → Q v m → qT (f v m) P) : qT (qc F f) P := by
  obtain ⟨v, M, e, p⟩ := h
  have := k v M e p
  rw [e, qc_v]
  exact this
abbrev l_law : List Bx := [(1, 2, 1, 5), (37, 53, 0, 0)]
abbrev LQ (a1 : Int32) (M m : qM) : Prop := G m ∧ Sm l_law M m ∧ (((1 ≤ a1.toInt ∧ a1.toInt ≤ 240 ∧ a1.toInt ≤ (M 1 1).toInt) ∧ (m 1 1).toInt = 0) ∨ (¬ (1 ≤ a1.toInt ∧ a1.toInt ≤ 240 ∧ a1.toInt ≤ (M 1 1).toInt) ∧ (m 1 1).toInt = (M 1 1).toInt))
theorem T_qc2s {a1 : Int32} {M : qM} {F1 F2 : qR} {E1 E2 : Int32 → qM → qR} {P : Int32 → qM → Prop} (h : (∃ v m, F1 = some (v, m) ∧ LQ a1 M m) ∨ (F1 = none ∧ ∃ v m, F2 = some (v, m) ∧ LQ a1 M m)) (h1 : ∀ v m, F1 = some (v, m) → LQ a1 M m → qT (E1 v m) P) (h2 : ∀ v m, F2 = some (v, m) → LQ a1 M m → qT (E2 v m) P) : qT (qc2 F1 F2 E1 E2) P := by
  rcases h with ⟨v, m, e, g⟩ | ⟨e, v, m, e2, g⟩
  · have := h1 v m e g
    rw [e]; exact this
  · have := h2 v m e2 g
    rw [e, e2]; exact this
theorem law_tots {n : Nat} (hn : 200000 ≤ n) {j r : Nat} (hr : q_isLaw r) (a1 : Int32) (M : qM) (hG : G M) : (∃ v m, f_X11_law n j r a1 M = some (v, m) ∧ LQ a1 M m) ∨ (f_X11_law n j r a1 M = none ∧ ∃ v m, f_X11_lawS n j r a1 M = some (v, m) ∧ LQ a1 M m) := by
  unfold f_X11_law f_X11_lawS
  by_cases c1 : a1 < (1 : Int32)
  · rw [if_pos c1]; rw [Int32.lt_iff_toInt_lt] at c1; have z1 : (1 : Int32).toInt = 1 := rfl; exact Or.inl ⟨_, _, rfl, hG, Sm.rf, Or.inr ⟨by omega, rfl⟩⟩
  · rw [if_neg c1, if_neg c1]
    by_cases c2 : (240 : Int32) < a1
    · rw [if_pos c2]; rw [Int32.lt_iff_toInt_lt] at c2; have z1 : (240 : Int32).toInt = 240 := rfl; exact Or.inl ⟨_, _, rfl, hG, Sm.rf, Or.inr ⟨by omega, rfl⟩⟩
    · rw [if_neg c2, if_neg c2]
      by_cases c3 : a1 ≤ M 1 1
      · rw [if_pos c3, if_pos c3]
        rw [Int32.lt_iff_toInt_lt] at c1 c2
        rw [Int32.le_iff_toInt_le] at c3
        have z1 : (1 : Int32).toInt = 1 := rfl
        have z2 : (240 : Int32).toInt = 240 := rfl
        obtain ⟨v, m2, e, p⟩ := t_X4_read hn hr a1 M hG (by omega)
        obtain ⟨v3, m3, e3, p3⟩ := t_X9_clear hn m2 (p.1)
        have hs : Sm l_law M m3 := (Sm.mono (p.2) rfl).tr (Sm.mono (p3.2.2.2) rfl)
        have hz := p3.2.1
        rw [e, qc_v, qc_v, e3, qc_v, qc_v]
        by_cases c4 : v ≤ (0 : Int32)
        · rw [if_pos c4]; exact Or.inl ⟨_, _, rfl, p3.2.2.1, hs, Or.inl ⟨by omega, hz⟩⟩
        · rw [if_neg c4, if_neg c4]; exact Or.inr ⟨rfl, _, _, rfl, p3.2.2.1, hs, Or.inl ⟨by omega, hz⟩⟩
      · rw [if_neg c3]; rw [Int32.le_iff_toInt_le] at c3; exact Or.inl ⟨_, _, rfl, hG, Sm.rf, Or.inr ⟨by omega, rfl⟩⟩
theorem ofN {k : Nat} (h : k ≤ 3584) : (Int32.ofNat k).toInt = (k : Int) := nI_toInt (by omega)
set_option maxRecDepth 8000 in
set_option maxHeartbeats 4000000 in
theorem L_go {n : Nat} (hn : 200000 ≤ n) (g : qG) (hN : g.2.2.2.2.2.1 ≤ 3584) : ∀ (m j r : Nat), q_isLaw j → q_isLaw r → ∀ (a3 : Int32) (M : qM), 0 ≤ a3.toInt → a3.toInt ≤ 3600 → G M → (M 1 1).toInt = (M 77 8).toInt → (M 7 8).toInt = (M 78 312).toInt → (M 16 8).toInt = (M 80 312).toInt → (M 0 12).toInt = (M 77 67).toInt → TR M → 3700 - a3.toInt < (m : Int) → qT (f_L_law g n m j r a3 M) (fun v _ => v = 1) := by
  intro m
  induction m with
  | zero => intro j r _ _ a3 M _ _ _ _ _ _ _ _ h; exfalso; omega
  | succ m ih =>
    intro j r hj hr a3 M h0 h1 hG hR0 hR1 hR2 hR3 hT hm
    show qT (b_L_law g n j r (f_L_law g n m j r) (f_L_law g n m r j) a3 M) _
    unfold b_L_law
    refine T_lt (i_sub (ofN hN) l_7 (by omega) (by omega)) rfl (fun c => T_ret rfl) (fun c => ?_)
    refine T_qg rfl (by omega) (by omega) ?_
    refine T_sw rfl l_0 (fun s1_ => ?_) (fun s1_ => ?_)
    · refine T_qg (i_add rfl l_1 (by omega) (by omega)) (by omega) (by omega) ?_
      refine T_qg (i_add rfl l_2 (by omega) (by omega)) (by omega) (by omega) ?_
      refine T_qg (i_add rfl l_3 (by omega) (by omega)) (by omega) (by omega) ?_
      refine T_qg (i_add rfl l_4 (by omega) (by omega)) (by omega) (by omega) ?_
      refine T_qcE (t_X11_kind hn _ _ _ _ M hG) ?_
      intro r2_ m3_ e6_ p5_
      have g4_ := p5_.2.1
      have f7_ : (m3_ 1 1).toInt = (M 1 1).toInt := by rw [p5_.2.2 1 1 (by decide)]
      have f8_ : (m3_ 77 8).toInt = (M 77 8).toInt := by rw [p5_.2.2 77 8 (by decide)]
      have f9_ : (m3_ 7 8).toInt = (M 7 8).toInt := by rw [p5_.2.2 7 8 (by decide)]
      have f10_ : (m3_ 78 312).toInt = (M 78 312).toInt := by rw [p5_.2.2 78 312 (by decide)]
      have f11_ : (m3_ 16 8).toInt = (M 16 8).toInt := by rw [p5_.2.2 16 8 (by decide)]
      have f12_ : (m3_ 80 312).toInt = (M 80 312).toInt := by rw [p5_.2.2 80 312 (by decide)]
      have f13_ : (m3_ 0 12).toInt = (M 0 12).toInt := by rw [p5_.2.2 0 12 (by decide)]
      have f14_ : (m3_ 77 67).toInt = (M 77 67).toInt := by rw [p5_.2.2 77 67 (by decide)]
      refine T_qg (i_add rfl l_1 (by omega) (by omega)) (by omega) (by omega) ?_
      refine T_qg (i_add rfl l_2 (by omega) (by omega)) (by omega) (by omega) ?_
      refine T_qg (i_add rfl l_3 (by omega) (by omega)) (by omega) (by omega) ?_
      refine T_qg (i_add rfl l_4 (by omega) (by omega)) (by omega) (by omega) ?_
      refine T_qcE (t_X12_kind hn _ _ _ _ m3_ g4_) ?_
      intro r15_ m16_ e19_ p18_
      have g17_ := p18_.2.1
      have f20_ : (m16_ 1 1).toInt = (m3_ 1 1).toInt := by rw [p18_.2.2 1 1 (by decide)]
      have f21_ : (m16_ 77 8).toInt = (m3_ 77 8).toInt := by rw [p18_.2.2 77 8 (by decide)]
      have f22_ : (m16_ 7 8).toInt = (m3_ 7 8).toInt := by rw [p18_.2.2 7 8 (by decide)]
      have f23_ : (m16_ 78 312).toInt = (m3_ 78 312).toInt := by rw [p18_.2.2 78 312 (by decide)]
      have f24_ : (m16_ 16 8).toInt = (m3_ 16 8).toInt := by rw [p18_.2.2 16 8 (by decide)]
      have f25_ : (m16_ 80 312).toInt = (m3_ 80 312).toInt := by rw [p18_.2.2 80 312 (by decide)]
      have f26_ : (m16_ 0 12).toInt = (m3_ 0 12).toInt := by rw [p18_.2.2 0 12 (by decide)]
      have f27_ : (m16_ 77 67).toInt = (m3_ 77 67).toInt := by rw [p18_.2.2 77 67 (by decide)]
      have q28_ : (m16_ 1 1).toInt = (m16_ 77 8).toInt := by omega
      have q29_ : (m16_ 7 8).toInt = (m16_ 78 312).toInt := by omega
      have q30_ : (m16_ 16 8).toInt = (m16_ 80 312).toInt := by omega
      have q31_ : (m16_ 0 12).toInt = (m16_ 77 67).toInt := by omega
      have f33_ := r_1_1 hG
      have t32_ : TR m16_ := TR_le hT (by omega) (funext (fun s_ => by rw [p18_.2.2 2 s_ (outc rfl), p5_.2.2 2 s_ (outc rfl)])) (funext (fun s_ => by rw [p18_.2.2 84 s_ (outc rfl), p5_.2.2 84 s_ (outc rfl)]))
      refine T_ql (i_add rfl l_7 (by omega) (by omega)) ?_
      intro x34_ h35_
      exact ih j r hj hr x34_ m16_ (by omega) (by omega) g17_ q28_ q29_ q30_ q31_ t32_ (by omega)
    refine T_sw rfl l_1 (fun s36_ => ?_) (fun s36_ => ?_)
    · refine T_qg (i_add rfl l_1 (by omega) (by omega)) (by omega) (by omega) ?_
      refine T_qg (i_add rfl l_2 (by omega) (by omega)) (by omega) (by omega) ?_
      refine T_qcE (t_X11_person hn _ _ M hG) ?_
      intro r37_ m38_ e41_ p40_
      have g39_ := p40_.2.2.1
      have f42_ : (m38_ 1 1).toInt = (M 1 1).toInt := by rw [p40_.2.2.2 1 1 (by decide)]
      have f43_ : (m38_ 77 8).toInt = (M 77 8).toInt := by rw [p40_.2.2.2 77 8 (by decide)]
      have f44_ : (m38_ 78 312).toInt = (M 78 312).toInt := by rw [p40_.2.2.2 78 312 (by decide)]
      have f45_ : (m38_ 16 8).toInt = (M 16 8).toInt := by rw [p40_.2.2.2 16 8 (by decide)]
      have f46_ : (m38_ 80 312).toInt = (M 80 312).toInt := by rw [p40_.2.2.2 80 312 (by decide)]
      have f47_ : (m38_ 0 12).toInt = (M 0 12).toInt := by rw [p40_.2.2.2 0 12 (by decide)]
      have f48_ : (m38_ 77 67).toInt = (M 77 67).toInt := by rw [p40_.2.2.2 77 67 (by decide)]
      have w49_ := p40_.2.1
      refine T_qg (i_add rfl l_1 (by omega) (by omega)) (by omega) (by omega) ?_
      refine T_qg (i_add rfl l_2 (by omega) (by omega)) (by omega) (by omega) ?_
      refine T_qcE (t_X12_person hn _ _ m38_ g39_) ?_
      intro r50_ m51_ e54_ p53_
      have g52_ := p53_.2.2.1
      have f55_ : (m51_ 1 1).toInt = (m38_ 1 1).toInt := by rw [p53_.2.2.2 1 1 (by decide)]
      have f56_ : (m51_ 77 8).toInt = (m38_ 77 8).toInt := by rw [p53_.2.2.2 77 8 (by decide)]
      have f57_ : (m51_ 7 8).toInt = (m38_ 7 8).toInt := by rw [p53_.2.2.2 7 8 (by decide)]
      have f58_ : (m51_ 16 8).toInt = (m38_ 16 8).toInt := by rw [p53_.2.2.2 16 8 (by decide)]
      have f59_ : (m51_ 80 312).toInt = (m38_ 80 312).toInt := by rw [p53_.2.2.2 80 312 (by decide)]
      have f60_ : (m51_ 0 12).toInt = (m38_ 0 12).toInt := by rw [p53_.2.2.2 0 12 (by decide)]
      have f61_ : (m51_ 77 67).toInt = (m38_ 77 67).toInt := by rw [p53_.2.2.2 77 67 (by decide)]
      have w62_ := p53_.2.1
      have b63_ : m38_ 78 312 = M 7 8 := Int32.toInt_inj.mp (by omega)
      rw [b63_] at w62_
      have q64_ : (m51_ 1 1).toInt = (m51_ 77 8).toInt := by omega
      have q65_ : (m51_ 7 8).toInt = (m51_ 78 312).toInt := by omega
      have q66_ : (m51_ 16 8).toInt = (m51_ 80 312).toInt := by omega
      have q67_ : (m51_ 0 12).toInt = (m51_ 77 67).toInt := by omega
      have f69_ := r_1_1 hG
      have t68_ : TR m51_ := TR_le hT (by omega) (funext (fun s_ => by rw [p53_.2.2.2 2 s_ (outc rfl), p40_.2.2.2 2 s_ (outc rfl)])) (funext (fun s_ => by rw [p53_.2.2.2 84 s_ (outc rfl), p40_.2.2.2 84 s_ (outc rfl)]))
      refine T_ql (i_add rfl l_7 (by omega) (by omega)) ?_
      intro x70_ h71_
      exact ih j r hj hr x70_ m51_ (by omega) (by omega) g52_ q64_ q65_ q66_ q67_ t68_ (by omega)
    refine T_sw rfl l_2 (fun s72_ => ?_) (fun s72_ => ?_)
    · refine T_qg (i_add rfl l_1 (by omega) (by omega)) (by omega) (by omega) ?_
      refine T_qg (i_add rfl l_2 (by omega) (by omega)) (by omega) (by omega) ?_
      refine T_qg (i_add rfl l_3 (by omega) (by omega)) (by omega) (by omega) ?_
      refine T_qg (i_add rfl l_4 (by omega) (by omega)) (by omega) (by omega) ?_
      refine T_qg (i_add rfl l_5 (by omega) (by omega)) (by omega) (by omega) ?_
      refine T_qcE (t_X11_feed hn _ _ _ _ _ M hG) ?_
      intro r73_ m74_ e77_ p76_
      have g75_ := p76_.2.2.1
      have f78_ : (m74_ 77 8).toInt = (M 77 8).toInt := by rw [p76_.2.2.2 77 8 (by decide)]
      have f79_ : (m74_ 7 8).toInt = (M 7 8).toInt := by rw [p76_.2.2.2 7 8 (by decide)]
      have f80_ : (m74_ 78 312).toInt = (M 78 312).toInt := by rw [p76_.2.2.2 78 312 (by decide)]
      have f81_ : (m74_ 16 8).toInt = (M 16 8).toInt := by rw [p76_.2.2.2 16 8 (by decide)]
      have f82_ : (m74_ 80 312).toInt = (M 80 312).toInt := by rw [p76_.2.2.2 80 312 (by decide)]
      have f83_ : (m74_ 0 12).toInt = (M 0 12).toInt := by rw [p76_.2.2.2 0 12 (by decide)]
      have f84_ : (m74_ 77 67).toInt = (M 77 67).toInt := by rw [p76_.2.2.2 77 67 (by decide)]
      have w85_ := p76_.2.1
      refine T_qg (i_add rfl l_1 (by omega) (by omega)) (by omega) (by omega) ?_
      refine T_qg (i_add rfl l_2 (by omega) (by omega)) (by omega) (by omega) ?_
      refine T_qg (i_add rfl l_3 (by omega) (by omega)) (by omega) (by omega) ?_
      refine T_qg (i_add rfl l_4 (by omega) (by omega)) (by omega) (by omega) ?_
      refine T_qg (i_add rfl l_5 (by omega) (by omega)) (by omega) (by omega) ?_
      refine T_qcE (t_X12_feed hn _ _ _ _ _ m74_ g75_) ?_
      intro r86_ m87_ e90_ p89_
      have g88_ := p89_.2.2.1
      have f91_ : (m87_ 1 1).toInt = (m74_ 1 1).toInt := by rw [p89_.2.2.2 1 1 (by decide)]
      have f92_ : (m87_ 7 8).toInt = (m74_ 7 8).toInt := by rw [p89_.2.2.2 7 8 (by decide)]
      have f93_ : (m87_ 78 312).toInt = (m74_ 78 312).toInt := by rw [p89_.2.2.2 78 312 (by decide)]
      have f94_ : (m87_ 16 8).toInt = (m74_ 16 8).toInt := by rw [p89_.2.2.2 16 8 (by decide)]
      have f95_ : (m87_ 80 312).toInt = (m74_ 80 312).toInt := by rw [p89_.2.2.2 80 312 (by decide)]
      have f96_ : (m87_ 0 12).toInt = (m74_ 0 12).toInt := by rw [p89_.2.2.2 0 12 (by decide)]
      have f97_ : (m87_ 77 67).toInt = (m74_ 77 67).toInt := by rw [p89_.2.2.2 77 67 (by decide)]
      have w98_ := p89_.2.1
      have q99_ : (m87_ 1 1).toInt = (m87_ 77 8).toInt := by omega
      have q100_ : (m87_ 7 8).toInt = (m87_ 78 312).toInt := by omega
      have q101_ : (m87_ 16 8).toInt = (m87_ 80 312).toInt := by omega
      have q102_ : (m87_ 0 12).toInt = (m87_ 77 67).toInt := by omega
      have t103_ : TR m87_ := feed_TR hn hG hT hR0 e77_ e90_
      refine T_ql (i_add rfl l_7 (by omega) (by omega)) ?_
      intro x104_ h105_
      exact ih j r hj hr x104_ m87_ (by omega) (by omega) g88_ q99_ q100_ q101_ q102_ t103_ (by omega)
    refine T_sw rfl l_3 (fun s106_ => ?_) (fun s106_ => ?_)
    · refine T_qg (i_add rfl l_1 (by omega) (by omega)) (by omega) (by omega) ?_
      refine T_qc2s (law_tots hn hr _ M hG) (fun v_ m_ ee_ p_ => ?_) (fun v_ m_ ee_ p_ => ?_)
      · have f107_ : (m_ 77 8).toInt = (M 77 8).toInt := by rw [p_.2.1 77 8 (by decide)]
        have f108_ : (m_ 7 8).toInt = (M 7 8).toInt := by rw [p_.2.1 7 8 (by decide)]
        have f109_ : (m_ 78 312).toInt = (M 78 312).toInt := by rw [p_.2.1 78 312 (by decide)]
        have f110_ : (m_ 16 8).toInt = (M 16 8).toInt := by rw [p_.2.1 16 8 (by decide)]
        have f111_ : (m_ 80 312).toInt = (M 80 312).toInt := by rw [p_.2.1 80 312 (by decide)]
        have f112_ : (m_ 0 12).toInt = (M 0 12).toInt := by rw [p_.2.1 0 12 (by decide)]
        have f113_ : (m_ 77 67).toInt = (M 77 67).toInt := by rw [p_.2.1 77 67 (by decide)]
        have w114_ := p_.2.2
        refine T_qg (i_add rfl l_1 (by omega) (by omega)) (by omega) (by omega) ?_
        refine T_qcE (t_X12_law hn _ m_ p_.1) ?_
        intro r115_ m116_ e119_ p118_
        have g117_ := p118_.1
        have f120_ : (m116_ 1 1).toInt = (m_ 1 1).toInt := by rw [show m116_ 1 1 = m_ 1 1 from congrFun (p118_.2.1.2 1 (by decide) (by decide)) 1]
        have f121_ : (m116_ 7 8).toInt = (m_ 7 8).toInt := by rw [show m116_ 7 8 = m_ 7 8 from congrFun (p118_.2.1.2 7 (by decide) (by decide)) 8]
        have f122_ : (m116_ 78 312).toInt = (m_ 78 312).toInt := by rw [show m116_ 78 312 = m_ 78 312 from congrFun (p118_.2.1.2 78 (by decide) (by decide)) 312]
        have f123_ : (m116_ 16 8).toInt = (m_ 16 8).toInt := by rw [show m116_ 16 8 = m_ 16 8 from congrFun (p118_.2.1.2 16 (by decide) (by decide)) 8]
        have f124_ : (m116_ 80 312).toInt = (m_ 80 312).toInt := by rw [show m116_ 80 312 = m_ 80 312 from congrFun (p118_.2.1.2 80 (by decide) (by decide)) 312]
        have f125_ : (m116_ 0 12).toInt = (m_ 0 12).toInt := by rw [show m116_ 0 12 = m_ 0 12 from congrFun (p118_.2.1.2 0 (by decide) (by decide)) 12]
        have f126_ : (m116_ 77 67).toInt = (m_ 77 67).toInt := by rw [show m116_ 77 67 = m_ 77 67 from p118_.2.1.1 67 (by decide)]
        have w127_ := p118_.2.2
        have q128_ : (m116_ 1 1).toInt = (m116_ 77 8).toInt := by omega
        have q129_ : (m116_ 7 8).toInt = (m116_ 78 312).toInt := by omega
        have q130_ : (m116_ 16 8).toInt = (m116_ 80 312).toInt := by omega
        have q131_ : (m116_ 0 12).toInt = (m116_ 77 67).toInt := by omega
        have f133_ := r_1_1 hG
        have t132_ : TR m116_ := TR_le hT (by omega) (by rw [p118_.2.1.2 2 (by decide) (by decide)]; exact funext (fun s_ => p_.2.1 2 s_ (outc rfl))) (by rw [p118_.2.1.2 84 (by decide) (by decide)]; exact funext (fun s_ => p_.2.1 84 s_ (outc rfl)))
        refine T_ql (i_add rfl l_7 (by omega) (by omega)) ?_
        intro x134_ h135_
        exact ih j r hj hr x134_ m116_ (by omega) (by omega) g117_ q128_ q129_ q130_ q131_ t132_ (by omega)
      · have f136_ : (m_ 77 8).toInt = (M 77 8).toInt := by rw [p_.2.1 77 8 (by decide)]
        have f137_ : (m_ 7 8).toInt = (M 7 8).toInt := by rw [p_.2.1 7 8 (by decide)]
        have f138_ : (m_ 78 312).toInt = (M 78 312).toInt := by rw [p_.2.1 78 312 (by decide)]
        have f139_ : (m_ 16 8).toInt = (M 16 8).toInt := by rw [p_.2.1 16 8 (by decide)]
        have f140_ : (m_ 80 312).toInt = (M 80 312).toInt := by rw [p_.2.1 80 312 (by decide)]
        have f141_ : (m_ 0 12).toInt = (M 0 12).toInt := by rw [p_.2.1 0 12 (by decide)]
        have f142_ : (m_ 77 67).toInt = (M 77 67).toInt := by rw [p_.2.1 77 67 (by decide)]
        have w143_ := p_.2.2
        refine T_qg (i_add rfl l_1 (by omega) (by omega)) (by omega) (by omega) ?_
        refine T_qcE (t_X12_law hn _ m_ p_.1) ?_
        intro r144_ m145_ e148_ p147_
        have g146_ := p147_.1
        have f149_ : (m145_ 1 1).toInt = (m_ 1 1).toInt := by rw [show m145_ 1 1 = m_ 1 1 from congrFun (p147_.2.1.2 1 (by decide) (by decide)) 1]
        have f150_ : (m145_ 7 8).toInt = (m_ 7 8).toInt := by rw [show m145_ 7 8 = m_ 7 8 from congrFun (p147_.2.1.2 7 (by decide) (by decide)) 8]
        have f151_ : (m145_ 78 312).toInt = (m_ 78 312).toInt := by rw [show m145_ 78 312 = m_ 78 312 from congrFun (p147_.2.1.2 78 (by decide) (by decide)) 312]
        have f152_ : (m145_ 16 8).toInt = (m_ 16 8).toInt := by rw [show m145_ 16 8 = m_ 16 8 from congrFun (p147_.2.1.2 16 (by decide) (by decide)) 8]
        have f153_ : (m145_ 80 312).toInt = (m_ 80 312).toInt := by rw [show m145_ 80 312 = m_ 80 312 from congrFun (p147_.2.1.2 80 (by decide) (by decide)) 312]
        have f154_ : (m145_ 0 12).toInt = (m_ 0 12).toInt := by rw [show m145_ 0 12 = m_ 0 12 from congrFun (p147_.2.1.2 0 (by decide) (by decide)) 12]
        have f155_ : (m145_ 77 67).toInt = (m_ 77 67).toInt := by rw [show m145_ 77 67 = m_ 77 67 from p147_.2.1.1 67 (by decide)]
        have w156_ := p147_.2.2
        have q157_ : (m145_ 1 1).toInt = (m145_ 77 8).toInt := by omega
        have q158_ : (m145_ 7 8).toInt = (m145_ 78 312).toInt := by omega
        have q159_ : (m145_ 16 8).toInt = (m145_ 80 312).toInt := by omega
        have q160_ : (m145_ 0 12).toInt = (m145_ 77 67).toInt := by omega
        have f162_ := r_1_1 hG
        have t161_ : TR m145_ := TR_le hT (by omega) (by rw [p147_.2.1.2 2 (by decide) (by decide)]; exact funext (fun s_ => p_.2.1 2 s_ (outc rfl))) (by rw [p147_.2.1.2 84 (by decide) (by decide)]; exact funext (fun s_ => p_.2.1 84 s_ (outc rfl)))
        refine T_ql (i_add rfl l_7 (by omega) (by omega)) ?_
        intro x163_ h164_
        exact ih r j hr hj x163_ m145_ (by omega) (by omega) g146_ q157_ q158_ q159_ q160_ t161_ (by omega)
    refine T_sw rfl l_4 (fun s165_ => ?_) (fun s165_ => ?_)
    · refine T_qg (i_add rfl l_1 (by omega) (by omega)) (by omega) (by omega) ?_
      refine T_qg (i_add rfl l_2 (by omega) (by omega)) (by omega) (by omega) ?_
      refine T_qcE (t_X11_plan hn _ _ M hG) ?_
      intro r166_ m167_ e170_ p169_
      have g168_ := p169_.2.1
      have f171_ : (m167_ 77 8).toInt = (M 77 8).toInt := by rw [p169_.2.2 77 8 (by decide)]
      have f172_ : (m167_ 7 8).toInt = (M 7 8).toInt := by rw [p169_.2.2 7 8 (by decide)]
      have f173_ : (m167_ 78 312).toInt = (M 78 312).toInt := by rw [p169_.2.2 78 312 (by decide)]
      have f174_ : (m167_ 16 8).toInt = (M 16 8).toInt := by rw [p169_.2.2 16 8 (by decide)]
      have f175_ : (m167_ 80 312).toInt = (M 80 312).toInt := by rw [p169_.2.2 80 312 (by decide)]
      have f176_ : (m167_ 0 12).toInt = (M 0 12).toInt := by rw [p169_.2.2 0 12 (by decide)]
      have f177_ : (m167_ 77 67).toInt = (M 77 67).toInt := by rw [p169_.2.2 77 67 (by decide)]
      have w178_ := p169_.1
      refine T_qg (i_add rfl l_1 (by omega) (by omega)) (by omega) (by omega) ?_
      refine T_qg (i_add rfl l_2 (by omega) (by omega)) (by omega) (by omega) ?_
      refine T_qcE (t_X12_plan hn _ _ m167_ g168_) ?_
      intro r179_ m180_ e183_ p182_
      have g181_ := p182_.2.1
      have f184_ : (m180_ 1 1).toInt = (m167_ 1 1).toInt := by rw [p182_.2.2 1 1 (by decide)]
      have f185_ : (m180_ 7 8).toInt = (m167_ 7 8).toInt := by rw [p182_.2.2 7 8 (by decide)]
      have f186_ : (m180_ 78 312).toInt = (m167_ 78 312).toInt := by rw [p182_.2.2 78 312 (by decide)]
      have f187_ : (m180_ 16 8).toInt = (m167_ 16 8).toInt := by rw [p182_.2.2 16 8 (by decide)]
      have f188_ : (m180_ 80 312).toInt = (m167_ 80 312).toInt := by rw [p182_.2.2 80 312 (by decide)]
      have f189_ : (m180_ 0 12).toInt = (m167_ 0 12).toInt := by rw [p182_.2.2 0 12 (by decide)]
      have f190_ : (m180_ 77 67).toInt = (m167_ 77 67).toInt := by rw [p182_.2.2 77 67 (by decide)]
      have w191_ := p182_.1
      have b192_ : m167_ 78 312 = M 7 8 := Int32.toInt_inj.mp (by omega)
      rw [b192_] at w191_
      have q193_ : (m180_ 1 1).toInt = (m180_ 77 8).toInt := by omega
      have q194_ : (m180_ 7 8).toInt = (m180_ 78 312).toInt := by omega
      have q195_ : (m180_ 16 8).toInt = (m180_ 80 312).toInt := by omega
      have q196_ : (m180_ 0 12).toInt = (m180_ 77 67).toInt := by omega
      have f198_ := r_1_1 hG
      have t197_ : TR m180_ := TR_le hT (by omega) (funext (fun s_ => by rw [p182_.2.2 2 s_ (outc rfl), p169_.2.2 2 s_ (outc rfl)])) (funext (fun s_ => by rw [p182_.2.2 84 s_ (outc rfl), p169_.2.2 84 s_ (outc rfl)]))
      have w199_ : r166_ = r179_ := plan_ag hn hG g168_ hT (by omega) (Int32.toInt_inj.mp (by omega)) (funext (fun s_ => p169_.2.2 84 s_ (outc rfl))) e170_ e183_
      rw [if_pos w199_]
      refine T_ql (i_add rfl l_7 (by omega) (by omega)) ?_
      intro x200_ h201_
      exact ih j r hj hr x200_ m180_ (by omega) (by omega) g181_ q193_ q194_ q195_ q196_ t197_ (by omega)
    refine T_sw rfl l_5 (fun s202_ => ?_) (fun s202_ => ?_)
    · refine T_qg (i_add rfl l_1 (by omega) (by omega)) (by omega) (by omega) ?_
      refine T_qg (i_add rfl l_2 (by omega) (by omega)) (by omega) (by omega) ?_
      refine T_qg (i_add rfl l_3 (by omega) (by omega)) (by omega) (by omega) ?_
      refine T_qcE (t_X11_tries hn hj _ _ _ M hG) ?_
      intro r203_ m204_ e207_ p206_
      have g205_ := p206_.2.1
      have f208_ : (m204_ 1 1).toInt = (M 1 1).toInt := by rw [p206_.2.2 1 1 (by decide)]
      have f209_ : (m204_ 77 8).toInt = (M 77 8).toInt := by rw [p206_.2.2 77 8 (by decide)]
      have f210_ : (m204_ 7 8).toInt = (M 7 8).toInt := by rw [p206_.2.2 7 8 (by decide)]
      have f211_ : (m204_ 78 312).toInt = (M 78 312).toInt := by rw [p206_.2.2 78 312 (by decide)]
      have f212_ : (m204_ 16 8).toInt = (M 16 8).toInt := by rw [p206_.2.2 16 8 (by decide)]
      have f213_ : (m204_ 80 312).toInt = (M 80 312).toInt := by rw [p206_.2.2 80 312 (by decide)]
      have f214_ : (m204_ 0 12).toInt = (M 0 12).toInt := by rw [p206_.2.2 0 12 (by decide)]
      have f215_ : (m204_ 77 67).toInt = (M 77 67).toInt := by rw [p206_.2.2 77 67 (by decide)]
      refine T_qg (i_add rfl l_1 (by omega) (by omega)) (by omega) (by omega) ?_
      refine T_qg (i_add rfl l_2 (by omega) (by omega)) (by omega) (by omega) ?_
      refine T_qg (i_add rfl l_3 (by omega) (by omega)) (by omega) (by omega) ?_
      refine T_qcE (t_X12_tries hn _ _ _ m204_ g205_) ?_
      intro r216_ m217_ e220_ p219_
      have g218_ := p219_.2.1
      have f221_ : (m217_ 1 1).toInt = (m204_ 1 1).toInt := by rw [p219_.2.2 1 1 (by decide)]
      have f222_ : (m217_ 77 8).toInt = (m204_ 77 8).toInt := by rw [p219_.2.2 77 8 (by decide)]
      have f223_ : (m217_ 7 8).toInt = (m204_ 7 8).toInt := by rw [p219_.2.2 7 8 (by decide)]
      have f224_ : (m217_ 78 312).toInt = (m204_ 78 312).toInt := by rw [p219_.2.2 78 312 (by decide)]
      have f225_ : (m217_ 16 8).toInt = (m204_ 16 8).toInt := by rw [p219_.2.2 16 8 (by decide)]
      have f226_ : (m217_ 80 312).toInt = (m204_ 80 312).toInt := by rw [p219_.2.2 80 312 (by decide)]
      have f227_ : (m217_ 0 12).toInt = (m204_ 0 12).toInt := by rw [p219_.2.2 0 12 (by decide)]
      have f228_ : (m217_ 77 67).toInt = (m204_ 77 67).toInt := by rw [p219_.2.2 77 67 (by decide)]
      have q229_ : (m217_ 1 1).toInt = (m217_ 77 8).toInt := by omega
      have q230_ : (m217_ 7 8).toInt = (m217_ 78 312).toInt := by omega
      have q231_ : (m217_ 16 8).toInt = (m217_ 80 312).toInt := by omega
      have q232_ : (m217_ 0 12).toInt = (m217_ 77 67).toInt := by omega
      have f234_ := r_1_1 hG
      have t233_ : TR m217_ := TR_le hT (by omega) (funext (fun s_ => by rw [p219_.2.2 2 s_ (outc rfl), p206_.2.2 2 s_ (outc rfl)])) (funext (fun s_ => by rw [p219_.2.2 84 s_ (outc rfl), p206_.2.2 84 s_ (outc rfl)]))
      refine T_ql (i_add rfl l_7 (by omega) (by omega)) ?_
      intro x235_ h236_
      exact ih j r hj hr x235_ m217_ (by omega) (by omega) g218_ q229_ q230_ q231_ q232_ t233_ (by omega)
    refine T_sw rfl l_6 (fun s237_ => ?_) (fun s237_ => ?_)
    · refine T_qg (i_add rfl l_1 (by omega) (by omega)) (by omega) (by omega) ?_
      refine T_qg (i_add rfl l_2 (by omega) (by omega)) (by omega) (by omega) ?_
      refine T_qg (i_add rfl l_3 (by omega) (by omega)) (by omega) (by omega) ?_
      refine T_qcE (t_X11_buys hn hj _ _ _ M hG) ?_
      intro r238_ m239_ e242_ p241_
      have g240_ := p241_.2.1
      have f243_ : (m239_ 1 1).toInt = (M 1 1).toInt := by rw [p241_.2.2 1 1 (by decide)]
      have f244_ : (m239_ 77 8).toInt = (M 77 8).toInt := by rw [p241_.2.2 77 8 (by decide)]
      have f245_ : (m239_ 7 8).toInt = (M 7 8).toInt := by rw [p241_.2.2 7 8 (by decide)]
      have f246_ : (m239_ 78 312).toInt = (M 78 312).toInt := by rw [p241_.2.2 78 312 (by decide)]
      have f247_ : (m239_ 16 8).toInt = (M 16 8).toInt := by rw [p241_.2.2 16 8 (by decide)]
      have f248_ : (m239_ 80 312).toInt = (M 80 312).toInt := by rw [p241_.2.2 80 312 (by decide)]
      have f249_ : (m239_ 0 12).toInt = (M 0 12).toInt := by rw [p241_.2.2 0 12 (by decide)]
      have f250_ : (m239_ 77 67).toInt = (M 77 67).toInt := by rw [p241_.2.2 77 67 (by decide)]
      refine T_qg (i_add rfl l_1 (by omega) (by omega)) (by omega) (by omega) ?_
      refine T_qg (i_add rfl l_2 (by omega) (by omega)) (by omega) (by omega) ?_
      refine T_qg (i_add rfl l_3 (by omega) (by omega)) (by omega) (by omega) ?_
      refine T_qcE (t_X12_buys hn _ _ _ m239_ g240_) ?_
      intro r251_ m252_ e255_ p254_
      have g253_ := p254_.2.1
      have f256_ : (m252_ 1 1).toInt = (m239_ 1 1).toInt := by rw [p254_.2.2 1 1 (by decide)]
      have f257_ : (m252_ 77 8).toInt = (m239_ 77 8).toInt := by rw [p254_.2.2 77 8 (by decide)]
      have f258_ : (m252_ 7 8).toInt = (m239_ 7 8).toInt := by rw [p254_.2.2 7 8 (by decide)]
      have f259_ : (m252_ 78 312).toInt = (m239_ 78 312).toInt := by rw [p254_.2.2 78 312 (by decide)]
      have f260_ : (m252_ 16 8).toInt = (m239_ 16 8).toInt := by rw [p254_.2.2 16 8 (by decide)]
      have f261_ : (m252_ 80 312).toInt = (m239_ 80 312).toInt := by rw [p254_.2.2 80 312 (by decide)]
      have f262_ : (m252_ 0 12).toInt = (m239_ 0 12).toInt := by rw [p254_.2.2 0 12 (by decide)]
      have f263_ : (m252_ 77 67).toInt = (m239_ 77 67).toInt := by rw [p254_.2.2 77 67 (by decide)]
      have q264_ : (m252_ 1 1).toInt = (m252_ 77 8).toInt := by omega
      have q265_ : (m252_ 7 8).toInt = (m252_ 78 312).toInt := by omega
      have q266_ : (m252_ 16 8).toInt = (m252_ 80 312).toInt := by omega
      have q267_ : (m252_ 0 12).toInt = (m252_ 77 67).toInt := by omega
      have f269_ := r_1_1 hG
      have t268_ : TR m252_ := TR_le hT (by omega) (funext (fun s_ => by rw [p254_.2.2 2 s_ (outc rfl), p241_.2.2 2 s_ (outc rfl)])) (funext (fun s_ => by rw [p254_.2.2 84 s_ (outc rfl), p241_.2.2 84 s_ (outc rfl)]))
      refine T_ql (i_add rfl l_7 (by omega) (by omega)) ?_
      intro x270_ h271_
      exact ih j r hj hr x270_ m252_ (by omega) (by omega) g253_ q264_ q265_ q266_ q267_ t268_ (by omega)
    refine T_sw rfl l_7 (fun s272_ => ?_) (fun s272_ => ?_)
    · refine T_qg (i_add rfl l_1 (by omega) (by omega)) (by omega) (by omega) ?_
      refine T_qcE (t_X11_days hn hj _ M hG) ?_
      intro r273_ m274_ e277_ p276_
      have g275_ := p276_.2.1
      have f278_ : (m274_ 1 1).toInt = (M 1 1).toInt := by rw [p276_.2.2 1 1 (by decide)]
      have f279_ : (m274_ 77 8).toInt = (M 77 8).toInt := by rw [p276_.2.2 77 8 (by decide)]
      have f280_ : (m274_ 7 8).toInt = (M 7 8).toInt := by rw [p276_.2.2 7 8 (by decide)]
      have f281_ : (m274_ 78 312).toInt = (M 78 312).toInt := by rw [p276_.2.2 78 312 (by decide)]
      have f282_ : (m274_ 16 8).toInt = (M 16 8).toInt := by rw [p276_.2.2 16 8 (by decide)]
      have f283_ : (m274_ 80 312).toInt = (M 80 312).toInt := by rw [p276_.2.2 80 312 (by decide)]
      have f284_ : (m274_ 0 12).toInt = (M 0 12).toInt := by rw [p276_.2.2 0 12 (by decide)]
      have f285_ : (m274_ 77 67).toInt = (M 77 67).toInt := by rw [p276_.2.2 77 67 (by decide)]
      refine T_qg (i_add rfl l_1 (by omega) (by omega)) (by omega) (by omega) ?_
      refine T_qcE (t_X12_days hn _ m274_ g275_) ?_
      intro r286_ m287_ e290_ p289_
      have g288_ := p289_.2.1
      have f291_ : (m287_ 1 1).toInt = (m274_ 1 1).toInt := by rw [p289_.2.2 1 1 (by decide)]
      have f292_ : (m287_ 77 8).toInt = (m274_ 77 8).toInt := by rw [p289_.2.2 77 8 (by decide)]
      have f293_ : (m287_ 7 8).toInt = (m274_ 7 8).toInt := by rw [p289_.2.2 7 8 (by decide)]
      have f294_ : (m287_ 78 312).toInt = (m274_ 78 312).toInt := by rw [p289_.2.2 78 312 (by decide)]
      have f295_ : (m287_ 16 8).toInt = (m274_ 16 8).toInt := by rw [p289_.2.2 16 8 (by decide)]
      have f296_ : (m287_ 80 312).toInt = (m274_ 80 312).toInt := by rw [p289_.2.2 80 312 (by decide)]
      have f297_ : (m287_ 0 12).toInt = (m274_ 0 12).toInt := by rw [p289_.2.2 0 12 (by decide)]
      have f298_ : (m287_ 77 67).toInt = (m274_ 77 67).toInt := by rw [p289_.2.2 77 67 (by decide)]
      have q299_ : (m287_ 1 1).toInt = (m287_ 77 8).toInt := by omega
      have q300_ : (m287_ 7 8).toInt = (m287_ 78 312).toInt := by omega
      have q301_ : (m287_ 16 8).toInt = (m287_ 80 312).toInt := by omega
      have q302_ : (m287_ 0 12).toInt = (m287_ 77 67).toInt := by omega
      have f304_ := r_1_1 hG
      have t303_ : TR m287_ := TR_le hT (by omega) (funext (fun s_ => by rw [p289_.2.2 2 s_ (outc rfl), p276_.2.2 2 s_ (outc rfl)])) (funext (fun s_ => by rw [p289_.2.2 84 s_ (outc rfl), p276_.2.2 84 s_ (outc rfl)]))
      refine T_ql (i_add rfl l_7 (by omega) (by omega)) ?_
      intro x305_ h306_
      exact ih j r hj hr x305_ m287_ (by omega) (by omega) g288_ q299_ q300_ q301_ q302_ t303_ (by omega)
    refine T_sw rfl l_8 (fun s307_ => ?_) (fun s307_ => ?_)
    · refine T_qg (i_add rfl l_1 (by omega) (by omega)) (by omega) (by omega) ?_
      refine T_qg (i_add rfl l_2 (by omega) (by omega)) (by omega) (by omega) ?_
      refine T_qcE (t_X11_tried hn hj _ _ M hG) ?_
      intro r308_ m309_ e312_ p311_
      have g310_ := p311_.1
      have f313_ : (m309_ 1 1).toInt = (M 1 1).toInt := by rw [p311_.2 1 1 (by decide)]
      have f314_ : (m309_ 77 8).toInt = (M 77 8).toInt := by rw [p311_.2 77 8 (by decide)]
      have f315_ : (m309_ 7 8).toInt = (M 7 8).toInt := by rw [p311_.2 7 8 (by decide)]
      have f316_ : (m309_ 78 312).toInt = (M 78 312).toInt := by rw [p311_.2 78 312 (by decide)]
      have f317_ : (m309_ 16 8).toInt = (M 16 8).toInt := by rw [p311_.2 16 8 (by decide)]
      have f318_ : (m309_ 80 312).toInt = (M 80 312).toInt := by rw [p311_.2 80 312 (by decide)]
      have f319_ : (m309_ 0 12).toInt = (M 0 12).toInt := by rw [p311_.2 0 12 (by decide)]
      have f320_ : (m309_ 77 67).toInt = (M 77 67).toInt := by rw [p311_.2 77 67 (by decide)]
      refine T_qg (i_add rfl l_1 (by omega) (by omega)) (by omega) (by omega) ?_
      refine T_qg (i_add rfl l_2 (by omega) (by omega)) (by omega) (by omega) ?_
      refine T_qcE (t_X12_tried hn _ _ m309_ g310_) ?_
      intro r321_ m322_ e325_ p324_
      have g323_ := p324_.2.1
      have f326_ : (m322_ 1 1).toInt = (m309_ 1 1).toInt := by rw [p324_.2.2 1 1 (by decide)]
      have f327_ : (m322_ 77 8).toInt = (m309_ 77 8).toInt := by rw [p324_.2.2 77 8 (by decide)]
      have f328_ : (m322_ 7 8).toInt = (m309_ 7 8).toInt := by rw [p324_.2.2 7 8 (by decide)]
      have f329_ : (m322_ 16 8).toInt = (m309_ 16 8).toInt := by rw [p324_.2.2 16 8 (by decide)]
      have f330_ : (m322_ 80 312).toInt = (m309_ 80 312).toInt := by rw [p324_.2.2 80 312 (by decide)]
      have f331_ : (m322_ 0 12).toInt = (m309_ 0 12).toInt := by rw [p324_.2.2 0 12 (by decide)]
      have f332_ : (m322_ 77 67).toInt = (m309_ 77 67).toInt := by rw [p324_.2.2 77 67 (by decide)]
      have w333_ := p324_.1
      have q334_ : (m322_ 1 1).toInt = (m322_ 77 8).toInt := by omega
      have q335_ : (m322_ 7 8).toInt = (m322_ 78 312).toInt := by omega
      have q336_ : (m322_ 16 8).toInt = (m322_ 80 312).toInt := by omega
      have q337_ : (m322_ 0 12).toInt = (m322_ 77 67).toInt := by omega
      have f339_ := r_1_1 hG
      have t338_ : TR m322_ := TR_le hT (by omega) (funext (fun s_ => by rw [p324_.2.2 2 s_ (outc rfl), p311_.2 2 s_ (outc rfl)])) (funext (fun s_ => by rw [p324_.2.2 84 s_ (outc rfl), p311_.2 84 s_ (outc rfl)]))
      refine T_ql (i_add rfl l_7 (by omega) (by omega)) ?_
      intro x340_ h341_
      exact ih j r hj hr x340_ m322_ (by omega) (by omega) g323_ q334_ q335_ q336_ q337_ t338_ (by omega)
    refine T_sw rfl l_9 (fun s342_ => ?_) (fun s342_ => ?_)
    · refine T_qg (i_add rfl l_1 (by omega) (by omega)) (by omega) (by omega) ?_
      refine T_qg (i_add rfl l_2 (by omega) (by omega)) (by omega) (by omega) ?_
      refine T_qg (i_add rfl l_3 (by omega) (by omega)) (by omega) (by omega) ?_
      refine T_qcE (t_X11_has hn hj _ _ _ M hG) ?_
      intro r343_ m344_ e347_ p346_
      have g345_ := p346_.1
      have f348_ : (m344_ 1 1).toInt = (M 1 1).toInt := by rw [p346_.2 1 1 (by decide)]
      have f349_ : (m344_ 77 8).toInt = (M 77 8).toInt := by rw [p346_.2 77 8 (by decide)]
      have f350_ : (m344_ 7 8).toInt = (M 7 8).toInt := by rw [p346_.2 7 8 (by decide)]
      have f351_ : (m344_ 78 312).toInt = (M 78 312).toInt := by rw [p346_.2 78 312 (by decide)]
      have f352_ : (m344_ 16 8).toInt = (M 16 8).toInt := by rw [p346_.2 16 8 (by decide)]
      have f353_ : (m344_ 80 312).toInt = (M 80 312).toInt := by rw [p346_.2 80 312 (by decide)]
      have f354_ : (m344_ 0 12).toInt = (M 0 12).toInt := by rw [p346_.2 0 12 (by decide)]
      have f355_ : (m344_ 77 67).toInt = (M 77 67).toInt := by rw [p346_.2 77 67 (by decide)]
      refine T_qg (i_add rfl l_1 (by omega) (by omega)) (by omega) (by omega) ?_
      refine T_qg (i_add rfl l_2 (by omega) (by omega)) (by omega) (by omega) ?_
      refine T_qg (i_add rfl l_3 (by omega) (by omega)) (by omega) (by omega) ?_
      refine T_qcE (t_X12_has hn _ _ _ m344_ g345_) ?_
      intro r356_ m357_ e360_ p359_
      have g358_ := p359_.2.1
      have f361_ : (m357_ 1 1).toInt = (m344_ 1 1).toInt := by rw [p359_.2.2 1 1 (by decide)]
      have f362_ : (m357_ 77 8).toInt = (m344_ 77 8).toInt := by rw [p359_.2.2 77 8 (by decide)]
      have f363_ : (m357_ 7 8).toInt = (m344_ 7 8).toInt := by rw [p359_.2.2 7 8 (by decide)]
      have f364_ : (m357_ 16 8).toInt = (m344_ 16 8).toInt := by rw [p359_.2.2 16 8 (by decide)]
      have f365_ : (m357_ 80 312).toInt = (m344_ 80 312).toInt := by rw [p359_.2.2 80 312 (by decide)]
      have f366_ : (m357_ 0 12).toInt = (m344_ 0 12).toInt := by rw [p359_.2.2 0 12 (by decide)]
      have f367_ : (m357_ 77 67).toInt = (m344_ 77 67).toInt := by rw [p359_.2.2 77 67 (by decide)]
      have w368_ := p359_.1
      have q369_ : (m357_ 1 1).toInt = (m357_ 77 8).toInt := by omega
      have q370_ : (m357_ 7 8).toInt = (m357_ 78 312).toInt := by omega
      have q371_ : (m357_ 16 8).toInt = (m357_ 80 312).toInt := by omega
      have q372_ : (m357_ 0 12).toInt = (m357_ 77 67).toInt := by omega
      have f374_ := r_1_1 hG
      have t373_ : TR m357_ := TR_le hT (by omega) (funext (fun s_ => by rw [p359_.2.2 2 s_ (outc rfl), p346_.2 2 s_ (outc rfl)])) (funext (fun s_ => by rw [p359_.2.2 84 s_ (outc rfl), p346_.2 84 s_ (outc rfl)]))
      refine T_ql (i_add rfl l_7 (by omega) (by omega)) ?_
      intro x375_ h376_
      exact ih j r hj hr x375_ m357_ (by omega) (by omega) g358_ q369_ q370_ q371_ q372_ t373_ (by omega)
    refine T_sw rfl l_10 (fun s377_ => ?_) (fun s377_ => ?_)
    · refine T_qg (i_add rfl l_1 (by omega) (by omega)) (by omega) (by omega) ?_
      refine T_qg (i_add rfl l_2 (by omega) (by omega)) (by omega) (by omega) ?_
      refine T_qcE (t_X11_alike hn hj _ _ M hG) ?_
      intro r378_ m379_ e382_ p381_
      have g380_ := p381_.2.1
      have f383_ : (m379_ 1 1).toInt = (M 1 1).toInt := by rw [p381_.2.2 1 1 (by decide)]
      have f384_ : (m379_ 77 8).toInt = (M 77 8).toInt := by rw [p381_.2.2 77 8 (by decide)]
      have f385_ : (m379_ 7 8).toInt = (M 7 8).toInt := by rw [p381_.2.2 7 8 (by decide)]
      have f386_ : (m379_ 78 312).toInt = (M 78 312).toInt := by rw [p381_.2.2 78 312 (by decide)]
      have f387_ : (m379_ 16 8).toInt = (M 16 8).toInt := by rw [p381_.2.2 16 8 (by decide)]
      have f388_ : (m379_ 80 312).toInt = (M 80 312).toInt := by rw [p381_.2.2 80 312 (by decide)]
      have f389_ : (m379_ 0 12).toInt = (M 0 12).toInt := by rw [p381_.2.2 0 12 (by decide)]
      have f390_ : (m379_ 77 67).toInt = (M 77 67).toInt := by rw [p381_.2.2 77 67 (by decide)]
      refine T_qg (i_add rfl l_1 (by omega) (by omega)) (by omega) (by omega) ?_
      refine T_qg (i_add rfl l_2 (by omega) (by omega)) (by omega) (by omega) ?_
      refine T_qcE (t_X12_alike hn _ _ m379_ g380_) ?_
      intro r391_ m392_ e395_ p394_
      have g393_ := p394_.2.1
      have f396_ : (m392_ 1 1).toInt = (m379_ 1 1).toInt := by rw [p394_.2.2 1 1 (by decide)]
      have f397_ : (m392_ 77 8).toInt = (m379_ 77 8).toInt := by rw [p394_.2.2 77 8 (by decide)]
      have f398_ : (m392_ 7 8).toInt = (m379_ 7 8).toInt := by rw [p394_.2.2 7 8 (by decide)]
      have f399_ : (m392_ 78 312).toInt = (m379_ 78 312).toInt := by rw [p394_.2.2 78 312 (by decide)]
      have f400_ : (m392_ 16 8).toInt = (m379_ 16 8).toInt := by rw [p394_.2.2 16 8 (by decide)]
      have f401_ : (m392_ 80 312).toInt = (m379_ 80 312).toInt := by rw [p394_.2.2 80 312 (by decide)]
      have f402_ : (m392_ 0 12).toInt = (m379_ 0 12).toInt := by rw [p394_.2.2 0 12 (by decide)]
      have f403_ : (m392_ 77 67).toInt = (m379_ 77 67).toInt := by rw [p394_.2.2 77 67 (by decide)]
      have q404_ : (m392_ 1 1).toInt = (m392_ 77 8).toInt := by omega
      have q405_ : (m392_ 7 8).toInt = (m392_ 78 312).toInt := by omega
      have q406_ : (m392_ 16 8).toInt = (m392_ 80 312).toInt := by omega
      have q407_ : (m392_ 0 12).toInt = (m392_ 77 67).toInt := by omega
      have f409_ := r_1_1 hG
      have t408_ : TR m392_ := TR_le hT (by omega) (funext (fun s_ => by rw [p394_.2.2 2 s_ (outc rfl), p381_.2.2 2 s_ (outc rfl)])) (funext (fun s_ => by rw [p394_.2.2 84 s_ (outc rfl), p381_.2.2 84 s_ (outc rfl)]))
      refine T_ql (i_add rfl l_7 (by omega) (by omega)) ?_
      intro x410_ h411_
      exact ih j r hj hr x410_ m392_ (by omega) (by omega) g393_ q404_ q405_ q406_ q407_ t408_ (by omega)
    refine T_sw rfl l_11 (fun s412_ => ?_) (fun s412_ => ?_)
    · refine T_qg (i_add rfl l_1 (by omega) (by omega)) (by omega) (by omega) ?_
      refine T_qg (i_add rfl l_2 (by omega) (by omega)) (by omega) (by omega) ?_
      refine T_qg (i_add rfl l_3 (by omega) (by omega)) (by omega) (by omega) ?_
      refine T_qcE (t_X11_cost hn hj _ _ _ M hG) ?_
      intro r413_ m414_ e417_ p416_
      have g415_ := p416_.2.1
      have f418_ : (m414_ 1 1).toInt = (M 1 1).toInt := by rw [p416_.2.2 1 1 (by decide)]
      have f419_ : (m414_ 77 8).toInt = (M 77 8).toInt := by rw [p416_.2.2 77 8 (by decide)]
      have f420_ : (m414_ 7 8).toInt = (M 7 8).toInt := by rw [p416_.2.2 7 8 (by decide)]
      have f421_ : (m414_ 78 312).toInt = (M 78 312).toInt := by rw [p416_.2.2 78 312 (by decide)]
      have f422_ : (m414_ 16 8).toInt = (M 16 8).toInt := by rw [p416_.2.2 16 8 (by decide)]
      have f423_ : (m414_ 80 312).toInt = (M 80 312).toInt := by rw [p416_.2.2 80 312 (by decide)]
      have f424_ : (m414_ 0 12).toInt = (M 0 12).toInt := by rw [p416_.2.2 0 12 (by decide)]
      have f425_ : (m414_ 77 67).toInt = (M 77 67).toInt := by rw [p416_.2.2 77 67 (by decide)]
      refine T_qg (i_add rfl l_1 (by omega) (by omega)) (by omega) (by omega) ?_
      refine T_qg (i_add rfl l_2 (by omega) (by omega)) (by omega) (by omega) ?_
      refine T_qg (i_add rfl l_3 (by omega) (by omega)) (by omega) (by omega) ?_
      refine T_qcE (t_X12_cost hn _ _ _ m414_ g415_) ?_
      intro r426_ m427_ e430_ p429_
      have g428_ := p429_.2.1
      have f431_ : (m427_ 1 1).toInt = (m414_ 1 1).toInt := by rw [p429_.2.2 1 1 (by decide)]
      have f432_ : (m427_ 77 8).toInt = (m414_ 77 8).toInt := by rw [p429_.2.2 77 8 (by decide)]
      have f433_ : (m427_ 7 8).toInt = (m414_ 7 8).toInt := by rw [p429_.2.2 7 8 (by decide)]
      have f434_ : (m427_ 78 312).toInt = (m414_ 78 312).toInt := by rw [p429_.2.2 78 312 (by decide)]
      have f435_ : (m427_ 16 8).toInt = (m414_ 16 8).toInt := by rw [p429_.2.2 16 8 (by decide)]
      have f436_ : (m427_ 80 312).toInt = (m414_ 80 312).toInt := by rw [p429_.2.2 80 312 (by decide)]
      have f437_ : (m427_ 0 12).toInt = (m414_ 0 12).toInt := by rw [p429_.2.2 0 12 (by decide)]
      have f438_ : (m427_ 77 67).toInt = (m414_ 77 67).toInt := by rw [p429_.2.2 77 67 (by decide)]
      have q439_ : (m427_ 1 1).toInt = (m427_ 77 8).toInt := by omega
      have q440_ : (m427_ 7 8).toInt = (m427_ 78 312).toInt := by omega
      have q441_ : (m427_ 16 8).toInt = (m427_ 80 312).toInt := by omega
      have q442_ : (m427_ 0 12).toInt = (m427_ 77 67).toInt := by omega
      have f444_ := r_1_1 hG
      have t443_ : TR m427_ := TR_le hT (by omega) (funext (fun s_ => by rw [p429_.2.2 2 s_ (outc rfl), p416_.2.2 2 s_ (outc rfl)])) (funext (fun s_ => by rw [p429_.2.2 84 s_ (outc rfl), p416_.2.2 84 s_ (outc rfl)]))
      refine T_ql (i_add rfl l_7 (by omega) (by omega)) ?_
      intro x445_ h446_
      exact ih j r hj hr x445_ m427_ (by omega) (by omega) g428_ q439_ q440_ q441_ q442_ t443_ (by omega)
    refine T_sw rfl l_12 (fun s447_ => ?_) (fun s447_ => ?_)
    · refine T_qg (i_add rfl l_1 (by omega) (by omega)) (by omega) (by omega) ?_
      refine T_qg (i_add rfl l_2 (by omega) (by omega)) (by omega) (by omega) ?_
      refine T_qg (i_add rfl l_3 (by omega) (by omega)) (by omega) (by omega) ?_
      refine T_qg (i_add rfl l_4 (by omega) (by omega)) (by omega) (by omega) ?_
      refine T_qg (i_add rfl l_5 (by omega) (by omega)) (by omega) (by omega) ?_
      refine T_qcE (t_X11_soonest hn hj _ _ _ _ _ M hG) ?_
      intro r448_ m449_ e452_ p451_
      have g450_ := p451_.1
      have f453_ : (m449_ 1 1).toInt = (M 1 1).toInt := by rw [p451_.2 1 1 (by decide)]
      have f454_ : (m449_ 77 8).toInt = (M 77 8).toInt := by rw [p451_.2 77 8 (by decide)]
      have f455_ : (m449_ 7 8).toInt = (M 7 8).toInt := by rw [p451_.2 7 8 (by decide)]
      have f456_ : (m449_ 78 312).toInt = (M 78 312).toInt := by rw [p451_.2 78 312 (by decide)]
      have f457_ : (m449_ 16 8).toInt = (M 16 8).toInt := by rw [p451_.2 16 8 (by decide)]
      have f458_ : (m449_ 80 312).toInt = (M 80 312).toInt := by rw [p451_.2 80 312 (by decide)]
      have f459_ : (m449_ 0 12).toInt = (M 0 12).toInt := by rw [p451_.2 0 12 (by decide)]
      have f460_ : (m449_ 77 67).toInt = (M 77 67).toInt := by rw [p451_.2 77 67 (by decide)]
      refine T_qg (i_add rfl l_1 (by omega) (by omega)) (by omega) (by omega) ?_
      refine T_qg (i_add rfl l_2 (by omega) (by omega)) (by omega) (by omega) ?_
      refine T_qg (i_add rfl l_3 (by omega) (by omega)) (by omega) (by omega) ?_
      refine T_qg (i_add rfl l_4 (by omega) (by omega)) (by omega) (by omega) ?_
      refine T_qg (i_add rfl l_5 (by omega) (by omega)) (by omega) (by omega) ?_
      refine T_qcE (t_X12_soonest hn _ _ _ _ _ m449_ g450_) ?_
      intro r461_ m462_ e465_ p464_
      have g463_ := p464_.1
      have f466_ : (m462_ 1 1).toInt = (m449_ 1 1).toInt := by rw [p464_.2 1 1 (by decide)]
      have f467_ : (m462_ 77 8).toInt = (m449_ 77 8).toInt := by rw [p464_.2 77 8 (by decide)]
      have f468_ : (m462_ 7 8).toInt = (m449_ 7 8).toInt := by rw [p464_.2 7 8 (by decide)]
      have f469_ : (m462_ 78 312).toInt = (m449_ 78 312).toInt := by rw [p464_.2 78 312 (by decide)]
      have f470_ : (m462_ 16 8).toInt = (m449_ 16 8).toInt := by rw [p464_.2 16 8 (by decide)]
      have f471_ : (m462_ 80 312).toInt = (m449_ 80 312).toInt := by rw [p464_.2 80 312 (by decide)]
      have f472_ : (m462_ 0 12).toInt = (m449_ 0 12).toInt := by rw [p464_.2 0 12 (by decide)]
      have f473_ : (m462_ 77 67).toInt = (m449_ 77 67).toInt := by rw [p464_.2 77 67 (by decide)]
      have q474_ : (m462_ 1 1).toInt = (m462_ 77 8).toInt := by omega
      have q475_ : (m462_ 7 8).toInt = (m462_ 78 312).toInt := by omega
      have q476_ : (m462_ 16 8).toInt = (m462_ 80 312).toInt := by omega
      have q477_ : (m462_ 0 12).toInt = (m462_ 77 67).toInt := by omega
      have f479_ := r_1_1 hG
      have t478_ : TR m462_ := TR_le hT (by omega) (funext (fun s_ => by rw [p464_.2 2 s_ (outc rfl), p451_.2 2 s_ (outc rfl)])) (funext (fun s_ => by rw [p464_.2 84 s_ (outc rfl), p451_.2 84 s_ (outc rfl)]))
      refine T_ql (i_add rfl l_7 (by omega) (by omega)) ?_
      intro x480_ h481_
      exact ih j r hj hr x480_ m462_ (by omega) (by omega) g463_ q474_ q475_ q476_ q477_ t478_ (by omega)
    refine T_sw rfl l_13 (fun s482_ => ?_) (fun s482_ => ?_)
    · refine T_qg (i_add rfl l_1 (by omega) (by omega)) (by omega) (by omega) ?_
      refine T_qg (i_add rfl l_2 (by omega) (by omega)) (by omega) (by omega) ?_
      refine T_qg (i_add rfl l_3 (by omega) (by omega)) (by omega) (by omega) ?_
      refine T_qg (i_add rfl l_4 (by omega) (by omega)) (by omega) (by omega) ?_
      refine T_qg (i_add rfl l_5 (by omega) (by omega)) (by omega) (by omega) ?_
      refine T_qcE (t_X11_cheapest hn hj _ _ _ _ _ M hG) ?_
      intro r483_ m484_ e487_ p486_
      have g485_ := p486_.1
      have f488_ : (m484_ 1 1).toInt = (M 1 1).toInt := by rw [p486_.2 1 1 (by decide)]
      have f489_ : (m484_ 77 8).toInt = (M 77 8).toInt := by rw [p486_.2 77 8 (by decide)]
      have f490_ : (m484_ 7 8).toInt = (M 7 8).toInt := by rw [p486_.2 7 8 (by decide)]
      have f491_ : (m484_ 78 312).toInt = (M 78 312).toInt := by rw [p486_.2 78 312 (by decide)]
      have f492_ : (m484_ 16 8).toInt = (M 16 8).toInt := by rw [p486_.2 16 8 (by decide)]
      have f493_ : (m484_ 80 312).toInt = (M 80 312).toInt := by rw [p486_.2 80 312 (by decide)]
      have f494_ : (m484_ 0 12).toInt = (M 0 12).toInt := by rw [p486_.2 0 12 (by decide)]
      have f495_ : (m484_ 77 67).toInt = (M 77 67).toInt := by rw [p486_.2 77 67 (by decide)]
      refine T_qg (i_add rfl l_1 (by omega) (by omega)) (by omega) (by omega) ?_
      refine T_qg (i_add rfl l_2 (by omega) (by omega)) (by omega) (by omega) ?_
      refine T_qg (i_add rfl l_3 (by omega) (by omega)) (by omega) (by omega) ?_
      refine T_qg (i_add rfl l_4 (by omega) (by omega)) (by omega) (by omega) ?_
      refine T_qg (i_add rfl l_5 (by omega) (by omega)) (by omega) (by omega) ?_
      refine T_qcE (t_X12_cheapest hn _ _ _ _ _ m484_ g485_) ?_
      intro r496_ m497_ e500_ p499_
      have g498_ := p499_.1
      have f501_ : (m497_ 1 1).toInt = (m484_ 1 1).toInt := by rw [p499_.2 1 1 (by decide)]
      have f502_ : (m497_ 77 8).toInt = (m484_ 77 8).toInt := by rw [p499_.2 77 8 (by decide)]
      have f503_ : (m497_ 7 8).toInt = (m484_ 7 8).toInt := by rw [p499_.2 7 8 (by decide)]
      have f504_ : (m497_ 78 312).toInt = (m484_ 78 312).toInt := by rw [p499_.2 78 312 (by decide)]
      have f505_ : (m497_ 16 8).toInt = (m484_ 16 8).toInt := by rw [p499_.2 16 8 (by decide)]
      have f506_ : (m497_ 80 312).toInt = (m484_ 80 312).toInt := by rw [p499_.2 80 312 (by decide)]
      have f507_ : (m497_ 0 12).toInt = (m484_ 0 12).toInt := by rw [p499_.2 0 12 (by decide)]
      have f508_ : (m497_ 77 67).toInt = (m484_ 77 67).toInt := by rw [p499_.2 77 67 (by decide)]
      have q509_ : (m497_ 1 1).toInt = (m497_ 77 8).toInt := by omega
      have q510_ : (m497_ 7 8).toInt = (m497_ 78 312).toInt := by omega
      have q511_ : (m497_ 16 8).toInt = (m497_ 80 312).toInt := by omega
      have q512_ : (m497_ 0 12).toInt = (m497_ 77 67).toInt := by omega
      have f514_ := r_1_1 hG
      have t513_ : TR m497_ := TR_le hT (by omega) (funext (fun s_ => by rw [p499_.2 2 s_ (outc rfl), p486_.2 2 s_ (outc rfl)])) (funext (fun s_ => by rw [p499_.2 84 s_ (outc rfl), p486_.2 84 s_ (outc rfl)]))
      refine T_ql (i_add rfl l_7 (by omega) (by omega)) ?_
      intro x515_ h516_
      exact ih j r hj hr x515_ m497_ (by omega) (by omega) g498_ q509_ q510_ q511_ q512_ t513_ (by omega)
    refine T_sw rfl l_14 (fun s517_ => ?_) (fun s517_ => ?_)
    · refine T_qg (i_add rfl l_1 (by omega) (by omega)) (by omega) (by omega) ?_
      refine T_qg (i_add rfl l_2 (by omega) (by omega)) (by omega) (by omega) ?_
      refine T_qg (i_add rfl l_3 (by omega) (by omega)) (by omega) (by omega) ?_
      refine T_qcE (t_X11_loophole hn hj _ _ _ M hG) ?_
      intro r518_ m519_ e522_ p521_
      have g520_ := p521_.1
      have f523_ : (m519_ 1 1).toInt = (M 1 1).toInt := by rw [p521_.2 1 1 (by decide)]
      have f524_ : (m519_ 77 8).toInt = (M 77 8).toInt := by rw [p521_.2 77 8 (by decide)]
      have f525_ : (m519_ 7 8).toInt = (M 7 8).toInt := by rw [p521_.2 7 8 (by decide)]
      have f526_ : (m519_ 78 312).toInt = (M 78 312).toInt := by rw [p521_.2 78 312 (by decide)]
      have f527_ : (m519_ 16 8).toInt = (M 16 8).toInt := by rw [p521_.2 16 8 (by decide)]
      have f528_ : (m519_ 80 312).toInt = (M 80 312).toInt := by rw [p521_.2 80 312 (by decide)]
      have f529_ : (m519_ 0 12).toInt = (M 0 12).toInt := by rw [p521_.2 0 12 (by decide)]
      have f530_ : (m519_ 77 67).toInt = (M 77 67).toInt := by rw [p521_.2 77 67 (by decide)]
      refine T_qg (i_add rfl l_1 (by omega) (by omega)) (by omega) (by omega) ?_
      refine T_qg (i_add rfl l_2 (by omega) (by omega)) (by omega) (by omega) ?_
      refine T_qg (i_add rfl l_3 (by omega) (by omega)) (by omega) (by omega) ?_
      refine T_qcE (t_X12_loophole hn _ _ _ m519_ g520_) ?_
      intro r531_ m532_ e535_ p534_
      have g533_ := p534_.1
      have f536_ : (m532_ 1 1).toInt = (m519_ 1 1).toInt := by rw [p534_.2 1 1 (by decide)]
      have f537_ : (m532_ 77 8).toInt = (m519_ 77 8).toInt := by rw [p534_.2 77 8 (by decide)]
      have f538_ : (m532_ 7 8).toInt = (m519_ 7 8).toInt := by rw [p534_.2 7 8 (by decide)]
      have f539_ : (m532_ 78 312).toInt = (m519_ 78 312).toInt := by rw [p534_.2 78 312 (by decide)]
      have f540_ : (m532_ 16 8).toInt = (m519_ 16 8).toInt := by rw [p534_.2 16 8 (by decide)]
      have f541_ : (m532_ 80 312).toInt = (m519_ 80 312).toInt := by rw [p534_.2 80 312 (by decide)]
      have f542_ : (m532_ 0 12).toInt = (m519_ 0 12).toInt := by rw [p534_.2 0 12 (by decide)]
      have f543_ : (m532_ 77 67).toInt = (m519_ 77 67).toInt := by rw [p534_.2 77 67 (by decide)]
      have q544_ : (m532_ 1 1).toInt = (m532_ 77 8).toInt := by omega
      have q545_ : (m532_ 7 8).toInt = (m532_ 78 312).toInt := by omega
      have q546_ : (m532_ 16 8).toInt = (m532_ 80 312).toInt := by omega
      have q547_ : (m532_ 0 12).toInt = (m532_ 77 67).toInt := by omega
      have f549_ := r_1_1 hG
      have t548_ : TR m532_ := TR_le hT (by omega) (funext (fun s_ => by rw [p534_.2 2 s_ (outc rfl), p521_.2 2 s_ (outc rfl)])) (funext (fun s_ => by rw [p534_.2 84 s_ (outc rfl), p521_.2 84 s_ (outc rfl)]))
      refine T_ql (i_add rfl l_7 (by omega) (by omega)) ?_
      intro x550_ h551_
      exact ih j r hj hr x550_ m532_ (by omega) (by omega) g533_ q544_ q545_ q546_ q547_ t548_ (by omega)
    refine T_sw rfl l_15 (fun s552_ => ?_) (fun s552_ => ?_)
    · refine T_qg (i_add rfl l_1 (by omega) (by omega)) (by omega) (by omega) ?_
      refine T_qg (i_add rfl l_2 (by omega) (by omega)) (by omega) (by omega) ?_
      refine T_qg (i_add rfl l_3 (by omega) (by omega)) (by omega) (by omega) ?_
      refine T_qcE (t_X11_jobs hn hj _ _ _ M hG) ?_
      intro r553_ m554_ e557_ p556_
      have g555_ := p556_.2.2.1
      have f558_ : (m554_ 77 8).toInt = (M 77 8).toInt := by rw [p556_.2.2.2 77 8 (by decide)]
      have f559_ : (m554_ 7 8).toInt = (M 7 8).toInt := by rw [p556_.2.2.2 7 8 (by decide)]
      have f560_ : (m554_ 78 312).toInt = (M 78 312).toInt := by rw [p556_.2.2.2 78 312 (by decide)]
      have f561_ : (m554_ 16 8).toInt = (M 16 8).toInt := by rw [p556_.2.2.2 16 8 (by decide)]
      have f562_ : (m554_ 80 312).toInt = (M 80 312).toInt := by rw [p556_.2.2.2 80 312 (by decide)]
      have f563_ : (m554_ 0 12).toInt = (M 0 12).toInt := by rw [p556_.2.2.2 0 12 (by decide)]
      have f564_ : (m554_ 77 67).toInt = (M 77 67).toInt := by rw [p556_.2.2.2 77 67 (by decide)]
      have w565_ := p556_.2.1
      refine T_qg (i_add rfl l_1 (by omega) (by omega)) (by omega) (by omega) ?_
      refine T_qg (i_add rfl l_2 (by omega) (by omega)) (by omega) (by omega) ?_
      refine T_qg (i_add rfl l_3 (by omega) (by omega)) (by omega) (by omega) ?_
      refine T_qcE (t_X12_jobs hn _ _ _ m554_ g555_) ?_
      intro r566_ m567_ e570_ p569_
      have g568_ := p569_.2.1
      have f571_ : (m567_ 1 1).toInt = (m554_ 1 1).toInt := by rw [p569_.2.2 1 1 (by decide)]
      have f572_ : (m567_ 7 8).toInt = (m554_ 7 8).toInt := by rw [p569_.2.2 7 8 (by decide)]
      have f573_ : (m567_ 78 312).toInt = (m554_ 78 312).toInt := by rw [p569_.2.2 78 312 (by decide)]
      have f574_ : (m567_ 16 8).toInt = (m554_ 16 8).toInt := by rw [p569_.2.2 16 8 (by decide)]
      have f575_ : (m567_ 80 312).toInt = (m554_ 80 312).toInt := by rw [p569_.2.2 80 312 (by decide)]
      have f576_ : (m567_ 0 12).toInt = (m554_ 0 12).toInt := by rw [p569_.2.2 0 12 (by decide)]
      have f577_ : (m567_ 77 67).toInt = (m554_ 77 67).toInt := by rw [p569_.2.2 77 67 (by decide)]
      have w578_ := p569_.1
      have q579_ : (m567_ 1 1).toInt = (m567_ 77 8).toInt := by omega
      have q580_ : (m567_ 7 8).toInt = (m567_ 78 312).toInt := by omega
      have q581_ : (m567_ 16 8).toInt = (m567_ 80 312).toInt := by omega
      have q582_ : (m567_ 0 12).toInt = (m567_ 77 67).toInt := by omega
      have f584_ := r_1_1 hG
      have t583_ : TR m567_ := TR_le hT (by omega) (funext (fun s_ => by rw [p569_.2.2 2 s_ (outc rfl), p556_.2.2.2 2 s_ (outc rfl)])) (funext (fun s_ => by rw [p569_.2.2 84 s_ (outc rfl), p556_.2.2.2 84 s_ (outc rfl)]))
      refine T_ql (i_add rfl l_7 (by omega) (by omega)) ?_
      intro x585_ h586_
      exact ih j r hj hr x585_ m567_ (by omega) (by omega) g568_ q579_ q580_ q581_ q582_ t583_ (by omega)
    refine T_sw rfl l_16 (fun s587_ => ?_) (fun s587_ => ?_)
    · refine T_qg (i_add rfl l_1 (by omega) (by omega)) (by omega) (by omega) ?_
      refine T_qg (i_add rfl l_2 (by omega) (by omega)) (by omega) (by omega) ?_
      refine T_qg (i_add rfl l_3 (by omega) (by omega)) (by omega) (by omega) ?_
      refine T_qcE (t_X11_rivals hn _ _ _ M hG) ?_
      intro r588_ m589_ e592_ p591_
      have g590_ := p591_.1
      have f593_ : (m589_ 1 1).toInt = (M 1 1).toInt := by rw [p591_.2 1 1 (by decide)]
      have f594_ : (m589_ 77 8).toInt = (M 77 8).toInt := by rw [p591_.2 77 8 (by decide)]
      have f595_ : (m589_ 7 8).toInt = (M 7 8).toInt := by rw [p591_.2 7 8 (by decide)]
      have f596_ : (m589_ 78 312).toInt = (M 78 312).toInt := by rw [p591_.2 78 312 (by decide)]
      have f597_ : (m589_ 16 8).toInt = (M 16 8).toInt := by rw [p591_.2 16 8 (by decide)]
      have f598_ : (m589_ 80 312).toInt = (M 80 312).toInt := by rw [p591_.2 80 312 (by decide)]
      have f599_ : (m589_ 0 12).toInt = (M 0 12).toInt := by rw [p591_.2 0 12 (by decide)]
      have f600_ : (m589_ 77 67).toInt = (M 77 67).toInt := by rw [p591_.2 77 67 (by decide)]
      refine T_qg (i_add rfl l_1 (by omega) (by omega)) (by omega) (by omega) ?_
      refine T_qg (i_add rfl l_2 (by omega) (by omega)) (by omega) (by omega) ?_
      refine T_qg (i_add rfl l_3 (by omega) (by omega)) (by omega) (by omega) ?_
      refine T_qcE (t_X12_rivals hn _ _ _ m589_ g590_) ?_
      intro r601_ m602_ e605_ p604_
      have g603_ := p604_.1
      have f606_ : (m602_ 1 1).toInt = (m589_ 1 1).toInt := by rw [p604_.2 1 1 (by decide)]
      have f607_ : (m602_ 77 8).toInt = (m589_ 77 8).toInt := by rw [p604_.2 77 8 (by decide)]
      have f608_ : (m602_ 7 8).toInt = (m589_ 7 8).toInt := by rw [p604_.2 7 8 (by decide)]
      have f609_ : (m602_ 78 312).toInt = (m589_ 78 312).toInt := by rw [p604_.2 78 312 (by decide)]
      have f610_ : (m602_ 16 8).toInt = (m589_ 16 8).toInt := by rw [p604_.2 16 8 (by decide)]
      have f611_ : (m602_ 80 312).toInt = (m589_ 80 312).toInt := by rw [p604_.2 80 312 (by decide)]
      have f612_ : (m602_ 0 12).toInt = (m589_ 0 12).toInt := by rw [p604_.2 0 12 (by decide)]
      have f613_ : (m602_ 77 67).toInt = (m589_ 77 67).toInt := by rw [p604_.2 77 67 (by decide)]
      have q614_ : (m602_ 1 1).toInt = (m602_ 77 8).toInt := by omega
      have q615_ : (m602_ 7 8).toInt = (m602_ 78 312).toInt := by omega
      have q616_ : (m602_ 16 8).toInt = (m602_ 80 312).toInt := by omega
      have q617_ : (m602_ 0 12).toInt = (m602_ 77 67).toInt := by omega
      have f619_ := r_1_1 hG
      have t618_ : TR m602_ := TR_le hT (by omega) (funext (fun s_ => by rw [p604_.2 2 s_ (outc rfl), p591_.2 2 s_ (outc rfl)])) (funext (fun s_ => by rw [p604_.2 84 s_ (outc rfl), p591_.2 84 s_ (outc rfl)]))
      refine T_ql (i_add rfl l_7 (by omega) (by omega)) ?_
      intro x620_ h621_
      exact ih j r hj hr x620_ m602_ (by omega) (by omega) g603_ q614_ q615_ q616_ q617_ t618_ (by omega)
    refine T_sw rfl l_17 (fun s622_ => ?_) (fun s622_ => ?_)
    · refine T_qg (i_add rfl l_1 (by omega) (by omega)) (by omega) (by omega) ?_
      refine T_qg (i_add rfl l_2 (by omega) (by omega)) (by omega) (by omega) ?_
      refine T_qg (i_add rfl l_3 (by omega) (by omega)) (by omega) (by omega) ?_
      refine T_qg (i_add rfl l_4 (by omega) (by omega)) (by omega) (by omega) ?_
      refine T_qcE (t_X11_histories hn hj _ _ _ _ M hG) ?_
      intro r623_ m624_ e627_ p626_
      have g625_ := p626_.2.1
      have f628_ : (m624_ 77 8).toInt = (M 77 8).toInt := by rw [p626_.2.2 77 8 (by decide)]
      have f629_ : (m624_ 7 8).toInt = (M 7 8).toInt := by rw [p626_.2.2 7 8 (by decide)]
      have f630_ : (m624_ 78 312).toInt = (M 78 312).toInt := by rw [p626_.2.2 78 312 (by decide)]
      have f631_ : (m624_ 16 8).toInt = (M 16 8).toInt := by rw [p626_.2.2 16 8 (by decide)]
      have f632_ : (m624_ 80 312).toInt = (M 80 312).toInt := by rw [p626_.2.2 80 312 (by decide)]
      have f633_ : (m624_ 0 12).toInt = (M 0 12).toInt := by rw [p626_.2.2 0 12 (by decide)]
      have f634_ : (m624_ 77 67).toInt = (M 77 67).toInt := by rw [p626_.2.2 77 67 (by decide)]
      have w635_ := p626_.1
      refine T_qg (i_add rfl l_1 (by omega) (by omega)) (by omega) (by omega) ?_
      refine T_qg (i_add rfl l_2 (by omega) (by omega)) (by omega) (by omega) ?_
      refine T_qg (i_add rfl l_3 (by omega) (by omega)) (by omega) (by omega) ?_
      refine T_qg (i_add rfl l_4 (by omega) (by omega)) (by omega) (by omega) ?_
      refine T_qcE (t_X12_histories hn _ _ _ _ m624_ g625_) ?_
      intro r636_ m637_ e640_ p639_
      have g638_ := p639_.2.1
      have f641_ : (m637_ 1 1).toInt = (m624_ 1 1).toInt := by rw [p639_.2.2 1 1 (by decide)]
      have f642_ : (m637_ 7 8).toInt = (m624_ 7 8).toInt := by rw [p639_.2.2 7 8 (by decide)]
      have f643_ : (m637_ 78 312).toInt = (m624_ 78 312).toInt := by rw [p639_.2.2 78 312 (by decide)]
      have f644_ : (m637_ 16 8).toInt = (m624_ 16 8).toInt := by rw [p639_.2.2 16 8 (by decide)]
      have f645_ : (m637_ 80 312).toInt = (m624_ 80 312).toInt := by rw [p639_.2.2 80 312 (by decide)]
      have f646_ : (m637_ 0 12).toInt = (m624_ 0 12).toInt := by rw [p639_.2.2 0 12 (by decide)]
      have f647_ : (m637_ 77 67).toInt = (m624_ 77 67).toInt := by rw [p639_.2.2 77 67 (by decide)]
      have w648_ := p639_.1
      have q649_ : (m637_ 1 1).toInt = (m637_ 77 8).toInt := by omega
      have q650_ : (m637_ 7 8).toInt = (m637_ 78 312).toInt := by omega
      have q651_ : (m637_ 16 8).toInt = (m637_ 80 312).toInt := by omega
      have q652_ : (m637_ 0 12).toInt = (m637_ 77 67).toInt := by omega
      have f654_ := r_1_1 hG
      have t653_ : TR m637_ := TR_le hT (by omega) (funext (fun s_ => by rw [p639_.2.2 2 s_ (outc rfl), p626_.2.2 2 s_ (outc rfl)])) (funext (fun s_ => by rw [p639_.2.2 84 s_ (outc rfl), p626_.2.2 84 s_ (outc rfl)]))
      refine T_ql (i_add rfl l_7 (by omega) (by omega)) ?_
      intro x655_ h656_
      exact ih j r hj hr x655_ m637_ (by omega) (by omega) g638_ q649_ q650_ q651_ q652_ t653_ (by omega)
    refine T_sw rfl l_18 (fun s657_ => ?_) (fun s657_ => ?_)
    · refine T_qg (i_add rfl l_1 (by omega) (by omega)) (by omega) (by omega) ?_
      refine T_qg (i_add rfl l_2 (by omega) (by omega)) (by omega) (by omega) ?_
      refine T_qg (i_add rfl l_3 (by omega) (by omega)) (by omega) (by omega) ?_
      refine T_qg (i_add rfl l_4 (by omega) (by omega)) (by omega) (by omega) ?_
      refine T_eq rfl l_0 (fun c658_ => ?_) (fun c658_ => ?_)
      · refine T_qg (i_add rfl l_5 (by omega) (by omega)) (by omega) (by omega) ?_
        refine T_eq rfl l_0 (fun c659_ => ?_) (fun c659_ => ?_)
        · refine T_qg (i_add rfl l_6 (by omega) (by omega)) (by omega) (by omega) ?_
          refine T_qcE (t_X11_game hn _ _ _ _ _ _ M hG (by decide) (by decide)) ?_
          intro r660_ m661_ e664_ p663_
          have g662_ := p663_.2.1
          have f665_ : (m661_ 1 1).toInt = (M 1 1).toInt := by rw [p663_.2.2 1 1 (by decide)]
          have f666_ : (m661_ 77 8).toInt = (M 77 8).toInt := by rw [p663_.2.2 77 8 (by decide)]
          have f667_ : (m661_ 7 8).toInt = (M 7 8).toInt := by rw [p663_.2.2 7 8 (by decide)]
          have f668_ : (m661_ 78 312).toInt = (M 78 312).toInt := by rw [p663_.2.2 78 312 (by decide)]
          have f669_ : (m661_ 16 8).toInt = (M 16 8).toInt := by rw [p663_.2.2 16 8 (by decide)]
          have f670_ : (m661_ 80 312).toInt = (M 80 312).toInt := by rw [p663_.2.2 80 312 (by decide)]
          have f671_ : (m661_ 0 12).toInt = (M 0 12).toInt := by rw [p663_.2.2 0 12 (by decide)]
          have f672_ : (m661_ 77 67).toInt = (M 77 67).toInt := by rw [p663_.2.2 77 67 (by decide)]
          refine T_qg (i_add rfl l_1 (by omega) (by omega)) (by omega) (by omega) ?_
          refine T_qg (i_add rfl l_2 (by omega) (by omega)) (by omega) (by omega) ?_
          refine T_qg (i_add rfl l_3 (by omega) (by omega)) (by omega) (by omega) ?_
          refine T_qg (i_add rfl l_4 (by omega) (by omega)) (by omega) (by omega) ?_
          refine T_eq rfl l_0 (fun c673_ => ?_) (fun c673_ => ?_)
          · refine T_qg (i_add rfl l_5 (by omega) (by omega)) (by omega) (by omega) ?_
            refine T_eq rfl l_0 (fun c674_ => ?_) (fun c674_ => ?_)
            · refine T_qg (i_add rfl l_6 (by omega) (by omega)) (by omega) (by omega) ?_
              refine T_qcE (t_X12_game hn _ _ _ _ _ _ m661_ g662_ (by decide) (by decide)) ?_
              intro r675_ m676_ e679_ p678_
              have g677_ := p678_.2.1
              have f680_ : (m676_ 1 1).toInt = (m661_ 1 1).toInt := by rw [p678_.2.2 1 1 (by decide)]
              have f681_ : (m676_ 77 8).toInt = (m661_ 77 8).toInt := by rw [p678_.2.2 77 8 (by decide)]
              have f682_ : (m676_ 7 8).toInt = (m661_ 7 8).toInt := by rw [p678_.2.2 7 8 (by decide)]
              have f683_ : (m676_ 78 312).toInt = (m661_ 78 312).toInt := by rw [p678_.2.2 78 312 (by decide)]
              have f684_ : (m676_ 16 8).toInt = (m661_ 16 8).toInt := by rw [p678_.2.2 16 8 (by decide)]
              have f685_ : (m676_ 80 312).toInt = (m661_ 80 312).toInt := by rw [p678_.2.2 80 312 (by decide)]
              have f686_ : (m676_ 0 12).toInt = (m661_ 0 12).toInt := by rw [p678_.2.2 0 12 (by decide)]
              have f687_ : (m676_ 77 67).toInt = (m661_ 77 67).toInt := by rw [p678_.2.2 77 67 (by decide)]
              have q688_ : (m676_ 1 1).toInt = (m676_ 77 8).toInt := by omega
              have q689_ : (m676_ 7 8).toInt = (m676_ 78 312).toInt := by omega
              have q690_ : (m676_ 16 8).toInt = (m676_ 80 312).toInt := by omega
              have q691_ : (m676_ 0 12).toInt = (m676_ 77 67).toInt := by omega
              have f693_ := r_1_1 hG
              have t692_ : TR m676_ := TR_le hT (by omega) (funext (fun s_ => by rw [p678_.2.2 2 s_ (outc rfl), p663_.2.2 2 s_ (outc rfl)])) (funext (fun s_ => by rw [p678_.2.2 84 s_ (outc rfl), p663_.2.2 84 s_ (outc rfl)]))
              refine T_ql (i_add rfl l_7 (by omega) (by omega)) ?_
              intro x694_ h695_
              exact ih j r hj hr x694_ m676_ (by omega) (by omega) g677_ q688_ q689_ q690_ q691_ t692_ (by omega)
            · refine T_qg (i_add rfl l_6 (by omega) (by omega)) (by omega) (by omega) ?_
              refine T_qcE (t_X12_game hn _ _ _ _ _ _ m661_ g662_ (by decide) (by decide)) ?_
              intro r696_ m697_ e700_ p699_
              have g698_ := p699_.2.1
              have f701_ : (m697_ 1 1).toInt = (m661_ 1 1).toInt := by rw [p699_.2.2 1 1 (by decide)]
              have f702_ : (m697_ 77 8).toInt = (m661_ 77 8).toInt := by rw [p699_.2.2 77 8 (by decide)]
              have f703_ : (m697_ 7 8).toInt = (m661_ 7 8).toInt := by rw [p699_.2.2 7 8 (by decide)]
              have f704_ : (m697_ 78 312).toInt = (m661_ 78 312).toInt := by rw [p699_.2.2 78 312 (by decide)]
              have f705_ : (m697_ 16 8).toInt = (m661_ 16 8).toInt := by rw [p699_.2.2 16 8 (by decide)]
              have f706_ : (m697_ 80 312).toInt = (m661_ 80 312).toInt := by rw [p699_.2.2 80 312 (by decide)]
              have f707_ : (m697_ 0 12).toInt = (m661_ 0 12).toInt := by rw [p699_.2.2 0 12 (by decide)]
              have f708_ : (m697_ 77 67).toInt = (m661_ 77 67).toInt := by rw [p699_.2.2 77 67 (by decide)]
              have q709_ : (m697_ 1 1).toInt = (m697_ 77 8).toInt := by omega
              have q710_ : (m697_ 7 8).toInt = (m697_ 78 312).toInt := by omega
              have q711_ : (m697_ 16 8).toInt = (m697_ 80 312).toInt := by omega
              have q712_ : (m697_ 0 12).toInt = (m697_ 77 67).toInt := by omega
              have f714_ := r_1_1 hG
              have t713_ : TR m697_ := TR_le hT (by omega) (funext (fun s_ => by rw [p699_.2.2 2 s_ (outc rfl), p663_.2.2 2 s_ (outc rfl)])) (funext (fun s_ => by rw [p699_.2.2 84 s_ (outc rfl), p663_.2.2 84 s_ (outc rfl)]))
              refine T_ql (i_add rfl l_7 (by omega) (by omega)) ?_
              intro x715_ h716_
              exact ih j r hj hr x715_ m697_ (by omega) (by omega) g698_ q709_ q710_ q711_ q712_ t713_ (by omega)
          · refine T_qg (i_add rfl l_5 (by omega) (by omega)) (by omega) (by omega) ?_
            refine T_eq rfl l_0 (fun c717_ => ?_) (fun c717_ => ?_)
            · refine T_qg (i_add rfl l_6 (by omega) (by omega)) (by omega) (by omega) ?_
              refine T_qcE (t_X12_game hn _ _ _ _ _ _ m661_ g662_ (by decide) (by decide)) ?_
              intro r718_ m719_ e722_ p721_
              have g720_ := p721_.2.1
              have f723_ : (m719_ 1 1).toInt = (m661_ 1 1).toInt := by rw [p721_.2.2 1 1 (by decide)]
              have f724_ : (m719_ 77 8).toInt = (m661_ 77 8).toInt := by rw [p721_.2.2 77 8 (by decide)]
              have f725_ : (m719_ 7 8).toInt = (m661_ 7 8).toInt := by rw [p721_.2.2 7 8 (by decide)]
              have f726_ : (m719_ 78 312).toInt = (m661_ 78 312).toInt := by rw [p721_.2.2 78 312 (by decide)]
              have f727_ : (m719_ 16 8).toInt = (m661_ 16 8).toInt := by rw [p721_.2.2 16 8 (by decide)]
              have f728_ : (m719_ 80 312).toInt = (m661_ 80 312).toInt := by rw [p721_.2.2 80 312 (by decide)]
              have f729_ : (m719_ 0 12).toInt = (m661_ 0 12).toInt := by rw [p721_.2.2 0 12 (by decide)]
              have f730_ : (m719_ 77 67).toInt = (m661_ 77 67).toInt := by rw [p721_.2.2 77 67 (by decide)]
              have q731_ : (m719_ 1 1).toInt = (m719_ 77 8).toInt := by omega
              have q732_ : (m719_ 7 8).toInt = (m719_ 78 312).toInt := by omega
              have q733_ : (m719_ 16 8).toInt = (m719_ 80 312).toInt := by omega
              have q734_ : (m719_ 0 12).toInt = (m719_ 77 67).toInt := by omega
              have f736_ := r_1_1 hG
              have t735_ : TR m719_ := TR_le hT (by omega) (funext (fun s_ => by rw [p721_.2.2 2 s_ (outc rfl), p663_.2.2 2 s_ (outc rfl)])) (funext (fun s_ => by rw [p721_.2.2 84 s_ (outc rfl), p663_.2.2 84 s_ (outc rfl)]))
              refine T_ql (i_add rfl l_7 (by omega) (by omega)) ?_
              intro x737_ h738_
              exact ih j r hj hr x737_ m719_ (by omega) (by omega) g720_ q731_ q732_ q733_ q734_ t735_ (by omega)
            · refine T_qg (i_add rfl l_6 (by omega) (by omega)) (by omega) (by omega) ?_
              refine T_qcE (t_X12_game hn _ _ _ _ _ _ m661_ g662_ (by decide) (by decide)) ?_
              intro r739_ m740_ e743_ p742_
              have g741_ := p742_.2.1
              have f744_ : (m740_ 1 1).toInt = (m661_ 1 1).toInt := by rw [p742_.2.2 1 1 (by decide)]
              have f745_ : (m740_ 77 8).toInt = (m661_ 77 8).toInt := by rw [p742_.2.2 77 8 (by decide)]
              have f746_ : (m740_ 7 8).toInt = (m661_ 7 8).toInt := by rw [p742_.2.2 7 8 (by decide)]
              have f747_ : (m740_ 78 312).toInt = (m661_ 78 312).toInt := by rw [p742_.2.2 78 312 (by decide)]
              have f748_ : (m740_ 16 8).toInt = (m661_ 16 8).toInt := by rw [p742_.2.2 16 8 (by decide)]
              have f749_ : (m740_ 80 312).toInt = (m661_ 80 312).toInt := by rw [p742_.2.2 80 312 (by decide)]
              have f750_ : (m740_ 0 12).toInt = (m661_ 0 12).toInt := by rw [p742_.2.2 0 12 (by decide)]
              have f751_ : (m740_ 77 67).toInt = (m661_ 77 67).toInt := by rw [p742_.2.2 77 67 (by decide)]
              have q752_ : (m740_ 1 1).toInt = (m740_ 77 8).toInt := by omega
              have q753_ : (m740_ 7 8).toInt = (m740_ 78 312).toInt := by omega
              have q754_ : (m740_ 16 8).toInt = (m740_ 80 312).toInt := by omega
              have q755_ : (m740_ 0 12).toInt = (m740_ 77 67).toInt := by omega
              have f757_ := r_1_1 hG
              have t756_ : TR m740_ := TR_le hT (by omega) (funext (fun s_ => by rw [p742_.2.2 2 s_ (outc rfl), p663_.2.2 2 s_ (outc rfl)])) (funext (fun s_ => by rw [p742_.2.2 84 s_ (outc rfl), p663_.2.2 84 s_ (outc rfl)]))
              refine T_ql (i_add rfl l_7 (by omega) (by omega)) ?_
              intro x758_ h759_
              exact ih j r hj hr x758_ m740_ (by omega) (by omega) g741_ q752_ q753_ q754_ q755_ t756_ (by omega)
        · refine T_qg (i_add rfl l_6 (by omega) (by omega)) (by omega) (by omega) ?_
          refine T_qcE (t_X11_game hn _ _ _ _ _ _ M hG (by decide) (by decide)) ?_
          intro r760_ m761_ e764_ p763_
          have g762_ := p763_.2.1
          have f765_ : (m761_ 1 1).toInt = (M 1 1).toInt := by rw [p763_.2.2 1 1 (by decide)]
          have f766_ : (m761_ 77 8).toInt = (M 77 8).toInt := by rw [p763_.2.2 77 8 (by decide)]
          have f767_ : (m761_ 7 8).toInt = (M 7 8).toInt := by rw [p763_.2.2 7 8 (by decide)]
          have f768_ : (m761_ 78 312).toInt = (M 78 312).toInt := by rw [p763_.2.2 78 312 (by decide)]
          have f769_ : (m761_ 16 8).toInt = (M 16 8).toInt := by rw [p763_.2.2 16 8 (by decide)]
          have f770_ : (m761_ 80 312).toInt = (M 80 312).toInt := by rw [p763_.2.2 80 312 (by decide)]
          have f771_ : (m761_ 0 12).toInt = (M 0 12).toInt := by rw [p763_.2.2 0 12 (by decide)]
          have f772_ : (m761_ 77 67).toInt = (M 77 67).toInt := by rw [p763_.2.2 77 67 (by decide)]
          refine T_qg (i_add rfl l_1 (by omega) (by omega)) (by omega) (by omega) ?_
          refine T_qg (i_add rfl l_2 (by omega) (by omega)) (by omega) (by omega) ?_
          refine T_qg (i_add rfl l_3 (by omega) (by omega)) (by omega) (by omega) ?_
          refine T_qg (i_add rfl l_4 (by omega) (by omega)) (by omega) (by omega) ?_
          refine T_eq rfl l_0 (fun c773_ => ?_) (fun c773_ => ?_)
          · refine T_qg (i_add rfl l_5 (by omega) (by omega)) (by omega) (by omega) ?_
            refine T_eq rfl l_0 (fun c774_ => ?_) (fun c774_ => ?_)
            · refine T_qg (i_add rfl l_6 (by omega) (by omega)) (by omega) (by omega) ?_
              refine T_qcE (t_X12_game hn _ _ _ _ _ _ m761_ g762_ (by decide) (by decide)) ?_
              intro r775_ m776_ e779_ p778_
              have g777_ := p778_.2.1
              have f780_ : (m776_ 1 1).toInt = (m761_ 1 1).toInt := by rw [p778_.2.2 1 1 (by decide)]
              have f781_ : (m776_ 77 8).toInt = (m761_ 77 8).toInt := by rw [p778_.2.2 77 8 (by decide)]
              have f782_ : (m776_ 7 8).toInt = (m761_ 7 8).toInt := by rw [p778_.2.2 7 8 (by decide)]
              have f783_ : (m776_ 78 312).toInt = (m761_ 78 312).toInt := by rw [p778_.2.2 78 312 (by decide)]
              have f784_ : (m776_ 16 8).toInt = (m761_ 16 8).toInt := by rw [p778_.2.2 16 8 (by decide)]
              have f785_ : (m776_ 80 312).toInt = (m761_ 80 312).toInt := by rw [p778_.2.2 80 312 (by decide)]
              have f786_ : (m776_ 0 12).toInt = (m761_ 0 12).toInt := by rw [p778_.2.2 0 12 (by decide)]
              have f787_ : (m776_ 77 67).toInt = (m761_ 77 67).toInt := by rw [p778_.2.2 77 67 (by decide)]
              have q788_ : (m776_ 1 1).toInt = (m776_ 77 8).toInt := by omega
              have q789_ : (m776_ 7 8).toInt = (m776_ 78 312).toInt := by omega
              have q790_ : (m776_ 16 8).toInt = (m776_ 80 312).toInt := by omega
              have q791_ : (m776_ 0 12).toInt = (m776_ 77 67).toInt := by omega
              have f793_ := r_1_1 hG
              have t792_ : TR m776_ := TR_le hT (by omega) (funext (fun s_ => by rw [p778_.2.2 2 s_ (outc rfl), p763_.2.2 2 s_ (outc rfl)])) (funext (fun s_ => by rw [p778_.2.2 84 s_ (outc rfl), p763_.2.2 84 s_ (outc rfl)]))
              refine T_ql (i_add rfl l_7 (by omega) (by omega)) ?_
              intro x794_ h795_
              exact ih j r hj hr x794_ m776_ (by omega) (by omega) g777_ q788_ q789_ q790_ q791_ t792_ (by omega)
            · refine T_qg (i_add rfl l_6 (by omega) (by omega)) (by omega) (by omega) ?_
              refine T_qcE (t_X12_game hn _ _ _ _ _ _ m761_ g762_ (by decide) (by decide)) ?_
              intro r796_ m797_ e800_ p799_
              have g798_ := p799_.2.1
              have f801_ : (m797_ 1 1).toInt = (m761_ 1 1).toInt := by rw [p799_.2.2 1 1 (by decide)]
              have f802_ : (m797_ 77 8).toInt = (m761_ 77 8).toInt := by rw [p799_.2.2 77 8 (by decide)]
              have f803_ : (m797_ 7 8).toInt = (m761_ 7 8).toInt := by rw [p799_.2.2 7 8 (by decide)]
              have f804_ : (m797_ 78 312).toInt = (m761_ 78 312).toInt := by rw [p799_.2.2 78 312 (by decide)]
              have f805_ : (m797_ 16 8).toInt = (m761_ 16 8).toInt := by rw [p799_.2.2 16 8 (by decide)]
              have f806_ : (m797_ 80 312).toInt = (m761_ 80 312).toInt := by rw [p799_.2.2 80 312 (by decide)]
              have f807_ : (m797_ 0 12).toInt = (m761_ 0 12).toInt := by rw [p799_.2.2 0 12 (by decide)]
              have f808_ : (m797_ 77 67).toInt = (m761_ 77 67).toInt := by rw [p799_.2.2 77 67 (by decide)]
              have q809_ : (m797_ 1 1).toInt = (m797_ 77 8).toInt := by omega
              have q810_ : (m797_ 7 8).toInt = (m797_ 78 312).toInt := by omega
              have q811_ : (m797_ 16 8).toInt = (m797_ 80 312).toInt := by omega
              have q812_ : (m797_ 0 12).toInt = (m797_ 77 67).toInt := by omega
              have f814_ := r_1_1 hG
              have t813_ : TR m797_ := TR_le hT (by omega) (funext (fun s_ => by rw [p799_.2.2 2 s_ (outc rfl), p763_.2.2 2 s_ (outc rfl)])) (funext (fun s_ => by rw [p799_.2.2 84 s_ (outc rfl), p763_.2.2 84 s_ (outc rfl)]))
              refine T_ql (i_add rfl l_7 (by omega) (by omega)) ?_
              intro x815_ h816_
              exact ih j r hj hr x815_ m797_ (by omega) (by omega) g798_ q809_ q810_ q811_ q812_ t813_ (by omega)
          · refine T_qg (i_add rfl l_5 (by omega) (by omega)) (by omega) (by omega) ?_
            refine T_eq rfl l_0 (fun c817_ => ?_) (fun c817_ => ?_)
            · refine T_qg (i_add rfl l_6 (by omega) (by omega)) (by omega) (by omega) ?_
              refine T_qcE (t_X12_game hn _ _ _ _ _ _ m761_ g762_ (by decide) (by decide)) ?_
              intro r818_ m819_ e822_ p821_
              have g820_ := p821_.2.1
              have f823_ : (m819_ 1 1).toInt = (m761_ 1 1).toInt := by rw [p821_.2.2 1 1 (by decide)]
              have f824_ : (m819_ 77 8).toInt = (m761_ 77 8).toInt := by rw [p821_.2.2 77 8 (by decide)]
              have f825_ : (m819_ 7 8).toInt = (m761_ 7 8).toInt := by rw [p821_.2.2 7 8 (by decide)]
              have f826_ : (m819_ 78 312).toInt = (m761_ 78 312).toInt := by rw [p821_.2.2 78 312 (by decide)]
              have f827_ : (m819_ 16 8).toInt = (m761_ 16 8).toInt := by rw [p821_.2.2 16 8 (by decide)]
              have f828_ : (m819_ 80 312).toInt = (m761_ 80 312).toInt := by rw [p821_.2.2 80 312 (by decide)]
              have f829_ : (m819_ 0 12).toInt = (m761_ 0 12).toInt := by rw [p821_.2.2 0 12 (by decide)]
              have f830_ : (m819_ 77 67).toInt = (m761_ 77 67).toInt := by rw [p821_.2.2 77 67 (by decide)]
              have q831_ : (m819_ 1 1).toInt = (m819_ 77 8).toInt := by omega
              have q832_ : (m819_ 7 8).toInt = (m819_ 78 312).toInt := by omega
              have q833_ : (m819_ 16 8).toInt = (m819_ 80 312).toInt := by omega
              have q834_ : (m819_ 0 12).toInt = (m819_ 77 67).toInt := by omega
              have f836_ := r_1_1 hG
              have t835_ : TR m819_ := TR_le hT (by omega) (funext (fun s_ => by rw [p821_.2.2 2 s_ (outc rfl), p763_.2.2 2 s_ (outc rfl)])) (funext (fun s_ => by rw [p821_.2.2 84 s_ (outc rfl), p763_.2.2 84 s_ (outc rfl)]))
              refine T_ql (i_add rfl l_7 (by omega) (by omega)) ?_
              intro x837_ h838_
              exact ih j r hj hr x837_ m819_ (by omega) (by omega) g820_ q831_ q832_ q833_ q834_ t835_ (by omega)
            · refine T_qg (i_add rfl l_6 (by omega) (by omega)) (by omega) (by omega) ?_
              refine T_qcE (t_X12_game hn _ _ _ _ _ _ m761_ g762_ (by decide) (by decide)) ?_
              intro r839_ m840_ e843_ p842_
              have g841_ := p842_.2.1
              have f844_ : (m840_ 1 1).toInt = (m761_ 1 1).toInt := by rw [p842_.2.2 1 1 (by decide)]
              have f845_ : (m840_ 77 8).toInt = (m761_ 77 8).toInt := by rw [p842_.2.2 77 8 (by decide)]
              have f846_ : (m840_ 7 8).toInt = (m761_ 7 8).toInt := by rw [p842_.2.2 7 8 (by decide)]
              have f847_ : (m840_ 78 312).toInt = (m761_ 78 312).toInt := by rw [p842_.2.2 78 312 (by decide)]
              have f848_ : (m840_ 16 8).toInt = (m761_ 16 8).toInt := by rw [p842_.2.2 16 8 (by decide)]
              have f849_ : (m840_ 80 312).toInt = (m761_ 80 312).toInt := by rw [p842_.2.2 80 312 (by decide)]
              have f850_ : (m840_ 0 12).toInt = (m761_ 0 12).toInt := by rw [p842_.2.2 0 12 (by decide)]
              have f851_ : (m840_ 77 67).toInt = (m761_ 77 67).toInt := by rw [p842_.2.2 77 67 (by decide)]
              have q852_ : (m840_ 1 1).toInt = (m840_ 77 8).toInt := by omega
              have q853_ : (m840_ 7 8).toInt = (m840_ 78 312).toInt := by omega
              have q854_ : (m840_ 16 8).toInt = (m840_ 80 312).toInt := by omega
              have q855_ : (m840_ 0 12).toInt = (m840_ 77 67).toInt := by omega
              have f857_ := r_1_1 hG
              have t856_ : TR m840_ := TR_le hT (by omega) (funext (fun s_ => by rw [p842_.2.2 2 s_ (outc rfl), p763_.2.2 2 s_ (outc rfl)])) (funext (fun s_ => by rw [p842_.2.2 84 s_ (outc rfl), p763_.2.2 84 s_ (outc rfl)]))
              refine T_ql (i_add rfl l_7 (by omega) (by omega)) ?_
              intro x858_ h859_
              exact ih j r hj hr x858_ m840_ (by omega) (by omega) g841_ q852_ q853_ q854_ q855_ t856_ (by omega)
      · refine T_qg (i_add rfl l_5 (by omega) (by omega)) (by omega) (by omega) ?_
        refine T_eq rfl l_0 (fun c860_ => ?_) (fun c860_ => ?_)
        · refine T_qg (i_add rfl l_6 (by omega) (by omega)) (by omega) (by omega) ?_
          refine T_qcE (t_X11_game hn _ _ _ _ _ _ M hG (by decide) (by decide)) ?_
          intro r861_ m862_ e865_ p864_
          have g863_ := p864_.2.1
          have f866_ : (m862_ 1 1).toInt = (M 1 1).toInt := by rw [p864_.2.2 1 1 (by decide)]
          have f867_ : (m862_ 77 8).toInt = (M 77 8).toInt := by rw [p864_.2.2 77 8 (by decide)]
          have f868_ : (m862_ 7 8).toInt = (M 7 8).toInt := by rw [p864_.2.2 7 8 (by decide)]
          have f869_ : (m862_ 78 312).toInt = (M 78 312).toInt := by rw [p864_.2.2 78 312 (by decide)]
          have f870_ : (m862_ 16 8).toInt = (M 16 8).toInt := by rw [p864_.2.2 16 8 (by decide)]
          have f871_ : (m862_ 80 312).toInt = (M 80 312).toInt := by rw [p864_.2.2 80 312 (by decide)]
          have f872_ : (m862_ 0 12).toInt = (M 0 12).toInt := by rw [p864_.2.2 0 12 (by decide)]
          have f873_ : (m862_ 77 67).toInt = (M 77 67).toInt := by rw [p864_.2.2 77 67 (by decide)]
          refine T_qg (i_add rfl l_1 (by omega) (by omega)) (by omega) (by omega) ?_
          refine T_qg (i_add rfl l_2 (by omega) (by omega)) (by omega) (by omega) ?_
          refine T_qg (i_add rfl l_3 (by omega) (by omega)) (by omega) (by omega) ?_
          refine T_qg (i_add rfl l_4 (by omega) (by omega)) (by omega) (by omega) ?_
          refine T_eq rfl l_0 (fun c874_ => ?_) (fun c874_ => ?_)
          · refine T_qg (i_add rfl l_5 (by omega) (by omega)) (by omega) (by omega) ?_
            refine T_eq rfl l_0 (fun c875_ => ?_) (fun c875_ => ?_)
            · refine T_qg (i_add rfl l_6 (by omega) (by omega)) (by omega) (by omega) ?_
              refine T_qcE (t_X12_game hn _ _ _ _ _ _ m862_ g863_ (by decide) (by decide)) ?_
              intro r876_ m877_ e880_ p879_
              have g878_ := p879_.2.1
              have f881_ : (m877_ 1 1).toInt = (m862_ 1 1).toInt := by rw [p879_.2.2 1 1 (by decide)]
              have f882_ : (m877_ 77 8).toInt = (m862_ 77 8).toInt := by rw [p879_.2.2 77 8 (by decide)]
              have f883_ : (m877_ 7 8).toInt = (m862_ 7 8).toInt := by rw [p879_.2.2 7 8 (by decide)]
              have f884_ : (m877_ 78 312).toInt = (m862_ 78 312).toInt := by rw [p879_.2.2 78 312 (by decide)]
              have f885_ : (m877_ 16 8).toInt = (m862_ 16 8).toInt := by rw [p879_.2.2 16 8 (by decide)]
              have f886_ : (m877_ 80 312).toInt = (m862_ 80 312).toInt := by rw [p879_.2.2 80 312 (by decide)]
              have f887_ : (m877_ 0 12).toInt = (m862_ 0 12).toInt := by rw [p879_.2.2 0 12 (by decide)]
              have f888_ : (m877_ 77 67).toInt = (m862_ 77 67).toInt := by rw [p879_.2.2 77 67 (by decide)]
              have q889_ : (m877_ 1 1).toInt = (m877_ 77 8).toInt := by omega
              have q890_ : (m877_ 7 8).toInt = (m877_ 78 312).toInt := by omega
              have q891_ : (m877_ 16 8).toInt = (m877_ 80 312).toInt := by omega
              have q892_ : (m877_ 0 12).toInt = (m877_ 77 67).toInt := by omega
              have f894_ := r_1_1 hG
              have t893_ : TR m877_ := TR_le hT (by omega) (funext (fun s_ => by rw [p879_.2.2 2 s_ (outc rfl), p864_.2.2 2 s_ (outc rfl)])) (funext (fun s_ => by rw [p879_.2.2 84 s_ (outc rfl), p864_.2.2 84 s_ (outc rfl)]))
              refine T_ql (i_add rfl l_7 (by omega) (by omega)) ?_
              intro x895_ h896_
              exact ih j r hj hr x895_ m877_ (by omega) (by omega) g878_ q889_ q890_ q891_ q892_ t893_ (by omega)
            · refine T_qg (i_add rfl l_6 (by omega) (by omega)) (by omega) (by omega) ?_
              refine T_qcE (t_X12_game hn _ _ _ _ _ _ m862_ g863_ (by decide) (by decide)) ?_
              intro r897_ m898_ e901_ p900_
              have g899_ := p900_.2.1
              have f902_ : (m898_ 1 1).toInt = (m862_ 1 1).toInt := by rw [p900_.2.2 1 1 (by decide)]
              have f903_ : (m898_ 77 8).toInt = (m862_ 77 8).toInt := by rw [p900_.2.2 77 8 (by decide)]
              have f904_ : (m898_ 7 8).toInt = (m862_ 7 8).toInt := by rw [p900_.2.2 7 8 (by decide)]
              have f905_ : (m898_ 78 312).toInt = (m862_ 78 312).toInt := by rw [p900_.2.2 78 312 (by decide)]
              have f906_ : (m898_ 16 8).toInt = (m862_ 16 8).toInt := by rw [p900_.2.2 16 8 (by decide)]
              have f907_ : (m898_ 80 312).toInt = (m862_ 80 312).toInt := by rw [p900_.2.2 80 312 (by decide)]
              have f908_ : (m898_ 0 12).toInt = (m862_ 0 12).toInt := by rw [p900_.2.2 0 12 (by decide)]
              have f909_ : (m898_ 77 67).toInt = (m862_ 77 67).toInt := by rw [p900_.2.2 77 67 (by decide)]
              have q910_ : (m898_ 1 1).toInt = (m898_ 77 8).toInt := by omega
              have q911_ : (m898_ 7 8).toInt = (m898_ 78 312).toInt := by omega
              have q912_ : (m898_ 16 8).toInt = (m898_ 80 312).toInt := by omega
              have q913_ : (m898_ 0 12).toInt = (m898_ 77 67).toInt := by omega
              have f915_ := r_1_1 hG
              have t914_ : TR m898_ := TR_le hT (by omega) (funext (fun s_ => by rw [p900_.2.2 2 s_ (outc rfl), p864_.2.2 2 s_ (outc rfl)])) (funext (fun s_ => by rw [p900_.2.2 84 s_ (outc rfl), p864_.2.2 84 s_ (outc rfl)]))
              refine T_ql (i_add rfl l_7 (by omega) (by omega)) ?_
              intro x916_ h917_
              exact ih j r hj hr x916_ m898_ (by omega) (by omega) g899_ q910_ q911_ q912_ q913_ t914_ (by omega)
          · refine T_qg (i_add rfl l_5 (by omega) (by omega)) (by omega) (by omega) ?_
            refine T_eq rfl l_0 (fun c918_ => ?_) (fun c918_ => ?_)
            · refine T_qg (i_add rfl l_6 (by omega) (by omega)) (by omega) (by omega) ?_
              refine T_qcE (t_X12_game hn _ _ _ _ _ _ m862_ g863_ (by decide) (by decide)) ?_
              intro r919_ m920_ e923_ p922_
              have g921_ := p922_.2.1
              have f924_ : (m920_ 1 1).toInt = (m862_ 1 1).toInt := by rw [p922_.2.2 1 1 (by decide)]
              have f925_ : (m920_ 77 8).toInt = (m862_ 77 8).toInt := by rw [p922_.2.2 77 8 (by decide)]
              have f926_ : (m920_ 7 8).toInt = (m862_ 7 8).toInt := by rw [p922_.2.2 7 8 (by decide)]
              have f927_ : (m920_ 78 312).toInt = (m862_ 78 312).toInt := by rw [p922_.2.2 78 312 (by decide)]
              have f928_ : (m920_ 16 8).toInt = (m862_ 16 8).toInt := by rw [p922_.2.2 16 8 (by decide)]
              have f929_ : (m920_ 80 312).toInt = (m862_ 80 312).toInt := by rw [p922_.2.2 80 312 (by decide)]
              have f930_ : (m920_ 0 12).toInt = (m862_ 0 12).toInt := by rw [p922_.2.2 0 12 (by decide)]
              have f931_ : (m920_ 77 67).toInt = (m862_ 77 67).toInt := by rw [p922_.2.2 77 67 (by decide)]
              have q932_ : (m920_ 1 1).toInt = (m920_ 77 8).toInt := by omega
              have q933_ : (m920_ 7 8).toInt = (m920_ 78 312).toInt := by omega
              have q934_ : (m920_ 16 8).toInt = (m920_ 80 312).toInt := by omega
              have q935_ : (m920_ 0 12).toInt = (m920_ 77 67).toInt := by omega
              have f937_ := r_1_1 hG
              have t936_ : TR m920_ := TR_le hT (by omega) (funext (fun s_ => by rw [p922_.2.2 2 s_ (outc rfl), p864_.2.2 2 s_ (outc rfl)])) (funext (fun s_ => by rw [p922_.2.2 84 s_ (outc rfl), p864_.2.2 84 s_ (outc rfl)]))
              refine T_ql (i_add rfl l_7 (by omega) (by omega)) ?_
              intro x938_ h939_
              exact ih j r hj hr x938_ m920_ (by omega) (by omega) g921_ q932_ q933_ q934_ q935_ t936_ (by omega)
            · refine T_qg (i_add rfl l_6 (by omega) (by omega)) (by omega) (by omega) ?_
              refine T_qcE (t_X12_game hn _ _ _ _ _ _ m862_ g863_ (by decide) (by decide)) ?_
              intro r940_ m941_ e944_ p943_
              have g942_ := p943_.2.1
              have f945_ : (m941_ 1 1).toInt = (m862_ 1 1).toInt := by rw [p943_.2.2 1 1 (by decide)]
              have f946_ : (m941_ 77 8).toInt = (m862_ 77 8).toInt := by rw [p943_.2.2 77 8 (by decide)]
              have f947_ : (m941_ 7 8).toInt = (m862_ 7 8).toInt := by rw [p943_.2.2 7 8 (by decide)]
              have f948_ : (m941_ 78 312).toInt = (m862_ 78 312).toInt := by rw [p943_.2.2 78 312 (by decide)]
              have f949_ : (m941_ 16 8).toInt = (m862_ 16 8).toInt := by rw [p943_.2.2 16 8 (by decide)]
              have f950_ : (m941_ 80 312).toInt = (m862_ 80 312).toInt := by rw [p943_.2.2 80 312 (by decide)]
              have f951_ : (m941_ 0 12).toInt = (m862_ 0 12).toInt := by rw [p943_.2.2 0 12 (by decide)]
              have f952_ : (m941_ 77 67).toInt = (m862_ 77 67).toInt := by rw [p943_.2.2 77 67 (by decide)]
              have q953_ : (m941_ 1 1).toInt = (m941_ 77 8).toInt := by omega
              have q954_ : (m941_ 7 8).toInt = (m941_ 78 312).toInt := by omega
              have q955_ : (m941_ 16 8).toInt = (m941_ 80 312).toInt := by omega
              have q956_ : (m941_ 0 12).toInt = (m941_ 77 67).toInt := by omega
              have f958_ := r_1_1 hG
              have t957_ : TR m941_ := TR_le hT (by omega) (funext (fun s_ => by rw [p943_.2.2 2 s_ (outc rfl), p864_.2.2 2 s_ (outc rfl)])) (funext (fun s_ => by rw [p943_.2.2 84 s_ (outc rfl), p864_.2.2 84 s_ (outc rfl)]))
              refine T_ql (i_add rfl l_7 (by omega) (by omega)) ?_
              intro x959_ h960_
              exact ih j r hj hr x959_ m941_ (by omega) (by omega) g942_ q953_ q954_ q955_ q956_ t957_ (by omega)
        · refine T_qg (i_add rfl l_6 (by omega) (by omega)) (by omega) (by omega) ?_
          refine T_qcE (t_X11_game hn _ _ _ _ _ _ M hG (by decide) (by decide)) ?_
          intro r961_ m962_ e965_ p964_
          have g963_ := p964_.2.1
          have f966_ : (m962_ 1 1).toInt = (M 1 1).toInt := by rw [p964_.2.2 1 1 (by decide)]
          have f967_ : (m962_ 77 8).toInt = (M 77 8).toInt := by rw [p964_.2.2 77 8 (by decide)]
          have f968_ : (m962_ 7 8).toInt = (M 7 8).toInt := by rw [p964_.2.2 7 8 (by decide)]
          have f969_ : (m962_ 78 312).toInt = (M 78 312).toInt := by rw [p964_.2.2 78 312 (by decide)]
          have f970_ : (m962_ 16 8).toInt = (M 16 8).toInt := by rw [p964_.2.2 16 8 (by decide)]
          have f971_ : (m962_ 80 312).toInt = (M 80 312).toInt := by rw [p964_.2.2 80 312 (by decide)]
          have f972_ : (m962_ 0 12).toInt = (M 0 12).toInt := by rw [p964_.2.2 0 12 (by decide)]
          have f973_ : (m962_ 77 67).toInt = (M 77 67).toInt := by rw [p964_.2.2 77 67 (by decide)]
          refine T_qg (i_add rfl l_1 (by omega) (by omega)) (by omega) (by omega) ?_
          refine T_qg (i_add rfl l_2 (by omega) (by omega)) (by omega) (by omega) ?_
          refine T_qg (i_add rfl l_3 (by omega) (by omega)) (by omega) (by omega) ?_
          refine T_qg (i_add rfl l_4 (by omega) (by omega)) (by omega) (by omega) ?_
          refine T_eq rfl l_0 (fun c974_ => ?_) (fun c974_ => ?_)
          · refine T_qg (i_add rfl l_5 (by omega) (by omega)) (by omega) (by omega) ?_
            refine T_eq rfl l_0 (fun c975_ => ?_) (fun c975_ => ?_)
            · refine T_qg (i_add rfl l_6 (by omega) (by omega)) (by omega) (by omega) ?_
              refine T_qcE (t_X12_game hn _ _ _ _ _ _ m962_ g963_ (by decide) (by decide)) ?_
              intro r976_ m977_ e980_ p979_
              have g978_ := p979_.2.1
              have f981_ : (m977_ 1 1).toInt = (m962_ 1 1).toInt := by rw [p979_.2.2 1 1 (by decide)]
              have f982_ : (m977_ 77 8).toInt = (m962_ 77 8).toInt := by rw [p979_.2.2 77 8 (by decide)]
              have f983_ : (m977_ 7 8).toInt = (m962_ 7 8).toInt := by rw [p979_.2.2 7 8 (by decide)]
              have f984_ : (m977_ 78 312).toInt = (m962_ 78 312).toInt := by rw [p979_.2.2 78 312 (by decide)]
              have f985_ : (m977_ 16 8).toInt = (m962_ 16 8).toInt := by rw [p979_.2.2 16 8 (by decide)]
              have f986_ : (m977_ 80 312).toInt = (m962_ 80 312).toInt := by rw [p979_.2.2 80 312 (by decide)]
              have f987_ : (m977_ 0 12).toInt = (m962_ 0 12).toInt := by rw [p979_.2.2 0 12 (by decide)]
              have f988_ : (m977_ 77 67).toInt = (m962_ 77 67).toInt := by rw [p979_.2.2 77 67 (by decide)]
              have q989_ : (m977_ 1 1).toInt = (m977_ 77 8).toInt := by omega
              have q990_ : (m977_ 7 8).toInt = (m977_ 78 312).toInt := by omega
              have q991_ : (m977_ 16 8).toInt = (m977_ 80 312).toInt := by omega
              have q992_ : (m977_ 0 12).toInt = (m977_ 77 67).toInt := by omega
              have f994_ := r_1_1 hG
              have t993_ : TR m977_ := TR_le hT (by omega) (funext (fun s_ => by rw [p979_.2.2 2 s_ (outc rfl), p964_.2.2 2 s_ (outc rfl)])) (funext (fun s_ => by rw [p979_.2.2 84 s_ (outc rfl), p964_.2.2 84 s_ (outc rfl)]))
              refine T_ql (i_add rfl l_7 (by omega) (by omega)) ?_
              intro x995_ h996_
              exact ih j r hj hr x995_ m977_ (by omega) (by omega) g978_ q989_ q990_ q991_ q992_ t993_ (by omega)
            · refine T_qg (i_add rfl l_6 (by omega) (by omega)) (by omega) (by omega) ?_
              refine T_qcE (t_X12_game hn _ _ _ _ _ _ m962_ g963_ (by decide) (by decide)) ?_
              intro r997_ m998_ e1001_ p1000_
              have g999_ := p1000_.2.1
              have f1002_ : (m998_ 1 1).toInt = (m962_ 1 1).toInt := by rw [p1000_.2.2 1 1 (by decide)]
              have f1003_ : (m998_ 77 8).toInt = (m962_ 77 8).toInt := by rw [p1000_.2.2 77 8 (by decide)]
              have f1004_ : (m998_ 7 8).toInt = (m962_ 7 8).toInt := by rw [p1000_.2.2 7 8 (by decide)]
              have f1005_ : (m998_ 78 312).toInt = (m962_ 78 312).toInt := by rw [p1000_.2.2 78 312 (by decide)]
              have f1006_ : (m998_ 16 8).toInt = (m962_ 16 8).toInt := by rw [p1000_.2.2 16 8 (by decide)]
              have f1007_ : (m998_ 80 312).toInt = (m962_ 80 312).toInt := by rw [p1000_.2.2 80 312 (by decide)]
              have f1008_ : (m998_ 0 12).toInt = (m962_ 0 12).toInt := by rw [p1000_.2.2 0 12 (by decide)]
              have f1009_ : (m998_ 77 67).toInt = (m962_ 77 67).toInt := by rw [p1000_.2.2 77 67 (by decide)]
              have q1010_ : (m998_ 1 1).toInt = (m998_ 77 8).toInt := by omega
              have q1011_ : (m998_ 7 8).toInt = (m998_ 78 312).toInt := by omega
              have q1012_ : (m998_ 16 8).toInt = (m998_ 80 312).toInt := by omega
              have q1013_ : (m998_ 0 12).toInt = (m998_ 77 67).toInt := by omega
              have f1015_ := r_1_1 hG
              have t1014_ : TR m998_ := TR_le hT (by omega) (funext (fun s_ => by rw [p1000_.2.2 2 s_ (outc rfl), p964_.2.2 2 s_ (outc rfl)])) (funext (fun s_ => by rw [p1000_.2.2 84 s_ (outc rfl), p964_.2.2 84 s_ (outc rfl)]))
              refine T_ql (i_add rfl l_7 (by omega) (by omega)) ?_
              intro x1016_ h1017_
              exact ih j r hj hr x1016_ m998_ (by omega) (by omega) g999_ q1010_ q1011_ q1012_ q1013_ t1014_ (by omega)
          · refine T_qg (i_add rfl l_5 (by omega) (by omega)) (by omega) (by omega) ?_
            refine T_eq rfl l_0 (fun c1018_ => ?_) (fun c1018_ => ?_)
            · refine T_qg (i_add rfl l_6 (by omega) (by omega)) (by omega) (by omega) ?_
              refine T_qcE (t_X12_game hn _ _ _ _ _ _ m962_ g963_ (by decide) (by decide)) ?_
              intro r1019_ m1020_ e1023_ p1022_
              have g1021_ := p1022_.2.1
              have f1024_ : (m1020_ 1 1).toInt = (m962_ 1 1).toInt := by rw [p1022_.2.2 1 1 (by decide)]
              have f1025_ : (m1020_ 77 8).toInt = (m962_ 77 8).toInt := by rw [p1022_.2.2 77 8 (by decide)]
              have f1026_ : (m1020_ 7 8).toInt = (m962_ 7 8).toInt := by rw [p1022_.2.2 7 8 (by decide)]
              have f1027_ : (m1020_ 78 312).toInt = (m962_ 78 312).toInt := by rw [p1022_.2.2 78 312 (by decide)]
              have f1028_ : (m1020_ 16 8).toInt = (m962_ 16 8).toInt := by rw [p1022_.2.2 16 8 (by decide)]
              have f1029_ : (m1020_ 80 312).toInt = (m962_ 80 312).toInt := by rw [p1022_.2.2 80 312 (by decide)]
              have f1030_ : (m1020_ 0 12).toInt = (m962_ 0 12).toInt := by rw [p1022_.2.2 0 12 (by decide)]
              have f1031_ : (m1020_ 77 67).toInt = (m962_ 77 67).toInt := by rw [p1022_.2.2 77 67 (by decide)]
              have q1032_ : (m1020_ 1 1).toInt = (m1020_ 77 8).toInt := by omega
              have q1033_ : (m1020_ 7 8).toInt = (m1020_ 78 312).toInt := by omega
              have q1034_ : (m1020_ 16 8).toInt = (m1020_ 80 312).toInt := by omega
              have q1035_ : (m1020_ 0 12).toInt = (m1020_ 77 67).toInt := by omega
              have f1037_ := r_1_1 hG
              have t1036_ : TR m1020_ := TR_le hT (by omega) (funext (fun s_ => by rw [p1022_.2.2 2 s_ (outc rfl), p964_.2.2 2 s_ (outc rfl)])) (funext (fun s_ => by rw [p1022_.2.2 84 s_ (outc rfl), p964_.2.2 84 s_ (outc rfl)]))
              refine T_ql (i_add rfl l_7 (by omega) (by omega)) ?_
              intro x1038_ h1039_
              exact ih j r hj hr x1038_ m1020_ (by omega) (by omega) g1021_ q1032_ q1033_ q1034_ q1035_ t1036_ (by omega)
            · refine T_qg (i_add rfl l_6 (by omega) (by omega)) (by omega) (by omega) ?_
              refine T_qcE (t_X12_game hn _ _ _ _ _ _ m962_ g963_ (by decide) (by decide)) ?_
              intro r1040_ m1041_ e1044_ p1043_
              have g1042_ := p1043_.2.1
              have f1045_ : (m1041_ 1 1).toInt = (m962_ 1 1).toInt := by rw [p1043_.2.2 1 1 (by decide)]
              have f1046_ : (m1041_ 77 8).toInt = (m962_ 77 8).toInt := by rw [p1043_.2.2 77 8 (by decide)]
              have f1047_ : (m1041_ 7 8).toInt = (m962_ 7 8).toInt := by rw [p1043_.2.2 7 8 (by decide)]
              have f1048_ : (m1041_ 78 312).toInt = (m962_ 78 312).toInt := by rw [p1043_.2.2 78 312 (by decide)]
              have f1049_ : (m1041_ 16 8).toInt = (m962_ 16 8).toInt := by rw [p1043_.2.2 16 8 (by decide)]
              have f1050_ : (m1041_ 80 312).toInt = (m962_ 80 312).toInt := by rw [p1043_.2.2 80 312 (by decide)]
              have f1051_ : (m1041_ 0 12).toInt = (m962_ 0 12).toInt := by rw [p1043_.2.2 0 12 (by decide)]
              have f1052_ : (m1041_ 77 67).toInt = (m962_ 77 67).toInt := by rw [p1043_.2.2 77 67 (by decide)]
              have q1053_ : (m1041_ 1 1).toInt = (m1041_ 77 8).toInt := by omega
              have q1054_ : (m1041_ 7 8).toInt = (m1041_ 78 312).toInt := by omega
              have q1055_ : (m1041_ 16 8).toInt = (m1041_ 80 312).toInt := by omega
              have q1056_ : (m1041_ 0 12).toInt = (m1041_ 77 67).toInt := by omega
              have f1058_ := r_1_1 hG
              have t1057_ : TR m1041_ := TR_le hT (by omega) (funext (fun s_ => by rw [p1043_.2.2 2 s_ (outc rfl), p964_.2.2 2 s_ (outc rfl)])) (funext (fun s_ => by rw [p1043_.2.2 84 s_ (outc rfl), p964_.2.2 84 s_ (outc rfl)]))
              refine T_ql (i_add rfl l_7 (by omega) (by omega)) ?_
              intro x1059_ h1060_
              exact ih j r hj hr x1059_ m1041_ (by omega) (by omega) g1042_ q1053_ q1054_ q1055_ q1056_ t1057_ (by omega)
    refine T_sw rfl l_19 (fun s1061_ => ?_) (fun s1061_ => ?_)
    · refine T_qg (i_add rfl l_1 (by omega) (by omega)) (by omega) (by omega) ?_
      refine T_qg (i_add rfl l_2 (by omega) (by omega)) (by omega) (by omega) ?_
      refine T_qg (i_add rfl l_3 (by omega) (by omega)) (by omega) (by omega) ?_
      refine T_qg (i_add rfl l_4 (by omega) (by omega)) (by omega) (by omega) ?_
      refine T_qg (i_add rfl l_5 (by omega) (by omega)) (by omega) (by omega) ?_
      refine T_qg (i_add rfl l_6 (by omega) (by omega)) (by omega) (by omega) ?_
      refine T_qcE (t_X11_court hn _ _ _ _ _ _ M hG) ?_
      intro r1062_ m1063_ e1066_ p1065_
      have g1064_ := p1065_.2.1
      have f1067_ : (m1063_ 1 1).toInt = (M 1 1).toInt := by rw [p1065_.2.2 1 1 (by decide)]
      have f1068_ : (m1063_ 77 8).toInt = (M 77 8).toInt := by rw [p1065_.2.2 77 8 (by decide)]
      have f1069_ : (m1063_ 7 8).toInt = (M 7 8).toInt := by rw [p1065_.2.2 7 8 (by decide)]
      have f1070_ : (m1063_ 78 312).toInt = (M 78 312).toInt := by rw [p1065_.2.2 78 312 (by decide)]
      have f1071_ : (m1063_ 16 8).toInt = (M 16 8).toInt := by rw [p1065_.2.2 16 8 (by decide)]
      have f1072_ : (m1063_ 80 312).toInt = (M 80 312).toInt := by rw [p1065_.2.2 80 312 (by decide)]
      have f1073_ : (m1063_ 0 12).toInt = (M 0 12).toInt := by rw [p1065_.2.2 0 12 (by decide)]
      have f1074_ : (m1063_ 77 67).toInt = (M 77 67).toInt := by rw [p1065_.2.2 77 67 (by decide)]
      refine T_qg (i_add rfl l_1 (by omega) (by omega)) (by omega) (by omega) ?_
      refine T_qg (i_add rfl l_2 (by omega) (by omega)) (by omega) (by omega) ?_
      refine T_qg (i_add rfl l_3 (by omega) (by omega)) (by omega) (by omega) ?_
      refine T_qg (i_add rfl l_4 (by omega) (by omega)) (by omega) (by omega) ?_
      refine T_qg (i_add rfl l_5 (by omega) (by omega)) (by omega) (by omega) ?_
      refine T_qg (i_add rfl l_6 (by omega) (by omega)) (by omega) (by omega) ?_
      refine T_qcE (t_X12_court hn _ _ _ _ _ _ m1063_ g1064_) ?_
      intro r1075_ m1076_ e1079_ p1078_
      have g1077_ := p1078_.2.1
      have f1080_ : (m1076_ 1 1).toInt = (m1063_ 1 1).toInt := by rw [p1078_.2.2 1 1 (by decide)]
      have f1081_ : (m1076_ 77 8).toInt = (m1063_ 77 8).toInt := by rw [p1078_.2.2 77 8 (by decide)]
      have f1082_ : (m1076_ 7 8).toInt = (m1063_ 7 8).toInt := by rw [p1078_.2.2 7 8 (by decide)]
      have f1083_ : (m1076_ 78 312).toInt = (m1063_ 78 312).toInt := by rw [p1078_.2.2 78 312 (by decide)]
      have f1084_ : (m1076_ 16 8).toInt = (m1063_ 16 8).toInt := by rw [p1078_.2.2 16 8 (by decide)]
      have f1085_ : (m1076_ 80 312).toInt = (m1063_ 80 312).toInt := by rw [p1078_.2.2 80 312 (by decide)]
      have f1086_ : (m1076_ 0 12).toInt = (m1063_ 0 12).toInt := by rw [p1078_.2.2 0 12 (by decide)]
      have f1087_ : (m1076_ 77 67).toInt = (m1063_ 77 67).toInt := by rw [p1078_.2.2 77 67 (by decide)]
      have q1088_ : (m1076_ 1 1).toInt = (m1076_ 77 8).toInt := by omega
      have q1089_ : (m1076_ 7 8).toInt = (m1076_ 78 312).toInt := by omega
      have q1090_ : (m1076_ 16 8).toInt = (m1076_ 80 312).toInt := by omega
      have q1091_ : (m1076_ 0 12).toInt = (m1076_ 77 67).toInt := by omega
      have f1093_ := r_1_1 hG
      have t1092_ : TR m1076_ := TR_le hT (by omega) (funext (fun s_ => by rw [p1078_.2.2 2 s_ (outc rfl), p1065_.2.2 2 s_ (outc rfl)])) (funext (fun s_ => by rw [p1078_.2.2 84 s_ (outc rfl), p1065_.2.2 84 s_ (outc rfl)]))
      refine T_ql (i_add rfl l_7 (by omega) (by omega)) ?_
      intro x1094_ h1095_
      exact ih j r hj hr x1094_ m1076_ (by omega) (by omega) g1077_ q1088_ q1089_ q1090_ q1091_ t1092_ (by omega)
    refine T_sw rfl l_20 (fun s1096_ => ?_) (fun s1096_ => ?_)
    · refine T_qcE (t_X11_keep hn M hG) ?_
      intro r1097_ m1098_ e1101_ p1100_
      have g1099_ := p1100_.2.1
      have f1102_ : (m1098_ 1 1).toInt = (M 1 1).toInt := by rw [p1100_.2.2 1 1 (by decide)]
      have f1103_ : (m1098_ 77 8).toInt = (M 77 8).toInt := by rw [p1100_.2.2 77 8 (by decide)]
      have f1104_ : (m1098_ 7 8).toInt = (M 7 8).toInt := by rw [p1100_.2.2 7 8 (by decide)]
      have f1105_ : (m1098_ 78 312).toInt = (M 78 312).toInt := by rw [p1100_.2.2 78 312 (by decide)]
      have f1106_ : (m1098_ 80 312).toInt = (M 80 312).toInt := by rw [p1100_.2.2 80 312 (by decide)]
      have f1107_ : (m1098_ 77 67).toInt = (M 77 67).toInt := by rw [p1100_.2.2 77 67 (by decide)]
      have w1108_ := p1100_.1
      refine T_qcE (t_X12_keep hn m1098_ g1099_) ?_
      intro r1109_ m1110_ e1113_ p1112_
      have g1111_ := p1112_.2.1
      have f1114_ : (m1110_ 1 1).toInt = (m1098_ 1 1).toInt := by rw [p1112_.2.2 1 1 (by decide)]
      have f1115_ : (m1110_ 77 8).toInt = (m1098_ 77 8).toInt := by rw [p1112_.2.2 77 8 (by decide)]
      have f1116_ : (m1110_ 7 8).toInt = (m1098_ 7 8).toInt := by rw [p1112_.2.2 7 8 (by decide)]
      have f1117_ : (m1110_ 78 312).toInt = (m1098_ 78 312).toInt := by rw [p1112_.2.2 78 312 (by decide)]
      have f1118_ : (m1110_ 16 8).toInt = (m1098_ 16 8).toInt := by rw [p1112_.2.2 16 8 (by decide)]
      have f1119_ : (m1110_ 0 12).toInt = (m1098_ 0 12).toInt := by rw [p1112_.2.2 0 12 (by decide)]
      have w1120_ := p1112_.1
      have q1121_ : (m1110_ 1 1).toInt = (m1110_ 77 8).toInt := by omega
      have q1122_ : (m1110_ 7 8).toInt = (m1110_ 78 312).toInt := by omega
      have q1123_ : (m1110_ 16 8).toInt = (m1110_ 80 312).toInt := by omega
      have q1124_ : (m1110_ 0 12).toInt = (m1110_ 77 67).toInt := by omega
      have f1126_ := r_1_1 hG
      have t1125_ : TR m1110_ := TR_le hT (by omega) (funext (fun s_ => by rw [p1112_.2.2 2 s_ (outc rfl), p1100_.2.2 2 s_ (outc rfl)])) (funext (fun s_ => by rw [p1112_.2.2 84 s_ (outc rfl), p1100_.2.2 84 s_ (outc rfl)]))
      refine T_ql (i_add rfl l_7 (by omega) (by omega)) ?_
      intro x1127_ h1128_
      exact ih j r hj hr x1127_ m1110_ (by omega) (by omega) g1111_ q1121_ q1122_ q1123_ q1124_ t1125_ (by omega)
    refine T_sw rfl l_21 (fun s1129_ => ?_) (fun s1129_ => ?_)
    · refine T_qcE (t_X11_undo hn M hG) ?_
      intro r1130_ m1131_ e1134_ p1133_
      have g1132_ := p1133_.2.2.1
      have f1135_ : (m1131_ 1 1).toInt = (M 1 1).toInt := by rw [p1133_.2.2.2 1 1 (by decide)]
      have f1136_ : (m1131_ 77 8).toInt = (M 77 8).toInt := by rw [p1133_.2.2.2 77 8 (by decide)]
      have f1137_ : (m1131_ 78 312).toInt = (M 78 312).toInt := by rw [p1133_.2.2.2 78 312 (by decide)]
      have f1138_ : (m1131_ 16 8).toInt = (M 16 8).toInt := by rw [p1133_.2.2.2 16 8 (by decide)]
      have f1139_ : (m1131_ 80 312).toInt = (M 80 312).toInt := by rw [p1133_.2.2.2 80 312 (by decide)]
      have f1140_ : (m1131_ 0 12).toInt = (M 0 12).toInt := by rw [p1133_.2.2.2 0 12 (by decide)]
      have f1141_ : (m1131_ 77 67).toInt = (M 77 67).toInt := by rw [p1133_.2.2.2 77 67 (by decide)]
      have w1142_ := p1133_.2.1
      refine T_qcE (t_X12_undo hn m1131_ g1132_) ?_
      intro r1143_ m1144_ e1147_ p1146_
      have g1145_ := p1146_.2.2.1
      have f1148_ : (m1144_ 1 1).toInt = (m1131_ 1 1).toInt := by rw [p1146_.2.2.2 1 1 (by decide)]
      have f1149_ : (m1144_ 77 8).toInt = (m1131_ 77 8).toInt := by rw [p1146_.2.2.2 77 8 (by decide)]
      have f1150_ : (m1144_ 7 8).toInt = (m1131_ 7 8).toInt := by rw [p1146_.2.2.2 7 8 (by decide)]
      have f1151_ : (m1144_ 16 8).toInt = (m1131_ 16 8).toInt := by rw [p1146_.2.2.2 16 8 (by decide)]
      have f1152_ : (m1144_ 80 312).toInt = (m1131_ 80 312).toInt := by rw [p1146_.2.2.2 80 312 (by decide)]
      have f1153_ : (m1144_ 0 12).toInt = (m1131_ 0 12).toInt := by rw [p1146_.2.2.2 0 12 (by decide)]
      have f1154_ : (m1144_ 77 67).toInt = (m1131_ 77 67).toInt := by rw [p1146_.2.2.2 77 67 (by decide)]
      have w1155_ := p1146_.2.1
      have q1156_ : (m1144_ 1 1).toInt = (m1144_ 77 8).toInt := by omega
      have q1157_ : (m1144_ 7 8).toInt = (m1144_ 78 312).toInt := by omega
      have q1158_ : (m1144_ 16 8).toInt = (m1144_ 80 312).toInt := by omega
      have q1159_ : (m1144_ 0 12).toInt = (m1144_ 77 67).toInt := by omega
      have f1161_ := r_1_1 hG
      have t1160_ : TR m1144_ := TR_le hT (by omega) (funext (fun s_ => by rw [p1146_.2.2.2 2 s_ (outc rfl), p1133_.2.2.2 2 s_ (outc rfl)])) (funext (fun s_ => by rw [p1146_.2.2.2 84 s_ (outc rfl), p1133_.2.2.2 84 s_ (outc rfl)]))
      refine T_ql (i_add rfl l_7 (by omega) (by omega)) ?_
      intro x1162_ h1163_
      exact ih j r hj hr x1162_ m1144_ (by omega) (by omega) g1145_ q1156_ q1157_ q1158_ q1159_ t1160_ (by omega)
    refine T_sw rfl l_22 (fun s1164_ => ?_) (fun s1164_ => ?_)
    · refine T_qg (i_add rfl l_1 (by omega) (by omega)) (by omega) (by omega) ?_
      refine T_qg (i_add rfl l_2 (by omega) (by omega)) (by omega) (by omega) ?_
      refine T_qcE (t_X11_check hn _ _ M hG) ?_
      intro r1165_ m1166_ e1169_ p1168_
      have g1167_ := p1168_.2.2.1
      have f1170_ : (m1166_ 77 8).toInt = (M 77 8).toInt := by rw [p1168_.2.2.2 77 8 (by decide)]
      have f1171_ : (m1166_ 7 8).toInt = (M 7 8).toInt := by rw [p1168_.2.2.2 7 8 (by decide)]
      have f1172_ : (m1166_ 78 312).toInt = (M 78 312).toInt := by rw [p1168_.2.2.2 78 312 (by decide)]
      have f1173_ : (m1166_ 16 8).toInt = (M 16 8).toInt := by rw [p1168_.2.2.2 16 8 (by decide)]
      have f1174_ : (m1166_ 80 312).toInt = (M 80 312).toInt := by rw [p1168_.2.2.2 80 312 (by decide)]
      have f1175_ : (m1166_ 0 12).toInt = (M 0 12).toInt := by rw [p1168_.2.2.2 0 12 (by decide)]
      have f1176_ : (m1166_ 77 67).toInt = (M 77 67).toInt := by rw [p1168_.2.2.2 77 67 (by decide)]
      have w1177_ := p1168_.2.1
      refine T_qg (i_add rfl l_1 (by omega) (by omega)) (by omega) (by omega) ?_
      refine T_qg (i_add rfl l_2 (by omega) (by omega)) (by omega) (by omega) ?_
      refine T_qcE (t_X12_check hn _ _ m1166_ g1167_) ?_
      intro r1178_ m1179_ e1182_ p1181_
      have g1180_ := p1181_.2.2.1
      have f1183_ : (m1179_ 1 1).toInt = (m1166_ 1 1).toInt := by rw [p1181_.2.2.2 1 1 (by decide)]
      have f1184_ : (m1179_ 7 8).toInt = (m1166_ 7 8).toInt := by rw [p1181_.2.2.2 7 8 (by decide)]
      have f1185_ : (m1179_ 78 312).toInt = (m1166_ 78 312).toInt := by rw [p1181_.2.2.2 78 312 (by decide)]
      have f1186_ : (m1179_ 16 8).toInt = (m1166_ 16 8).toInt := by rw [p1181_.2.2.2 16 8 (by decide)]
      have f1187_ : (m1179_ 80 312).toInt = (m1166_ 80 312).toInt := by rw [p1181_.2.2.2 80 312 (by decide)]
      have f1188_ : (m1179_ 0 12).toInt = (m1166_ 0 12).toInt := by rw [p1181_.2.2.2 0 12 (by decide)]
      have f1189_ : (m1179_ 77 67).toInt = (m1166_ 77 67).toInt := by rw [p1181_.2.2.2 77 67 (by decide)]
      have w1190_ := p1181_.2.1
      have b1191_ : m1166_ 78 312 = M 7 8 := Int32.toInt_inj.mp (by omega)
      rw [b1191_] at w1190_
      have q1192_ : (m1179_ 1 1).toInt = (m1179_ 77 8).toInt := by omega
      have q1193_ : (m1179_ 7 8).toInt = (m1179_ 78 312).toInt := by omega
      have q1194_ : (m1179_ 16 8).toInt = (m1179_ 80 312).toInt := by omega
      have q1195_ : (m1179_ 0 12).toInt = (m1179_ 77 67).toInt := by omega
      have f1197_ := r_1_1 hG
      have t1196_ : TR m1179_ := TR_le hT (by omega) (funext (fun s_ => by rw [p1181_.2.2.2 2 s_ (outc rfl), p1168_.2.2.2 2 s_ (outc rfl)])) (funext (fun s_ => by rw [p1181_.2.2.2 84 s_ (outc rfl), p1168_.2.2.2 84 s_ (outc rfl)]))
      refine T_ql (i_add rfl l_7 (by omega) (by omega)) ?_
      intro x1198_ h1199_
      exact ih j r hj hr x1198_ m1179_ (by omega) (by omega) g1180_ q1192_ q1193_ q1194_ q1195_ t1196_ (by omega)
    refine T_sw rfl l_23 (fun s1200_ => ?_) (fun s1200_ => ?_)
    · refine T_qg (i_add rfl l_1 (by omega) (by omega)) (by omega) (by omega) ?_
      refine T_qcE (t_X11_count hn hj _ M hG) ?_
      intro r1201_ m1202_ e1205_ p1204_
      have g1203_ := p1204_.1
      have f1206_ : (m1202_ 1 1).toInt = (M 1 1).toInt := by rw [p1204_.2 1 1 (by decide)]
      have f1207_ : (m1202_ 77 8).toInt = (M 77 8).toInt := by rw [p1204_.2 77 8 (by decide)]
      have f1208_ : (m1202_ 7 8).toInt = (M 7 8).toInt := by rw [p1204_.2 7 8 (by decide)]
      have f1209_ : (m1202_ 78 312).toInt = (M 78 312).toInt := by rw [p1204_.2 78 312 (by decide)]
      have f1210_ : (m1202_ 16 8).toInt = (M 16 8).toInt := by rw [p1204_.2 16 8 (by decide)]
      have f1211_ : (m1202_ 80 312).toInt = (M 80 312).toInt := by rw [p1204_.2 80 312 (by decide)]
      have f1212_ : (m1202_ 0 12).toInt = (M 0 12).toInt := by rw [p1204_.2 0 12 (by decide)]
      have f1213_ : (m1202_ 77 67).toInt = (M 77 67).toInt := by rw [p1204_.2 77 67 (by decide)]
      refine T_qg (i_add rfl l_1 (by omega) (by omega)) (by omega) (by omega) ?_
      refine T_qcE (t_X12_count hn _ m1202_ g1203_) ?_
      intro r1214_ m1215_ e1218_ p1217_
      have g1216_ := p1217_.1
      have f1219_ : (m1215_ 1 1).toInt = (m1202_ 1 1).toInt := by rw [p1217_.2 1 1 (by decide)]
      have f1220_ : (m1215_ 77 8).toInt = (m1202_ 77 8).toInt := by rw [p1217_.2 77 8 (by decide)]
      have f1221_ : (m1215_ 7 8).toInt = (m1202_ 7 8).toInt := by rw [p1217_.2 7 8 (by decide)]
      have f1222_ : (m1215_ 78 312).toInt = (m1202_ 78 312).toInt := by rw [p1217_.2 78 312 (by decide)]
      have f1223_ : (m1215_ 16 8).toInt = (m1202_ 16 8).toInt := by rw [p1217_.2 16 8 (by decide)]
      have f1224_ : (m1215_ 80 312).toInt = (m1202_ 80 312).toInt := by rw [p1217_.2 80 312 (by decide)]
      have f1225_ : (m1215_ 0 12).toInt = (m1202_ 0 12).toInt := by rw [p1217_.2 0 12 (by decide)]
      have f1226_ : (m1215_ 77 67).toInt = (m1202_ 77 67).toInt := by rw [p1217_.2 77 67 (by decide)]
      have q1227_ : (m1215_ 1 1).toInt = (m1215_ 77 8).toInt := by omega
      have q1228_ : (m1215_ 7 8).toInt = (m1215_ 78 312).toInt := by omega
      have q1229_ : (m1215_ 16 8).toInt = (m1215_ 80 312).toInt := by omega
      have q1230_ : (m1215_ 0 12).toInt = (m1215_ 77 67).toInt := by omega
      have f1232_ := r_1_1 hG
      have t1231_ : TR m1215_ := TR_le hT (by omega) (funext (fun s_ => by rw [p1217_.2 2 s_ (outc rfl), p1204_.2 2 s_ (outc rfl)])) (funext (fun s_ => by rw [p1217_.2 84 s_ (outc rfl), p1204_.2 84 s_ (outc rfl)]))
      refine T_ql (i_add rfl l_7 (by omega) (by omega)) ?_
      intro x1233_ h1234_
      exact ih j r hj hr x1233_ m1215_ (by omega) (by omega) g1216_ q1227_ q1228_ q1229_ q1230_ t1231_ (by omega)
    refine T_sw0 ?_
    refine T_ql (i_add rfl l_7 (by omega) (by omega)) ?_
    intro x1235_ h1236_
    exact ih j r hj hr x1235_ M (by omega) (by omega) hG hR0 hR1 hR2 hR3 hT (by omega)
theorem pure_all : qPure := by
  intro g hN
  obtain ⟨M0, e, hF, hG⟩ := freshG
  obtain ⟨v, M', e2, hv⟩ := L_go (n := 200000) (Nat.le_refl _) g hN 4000 37 46 (Or.inl rfl) (Or.inr rfl) 0 M0 (by decide) (by decide) hG (by rw [hF.1 1 1 (by decide), hF.1 77 8 (by decide)]) (by rw [hF.1 7 8 (by decide), hF.2.1 312 (by decide)]) (by rw [hF.1 16 8 (by decide), hF.2.2 80 312 (by decide) (by decide) (by decide) (by decide)]) (by rw [hF.1 0 12 (by decide), hF.1 77 67 (by decide)]) (fun i hi => absurd hi (by rw [hF.1 1 1 (by decide)]; have z : ((0 : Int32).toInt : Int) = 0 := rfl; omega)) (by have z : ((0 : Int32).toInt : Int) = 0 := rfl; omega)
  subst hv
  exact ⟨200000, 4000, M0, M', e, e2⟩
