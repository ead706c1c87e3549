theorem T_qcE {F : qR} {f : Int32 → qM → qR} {P Q : Int32 → qM → Prop} (h : qT F Q) (k : ∀ v m, F = some (v, m) → Q v m → qT (f v m) P) : qT (qc F f) P := by
  obtain ⟨v, M, e, p⟩ := h
  have := k v M e p
  rw [e, qc_v]
  exact this
abbrev l_law : List Bx := [(1, 2, 1, 5), (37, 53, 0, 0)]
abbrev LQ (a1 : Int32) (M m : qM) : Prop := G m ∧ Sm l_law M m ∧ (((1 ≤ a1.toInt ∧ a1.toInt ≤ 240 ∧ a1.toInt ≤ (M 1 1).toInt) ∧ (m 1 1).toInt = 0) ∨ (¬ (1 ≤ a1.toInt ∧ a1.toInt ≤ 240 ∧ a1.toInt ≤ (M 1 1).toInt) ∧ (m 1 1).toInt = (M 1 1).toInt))
theorem T_qc2s {a1 : Int32} {M : qM} {F1 F2 : qR} {E1 E2 : Int32 → qM → qR} {P : Int32 → qM → Prop} (h : (∃ v m, F1 = some (v, m) ∧ LQ a1 M m) ∨ (F1 = none ∧ ∃ v m, F2 = some (v, m) ∧ LQ a1 M m)) (h1 : ∀ v m, F1 = some (v, m) → LQ a1 M m → qT (E1 v m) P) (h2 : ∀ v m, F2 = some (v, m) → LQ a1 M m → qT (E2 v m) P) : qT (qc2 F1 F2 E1 E2) P := by
  rcases h with ⟨v, m, e, g⟩ | ⟨e, v, m, e2, g⟩
  · have := h1 v m e g
    rw [e]; exact this
  · have := h2 v m e2 g
    rw [e, e2]; exact this
theorem law_tots {n : Nat} (hn : 200000 ≤ n) {j r : Nat} (hr : q_isLaw r) (a1 : Int32) (M : qM) (hG : G M) : (∃ v m, f_X11_law n j r a1 M = some (v, m) ∧ LQ a1 M m) ∨ (f_X11_law n j r a1 M = none ∧ ∃ v m, f_X11_lawS n j r a1 M = some (v, m) ∧ LQ a1 M m) := by
  unfold f_X11_law f_X11_lawS
  by_cases c1 : a1 < (1 : Int32)
  · rw [if_pos c1]; rw [Int32.lt_iff_toInt_lt] at c1; have z1 : (1 : Int32).toInt = 1 := rfl; exact Or.inl ⟨_, _, rfl, hG, Sm.rf, Or.inr ⟨by omega, rfl⟩⟩
  · rw [if_neg c1, if_neg c1]
    by_cases c2 : (240 : Int32) < a1
    · rw [if_pos c2]; rw [Int32.lt_iff_toInt_lt] at c2; have z1 : (240 : Int32).toInt = 240 := rfl; exact Or.inl ⟨_, _, rfl, hG, Sm.rf, Or.inr ⟨by omega, rfl⟩⟩
    · rw [if_neg c2, if_neg c2]
      by_cases c3 : a1 ≤ M 1 1
      · rw [if_pos c3, if_pos c3]
        rw [Int32.lt_iff_toInt_lt] at c1 c2
        rw [Int32.le_iff_toInt_le] at c3
        have z1 : (1 : Int32).toInt = 1 := rfl
        have z2 : (240 : Int32).toInt = 240 := rfl
        obtain ⟨v, m2, e, p⟩ := t_X4_read hn hr a1 M hG (by omega)
        obtain ⟨v3, m3, e3, p3⟩ := t_X9_clear hn m2 (p.1)
        have hs : Sm l_law M m3 := (Sm.mono (p.2) rfl).tr (Sm.mono (p3.2.2.2) rfl)
        have hz := p3.2.1
        rw [e, qc_v, qc_v, e3, qc_v, qc_v]
        by_cases c4 : v ≤ (0 : Int32)
        · rw [if_pos c4]; exact Or.inl ⟨_, _, rfl, p3.2.2.1, hs, Or.inl ⟨by omega, hz⟩⟩
        · rw [if_neg c4, if_neg c4]; exact Or.inr ⟨rfl, _, _, rfl, p3.2.2.1, hs, Or.inl ⟨by omega, hz⟩⟩
      · rw [if_neg c3]; rw [Int32.le_iff_toInt_le] at c3; exact Or.inl ⟨_, _, rfl, hG, Sm.rf, Or.inr ⟨by omega, rfl⟩⟩
theorem ofN {k : Nat} (h : k ≤ 3584) : (Int32.ofNat k).toInt = (k : Int) := nI_toInt (by omega)
set_option maxRecDepth 8000 in
set_option maxHeartbeats 4000000 in
theorem L_go {n : Nat} (hn : 200000 ≤ n) (g : qG) (hN : g.2.2.2.2.2.1 ≤ 3584) : ∀ (m j r : Nat), q_isLaw j → q_isLaw r → ∀ (a3 : Int32) (M : qM), 0 ≤ a3.toInt → a3.toInt ≤ 3600 → G M → (M 1 1).toInt = (M 77 8).toInt → (M 7 8).toInt = (M 78 312).toInt → (M 16 8).toInt = (M 80 312).toInt → (M 0 12).toInt = (M 77 67).toInt → TR M → 3700 - a3.toInt < (m : Int) → qT (f_L_law g n m j r a3 M) (fun v _ => v = 1) := by
  intro m
  induction m with
  | zero => intro j r _ _ a3 M _ _ _ _ _ _ _ _ h; exfalso; omega
  | succ m ih =>
    intro j r hj hr a3 M h0 h1 hG hR0 hR1 hR2 hR3 hT hm
    show qT (b_L_law g n j r (f_L_law g n m j r) (f_L_law g n m r j) a3 M) _
    unfold b_L_law
    refine T_lt (i_sub (ofN hN) l_7 (by omega) (by omega)) rfl (fun c => T_ret rfl) (fun c => ?_)
    refine T_qg rfl (by omega) (by omega) ?_
    refine T_sw rfl l_0 (fun s1_ => ?_) (fun s1_ => ?_)
    · refine T_qg (i_add rfl l_1 (by omega) (by omega)) (by omega) (by omega) ?_
      refine T_qg (i_add rfl l_2 (by omega) (by omega)) (by omega) (by omega) ?_
      refine T_qg (i_add rfl l_3 (by omega) (by omega)) (by omega) (by omega) ?_
      refine T_qg (i_add rfl l_4 (by omega) (by omega)) (by omega) (by omega) ?_
      refine T_qcE (t_X11_kind hn _ _ _ _ M hG) ?_
      intro r2_ m3_ e6_ p5_
      have g4_ := p5_.2.1
      have f7_ : (m3_ 1 1).toInt = (M 1 1).toInt := by rw [p5_.2.2 1 1 (by decide)]
      have f8_ : (m3_ 77 8).toInt = (M 77 8).toInt := by rw [p5_.2.2 77 8 (by decide)]
      have f9_ : (m3_ 7 8).toInt = (M 7 8).toInt := by rw [p5_.2.2 7 8 (by decide)]
      have f10_ : (m3_ 78 312).toInt = (M 78 312).toInt := by rw [p5_.2.2 78 312 (by decide)]
      have f11_ : (m3_ 16 8).toInt = (M 16 8).toInt := by rw [p5_.2.2 16 8 (by decide)]
      have f12_ : (m3_ 80 312).toInt = (M 80 312).toInt := by rw [p5_.2.2 80 312 (by decide)]
      have f13_ : (m3_ 0 12).toInt = (M 0 12).toInt := by rw [p5_.2.2 0 12 (by decide)]
      have f14_ : (m3_ 77 67).toInt = (M 77 67).toInt := by rw [p5_.2.2 77 67 (by decide)]
      refine T_qg (i_add rfl l_1 (by omega) (by omega)) (by omega) (by omega) ?_
      refine T_qg (i_add rfl l_2 (by omega) (by omega)) (by omega) (by omega) ?_
      refine T_qg (i_add rfl l_3 (by omega) (by omega)) (by omega) (by omega) ?_
      refine T_qg (i_add rfl l_4 (by omega) (by omega)) (by omega) (by omega) ?_
      refine T_qcE (t_X12_kind hn _ _ _ _ m3_ g4_) ?_
      intro r15_ m16_ e19_ p18_
      have g17_ := p18_.2.1
      have f20_ : (m16_ 1 1).toInt = (m3_ 1 1).toInt := by rw [p18_.2.2 1 1 (by decide)]
      have f21_ : (m16_ 77 8).toInt = (m3_ 77 8).toInt := by rw [p18_.2.2 77 8 (by decide)]
      have f22_ : (m16_ 7 8).toInt = (m3_ 7 8).toInt := by rw [p18_.2.2 7 8 (by decide)]
      have f23_ : (m16_ 78 312).toInt = (m3_ 78 312).toInt := by rw [p18_.2.2 78 312 (by decide)]
      have f24_ : (m16_ 16 8).toInt = (m3_ 16 8).toInt := by rw [p18_.2.2 16 8 (by decide)]
      have f25_ : (m16_ 80 312).toInt = (m3_ 80 312).toInt := by rw [p18_.2.2 80 312 (by decide)]
      have f26_ : (m16_ 0 12).toInt = (m3_ 0 12).toInt := by rw [p18_.2.2 0 12 (by decide)]
      have f27_ : (m16_ 77 67).toInt = (m3_ 77 67).toInt := by rw [p18_.2.2 77 67 (by decide)]
      have q28_ : (m16_ 1 1).toInt = (m16_ 77 8).toInt := by omega
      have q29_ : (m16_ 7 8).toInt = (m16_ 78 312).toInt := by omega
      have q30_ : (m16_ 16 8).toInt = (m16_ 80 312).toInt := by omega
      have q31_ : (m16_ 0 12).toInt = (m16_ 77 67).toInt := by omega
      have f33_ := r_1_1 hG
      have t32_ : TR m16_ := TR_le hT (by omega) (funext (fun s_ => by rw [p18_.2.2 2 s_ (outc rfl), p5_.2.2 2 s_ (outc rfl)])) (funext (fun s_ => by rw [p18_.2.2 84 s_ (outc rfl), p5_.2.2 84 s_ (outc rfl)]))
      refine T_ql (i_add rfl l_7 (by omega) (by omega)) ?_
      intro x34_ h35_
      exact ih j r hj hr x34_ m16_ (by omega) (by omega) g17_ q28_ q29_ q30_ q31_ t32_ (by omega)
    refine T_sw rfl l_1 (fun s36_ => ?_) (fun s36_ => ?_)
    · refine T_qg (i_add rfl l_1 (by omega) (by omega)) (by omega) (by omega) ?_
      refine T_qg (i_add rfl l_2 (by omega) (by omega)) (by omega) (by omega) ?_
      refine T_qcE (t_X11_person hn _ _ M hG) ?_
      intro r37_ m38_ e41_ p40_
      have g39_ := p40_.2.2.1
      have f42_ : (m38_ 1 1).toInt = (M 1 1).toInt := by rw [p40_.2.2.2 1 1 (by decide)]
      have f43_ : (m38_ 77 8).toInt = (M 77 8).toInt := by rw [p40_.2.2.2 77 8 (by decide)]
      have f44_ : (m38_ 78 312).toInt = (M 78 312).toInt := by rw [p40_.2.2.2 78 312 (by decide)]
      have f45_ : (m38_ 16 8).toInt = (M 16 8).toInt := by rw [p40_.2.2.2 16 8 (by decide)]
      have f46_ : (m38_ 80 312).toInt = (M 80 312).toInt := by rw [p40_.2.2.2 80 312 (by decide)]
      have f47_ : (m38_ 0 12).toInt = (M 0 12).toInt := by rw [p40_.2.2.2 0 12 (by decide)]
      have f48_ : (m38_ 77 67).toInt = (M 77 67).toInt := by rw [p40_.2.2.2 77 67 (by decide)]
      have w49_ := p40_.2.1
      refine T_qg (i_add rfl l_1 (by omega) (by omega)) (by omega) (by omega) ?_
      refine T_qg (i_add rfl l_2 (by omega) (by omega)) (by omega) (by omega) ?_
      refine T_qcE (t_X12_person hn _ _ m38_ g39_) ?_
      intro r50_ m51_ e54_ p53_
      have g52_ := p53_.2.2.1
      have f55_ : (m51_ 1 1).toInt = (m38_ 1 1).toInt := by rw [p53_.2.2.2 1 1 (by decide)]
      have f56_ : (m51_ 77 8).toInt = (m38_ 77 8).toInt := by rw [p53_.2.2.2 77 8 (by decide)]
      have f57_ : (m51_ 7 8).toInt = (m38_ 7 8).toInt := by rw [p53_.2.2.2 7 8 (by decide)]
      have f58_ : (m51_ 16 8).toInt = (m38_ 16 8).toInt := by rw [p53_.2.2.2 16 8 (by decide)]
      have f59_ : (m51_ 80 312).toInt = (m38_ 80 312).toInt := by rw [p53_.2.2.2 80 312 (by decide)]
      have f60_ : (m51_ 0 12).toInt = (m38_ 0 12).toInt := by rw [p53_.2.2.2 0 12 (by decide)]
      have f61_ : (m51_ 77 67).toInt = (m38_ 77 67).toInt := by rw [p53_.2.2.2 77 67 (by decide)]
      have w62_ := p53_.2.1
      have b63_ : m38_ 78 312 = M 7 8 := Int32.toInt_inj.mp (by omega)
      rw [b63_] at w62_
      have q64_ : (m51_ 1 1).toInt = (m51_ 77 8).toInt := by omega
      have q65_ : (m51_ 7 8).toInt = (m51_ 78 312).toInt := by omega
      have q66_ : (m51_ 16 8).toInt = (m51_ 80 312).toInt := by omega
      have q67_ : (m51_ 0 12).toInt = (m51_ 77 67).toInt := by omega
      have f69_ := r_1_1 hG
      have t68_ : TR m51_ := TR_le hT (by omega) (funext (fun s_ => by rw [p53_.2.2.2 2 s_ (outc rfl), p40_.2.2.2 2 s_ (outc rfl)])) (funext (fun s_ => by rw [p53_.2.2.2 84 s_ (outc rfl), p40_.2.2.2 84 s_ (outc rfl)]))
      refine T_ql (i_add rfl l_7 (by omega) (by omega)) ?_
      intro x70_ h71_
      exact ih j r hj hr x70_ m51_ (by omega) (by omega) g52_ q64_ q65_ q66_ q67_ t68_ (by omega)
    refine T_sw rfl l_2 (fun s72_ => ?_) (fun s72_ => ?_)
    · refine T_qg (i_add rfl l_1 (by omega) (by omega)) (by omega) (by omega) ?_
      refine T_qg (i_add rfl l_2 (by omega) (by omega)) (by omega) (by omega) ?_
      refine T_qg (i_add rfl l_3 (by omega) (by omega)) (by omega) (by omega) ?_
      refine T_qg (i_add rfl l_4 (by omega) (by omega)) (by omega) (by omega) ?_
      refine T_qg (i_add rfl l_5 (by omega) (by omega)) (by omega) (by omega) ?_
      refine T_qcE (t_X11_feed hn _ _ _ _ _ M hG) ?_
      intro r73_ m74_ e77_ p76_
      have g75_ := p76_.2.2.1
      have f78_ : (m74_ 77 8).toInt = (M 77 8).toInt := by rw [p76_.2.2.2 77 8 (by decide)]
      have f79_ : (m74_ 7 8).toInt = (M 7 8).toInt := by rw [p76_.2.2.2 7 8 (by decide)]
      have f80_ : (m74_ 78 312).toInt = (M 78 312).toInt := by rw [p76_.2.2.2 78 312 (by decide)]
      have f81_ : (m74_ 16 8).toInt = (M 16 8).toInt := by rw [p76_.2.2.2 16 8 (by decide)]
      have f82_ : (m74_ 80 312).toInt = (M 80 312).toInt := by rw [p76_.2.2.2 80 312 (by decide)]
      have f83_ : (m74_ 0 12).toInt = (M 0 12).toInt := by rw [p76_.2.2.2 0 12 (by decide)]
      have f84_ : (m74_ 77 67).toInt = (M 77 67).toInt := by rw [p76_.2.2.2 77 67 (by decide)]
      have w85_ := p76_.2.1
      refine T_qg (i_add rfl l_1 (by omega) (by omega)) (by omega) (by omega) ?_
      refine T_qg (i_add rfl l_2 (by omega) (by omega)) (by omega) (by omega) ?_
      refine T_qg (i_add rfl l_3 (by omega) (by omega)) (by omega) (by omega) ?_
      refine T_qg (i_add rfl l_4 (by omega) (by omega)) (by omega) (by omega) ?_
      refine T_qg (i_add rfl l_5 (by omega) (by omega)) (by omega) (by omega) ?_
      refine T_qcE (t_X12_feed hn _ _ _ _ _ m74_ g75_) ?_
      intro r86_ m87_ e90_ p89_
      have g88_ := p89_.2.2.1
      have f91_ : (m87_ 1 1).toInt = (m74_ 1 1).toInt := by rw [p89_.2.2.2 1 1 (by decide)]
      have f92_ : (m87_ 7 8).toInt = (m74_ 7 8).toInt := by rw [p89_.2.2.2 7 8 (by decide)]
      have f93_ : (m87_ 78 312).toInt = (m74_ 78 312).toInt := by rw [p89_.2.2.2 78 312 (by decide)]
      have f94_ : (m87_ 16 8).toInt = (m74_ 16 8).toInt := by rw [p89_.2.2.2 16 8 (by decide)]
      have f95_ : (m87_ 80 312).toInt = (m74_ 80 312).toInt := by rw [p89_.2.2.2 80 312 (by decide)]
      have f96_ : (m87_ 0 12).toInt = (m74_ 0 12).toInt := by rw [p89_.2.2.2 0 12 (by decide)]
      have f97_ : (m87_ 77 67).toInt = (m74_ 77 67).toInt := by rw [p89_.2.2.2 77 67 (by decide)]
      have w98_ := p89_.2.1
      have q99_ : (m87_ 1 1).toInt = (m87_ 77 8).toInt := by omega
      have q100_ : (m87_ 7 8).toInt = (m87_ 78 312).toInt := by omega
      have q101_ : (m87_ 16 8).toInt = (m87_ 80 312).toInt := by omega
      have q102_ : (m87_ 0 12).toInt = (m87_ 77 67).toInt := by omega
      have t103_ : TR m87_ := feed_TR hn hG hT hR0 e77_ e90_
      refine T_ql (i_add rfl l_7 (by omega) (by omega)) ?_
      intro x104_ h105_
      exact ih j r hj hr x104_ m87_ (by omega) (by omega) g88_ q99_ q100_ q101_ q102_ t103_ (by omega)
    refine T_sw rfl l_3 (fun s106_ => ?_) (fun s106_ => ?_)
    · refine T_qg (i_add rfl l_1 (by omega) (by omega)) (by omega) (by omega) ?_
      refine T_qc2s (law_tots hn hr _ M hG) (fun v_ m_ ee_ p_ => ?_) (fun v_ m_ ee_ p_ => ?_)
      · have f107_ : (m_ 77 8).toInt = (M 77 8).toInt := by rw [p_.2.1 77 8 (by decide)]
        have f108_ : (m_ 7 8).toInt = (M 7 8).toInt := by rw [p_.2.1 7 8 (by decide)]
        have f109_ : (m_ 78 312).toInt = (M 78 312).toInt := by rw [p_.2.1 78 312 (by decide)]
        have f110_ : (m_ 16 8).toInt = (M 16 8).toInt := by rw [p_.2.1 16 8 (by decide)]
        have f111_ : (m_ 80 312).toInt = (M 80 312).toInt := by rw [p_.2.1 80 312 (by decide)]
        have f112_ : (m_ 0 12).toInt = (M 0 12).toInt := by rw [p_.2.1 0 12 (by decide)]
        have f113_ : (m_ 77 67).toInt = (M 77 67).toInt := by rw [p_.2.1 77 67 (by decide)]
        have w114_ := p_.2.2
        refine T_qg (i_add rfl l_1 (by omega) (by omega)) (by omega) (by omega) ?_
        refine T_qcE (t_X12_law hn _ m_ p_.1) ?_
        intro r115_ m116_ e119_ p118_
        have g117_ := p118_.1
        have f120_ : (m116_ 1 1).toInt = (m_ 1 1).toInt := by rw [show m116_ 1 1 = m_ 1 1 from congrFun (p118_.2.1.2 1 (by decide) (by decide)) 1]
        have f121_ : (m116_ 7 8).toInt = (m_ 7 8).toInt := by rw [show m116_ 7 8 = m_ 7 8 from congrFun (p118_.2.1.2 7 (by decide) (by decide)) 8]
        have f122_ : (m116_ 78 312).toInt = (m_ 78 312).toInt := by rw [show m116_ 78 312 = m_ 78 312 from congrFun (p118_.2.1.2 78 (by decide) (by decide)) 312]
        have f123_ : (m116_ 16 8).toInt = (m_ 16 8).toInt := by rw [show m116_ 16 8 = m_ 16 8 from congrFun (p118_.2.1.2 16 (by decide) (by decide)) 8]
        have f124_ : (m116_ 80 312).toInt = (m_ 80 312).toInt := by rw [show m116_ 80 312 = m_ 80 312 from congrFun (p118_.2.1.2 80 (by decide) (by decide)) 312]
        have f125_ : (m116_ 0 12).toInt = (m_ 0 12).toInt := by rw [show m116_ 0 12 = m_ 0 12 from congrFun (p118_.2.1.2 0 (by decide) (by decide)) 12]
        have f126_ : (m116_ 77 67).toInt = (m_ 77 67).toInt := by rw [show m116_ 77 67 = m_ 77 67 from p118_.2.1.1 67 (by decide)]
        have w127_ := p118_.2.2
        have q128_ : (m116_ 1 1).toInt = (m116_ 77 8).toInt := by omega
        have q129_ : (m116_ 7 8).toInt = (m116_ 78 312).toInt := by omega
        have q130_ : (m116_ 16 8).toInt = (m116_ 80 312).toInt := by omega
        have q131_ : (m116_ 0 12).toInt = (m116_ 77 67).toInt := by omega
        have f133_ := r_1_1 hG
        have t132_ : TR m116_ := TR_le hT (by omega) (by rw [p118_.2.1.2 2 (by decide) (by decide)]; exact funext (fun s_ => p_.2.1 2 s_ (outc rfl))) (by rw [p118_.2.1.2 84 (by decide) (by decide)]; exact funext (fun s_ => p_.2.1 84 s_ (outc rfl)))
        have w134_ : v_ = r115_ := law_ag hn hr hG p_.1 hT (by omega) (funext (fun s_ => p_.2.1 84 s_ (outc rfl))) (Or.inl ee_) e119_
        rw [if_pos w134_]
        refine T_ql (i_add rfl l_7 (by omega) (by omega)) ?_
        intro x135_ h136_
        exact ih j r hj hr x135_ m116_ (by omega) (by omega) g117_ q128_ q129_ q130_ q131_ t132_ (by omega)
      · have f137_ : (m_ 77 8).toInt = (M 77 8).toInt := by rw [p_.2.1 77 8 (by decide)]
        have f138_ : (m_ 7 8).toInt = (M 7 8).toInt := by rw [p_.2.1 7 8 (by decide)]
        have f139_ : (m_ 78 312).toInt = (M 78 312).toInt := by rw [p_.2.1 78 312 (by decide)]
        have f140_ : (m_ 16 8).toInt = (M 16 8).toInt := by rw [p_.2.1 16 8 (by decide)]
        have f141_ : (m_ 80 312).toInt = (M 80 312).toInt := by rw [p_.2.1 80 312 (by decide)]
        have f142_ : (m_ 0 12).toInt = (M 0 12).toInt := by rw [p_.2.1 0 12 (by decide)]
        have f143_ : (m_ 77 67).toInt = (M 77 67).toInt := by rw [p_.2.1 77 67 (by decide)]
        have w144_ := p_.2.2
        refine T_qg (i_add rfl l_1 (by omega) (by omega)) (by omega) (by omega) ?_
        refine T_qcE (t_X12_law hn _ m_ p_.1) ?_
        intro r145_ m146_ e149_ p148_
        have g147_ := p148_.1
        have f150_ : (m146_ 1 1).toInt = (m_ 1 1).toInt := by rw [show m146_ 1 1 = m_ 1 1 from congrFun (p148_.2.1.2 1 (by decide) (by decide)) 1]
        have f151_ : (m146_ 7 8).toInt = (m_ 7 8).toInt := by rw [show m146_ 7 8 = m_ 7 8 from congrFun (p148_.2.1.2 7 (by decide) (by decide)) 8]
        have f152_ : (m146_ 78 312).toInt = (m_ 78 312).toInt := by rw [show m146_ 78 312 = m_ 78 312 from congrFun (p148_.2.1.2 78 (by decide) (by decide)) 312]
        have f153_ : (m146_ 16 8).toInt = (m_ 16 8).toInt := by rw [show m146_ 16 8 = m_ 16 8 from congrFun (p148_.2.1.2 16 (by decide) (by decide)) 8]
        have f154_ : (m146_ 80 312).toInt = (m_ 80 312).toInt := by rw [show m146_ 80 312 = m_ 80 312 from congrFun (p148_.2.1.2 80 (by decide) (by decide)) 312]
        have f155_ : (m146_ 0 12).toInt = (m_ 0 12).toInt := by rw [show m146_ 0 12 = m_ 0 12 from congrFun (p148_.2.1.2 0 (by decide) (by decide)) 12]
        have f156_ : (m146_ 77 67).toInt = (m_ 77 67).toInt := by rw [show m146_ 77 67 = m_ 77 67 from p148_.2.1.1 67 (by decide)]
        have w157_ := p148_.2.2
        have q158_ : (m146_ 1 1).toInt = (m146_ 77 8).toInt := by omega
        have q159_ : (m146_ 7 8).toInt = (m146_ 78 312).toInt := by omega
        have q160_ : (m146_ 16 8).toInt = (m146_ 80 312).toInt := by omega
        have q161_ : (m146_ 0 12).toInt = (m146_ 77 67).toInt := by omega
        have f163_ := r_1_1 hG
        have t162_ : TR m146_ := TR_le hT (by omega) (by rw [p148_.2.1.2 2 (by decide) (by decide)]; exact funext (fun s_ => p_.2.1 2 s_ (outc rfl))) (by rw [p148_.2.1.2 84 (by decide) (by decide)]; exact funext (fun s_ => p_.2.1 84 s_ (outc rfl)))
        have w164_ : v_ = r145_ := law_ag hn hr hG p_.1 hT (by omega) (funext (fun s_ => p_.2.1 84 s_ (outc rfl))) (Or.inr ee_) e149_
        rw [if_pos w164_]
        refine T_ql (i_add rfl l_7 (by omega) (by omega)) ?_
        intro x165_ h166_
        exact ih r j hr hj x165_ m146_ (by omega) (by omega) g147_ q158_ q159_ q160_ q161_ t162_ (by omega)
    refine T_sw rfl l_4 (fun s167_ => ?_) (fun s167_ => ?_)
    · refine T_qg (i_add rfl l_1 (by omega) (by omega)) (by omega) (by omega) ?_
      refine T_qg (i_add rfl l_2 (by omega) (by omega)) (by omega) (by omega) ?_
      refine T_qcE (t_X11_plan hn _ _ M hG) ?_
      intro r168_ m169_ e172_ p171_
      have g170_ := p171_.2.1
      have f173_ : (m169_ 77 8).toInt = (M 77 8).toInt := by rw [p171_.2.2 77 8 (by decide)]
      have f174_ : (m169_ 7 8).toInt = (M 7 8).toInt := by rw [p171_.2.2 7 8 (by decide)]
      have f175_ : (m169_ 78 312).toInt = (M 78 312).toInt := by rw [p171_.2.2 78 312 (by decide)]
      have f176_ : (m169_ 16 8).toInt = (M 16 8).toInt := by rw [p171_.2.2 16 8 (by decide)]
      have f177_ : (m169_ 80 312).toInt = (M 80 312).toInt := by rw [p171_.2.2 80 312 (by decide)]
      have f178_ : (m169_ 0 12).toInt = (M 0 12).toInt := by rw [p171_.2.2 0 12 (by decide)]
      have f179_ : (m169_ 77 67).toInt = (M 77 67).toInt := by rw [p171_.2.2 77 67 (by decide)]
      have w180_ := p171_.1
      refine T_qg (i_add rfl l_1 (by omega) (by omega)) (by omega) (by omega) ?_
      refine T_qg (i_add rfl l_2 (by omega) (by omega)) (by omega) (by omega) ?_
      refine T_qcE (t_X12_plan hn _ _ m169_ g170_) ?_
      intro r181_ m182_ e185_ p184_
      have g183_ := p184_.2.1
      have f186_ : (m182_ 1 1).toInt = (m169_ 1 1).toInt := by rw [p184_.2.2 1 1 (by decide)]
      have f187_ : (m182_ 7 8).toInt = (m169_ 7 8).toInt := by rw [p184_.2.2 7 8 (by decide)]
      have f188_ : (m182_ 78 312).toInt = (m169_ 78 312).toInt := by rw [p184_.2.2 78 312 (by decide)]
      have f189_ : (m182_ 16 8).toInt = (m169_ 16 8).toInt := by rw [p184_.2.2 16 8 (by decide)]
      have f190_ : (m182_ 80 312).toInt = (m169_ 80 312).toInt := by rw [p184_.2.2 80 312 (by decide)]
      have f191_ : (m182_ 0 12).toInt = (m169_ 0 12).toInt := by rw [p184_.2.2 0 12 (by decide)]
      have f192_ : (m182_ 77 67).toInt = (m169_ 77 67).toInt := by rw [p184_.2.2 77 67 (by decide)]
      have w193_ := p184_.1
      have b194_ : m169_ 78 312 = M 7 8 := Int32.toInt_inj.mp (by omega)
      rw [b194_] at w193_
      have q195_ : (m182_ 1 1).toInt = (m182_ 77 8).toInt := by omega
      have q196_ : (m182_ 7 8).toInt = (m182_ 78 312).toInt := by omega
      have q197_ : (m182_ 16 8).toInt = (m182_ 80 312).toInt := by omega
      have q198_ : (m182_ 0 12).toInt = (m182_ 77 67).toInt := by omega
      have f200_ := r_1_1 hG
      have t199_ : TR m182_ := TR_le hT (by omega) (funext (fun s_ => by rw [p184_.2.2 2 s_ (outc rfl), p171_.2.2 2 s_ (outc rfl)])) (funext (fun s_ => by rw [p184_.2.2 84 s_ (outc rfl), p171_.2.2 84 s_ (outc rfl)]))
      refine T_ql (i_add rfl l_7 (by omega) (by omega)) ?_
      intro x201_ h202_
      exact ih j r hj hr x201_ m182_ (by omega) (by omega) g183_ q195_ q196_ q197_ q198_ t199_ (by omega)
    refine T_sw rfl l_5 (fun s203_ => ?_) (fun s203_ => ?_)
    · refine T_qg (i_add rfl l_1 (by omega) (by omega)) (by omega) (by omega) ?_
      refine T_qg (i_add rfl l_2 (by omega) (by omega)) (by omega) (by omega) ?_
      refine T_qg (i_add rfl l_3 (by omega) (by omega)) (by omega) (by omega) ?_
      refine T_qcE (t_X11_tries hn hj _ _ _ M hG) ?_
      intro r204_ m205_ e208_ p207_
      have g206_ := p207_.2.1
      have f209_ : (m205_ 1 1).toInt = (M 1 1).toInt := by rw [p207_.2.2 1 1 (by decide)]
      have f210_ : (m205_ 77 8).toInt = (M 77 8).toInt := by rw [p207_.2.2 77 8 (by decide)]
      have f211_ : (m205_ 7 8).toInt = (M 7 8).toInt := by rw [p207_.2.2 7 8 (by decide)]
      have f212_ : (m205_ 78 312).toInt = (M 78 312).toInt := by rw [p207_.2.2 78 312 (by decide)]
      have f213_ : (m205_ 16 8).toInt = (M 16 8).toInt := by rw [p207_.2.2 16 8 (by decide)]
      have f214_ : (m205_ 80 312).toInt = (M 80 312).toInt := by rw [p207_.2.2 80 312 (by decide)]
      have f215_ : (m205_ 0 12).toInt = (M 0 12).toInt := by rw [p207_.2.2 0 12 (by decide)]
      have f216_ : (m205_ 77 67).toInt = (M 77 67).toInt := by rw [p207_.2.2 77 67 (by decide)]
      refine T_qg (i_add rfl l_1 (by omega) (by omega)) (by omega) (by omega) ?_
      refine T_qg (i_add rfl l_2 (by omega) (by omega)) (by omega) (by omega) ?_
      refine T_qg (i_add rfl l_3 (by omega) (by omega)) (by omega) (by omega) ?_
      refine T_qcE (t_X12_tries hn _ _ _ m205_ g206_) ?_
      intro r217_ m218_ e221_ p220_
      have g219_ := p220_.2.1
      have f222_ : (m218_ 1 1).toInt = (m205_ 1 1).toInt := by rw [p220_.2.2 1 1 (by decide)]
      have f223_ : (m218_ 77 8).toInt = (m205_ 77 8).toInt := by rw [p220_.2.2 77 8 (by decide)]
      have f224_ : (m218_ 7 8).toInt = (m205_ 7 8).toInt := by rw [p220_.2.2 7 8 (by decide)]
      have f225_ : (m218_ 78 312).toInt = (m205_ 78 312).toInt := by rw [p220_.2.2 78 312 (by decide)]
      have f226_ : (m218_ 16 8).toInt = (m205_ 16 8).toInt := by rw [p220_.2.2 16 8 (by decide)]
      have f227_ : (m218_ 80 312).toInt = (m205_ 80 312).toInt := by rw [p220_.2.2 80 312 (by decide)]
      have f228_ : (m218_ 0 12).toInt = (m205_ 0 12).toInt := by rw [p220_.2.2 0 12 (by decide)]
      have f229_ : (m218_ 77 67).toInt = (m205_ 77 67).toInt := by rw [p220_.2.2 77 67 (by decide)]
      have q230_ : (m218_ 1 1).toInt = (m218_ 77 8).toInt := by omega
      have q231_ : (m218_ 7 8).toInt = (m218_ 78 312).toInt := by omega
      have q232_ : (m218_ 16 8).toInt = (m218_ 80 312).toInt := by omega
      have q233_ : (m218_ 0 12).toInt = (m218_ 77 67).toInt := by omega
      have f235_ := r_1_1 hG
      have t234_ : TR m218_ := TR_le hT (by omega) (funext (fun s_ => by rw [p220_.2.2 2 s_ (outc rfl), p207_.2.2 2 s_ (outc rfl)])) (funext (fun s_ => by rw [p220_.2.2 84 s_ (outc rfl), p207_.2.2 84 s_ (outc rfl)]))
      refine T_ql (i_add rfl l_7 (by omega) (by omega)) ?_
      intro x236_ h237_
      exact ih j r hj hr x236_ m218_ (by omega) (by omega) g219_ q230_ q231_ q232_ q233_ t234_ (by omega)
    refine T_sw rfl l_6 (fun s238_ => ?_) (fun s238_ => ?_)
    · refine T_qg (i_add rfl l_1 (by omega) (by omega)) (by omega) (by omega) ?_
      refine T_qg (i_add rfl l_2 (by omega) (by omega)) (by omega) (by omega) ?_
      refine T_qg (i_add rfl l_3 (by omega) (by omega)) (by omega) (by omega) ?_
      refine T_qcE (t_X11_buys hn hj _ _ _ M hG) ?_
      intro r239_ m240_ e243_ p242_
      have g241_ := p242_.2.1
      have f244_ : (m240_ 1 1).toInt = (M 1 1).toInt := by rw [p242_.2.2 1 1 (by decide)]
      have f245_ : (m240_ 77 8).toInt = (M 77 8).toInt := by rw [p242_.2.2 77 8 (by decide)]
      have f246_ : (m240_ 7 8).toInt = (M 7 8).toInt := by rw [p242_.2.2 7 8 (by decide)]
      have f247_ : (m240_ 78 312).toInt = (M 78 312).toInt := by rw [p242_.2.2 78 312 (by decide)]
      have f248_ : (m240_ 16 8).toInt = (M 16 8).toInt := by rw [p242_.2.2 16 8 (by decide)]
      have f249_ : (m240_ 80 312).toInt = (M 80 312).toInt := by rw [p242_.2.2 80 312 (by decide)]
      have f250_ : (m240_ 0 12).toInt = (M 0 12).toInt := by rw [p242_.2.2 0 12 (by decide)]
      have f251_ : (m240_ 77 67).toInt = (M 77 67).toInt := by rw [p242_.2.2 77 67 (by decide)]
      refine T_qg (i_add rfl l_1 (by omega) (by omega)) (by omega) (by omega) ?_
      refine T_qg (i_add rfl l_2 (by omega) (by omega)) (by omega) (by omega) ?_
      refine T_qg (i_add rfl l_3 (by omega) (by omega)) (by omega) (by omega) ?_
      refine T_qcE (t_X12_buys hn _ _ _ m240_ g241_) ?_
      intro r252_ m253_ e256_ p255_
      have g254_ := p255_.2.1
      have f257_ : (m253_ 1 1).toInt = (m240_ 1 1).toInt := by rw [p255_.2.2 1 1 (by decide)]
      have f258_ : (m253_ 77 8).toInt = (m240_ 77 8).toInt := by rw [p255_.2.2 77 8 (by decide)]
      have f259_ : (m253_ 7 8).toInt = (m240_ 7 8).toInt := by rw [p255_.2.2 7 8 (by decide)]
      have f260_ : (m253_ 78 312).toInt = (m240_ 78 312).toInt := by rw [p255_.2.2 78 312 (by decide)]
      have f261_ : (m253_ 16 8).toInt = (m240_ 16 8).toInt := by rw [p255_.2.2 16 8 (by decide)]
      have f262_ : (m253_ 80 312).toInt = (m240_ 80 312).toInt := by rw [p255_.2.2 80 312 (by decide)]
      have f263_ : (m253_ 0 12).toInt = (m240_ 0 12).toInt := by rw [p255_.2.2 0 12 (by decide)]
      have f264_ : (m253_ 77 67).toInt = (m240_ 77 67).toInt := by rw [p255_.2.2 77 67 (by decide)]
      have q265_ : (m253_ 1 1).toInt = (m253_ 77 8).toInt := by omega
      have q266_ : (m253_ 7 8).toInt = (m253_ 78 312).toInt := by omega
      have q267_ : (m253_ 16 8).toInt = (m253_ 80 312).toInt := by omega
      have q268_ : (m253_ 0 12).toInt = (m253_ 77 67).toInt := by omega
      have f270_ := r_1_1 hG
      have t269_ : TR m253_ := TR_le hT (by omega) (funext (fun s_ => by rw [p255_.2.2 2 s_ (outc rfl), p242_.2.2 2 s_ (outc rfl)])) (funext (fun s_ => by rw [p255_.2.2 84 s_ (outc rfl), p242_.2.2 84 s_ (outc rfl)]))
      refine T_ql (i_add rfl l_7 (by omega) (by omega)) ?_
      intro x271_ h272_
      exact ih j r hj hr x271_ m253_ (by omega) (by omega) g254_ q265_ q266_ q267_ q268_ t269_ (by omega)
    refine T_sw rfl l_7 (fun s273_ => ?_) (fun s273_ => ?_)
    · refine T_qg (i_add rfl l_1 (by omega) (by omega)) (by omega) (by omega) ?_
      refine T_qcE (t_X11_days hn hj _ M hG) ?_
      intro r274_ m275_ e278_ p277_
      have g276_ := p277_.2.1
      have f279_ : (m275_ 1 1).toInt = (M 1 1).toInt := by rw [p277_.2.2 1 1 (by decide)]
      have f280_ : (m275_ 77 8).toInt = (M 77 8).toInt := by rw [p277_.2.2 77 8 (by decide)]
      have f281_ : (m275_ 7 8).toInt = (M 7 8).toInt := by rw [p277_.2.2 7 8 (by decide)]
      have f282_ : (m275_ 78 312).toInt = (M 78 312).toInt := by rw [p277_.2.2 78 312 (by decide)]
      have f283_ : (m275_ 16 8).toInt = (M 16 8).toInt := by rw [p277_.2.2 16 8 (by decide)]
      have f284_ : (m275_ 80 312).toInt = (M 80 312).toInt := by rw [p277_.2.2 80 312 (by decide)]
      have f285_ : (m275_ 0 12).toInt = (M 0 12).toInt := by rw [p277_.2.2 0 12 (by decide)]
      have f286_ : (m275_ 77 67).toInt = (M 77 67).toInt := by rw [p277_.2.2 77 67 (by decide)]
      refine T_qg (i_add rfl l_1 (by omega) (by omega)) (by omega) (by omega) ?_
      refine T_qcE (t_X12_days hn _ m275_ g276_) ?_
      intro r287_ m288_ e291_ p290_
      have g289_ := p290_.2.1
      have f292_ : (m288_ 1 1).toInt = (m275_ 1 1).toInt := by rw [p290_.2.2 1 1 (by decide)]
      have f293_ : (m288_ 77 8).toInt = (m275_ 77 8).toInt := by rw [p290_.2.2 77 8 (by decide)]
      have f294_ : (m288_ 7 8).toInt = (m275_ 7 8).toInt := by rw [p290_.2.2 7 8 (by decide)]
      have f295_ : (m288_ 78 312).toInt = (m275_ 78 312).toInt := by rw [p290_.2.2 78 312 (by decide)]
      have f296_ : (m288_ 16 8).toInt = (m275_ 16 8).toInt := by rw [p290_.2.2 16 8 (by decide)]
      have f297_ : (m288_ 80 312).toInt = (m275_ 80 312).toInt := by rw [p290_.2.2 80 312 (by decide)]
      have f298_ : (m288_ 0 12).toInt = (m275_ 0 12).toInt := by rw [p290_.2.2 0 12 (by decide)]
      have f299_ : (m288_ 77 67).toInt = (m275_ 77 67).toInt := by rw [p290_.2.2 77 67 (by decide)]
      have q300_ : (m288_ 1 1).toInt = (m288_ 77 8).toInt := by omega
      have q301_ : (m288_ 7 8).toInt = (m288_ 78 312).toInt := by omega
      have q302_ : (m288_ 16 8).toInt = (m288_ 80 312).toInt := by omega
      have q303_ : (m288_ 0 12).toInt = (m288_ 77 67).toInt := by omega
      have f305_ := r_1_1 hG
      have t304_ : TR m288_ := TR_le hT (by omega) (funext (fun s_ => by rw [p290_.2.2 2 s_ (outc rfl), p277_.2.2 2 s_ (outc rfl)])) (funext (fun s_ => by rw [p290_.2.2 84 s_ (outc rfl), p277_.2.2 84 s_ (outc rfl)]))
      refine T_ql (i_add rfl l_7 (by omega) (by omega)) ?_
      intro x306_ h307_
      exact ih j r hj hr x306_ m288_ (by omega) (by omega) g289_ q300_ q301_ q302_ q303_ t304_ (by omega)
    refine T_sw rfl l_8 (fun s308_ => ?_) (fun s308_ => ?_)
    · refine T_qg (i_add rfl l_1 (by omega) (by omega)) (by omega) (by omega) ?_
      refine T_qg (i_add rfl l_2 (by omega) (by omega)) (by omega) (by omega) ?_
      refine T_qcE (t_X11_tried hn hj _ _ M hG) ?_
      intro r309_ m310_ e313_ p312_
      have g311_ := p312_.1
      have f314_ : (m310_ 1 1).toInt = (M 1 1).toInt := by rw [p312_.2 1 1 (by decide)]
      have f315_ : (m310_ 77 8).toInt = (M 77 8).toInt := by rw [p312_.2 77 8 (by decide)]
      have f316_ : (m310_ 7 8).toInt = (M 7 8).toInt := by rw [p312_.2 7 8 (by decide)]
      have f317_ : (m310_ 78 312).toInt = (M 78 312).toInt := by rw [p312_.2 78 312 (by decide)]
      have f318_ : (m310_ 16 8).toInt = (M 16 8).toInt := by rw [p312_.2 16 8 (by decide)]
      have f319_ : (m310_ 80 312).toInt = (M 80 312).toInt := by rw [p312_.2 80 312 (by decide)]
      have f320_ : (m310_ 0 12).toInt = (M 0 12).toInt := by rw [p312_.2 0 12 (by decide)]
      have f321_ : (m310_ 77 67).toInt = (M 77 67).toInt := by rw [p312_.2 77 67 (by decide)]
      refine T_qg (i_add rfl l_1 (by omega) (by omega)) (by omega) (by omega) ?_
      refine T_qg (i_add rfl l_2 (by omega) (by omega)) (by omega) (by omega) ?_
      refine T_qcE (t_X12_tried hn _ _ m310_ g311_) ?_
      intro r322_ m323_ e326_ p325_
      have g324_ := p325_.2.1
      have f327_ : (m323_ 1 1).toInt = (m310_ 1 1).toInt := by rw [p325_.2.2 1 1 (by decide)]
      have f328_ : (m323_ 77 8).toInt = (m310_ 77 8).toInt := by rw [p325_.2.2 77 8 (by decide)]
      have f329_ : (m323_ 7 8).toInt = (m310_ 7 8).toInt := by rw [p325_.2.2 7 8 (by decide)]
      have f330_ : (m323_ 16 8).toInt = (m310_ 16 8).toInt := by rw [p325_.2.2 16 8 (by decide)]
      have f331_ : (m323_ 80 312).toInt = (m310_ 80 312).toInt := by rw [p325_.2.2 80 312 (by decide)]
      have f332_ : (m323_ 0 12).toInt = (m310_ 0 12).toInt := by rw [p325_.2.2 0 12 (by decide)]
      have f333_ : (m323_ 77 67).toInt = (m310_ 77 67).toInt := by rw [p325_.2.2 77 67 (by decide)]
      have w334_ := p325_.1
      have q335_ : (m323_ 1 1).toInt = (m323_ 77 8).toInt := by omega
      have q336_ : (m323_ 7 8).toInt = (m323_ 78 312).toInt := by omega
      have q337_ : (m323_ 16 8).toInt = (m323_ 80 312).toInt := by omega
      have q338_ : (m323_ 0 12).toInt = (m323_ 77 67).toInt := by omega
      have f340_ := r_1_1 hG
      have t339_ : TR m323_ := TR_le hT (by omega) (funext (fun s_ => by rw [p325_.2.2 2 s_ (outc rfl), p312_.2 2 s_ (outc rfl)])) (funext (fun s_ => by rw [p325_.2.2 84 s_ (outc rfl), p312_.2 84 s_ (outc rfl)]))
      refine T_ql (i_add rfl l_7 (by omega) (by omega)) ?_
      intro x341_ h342_
      exact ih j r hj hr x341_ m323_ (by omega) (by omega) g324_ q335_ q336_ q337_ q338_ t339_ (by omega)
    refine T_sw rfl l_9 (fun s343_ => ?_) (fun s343_ => ?_)
    · refine T_qg (i_add rfl l_1 (by omega) (by omega)) (by omega) (by omega) ?_
      refine T_qg (i_add rfl l_2 (by omega) (by omega)) (by omega) (by omega) ?_
      refine T_qg (i_add rfl l_3 (by omega) (by omega)) (by omega) (by omega) ?_
      refine T_qcE (t_X11_has hn hj _ _ _ M hG) ?_
      intro r344_ m345_ e348_ p347_
      have g346_ := p347_.1
      have f349_ : (m345_ 1 1).toInt = (M 1 1).toInt := by rw [p347_.2 1 1 (by decide)]
      have f350_ : (m345_ 77 8).toInt = (M 77 8).toInt := by rw [p347_.2 77 8 (by decide)]
      have f351_ : (m345_ 7 8).toInt = (M 7 8).toInt := by rw [p347_.2 7 8 (by decide)]
      have f352_ : (m345_ 78 312).toInt = (M 78 312).toInt := by rw [p347_.2 78 312 (by decide)]
      have f353_ : (m345_ 16 8).toInt = (M 16 8).toInt := by rw [p347_.2 16 8 (by decide)]
      have f354_ : (m345_ 80 312).toInt = (M 80 312).toInt := by rw [p347_.2 80 312 (by decide)]
      have f355_ : (m345_ 0 12).toInt = (M 0 12).toInt := by rw [p347_.2 0 12 (by decide)]
      have f356_ : (m345_ 77 67).toInt = (M 77 67).toInt := by rw [p347_.2 77 67 (by decide)]
      refine T_qg (i_add rfl l_1 (by omega) (by omega)) (by omega) (by omega) ?_
      refine T_qg (i_add rfl l_2 (by omega) (by omega)) (by omega) (by omega) ?_
      refine T_qg (i_add rfl l_3 (by omega) (by omega)) (by omega) (by omega) ?_
      refine T_qcE (t_X12_has hn _ _ _ m345_ g346_) ?_
      intro r357_ m358_ e361_ p360_
      have g359_ := p360_.2.1
      have f362_ : (m358_ 1 1).toInt = (m345_ 1 1).toInt := by rw [p360_.2.2 1 1 (by decide)]
      have f363_ : (m358_ 77 8).toInt = (m345_ 77 8).toInt := by rw [p360_.2.2 77 8 (by decide)]
      have f364_ : (m358_ 7 8).toInt = (m345_ 7 8).toInt := by rw [p360_.2.2 7 8 (by decide)]
      have f365_ : (m358_ 16 8).toInt = (m345_ 16 8).toInt := by rw [p360_.2.2 16 8 (by decide)]
      have f366_ : (m358_ 80 312).toInt = (m345_ 80 312).toInt := by rw [p360_.2.2 80 312 (by decide)]
      have f367_ : (m358_ 0 12).toInt = (m345_ 0 12).toInt := by rw [p360_.2.2 0 12 (by decide)]
      have f368_ : (m358_ 77 67).toInt = (m345_ 77 67).toInt := by rw [p360_.2.2 77 67 (by decide)]
      have w369_ := p360_.1
      have q370_ : (m358_ 1 1).toInt = (m358_ 77 8).toInt := by omega
      have q371_ : (m358_ 7 8).toInt = (m358_ 78 312).toInt := by omega
      have q372_ : (m358_ 16 8).toInt = (m358_ 80 312).toInt := by omega
      have q373_ : (m358_ 0 12).toInt = (m358_ 77 67).toInt := by omega
      have f375_ := r_1_1 hG
      have t374_ : TR m358_ := TR_le hT (by omega) (funext (fun s_ => by rw [p360_.2.2 2 s_ (outc rfl), p347_.2 2 s_ (outc rfl)])) (funext (fun s_ => by rw [p360_.2.2 84 s_ (outc rfl), p347_.2 84 s_ (outc rfl)]))
      refine T_ql (i_add rfl l_7 (by omega) (by omega)) ?_
      intro x376_ h377_
      exact ih j r hj hr x376_ m358_ (by omega) (by omega) g359_ q370_ q371_ q372_ q373_ t374_ (by omega)
    refine T_sw rfl l_10 (fun s378_ => ?_) (fun s378_ => ?_)
    · refine T_qg (i_add rfl l_1 (by omega) (by omega)) (by omega) (by omega) ?_
      refine T_qg (i_add rfl l_2 (by omega) (by omega)) (by omega) (by omega) ?_
      refine T_qcE (t_X11_alike hn hj _ _ M hG) ?_
      intro r379_ m380_ e383_ p382_
      have g381_ := p382_.2.1
      have f384_ : (m380_ 1 1).toInt = (M 1 1).toInt := by rw [p382_.2.2 1 1 (by decide)]
      have f385_ : (m380_ 77 8).toInt = (M 77 8).toInt := by rw [p382_.2.2 77 8 (by decide)]
      have f386_ : (m380_ 7 8).toInt = (M 7 8).toInt := by rw [p382_.2.2 7 8 (by decide)]
      have f387_ : (m380_ 78 312).toInt = (M 78 312).toInt := by rw [p382_.2.2 78 312 (by decide)]
      have f388_ : (m380_ 16 8).toInt = (M 16 8).toInt := by rw [p382_.2.2 16 8 (by decide)]
      have f389_ : (m380_ 80 312).toInt = (M 80 312).toInt := by rw [p382_.2.2 80 312 (by decide)]
      have f390_ : (m380_ 0 12).toInt = (M 0 12).toInt := by rw [p382_.2.2 0 12 (by decide)]
      have f391_ : (m380_ 77 67).toInt = (M 77 67).toInt := by rw [p382_.2.2 77 67 (by decide)]
      refine T_qg (i_add rfl l_1 (by omega) (by omega)) (by omega) (by omega) ?_
      refine T_qg (i_add rfl l_2 (by omega) (by omega)) (by omega) (by omega) ?_
      refine T_qcE (t_X12_alike hn _ _ m380_ g381_) ?_
      intro r392_ m393_ e396_ p395_
      have g394_ := p395_.2.1
      have f397_ : (m393_ 1 1).toInt = (m380_ 1 1).toInt := by rw [p395_.2.2 1 1 (by decide)]
      have f398_ : (m393_ 77 8).toInt = (m380_ 77 8).toInt := by rw [p395_.2.2 77 8 (by decide)]
      have f399_ : (m393_ 7 8).toInt = (m380_ 7 8).toInt := by rw [p395_.2.2 7 8 (by decide)]
      have f400_ : (m393_ 78 312).toInt = (m380_ 78 312).toInt := by rw [p395_.2.2 78 312 (by decide)]
      have f401_ : (m393_ 16 8).toInt = (m380_ 16 8).toInt := by rw [p395_.2.2 16 8 (by decide)]
      have f402_ : (m393_ 80 312).toInt = (m380_ 80 312).toInt := by rw [p395_.2.2 80 312 (by decide)]
      have f403_ : (m393_ 0 12).toInt = (m380_ 0 12).toInt := by rw [p395_.2.2 0 12 (by decide)]
      have f404_ : (m393_ 77 67).toInt = (m380_ 77 67).toInt := by rw [p395_.2.2 77 67 (by decide)]
      have q405_ : (m393_ 1 1).toInt = (m393_ 77 8).toInt := by omega
      have q406_ : (m393_ 7 8).toInt = (m393_ 78 312).toInt := by omega
      have q407_ : (m393_ 16 8).toInt = (m393_ 80 312).toInt := by omega
      have q408_ : (m393_ 0 12).toInt = (m393_ 77 67).toInt := by omega
      have f410_ := r_1_1 hG
      have t409_ : TR m393_ := TR_le hT (by omega) (funext (fun s_ => by rw [p395_.2.2 2 s_ (outc rfl), p382_.2.2 2 s_ (outc rfl)])) (funext (fun s_ => by rw [p395_.2.2 84 s_ (outc rfl), p382_.2.2 84 s_ (outc rfl)]))
      refine T_ql (i_add rfl l_7 (by omega) (by omega)) ?_
      intro x411_ h412_
      exact ih j r hj hr x411_ m393_ (by omega) (by omega) g394_ q405_ q406_ q407_ q408_ t409_ (by omega)
    refine T_sw rfl l_11 (fun s413_ => ?_) (fun s413_ => ?_)
    · refine T_qg (i_add rfl l_1 (by omega) (by omega)) (by omega) (by omega) ?_
      refine T_qg (i_add rfl l_2 (by omega) (by omega)) (by omega) (by omega) ?_
      refine T_qg (i_add rfl l_3 (by omega) (by omega)) (by omega) (by omega) ?_
      refine T_qcE (t_X11_cost hn hj _ _ _ M hG) ?_
      intro r414_ m415_ e418_ p417_
      have g416_ := p417_.2.1
      have f419_ : (m415_ 1 1).toInt = (M 1 1).toInt := by rw [p417_.2.2 1 1 (by decide)]
      have f420_ : (m415_ 77 8).toInt = (M 77 8).toInt := by rw [p417_.2.2 77 8 (by decide)]
      have f421_ : (m415_ 7 8).toInt = (M 7 8).toInt := by rw [p417_.2.2 7 8 (by decide)]
      have f422_ : (m415_ 78 312).toInt = (M 78 312).toInt := by rw [p417_.2.2 78 312 (by decide)]
      have f423_ : (m415_ 16 8).toInt = (M 16 8).toInt := by rw [p417_.2.2 16 8 (by decide)]
      have f424_ : (m415_ 80 312).toInt = (M 80 312).toInt := by rw [p417_.2.2 80 312 (by decide)]
      have f425_ : (m415_ 0 12).toInt = (M 0 12).toInt := by rw [p417_.2.2 0 12 (by decide)]
      have f426_ : (m415_ 77 67).toInt = (M 77 67).toInt := by rw [p417_.2.2 77 67 (by decide)]
      refine T_qg (i_add rfl l_1 (by omega) (by omega)) (by omega) (by omega) ?_
      refine T_qg (i_add rfl l_2 (by omega) (by omega)) (by omega) (by omega) ?_
      refine T_qg (i_add rfl l_3 (by omega) (by omega)) (by omega) (by omega) ?_
      refine T_qcE (t_X12_cost hn _ _ _ m415_ g416_) ?_
      intro r427_ m428_ e431_ p430_
      have g429_ := p430_.2.1
      have f432_ : (m428_ 1 1).toInt = (m415_ 1 1).toInt := by rw [p430_.2.2 1 1 (by decide)]
      have f433_ : (m428_ 77 8).toInt = (m415_ 77 8).toInt := by rw [p430_.2.2 77 8 (by decide)]
      have f434_ : (m428_ 7 8).toInt = (m415_ 7 8).toInt := by rw [p430_.2.2 7 8 (by decide)]
      have f435_ : (m428_ 78 312).toInt = (m415_ 78 312).toInt := by rw [p430_.2.2 78 312 (by decide)]
      have f436_ : (m428_ 16 8).toInt = (m415_ 16 8).toInt := by rw [p430_.2.2 16 8 (by decide)]
      have f437_ : (m428_ 80 312).toInt = (m415_ 80 312).toInt := by rw [p430_.2.2 80 312 (by decide)]
      have f438_ : (m428_ 0 12).toInt = (m415_ 0 12).toInt := by rw [p430_.2.2 0 12 (by decide)]
      have f439_ : (m428_ 77 67).toInt = (m415_ 77 67).toInt := by rw [p430_.2.2 77 67 (by decide)]
      have q440_ : (m428_ 1 1).toInt = (m428_ 77 8).toInt := by omega
      have q441_ : (m428_ 7 8).toInt = (m428_ 78 312).toInt := by omega
      have q442_ : (m428_ 16 8).toInt = (m428_ 80 312).toInt := by omega
      have q443_ : (m428_ 0 12).toInt = (m428_ 77 67).toInt := by omega
      have f445_ := r_1_1 hG
      have t444_ : TR m428_ := TR_le hT (by omega) (funext (fun s_ => by rw [p430_.2.2 2 s_ (outc rfl), p417_.2.2 2 s_ (outc rfl)])) (funext (fun s_ => by rw [p430_.2.2 84 s_ (outc rfl), p417_.2.2 84 s_ (outc rfl)]))
      refine T_ql (i_add rfl l_7 (by omega) (by omega)) ?_
      intro x446_ h447_
      exact ih j r hj hr x446_ m428_ (by omega) (by omega) g429_ q440_ q441_ q442_ q443_ t444_ (by omega)
    refine T_sw rfl l_12 (fun s448_ => ?_) (fun s448_ => ?_)
    · refine T_qg (i_add rfl l_1 (by omega) (by omega)) (by omega) (by omega) ?_
      refine T_qg (i_add rfl l_2 (by omega) (by omega)) (by omega) (by omega) ?_
      refine T_qg (i_add rfl l_3 (by omega) (by omega)) (by omega) (by omega) ?_
      refine T_qg (i_add rfl l_4 (by omega) (by omega)) (by omega) (by omega) ?_
      refine T_qg (i_add rfl l_5 (by omega) (by omega)) (by omega) (by omega) ?_
      refine T_qcE (t_X11_soonest hn hj _ _ _ _ _ M hG) ?_
      intro r449_ m450_ e453_ p452_
      have g451_ := p452_.1
      have f454_ : (m450_ 1 1).toInt = (M 1 1).toInt := by rw [p452_.2 1 1 (by decide)]
      have f455_ : (m450_ 77 8).toInt = (M 77 8).toInt := by rw [p452_.2 77 8 (by decide)]
      have f456_ : (m450_ 7 8).toInt = (M 7 8).toInt := by rw [p452_.2 7 8 (by decide)]
      have f457_ : (m450_ 78 312).toInt = (M 78 312).toInt := by rw [p452_.2 78 312 (by decide)]
      have f458_ : (m450_ 16 8).toInt = (M 16 8).toInt := by rw [p452_.2 16 8 (by decide)]
      have f459_ : (m450_ 80 312).toInt = (M 80 312).toInt := by rw [p452_.2 80 312 (by decide)]
      have f460_ : (m450_ 0 12).toInt = (M 0 12).toInt := by rw [p452_.2 0 12 (by decide)]
      have f461_ : (m450_ 77 67).toInt = (M 77 67).toInt := by rw [p452_.2 77 67 (by decide)]
      refine T_qg (i_add rfl l_1 (by omega) (by omega)) (by omega) (by omega) ?_
      refine T_qg (i_add rfl l_2 (by omega) (by omega)) (by omega) (by omega) ?_
      refine T_qg (i_add rfl l_3 (by omega) (by omega)) (by omega) (by omega) ?_
      refine T_qg (i_add rfl l_4 (by omega) (by omega)) (by omega) (by omega) ?_
      refine T_qg (i_add rfl l_5 (by omega) (by omega)) (by omega) (by omega) ?_
      refine T_qcE (t_X12_soonest hn _ _ _ _ _ m450_ g451_) ?_
      intro r462_ m463_ e466_ p465_
      have g464_ := p465_.1
      have f467_ : (m463_ 1 1).toInt = (m450_ 1 1).toInt := by rw [p465_.2 1 1 (by decide)]
      have f468_ : (m463_ 77 8).toInt = (m450_ 77 8).toInt := by rw [p465_.2 77 8 (by decide)]
      have f469_ : (m463_ 7 8).toInt = (m450_ 7 8).toInt := by rw [p465_.2 7 8 (by decide)]
      have f470_ : (m463_ 78 312).toInt = (m450_ 78 312).toInt := by rw [p465_.2 78 312 (by decide)]
      have f471_ : (m463_ 16 8).toInt = (m450_ 16 8).toInt := by rw [p465_.2 16 8 (by decide)]
      have f472_ : (m463_ 80 312).toInt = (m450_ 80 312).toInt := by rw [p465_.2 80 312 (by decide)]
      have f473_ : (m463_ 0 12).toInt = (m450_ 0 12).toInt := by rw [p465_.2 0 12 (by decide)]
      have f474_ : (m463_ 77 67).toInt = (m450_ 77 67).toInt := by rw [p465_.2 77 67 (by decide)]
      have q475_ : (m463_ 1 1).toInt = (m463_ 77 8).toInt := by omega
      have q476_ : (m463_ 7 8).toInt = (m463_ 78 312).toInt := by omega
      have q477_ : (m463_ 16 8).toInt = (m463_ 80 312).toInt := by omega
      have q478_ : (m463_ 0 12).toInt = (m463_ 77 67).toInt := by omega
      have f480_ := r_1_1 hG
      have t479_ : TR m463_ := TR_le hT (by omega) (funext (fun s_ => by rw [p465_.2 2 s_ (outc rfl), p452_.2 2 s_ (outc rfl)])) (funext (fun s_ => by rw [p465_.2 84 s_ (outc rfl), p452_.2 84 s_ (outc rfl)]))
      refine T_ql (i_add rfl l_7 (by omega) (by omega)) ?_
      intro x481_ h482_
      exact ih j r hj hr x481_ m463_ (by omega) (by omega) g464_ q475_ q476_ q477_ q478_ t479_ (by omega)
    refine T_sw rfl l_13 (fun s483_ => ?_) (fun s483_ => ?_)
    · refine T_qg (i_add rfl l_1 (by omega) (by omega)) (by omega) (by omega) ?_
      refine T_qg (i_add rfl l_2 (by omega) (by omega)) (by omega) (by omega) ?_
      refine T_qg (i_add rfl l_3 (by omega) (by omega)) (by omega) (by omega) ?_
      refine T_qg (i_add rfl l_4 (by omega) (by omega)) (by omega) (by omega) ?_
      refine T_qg (i_add rfl l_5 (by omega) (by omega)) (by omega) (by omega) ?_
      refine T_qcE (t_X11_cheapest hn hj _ _ _ _ _ M hG) ?_
      intro r484_ m485_ e488_ p487_
      have g486_ := p487_.1
      have f489_ : (m485_ 1 1).toInt = (M 1 1).toInt := by rw [p487_.2 1 1 (by decide)]
      have f490_ : (m485_ 77 8).toInt = (M 77 8).toInt := by rw [p487_.2 77 8 (by decide)]
      have f491_ : (m485_ 7 8).toInt = (M 7 8).toInt := by rw [p487_.2 7 8 (by decide)]
      have f492_ : (m485_ 78 312).toInt = (M 78 312).toInt := by rw [p487_.2 78 312 (by decide)]
      have f493_ : (m485_ 16 8).toInt = (M 16 8).toInt := by rw [p487_.2 16 8 (by decide)]
      have f494_ : (m485_ 80 312).toInt = (M 80 312).toInt := by rw [p487_.2 80 312 (by decide)]
      have f495_ : (m485_ 0 12).toInt = (M 0 12).toInt := by rw [p487_.2 0 12 (by decide)]
      have f496_ : (m485_ 77 67).toInt = (M 77 67).toInt := by rw [p487_.2 77 67 (by decide)]
      refine T_qg (i_add rfl l_1 (by omega) (by omega)) (by omega) (by omega) ?_
      refine T_qg (i_add rfl l_2 (by omega) (by omega)) (by omega) (by omega) ?_
      refine T_qg (i_add rfl l_3 (by omega) (by omega)) (by omega) (by omega) ?_
      refine T_qg (i_add rfl l_4 (by omega) (by omega)) (by omega) (by omega) ?_
      refine T_qg (i_add rfl l_5 (by omega) (by omega)) (by omega) (by omega) ?_
      refine T_qcE (t_X12_cheapest hn _ _ _ _ _ m485_ g486_) ?_
      intro r497_ m498_ e501_ p500_
      have g499_ := p500_.1
      have f502_ : (m498_ 1 1).toInt = (m485_ 1 1).toInt := by rw [p500_.2 1 1 (by decide)]
      have f503_ : (m498_ 77 8).toInt = (m485_ 77 8).toInt := by rw [p500_.2 77 8 (by decide)]
      have f504_ : (m498_ 7 8).toInt = (m485_ 7 8).toInt := by rw [p500_.2 7 8 (by decide)]
      have f505_ : (m498_ 78 312).toInt = (m485_ 78 312).toInt := by rw [p500_.2 78 312 (by decide)]
      have f506_ : (m498_ 16 8).toInt = (m485_ 16 8).toInt := by rw [p500_.2 16 8 (by decide)]
      have f507_ : (m498_ 80 312).toInt = (m485_ 80 312).toInt := by rw [p500_.2 80 312 (by decide)]
      have f508_ : (m498_ 0 12).toInt = (m485_ 0 12).toInt := by rw [p500_.2 0 12 (by decide)]
      have f509_ : (m498_ 77 67).toInt = (m485_ 77 67).toInt := by rw [p500_.2 77 67 (by decide)]
      have q510_ : (m498_ 1 1).toInt = (m498_ 77 8).toInt := by omega
      have q511_ : (m498_ 7 8).toInt = (m498_ 78 312).toInt := by omega
      have q512_ : (m498_ 16 8).toInt = (m498_ 80 312).toInt := by omega
      have q513_ : (m498_ 0 12).toInt = (m498_ 77 67).toInt := by omega
      have f515_ := r_1_1 hG
      have t514_ : TR m498_ := TR_le hT (by omega) (funext (fun s_ => by rw [p500_.2 2 s_ (outc rfl), p487_.2 2 s_ (outc rfl)])) (funext (fun s_ => by rw [p500_.2 84 s_ (outc rfl), p487_.2 84 s_ (outc rfl)]))
      refine T_ql (i_add rfl l_7 (by omega) (by omega)) ?_
      intro x516_ h517_
      exact ih j r hj hr x516_ m498_ (by omega) (by omega) g499_ q510_ q511_ q512_ q513_ t514_ (by omega)
    refine T_sw rfl l_14 (fun s518_ => ?_) (fun s518_ => ?_)
    · refine T_qg (i_add rfl l_1 (by omega) (by omega)) (by omega) (by omega) ?_
      refine T_qg (i_add rfl l_2 (by omega) (by omega)) (by omega) (by omega) ?_
      refine T_qg (i_add rfl l_3 (by omega) (by omega)) (by omega) (by omega) ?_
      refine T_qcE (t_X11_loophole hn hj _ _ _ M hG) ?_
      intro r519_ m520_ e523_ p522_
      have g521_ := p522_.1
      have f524_ : (m520_ 1 1).toInt = (M 1 1).toInt := by rw [p522_.2 1 1 (by decide)]
      have f525_ : (m520_ 77 8).toInt = (M 77 8).toInt := by rw [p522_.2 77 8 (by decide)]
      have f526_ : (m520_ 7 8).toInt = (M 7 8).toInt := by rw [p522_.2 7 8 (by decide)]
      have f527_ : (m520_ 78 312).toInt = (M 78 312).toInt := by rw [p522_.2 78 312 (by decide)]
      have f528_ : (m520_ 16 8).toInt = (M 16 8).toInt := by rw [p522_.2 16 8 (by decide)]
      have f529_ : (m520_ 80 312).toInt = (M 80 312).toInt := by rw [p522_.2 80 312 (by decide)]
      have f530_ : (m520_ 0 12).toInt = (M 0 12).toInt := by rw [p522_.2 0 12 (by decide)]
      have f531_ : (m520_ 77 67).toInt = (M 77 67).toInt := by rw [p522_.2 77 67 (by decide)]
      refine T_qg (i_add rfl l_1 (by omega) (by omega)) (by omega) (by omega) ?_
      refine T_qg (i_add rfl l_2 (by omega) (by omega)) (by omega) (by omega) ?_
      refine T_qg (i_add rfl l_3 (by omega) (by omega)) (by omega) (by omega) ?_
      refine T_qcE (t_X12_loophole hn _ _ _ m520_ g521_) ?_
      intro r532_ m533_ e536_ p535_
      have g534_ := p535_.1
      have f537_ : (m533_ 1 1).toInt = (m520_ 1 1).toInt := by rw [p535_.2 1 1 (by decide)]
      have f538_ : (m533_ 77 8).toInt = (m520_ 77 8).toInt := by rw [p535_.2 77 8 (by decide)]
      have f539_ : (m533_ 7 8).toInt = (m520_ 7 8).toInt := by rw [p535_.2 7 8 (by decide)]
      have f540_ : (m533_ 78 312).toInt = (m520_ 78 312).toInt := by rw [p535_.2 78 312 (by decide)]
      have f541_ : (m533_ 16 8).toInt = (m520_ 16 8).toInt := by rw [p535_.2 16 8 (by decide)]
      have f542_ : (m533_ 80 312).toInt = (m520_ 80 312).toInt := by rw [p535_.2 80 312 (by decide)]
      have f543_ : (m533_ 0 12).toInt = (m520_ 0 12).toInt := by rw [p535_.2 0 12 (by decide)]
      have f544_ : (m533_ 77 67).toInt = (m520_ 77 67).toInt := by rw [p535_.2 77 67 (by decide)]
      have q545_ : (m533_ 1 1).toInt = (m533_ 77 8).toInt := by omega
      have q546_ : (m533_ 7 8).toInt = (m533_ 78 312).toInt := by omega
      have q547_ : (m533_ 16 8).toInt = (m533_ 80 312).toInt := by omega
      have q548_ : (m533_ 0 12).toInt = (m533_ 77 67).toInt := by omega
      have f550_ := r_1_1 hG
      have t549_ : TR m533_ := TR_le hT (by omega) (funext (fun s_ => by rw [p535_.2 2 s_ (outc rfl), p522_.2 2 s_ (outc rfl)])) (funext (fun s_ => by rw [p535_.2 84 s_ (outc rfl), p522_.2 84 s_ (outc rfl)]))
      refine T_ql (i_add rfl l_7 (by omega) (by omega)) ?_
      intro x551_ h552_
      exact ih j r hj hr x551_ m533_ (by omega) (by omega) g534_ q545_ q546_ q547_ q548_ t549_ (by omega)
    refine T_sw rfl l_15 (fun s553_ => ?_) (fun s553_ => ?_)
    · refine T_qg (i_add rfl l_1 (by omega) (by omega)) (by omega) (by omega) ?_
      refine T_qg (i_add rfl l_2 (by omega) (by omega)) (by omega) (by omega) ?_
      refine T_qg (i_add rfl l_3 (by omega) (by omega)) (by omega) (by omega) ?_
      refine T_qcE (t_X11_jobs hn hj _ _ _ M hG) ?_
      intro r554_ m555_ e558_ p557_
      have g556_ := p557_.2.2.1
      have f559_ : (m555_ 77 8).toInt = (M 77 8).toInt := by rw [p557_.2.2.2 77 8 (by decide)]
      have f560_ : (m555_ 7 8).toInt = (M 7 8).toInt := by rw [p557_.2.2.2 7 8 (by decide)]
      have f561_ : (m555_ 78 312).toInt = (M 78 312).toInt := by rw [p557_.2.2.2 78 312 (by decide)]
      have f562_ : (m555_ 16 8).toInt = (M 16 8).toInt := by rw [p557_.2.2.2 16 8 (by decide)]
      have f563_ : (m555_ 80 312).toInt = (M 80 312).toInt := by rw [p557_.2.2.2 80 312 (by decide)]
      have f564_ : (m555_ 0 12).toInt = (M 0 12).toInt := by rw [p557_.2.2.2 0 12 (by decide)]
      have f565_ : (m555_ 77 67).toInt = (M 77 67).toInt := by rw [p557_.2.2.2 77 67 (by decide)]
      have w566_ := p557_.2.1
      refine T_qg (i_add rfl l_1 (by omega) (by omega)) (by omega) (by omega) ?_
      refine T_qg (i_add rfl l_2 (by omega) (by omega)) (by omega) (by omega) ?_
      refine T_qg (i_add rfl l_3 (by omega) (by omega)) (by omega) (by omega) ?_
      refine T_qcE (t_X12_jobs hn _ _ _ m555_ g556_) ?_
      intro r567_ m568_ e571_ p570_
      have g569_ := p570_.2.1
      have f572_ : (m568_ 1 1).toInt = (m555_ 1 1).toInt := by rw [p570_.2.2 1 1 (by decide)]
      have f573_ : (m568_ 7 8).toInt = (m555_ 7 8).toInt := by rw [p570_.2.2 7 8 (by decide)]
      have f574_ : (m568_ 78 312).toInt = (m555_ 78 312).toInt := by rw [p570_.2.2 78 312 (by decide)]
      have f575_ : (m568_ 16 8).toInt = (m555_ 16 8).toInt := by rw [p570_.2.2 16 8 (by decide)]
      have f576_ : (m568_ 80 312).toInt = (m555_ 80 312).toInt := by rw [p570_.2.2 80 312 (by decide)]
      have f577_ : (m568_ 0 12).toInt = (m555_ 0 12).toInt := by rw [p570_.2.2 0 12 (by decide)]
      have f578_ : (m568_ 77 67).toInt = (m555_ 77 67).toInt := by rw [p570_.2.2 77 67 (by decide)]
      have w579_ := p570_.1
      have q580_ : (m568_ 1 1).toInt = (m568_ 77 8).toInt := by omega
      have q581_ : (m568_ 7 8).toInt = (m568_ 78 312).toInt := by omega
      have q582_ : (m568_ 16 8).toInt = (m568_ 80 312).toInt := by omega
      have q583_ : (m568_ 0 12).toInt = (m568_ 77 67).toInt := by omega
      have f585_ := r_1_1 hG
      have t584_ : TR m568_ := TR_le hT (by omega) (funext (fun s_ => by rw [p570_.2.2 2 s_ (outc rfl), p557_.2.2.2 2 s_ (outc rfl)])) (funext (fun s_ => by rw [p570_.2.2 84 s_ (outc rfl), p557_.2.2.2 84 s_ (outc rfl)]))
      refine T_ql (i_add rfl l_7 (by omega) (by omega)) ?_
      intro x586_ h587_
      exact ih j r hj hr x586_ m568_ (by omega) (by omega) g569_ q580_ q581_ q582_ q583_ t584_ (by omega)
    refine T_sw rfl l_16 (fun s588_ => ?_) (fun s588_ => ?_)
    · refine T_qg (i_add rfl l_1 (by omega) (by omega)) (by omega) (by omega) ?_
      refine T_qg (i_add rfl l_2 (by omega) (by omega)) (by omega) (by omega) ?_
      refine T_qg (i_add rfl l_3 (by omega) (by omega)) (by omega) (by omega) ?_
      refine T_qcE (t_X11_rivals hn _ _ _ M hG) ?_
      intro r589_ m590_ e593_ p592_
      have g591_ := p592_.1
      have f594_ : (m590_ 1 1).toInt = (M 1 1).toInt := by rw [p592_.2 1 1 (by decide)]
      have f595_ : (m590_ 77 8).toInt = (M 77 8).toInt := by rw [p592_.2 77 8 (by decide)]
      have f596_ : (m590_ 7 8).toInt = (M 7 8).toInt := by rw [p592_.2 7 8 (by decide)]
      have f597_ : (m590_ 78 312).toInt = (M 78 312).toInt := by rw [p592_.2 78 312 (by decide)]
      have f598_ : (m590_ 16 8).toInt = (M 16 8).toInt := by rw [p592_.2 16 8 (by decide)]
      have f599_ : (m590_ 80 312).toInt = (M 80 312).toInt := by rw [p592_.2 80 312 (by decide)]
      have f600_ : (m590_ 0 12).toInt = (M 0 12).toInt := by rw [p592_.2 0 12 (by decide)]
      have f601_ : (m590_ 77 67).toInt = (M 77 67).toInt := by rw [p592_.2 77 67 (by decide)]
      refine T_qg (i_add rfl l_1 (by omega) (by omega)) (by omega) (by omega) ?_
      refine T_qg (i_add rfl l_2 (by omega) (by omega)) (by omega) (by omega) ?_
      refine T_qg (i_add rfl l_3 (by omega) (by omega)) (by omega) (by omega) ?_
      refine T_qcE (t_X12_rivals hn _ _ _ m590_ g591_) ?_
      intro r602_ m603_ e606_ p605_
      have g604_ := p605_.1
      have f607_ : (m603_ 1 1).toInt = (m590_ 1 1).toInt := by rw [p605_.2 1 1 (by decide)]
      have f608_ : (m603_ 77 8).toInt = (m590_ 77 8).toInt := by rw [p605_.2 77 8 (by decide)]
      have f609_ : (m603_ 7 8).toInt = (m590_ 7 8).toInt := by rw [p605_.2 7 8 (by decide)]
      have f610_ : (m603_ 78 312).toInt = (m590_ 78 312).toInt := by rw [p605_.2 78 312 (by decide)]
      have f611_ : (m603_ 16 8).toInt = (m590_ 16 8).toInt := by rw [p605_.2 16 8 (by decide)]
      have f612_ : (m603_ 80 312).toInt = (m590_ 80 312).toInt := by rw [p605_.2 80 312 (by decide)]
      have f613_ : (m603_ 0 12).toInt = (m590_ 0 12).toInt := by rw [p605_.2 0 12 (by decide)]
      have f614_ : (m603_ 77 67).toInt = (m590_ 77 67).toInt := by rw [p605_.2 77 67 (by decide)]
      have q615_ : (m603_ 1 1).toInt = (m603_ 77 8).toInt := by omega
      have q616_ : (m603_ 7 8).toInt = (m603_ 78 312).toInt := by omega
      have q617_ : (m603_ 16 8).toInt = (m603_ 80 312).toInt := by omega
      have q618_ : (m603_ 0 12).toInt = (m603_ 77 67).toInt := by omega
      have f620_ := r_1_1 hG
      have t619_ : TR m603_ := TR_le hT (by omega) (funext (fun s_ => by rw [p605_.2 2 s_ (outc rfl), p592_.2 2 s_ (outc rfl)])) (funext (fun s_ => by rw [p605_.2 84 s_ (outc rfl), p592_.2 84 s_ (outc rfl)]))
      refine T_ql (i_add rfl l_7 (by omega) (by omega)) ?_
      intro x621_ h622_
      exact ih j r hj hr x621_ m603_ (by omega) (by omega) g604_ q615_ q616_ q617_ q618_ t619_ (by omega)
    refine T_sw rfl l_17 (fun s623_ => ?_) (fun s623_ => ?_)
    · refine T_qg (i_add rfl l_1 (by omega) (by omega)) (by omega) (by omega) ?_
      refine T_qg (i_add rfl l_2 (by omega) (by omega)) (by omega) (by omega) ?_
      refine T_qg (i_add rfl l_3 (by omega) (by omega)) (by omega) (by omega) ?_
      refine T_qg (i_add rfl l_4 (by omega) (by omega)) (by omega) (by omega) ?_
      refine T_qcE (t_X11_histories hn hj _ _ _ _ M hG) ?_
      intro r624_ m625_ e628_ p627_
      have g626_ := p627_.2.1
      have f629_ : (m625_ 77 8).toInt = (M 77 8).toInt := by rw [p627_.2.2 77 8 (by decide)]
      have f630_ : (m625_ 7 8).toInt = (M 7 8).toInt := by rw [p627_.2.2 7 8 (by decide)]
      have f631_ : (m625_ 78 312).toInt = (M 78 312).toInt := by rw [p627_.2.2 78 312 (by decide)]
      have f632_ : (m625_ 16 8).toInt = (M 16 8).toInt := by rw [p627_.2.2 16 8 (by decide)]
      have f633_ : (m625_ 80 312).toInt = (M 80 312).toInt := by rw [p627_.2.2 80 312 (by decide)]
      have f634_ : (m625_ 0 12).toInt = (M 0 12).toInt := by rw [p627_.2.2 0 12 (by decide)]
      have f635_ : (m625_ 77 67).toInt = (M 77 67).toInt := by rw [p627_.2.2 77 67 (by decide)]
      have w636_ := p627_.1
      refine T_qg (i_add rfl l_1 (by omega) (by omega)) (by omega) (by omega) ?_
      refine T_qg (i_add rfl l_2 (by omega) (by omega)) (by omega) (by omega) ?_
      refine T_qg (i_add rfl l_3 (by omega) (by omega)) (by omega) (by omega) ?_
      refine T_qg (i_add rfl l_4 (by omega) (by omega)) (by omega) (by omega) ?_
      refine T_qcE (t_X12_histories hn _ _ _ _ m625_ g626_) ?_
      intro r637_ m638_ e641_ p640_
      have g639_ := p640_.2.1
      have f642_ : (m638_ 1 1).toInt = (m625_ 1 1).toInt := by rw [p640_.2.2 1 1 (by decide)]
      have f643_ : (m638_ 7 8).toInt = (m625_ 7 8).toInt := by rw [p640_.2.2 7 8 (by decide)]
      have f644_ : (m638_ 78 312).toInt = (m625_ 78 312).toInt := by rw [p640_.2.2 78 312 (by decide)]
      have f645_ : (m638_ 16 8).toInt = (m625_ 16 8).toInt := by rw [p640_.2.2 16 8 (by decide)]
      have f646_ : (m638_ 80 312).toInt = (m625_ 80 312).toInt := by rw [p640_.2.2 80 312 (by decide)]
      have f647_ : (m638_ 0 12).toInt = (m625_ 0 12).toInt := by rw [p640_.2.2 0 12 (by decide)]
      have f648_ : (m638_ 77 67).toInt = (m625_ 77 67).toInt := by rw [p640_.2.2 77 67 (by decide)]
      have w649_ := p640_.1
      have q650_ : (m638_ 1 1).toInt = (m638_ 77 8).toInt := by omega
      have q651_ : (m638_ 7 8).toInt = (m638_ 78 312).toInt := by omega
      have q652_ : (m638_ 16 8).toInt = (m638_ 80 312).toInt := by omega
      have q653_ : (m638_ 0 12).toInt = (m638_ 77 67).toInt := by omega
      have f655_ := r_1_1 hG
      have t654_ : TR m638_ := TR_le hT (by omega) (funext (fun s_ => by rw [p640_.2.2 2 s_ (outc rfl), p627_.2.2 2 s_ (outc rfl)])) (funext (fun s_ => by rw [p640_.2.2 84 s_ (outc rfl), p627_.2.2 84 s_ (outc rfl)]))
      refine T_ql (i_add rfl l_7 (by omega) (by omega)) ?_
      intro x656_ h657_
      exact ih j r hj hr x656_ m638_ (by omega) (by omega) g639_ q650_ q651_ q652_ q653_ t654_ (by omega)
    refine T_sw rfl l_18 (fun s658_ => ?_) (fun s658_ => ?_)
    · refine T_qg (i_add rfl l_1 (by omega) (by omega)) (by omega) (by omega) ?_
      refine T_qg (i_add rfl l_2 (by omega) (by omega)) (by omega) (by omega) ?_
      refine T_qg (i_add rfl l_3 (by omega) (by omega)) (by omega) (by omega) ?_
      refine T_qg (i_add rfl l_4 (by omega) (by omega)) (by omega) (by omega) ?_
      refine T_eq rfl l_0 (fun c659_ => ?_) (fun c659_ => ?_)
      · refine T_qg (i_add rfl l_5 (by omega) (by omega)) (by omega) (by omega) ?_
        refine T_eq rfl l_0 (fun c660_ => ?_) (fun c660_ => ?_)
        · refine T_qg (i_add rfl l_6 (by omega) (by omega)) (by omega) (by omega) ?_
          refine T_qcE (t_X11_game hn _ _ _ _ _ _ M hG (by decide) (by decide)) ?_
          intro r661_ m662_ e665_ p664_
          have g663_ := p664_.2.1
          have f666_ : (m662_ 1 1).toInt = (M 1 1).toInt := by rw [p664_.2.2 1 1 (by decide)]
          have f667_ : (m662_ 77 8).toInt = (M 77 8).toInt := by rw [p664_.2.2 77 8 (by decide)]
          have f668_ : (m662_ 7 8).toInt = (M 7 8).toInt := by rw [p664_.2.2 7 8 (by decide)]
          have f669_ : (m662_ 78 312).toInt = (M 78 312).toInt := by rw [p664_.2.2 78 312 (by decide)]
          have f670_ : (m662_ 16 8).toInt = (M 16 8).toInt := by rw [p664_.2.2 16 8 (by decide)]
          have f671_ : (m662_ 80 312).toInt = (M 80 312).toInt := by rw [p664_.2.2 80 312 (by decide)]
          have f672_ : (m662_ 0 12).toInt = (M 0 12).toInt := by rw [p664_.2.2 0 12 (by decide)]
          have f673_ : (m662_ 77 67).toInt = (M 77 67).toInt := by rw [p664_.2.2 77 67 (by decide)]
          refine T_qg (i_add rfl l_1 (by omega) (by omega)) (by omega) (by omega) ?_
          refine T_qg (i_add rfl l_2 (by omega) (by omega)) (by omega) (by omega) ?_
          refine T_qg (i_add rfl l_3 (by omega) (by omega)) (by omega) (by omega) ?_
          refine T_qg (i_add rfl l_4 (by omega) (by omega)) (by omega) (by omega) ?_
          refine T_eq rfl l_0 (fun c674_ => ?_) (fun c674_ => ?_)
          · refine T_qg (i_add rfl l_5 (by omega) (by omega)) (by omega) (by omega) ?_
            refine T_eq rfl l_0 (fun c675_ => ?_) (fun c675_ => ?_)
            · refine T_qg (i_add rfl l_6 (by omega) (by omega)) (by omega) (by omega) ?_
              refine T_qcE (t_X12_game hn _ _ _ _ _ _ m662_ g663_ (by decide) (by decide)) ?_
              intro r676_ m677_ e680_ p679_
              have g678_ := p679_.2.1
              have f681_ : (m677_ 1 1).toInt = (m662_ 1 1).toInt := by rw [p679_.2.2 1 1 (by decide)]
              have f682_ : (m677_ 77 8).toInt = (m662_ 77 8).toInt := by rw [p679_.2.2 77 8 (by decide)]
              have f683_ : (m677_ 7 8).toInt = (m662_ 7 8).toInt := by rw [p679_.2.2 7 8 (by decide)]
              have f684_ : (m677_ 78 312).toInt = (m662_ 78 312).toInt := by rw [p679_.2.2 78 312 (by decide)]
              have f685_ : (m677_ 16 8).toInt = (m662_ 16 8).toInt := by rw [p679_.2.2 16 8 (by decide)]
              have f686_ : (m677_ 80 312).toInt = (m662_ 80 312).toInt := by rw [p679_.2.2 80 312 (by decide)]
              have f687_ : (m677_ 0 12).toInt = (m662_ 0 12).toInt := by rw [p679_.2.2 0 12 (by decide)]
              have f688_ : (m677_ 77 67).toInt = (m662_ 77 67).toInt := by rw [p679_.2.2 77 67 (by decide)]
              have q689_ : (m677_ 1 1).toInt = (m677_ 77 8).toInt := by omega
              have q690_ : (m677_ 7 8).toInt = (m677_ 78 312).toInt := by omega
              have q691_ : (m677_ 16 8).toInt = (m677_ 80 312).toInt := by omega
              have q692_ : (m677_ 0 12).toInt = (m677_ 77 67).toInt := by omega
              have f694_ := r_1_1 hG
              have t693_ : TR m677_ := TR_le hT (by omega) (funext (fun s_ => by rw [p679_.2.2 2 s_ (outc rfl), p664_.2.2 2 s_ (outc rfl)])) (funext (fun s_ => by rw [p679_.2.2 84 s_ (outc rfl), p664_.2.2 84 s_ (outc rfl)]))
              refine T_ql (i_add rfl l_7 (by omega) (by omega)) ?_
              intro x695_ h696_
              exact ih j r hj hr x695_ m677_ (by omega) (by omega) g678_ q689_ q690_ q691_ q692_ t693_ (by omega)
            · refine T_qg (i_add rfl l_6 (by omega) (by omega)) (by omega) (by omega) ?_
              refine T_qcE (t_X12_game hn _ _ _ _ _ _ m662_ g663_ (by decide) (by decide)) ?_
              intro r697_ m698_ e701_ p700_
              have g699_ := p700_.2.1
              have f702_ : (m698_ 1 1).toInt = (m662_ 1 1).toInt := by rw [p700_.2.2 1 1 (by decide)]
              have f703_ : (m698_ 77 8).toInt = (m662_ 77 8).toInt := by rw [p700_.2.2 77 8 (by decide)]
              have f704_ : (m698_ 7 8).toInt = (m662_ 7 8).toInt := by rw [p700_.2.2 7 8 (by decide)]
              have f705_ : (m698_ 78 312).toInt = (m662_ 78 312).toInt := by rw [p700_.2.2 78 312 (by decide)]
              have f706_ : (m698_ 16 8).toInt = (m662_ 16 8).toInt := by rw [p700_.2.2 16 8 (by decide)]
              have f707_ : (m698_ 80 312).toInt = (m662_ 80 312).toInt := by rw [p700_.2.2 80 312 (by decide)]
              have f708_ : (m698_ 0 12).toInt = (m662_ 0 12).toInt := by rw [p700_.2.2 0 12 (by decide)]
              have f709_ : (m698_ 77 67).toInt = (m662_ 77 67).toInt := by rw [p700_.2.2 77 67 (by decide)]
              have q710_ : (m698_ 1 1).toInt = (m698_ 77 8).toInt := by omega
              have q711_ : (m698_ 7 8).toInt = (m698_ 78 312).toInt := by omega
              have q712_ : (m698_ 16 8).toInt = (m698_ 80 312).toInt := by omega
              have q713_ : (m698_ 0 12).toInt = (m698_ 77 67).toInt := by omega
              have f715_ := r_1_1 hG
              have t714_ : TR m698_ := TR_le hT (by omega) (funext (fun s_ => by rw [p700_.2.2 2 s_ (outc rfl), p664_.2.2 2 s_ (outc rfl)])) (funext (fun s_ => by rw [p700_.2.2 84 s_ (outc rfl), p664_.2.2 84 s_ (outc rfl)]))
              refine T_ql (i_add rfl l_7 (by omega) (by omega)) ?_
              intro x716_ h717_
              exact ih j r hj hr x716_ m698_ (by omega) (by omega) g699_ q710_ q711_ q712_ q713_ t714_ (by omega)
          · refine T_qg (i_add rfl l_5 (by omega) (by omega)) (by omega) (by omega) ?_
            refine T_eq rfl l_0 (fun c718_ => ?_) (fun c718_ => ?_)
            · refine T_qg (i_add rfl l_6 (by omega) (by omega)) (by omega) (by omega) ?_
              refine T_qcE (t_X12_game hn _ _ _ _ _ _ m662_ g663_ (by decide) (by decide)) ?_
              intro r719_ m720_ e723_ p722_
              have g721_ := p722_.2.1
              have f724_ : (m720_ 1 1).toInt = (m662_ 1 1).toInt := by rw [p722_.2.2 1 1 (by decide)]
              have f725_ : (m720_ 77 8).toInt = (m662_ 77 8).toInt := by rw [p722_.2.2 77 8 (by decide)]
              have f726_ : (m720_ 7 8).toInt = (m662_ 7 8).toInt := by rw [p722_.2.2 7 8 (by decide)]
              have f727_ : (m720_ 78 312).toInt = (m662_ 78 312).toInt := by rw [p722_.2.2 78 312 (by decide)]
              have f728_ : (m720_ 16 8).toInt = (m662_ 16 8).toInt := by rw [p722_.2.2 16 8 (by decide)]
              have f729_ : (m720_ 80 312).toInt = (m662_ 80 312).toInt := by rw [p722_.2.2 80 312 (by decide)]
              have f730_ : (m720_ 0 12).toInt = (m662_ 0 12).toInt := by rw [p722_.2.2 0 12 (by decide)]
              have f731_ : (m720_ 77 67).toInt = (m662_ 77 67).toInt := by rw [p722_.2.2 77 67 (by decide)]
              have q732_ : (m720_ 1 1).toInt = (m720_ 77 8).toInt := by omega
              have q733_ : (m720_ 7 8).toInt = (m720_ 78 312).toInt := by omega
              have q734_ : (m720_ 16 8).toInt = (m720_ 80 312).toInt := by omega
              have q735_ : (m720_ 0 12).toInt = (m720_ 77 67).toInt := by omega
              have f737_ := r_1_1 hG
              have t736_ : TR m720_ := TR_le hT (by omega) (funext (fun s_ => by rw [p722_.2.2 2 s_ (outc rfl), p664_.2.2 2 s_ (outc rfl)])) (funext (fun s_ => by rw [p722_.2.2 84 s_ (outc rfl), p664_.2.2 84 s_ (outc rfl)]))
              refine T_ql (i_add rfl l_7 (by omega) (by omega)) ?_
              intro x738_ h739_
              exact ih j r hj hr x738_ m720_ (by omega) (by omega) g721_ q732_ q733_ q734_ q735_ t736_ (by omega)
            · refine T_qg (i_add rfl l_6 (by omega) (by omega)) (by omega) (by omega) ?_
              refine T_qcE (t_X12_game hn _ _ _ _ _ _ m662_ g663_ (by decide) (by decide)) ?_
              intro r740_ m741_ e744_ p743_
              have g742_ := p743_.2.1
              have f745_ : (m741_ 1 1).toInt = (m662_ 1 1).toInt := by rw [p743_.2.2 1 1 (by decide)]
              have f746_ : (m741_ 77 8).toInt = (m662_ 77 8).toInt := by rw [p743_.2.2 77 8 (by decide)]
              have f747_ : (m741_ 7 8).toInt = (m662_ 7 8).toInt := by rw [p743_.2.2 7 8 (by decide)]
              have f748_ : (m741_ 78 312).toInt = (m662_ 78 312).toInt := by rw [p743_.2.2 78 312 (by decide)]
              have f749_ : (m741_ 16 8).toInt = (m662_ 16 8).toInt := by rw [p743_.2.2 16 8 (by decide)]
              have f750_ : (m741_ 80 312).toInt = (m662_ 80 312).toInt := by rw [p743_.2.2 80 312 (by decide)]
              have f751_ : (m741_ 0 12).toInt = (m662_ 0 12).toInt := by rw [p743_.2.2 0 12 (by decide)]
              have f752_ : (m741_ 77 67).toInt = (m662_ 77 67).toInt := by rw [p743_.2.2 77 67 (by decide)]
              have q753_ : (m741_ 1 1).toInt = (m741_ 77 8).toInt := by omega
              have q754_ : (m741_ 7 8).toInt = (m741_ 78 312).toInt := by omega
              have q755_ : (m741_ 16 8).toInt = (m741_ 80 312).toInt := by omega
              have q756_ : (m741_ 0 12).toInt = (m741_ 77 67).toInt := by omega
              have f758_ := r_1_1 hG
              have t757_ : TR m741_ := TR_le hT (by omega) (funext (fun s_ => by rw [p743_.2.2 2 s_ (outc rfl), p664_.2.2 2 s_ (outc rfl)])) (funext (fun s_ => by rw [p743_.2.2 84 s_ (outc rfl), p664_.2.2 84 s_ (outc rfl)]))
              refine T_ql (i_add rfl l_7 (by omega) (by omega)) ?_
              intro x759_ h760_
              exact ih j r hj hr x759_ m741_ (by omega) (by omega) g742_ q753_ q754_ q755_ q756_ t757_ (by omega)
        · refine T_qg (i_add rfl l_6 (by omega) (by omega)) (by omega) (by omega) ?_
          refine T_qcE (t_X11_game hn _ _ _ _ _ _ M hG (by decide) (by decide)) ?_
          intro r761_ m762_ e765_ p764_
          have g763_ := p764_.2.1
          have f766_ : (m762_ 1 1).toInt = (M 1 1).toInt := by rw [p764_.2.2 1 1 (by decide)]
          have f767_ : (m762_ 77 8).toInt = (M 77 8).toInt := by rw [p764_.2.2 77 8 (by decide)]
          have f768_ : (m762_ 7 8).toInt = (M 7 8).toInt := by rw [p764_.2.2 7 8 (by decide)]
          have f769_ : (m762_ 78 312).toInt = (M 78 312).toInt := by rw [p764_.2.2 78 312 (by decide)]
          have f770_ : (m762_ 16 8).toInt = (M 16 8).toInt := by rw [p764_.2.2 16 8 (by decide)]
          have f771_ : (m762_ 80 312).toInt = (M 80 312).toInt := by rw [p764_.2.2 80 312 (by decide)]
          have f772_ : (m762_ 0 12).toInt = (M 0 12).toInt := by rw [p764_.2.2 0 12 (by decide)]
          have f773_ : (m762_ 77 67).toInt = (M 77 67).toInt := by rw [p764_.2.2 77 67 (by decide)]
          refine T_qg (i_add rfl l_1 (by omega) (by omega)) (by omega) (by omega) ?_
          refine T_qg (i_add rfl l_2 (by omega) (by omega)) (by omega) (by omega) ?_
          refine T_qg (i_add rfl l_3 (by omega) (by omega)) (by omega) (by omega) ?_
          refine T_qg (i_add rfl l_4 (by omega) (by omega)) (by omega) (by omega) ?_
          refine T_eq rfl l_0 (fun c774_ => ?_) (fun c774_ => ?_)
          · refine T_qg (i_add rfl l_5 (by omega) (by omega)) (by omega) (by omega) ?_
            refine T_eq rfl l_0 (fun c775_ => ?_) (fun c775_ => ?_)
            · refine T_qg (i_add rfl l_6 (by omega) (by omega)) (by omega) (by omega) ?_
              refine T_qcE (t_X12_game hn _ _ _ _ _ _ m762_ g763_ (by decide) (by decide)) ?_
              intro r776_ m777_ e780_ p779_
              have g778_ := p779_.2.1
              have f781_ : (m777_ 1 1).toInt = (m762_ 1 1).toInt := by rw [p779_.2.2 1 1 (by decide)]
              have f782_ : (m777_ 77 8).toInt = (m762_ 77 8).toInt := by rw [p779_.2.2 77 8 (by decide)]
              have f783_ : (m777_ 7 8).toInt = (m762_ 7 8).toInt := by rw [p779_.2.2 7 8 (by decide)]
              have f784_ : (m777_ 78 312).toInt = (m762_ 78 312).toInt := by rw [p779_.2.2 78 312 (by decide)]
              have f785_ : (m777_ 16 8).toInt = (m762_ 16 8).toInt := by rw [p779_.2.2 16 8 (by decide)]
              have f786_ : (m777_ 80 312).toInt = (m762_ 80 312).toInt := by rw [p779_.2.2 80 312 (by decide)]
              have f787_ : (m777_ 0 12).toInt = (m762_ 0 12).toInt := by rw [p779_.2.2 0 12 (by decide)]
              have f788_ : (m777_ 77 67).toInt = (m762_ 77 67).toInt := by rw [p779_.2.2 77 67 (by decide)]
              have q789_ : (m777_ 1 1).toInt = (m777_ 77 8).toInt := by omega
              have q790_ : (m777_ 7 8).toInt = (m777_ 78 312).toInt := by omega
              have q791_ : (m777_ 16 8).toInt = (m777_ 80 312).toInt := by omega
              have q792_ : (m777_ 0 12).toInt = (m777_ 77 67).toInt := by omega
              have f794_ := r_1_1 hG
              have t793_ : TR m777_ := TR_le hT (by omega) (funext (fun s_ => by rw [p779_.2.2 2 s_ (outc rfl), p764_.2.2 2 s_ (outc rfl)])) (funext (fun s_ => by rw [p779_.2.2 84 s_ (outc rfl), p764_.2.2 84 s_ (outc rfl)]))
              refine T_ql (i_add rfl l_7 (by omega) (by omega)) ?_
              intro x795_ h796_
              exact ih j r hj hr x795_ m777_ (by omega) (by omega) g778_ q789_ q790_ q791_ q792_ t793_ (by omega)
            · refine T_qg (i_add rfl l_6 (by omega) (by omega)) (by omega) (by omega) ?_
              refine T_qcE (t_X12_game hn _ _ _ _ _ _ m762_ g763_ (by decide) (by decide)) ?_
              intro r797_ m798_ e801_ p800_
              have g799_ := p800_.2.1
              have f802_ : (m798_ 1 1).toInt = (m762_ 1 1).toInt := by rw [p800_.2.2 1 1 (by decide)]
              have f803_ : (m798_ 77 8).toInt = (m762_ 77 8).toInt := by rw [p800_.2.2 77 8 (by decide)]
              have f804_ : (m798_ 7 8).toInt = (m762_ 7 8).toInt := by rw [p800_.2.2 7 8 (by decide)]
              have f805_ : (m798_ 78 312).toInt = (m762_ 78 312).toInt := by rw [p800_.2.2 78 312 (by decide)]
              have f806_ : (m798_ 16 8).toInt = (m762_ 16 8).toInt := by rw [p800_.2.2 16 8 (by decide)]
              have f807_ : (m798_ 80 312).toInt = (m762_ 80 312).toInt := by rw [p800_.2.2 80 312 (by decide)]
              have f808_ : (m798_ 0 12).toInt = (m762_ 0 12).toInt := by rw [p800_.2.2 0 12 (by decide)]
              have f809_ : (m798_ 77 67).toInt = (m762_ 77 67).toInt := by rw [p800_.2.2 77 67 (by decide)]
              have q810_ : (m798_ 1 1).toInt = (m798_ 77 8).toInt := by omega
              have q811_ : (m798_ 7 8).toInt = (m798_ 78 312).toInt := by omega
              have q812_ : (m798_ 16 8).toInt = (m798_ 80 312).toInt := by omega
              have q813_ : (m798_ 0 12).toInt = (m798_ 77 67).toInt := by omega
              have f815_ := r_1_1 hG
              have t814_ : TR m798_ := TR_le hT (by omega) (funext (fun s_ => by rw [p800_.2.2 2 s_ (outc rfl), p764_.2.2 2 s_ (outc rfl)])) (funext (fun s_ => by rw [p800_.2.2 84 s_ (outc rfl), p764_.2.2 84 s_ (outc rfl)]))
              refine T_ql (i_add rfl l_7 (by omega) (by omega)) ?_
              intro x816_ h817_
              exact ih j r hj hr x816_ m798_ (by omega) (by omega) g799_ q810_ q811_ q812_ q813_ t814_ (by omega)
          · refine T_qg (i_add rfl l_5 (by omega) (by omega)) (by omega) (by omega) ?_
            refine T_eq rfl l_0 (fun c818_ => ?_) (fun c818_ => ?_)
            · refine T_qg (i_add rfl l_6 (by omega) (by omega)) (by omega) (by omega) ?_
              refine T_qcE (t_X12_game hn _ _ _ _ _ _ m762_ g763_ (by decide) (by decide)) ?_
              intro r819_ m820_ e823_ p822_
              have g821_ := p822_.2.1
              have f824_ : (m820_ 1 1).toInt = (m762_ 1 1).toInt := by rw [p822_.2.2 1 1 (by decide)]
              have f825_ : (m820_ 77 8).toInt = (m762_ 77 8).toInt := by rw [p822_.2.2 77 8 (by decide)]
              have f826_ : (m820_ 7 8).toInt = (m762_ 7 8).toInt := by rw [p822_.2.2 7 8 (by decide)]
              have f827_ : (m820_ 78 312).toInt = (m762_ 78 312).toInt := by rw [p822_.2.2 78 312 (by decide)]
              have f828_ : (m820_ 16 8).toInt = (m762_ 16 8).toInt := by rw [p822_.2.2 16 8 (by decide)]
              have f829_ : (m820_ 80 312).toInt = (m762_ 80 312).toInt := by rw [p822_.2.2 80 312 (by decide)]
              have f830_ : (m820_ 0 12).toInt = (m762_ 0 12).toInt := by rw [p822_.2.2 0 12 (by decide)]
              have f831_ : (m820_ 77 67).toInt = (m762_ 77 67).toInt := by rw [p822_.2.2 77 67 (by decide)]
              have q832_ : (m820_ 1 1).toInt = (m820_ 77 8).toInt := by omega
              have q833_ : (m820_ 7 8).toInt = (m820_ 78 312).toInt := by omega
              have q834_ : (m820_ 16 8).toInt = (m820_ 80 312).toInt := by omega
              have q835_ : (m820_ 0 12).toInt = (m820_ 77 67).toInt := by omega
              have f837_ := r_1_1 hG
              have t836_ : TR m820_ := TR_le hT (by omega) (funext (fun s_ => by rw [p822_.2.2 2 s_ (outc rfl), p764_.2.2 2 s_ (outc rfl)])) (funext (fun s_ => by rw [p822_.2.2 84 s_ (outc rfl), p764_.2.2 84 s_ (outc rfl)]))
              refine T_ql (i_add rfl l_7 (by omega) (by omega)) ?_
              intro x838_ h839_
              exact ih j r hj hr x838_ m820_ (by omega) (by omega) g821_ q832_ q833_ q834_ q835_ t836_ (by omega)
            · refine T_qg (i_add rfl l_6 (by omega) (by omega)) (by omega) (by omega) ?_
              refine T_qcE (t_X12_game hn _ _ _ _ _ _ m762_ g763_ (by decide) (by decide)) ?_
              intro r840_ m841_ e844_ p843_
              have g842_ := p843_.2.1
              have f845_ : (m841_ 1 1).toInt = (m762_ 1 1).toInt := by rw [p843_.2.2 1 1 (by decide)]
              have f846_ : (m841_ 77 8).toInt = (m762_ 77 8).toInt := by rw [p843_.2.2 77 8 (by decide)]
              have f847_ : (m841_ 7 8).toInt = (m762_ 7 8).toInt := by rw [p843_.2.2 7 8 (by decide)]
              have f848_ : (m841_ 78 312).toInt = (m762_ 78 312).toInt := by rw [p843_.2.2 78 312 (by decide)]
              have f849_ : (m841_ 16 8).toInt = (m762_ 16 8).toInt := by rw [p843_.2.2 16 8 (by decide)]
              have f850_ : (m841_ 80 312).toInt = (m762_ 80 312).toInt := by rw [p843_.2.2 80 312 (by decide)]
              have f851_ : (m841_ 0 12).toInt = (m762_ 0 12).toInt := by rw [p843_.2.2 0 12 (by decide)]
              have f852_ : (m841_ 77 67).toInt = (m762_ 77 67).toInt := by rw [p843_.2.2 77 67 (by decide)]
              have q853_ : (m841_ 1 1).toInt = (m841_ 77 8).toInt := by omega
              have q854_ : (m841_ 7 8).toInt = (m841_ 78 312).toInt := by omega
              have q855_ : (m841_ 16 8).toInt = (m841_ 80 312).toInt := by omega
              have q856_ : (m841_ 0 12).toInt = (m841_ 77 67).toInt := by omega
              have f858_ := r_1_1 hG
              have t857_ : TR m841_ := TR_le hT (by omega) (funext (fun s_ => by rw [p843_.2.2 2 s_ (outc rfl), p764_.2.2 2 s_ (outc rfl)])) (funext (fun s_ => by rw [p843_.2.2 84 s_ (outc rfl), p764_.2.2 84 s_ (outc rfl)]))
              refine T_ql (i_add rfl l_7 (by omega) (by omega)) ?_
              intro x859_ h860_
              exact ih j r hj hr x859_ m841_ (by omega) (by omega) g842_ q853_ q854_ q855_ q856_ t857_ (by omega)
      · refine T_qg (i_add rfl l_5 (by omega) (by omega)) (by omega) (by omega) ?_
        refine T_eq rfl l_0 (fun c861_ => ?_) (fun c861_ => ?_)
        · refine T_qg (i_add rfl l_6 (by omega) (by omega)) (by omega) (by omega) ?_
          refine T_qcE (t_X11_game hn _ _ _ _ _ _ M hG (by decide) (by decide)) ?_
          intro r862_ m863_ e866_ p865_
          have g864_ := p865_.2.1
          have f867_ : (m863_ 1 1).toInt = (M 1 1).toInt := by rw [p865_.2.2 1 1 (by decide)]
          have f868_ : (m863_ 77 8).toInt = (M 77 8).toInt := by rw [p865_.2.2 77 8 (by decide)]
          have f869_ : (m863_ 7 8).toInt = (M 7 8).toInt := by rw [p865_.2.2 7 8 (by decide)]
          have f870_ : (m863_ 78 312).toInt = (M 78 312).toInt := by rw [p865_.2.2 78 312 (by decide)]
          have f871_ : (m863_ 16 8).toInt = (M 16 8).toInt := by rw [p865_.2.2 16 8 (by decide)]
          have f872_ : (m863_ 80 312).toInt = (M 80 312).toInt := by rw [p865_.2.2 80 312 (by decide)]
          have f873_ : (m863_ 0 12).toInt = (M 0 12).toInt := by rw [p865_.2.2 0 12 (by decide)]
          have f874_ : (m863_ 77 67).toInt = (M 77 67).toInt := by rw [p865_.2.2 77 67 (by decide)]
          refine T_qg (i_add rfl l_1 (by omega) (by omega)) (by omega) (by omega) ?_
          refine T_qg (i_add rfl l_2 (by omega) (by omega)) (by omega) (by omega) ?_
          refine T_qg (i_add rfl l_3 (by omega) (by omega)) (by omega) (by omega) ?_
          refine T_qg (i_add rfl l_4 (by omega) (by omega)) (by omega) (by omega) ?_
          refine T_eq rfl l_0 (fun c875_ => ?_) (fun c875_ => ?_)
          · refine T_qg (i_add rfl l_5 (by omega) (by omega)) (by omega) (by omega) ?_
            refine T_eq rfl l_0 (fun c876_ => ?_) (fun c876_ => ?_)
            · refine T_qg (i_add rfl l_6 (by omega) (by omega)) (by omega) (by omega) ?_
              refine T_qcE (t_X12_game hn _ _ _ _ _ _ m863_ g864_ (by decide) (by decide)) ?_
              intro r877_ m878_ e881_ p880_
              have g879_ := p880_.2.1
              have f882_ : (m878_ 1 1).toInt = (m863_ 1 1).toInt := by rw [p880_.2.2 1 1 (by decide)]
              have f883_ : (m878_ 77 8).toInt = (m863_ 77 8).toInt := by rw [p880_.2.2 77 8 (by decide)]
              have f884_ : (m878_ 7 8).toInt = (m863_ 7 8).toInt := by rw [p880_.2.2 7 8 (by decide)]
              have f885_ : (m878_ 78 312).toInt = (m863_ 78 312).toInt := by rw [p880_.2.2 78 312 (by decide)]
              have f886_ : (m878_ 16 8).toInt = (m863_ 16 8).toInt := by rw [p880_.2.2 16 8 (by decide)]
              have f887_ : (m878_ 80 312).toInt = (m863_ 80 312).toInt := by rw [p880_.2.2 80 312 (by decide)]
              have f888_ : (m878_ 0 12).toInt = (m863_ 0 12).toInt := by rw [p880_.2.2 0 12 (by decide)]
              have f889_ : (m878_ 77 67).toInt = (m863_ 77 67).toInt := by rw [p880_.2.2 77 67 (by decide)]
              have q890_ : (m878_ 1 1).toInt = (m878_ 77 8).toInt := by omega
              have q891_ : (m878_ 7 8).toInt = (m878_ 78 312).toInt := by omega
              have q892_ : (m878_ 16 8).toInt = (m878_ 80 312).toInt := by omega
              have q893_ : (m878_ 0 12).toInt = (m878_ 77 67).toInt := by omega
              have f895_ := r_1_1 hG
              have t894_ : TR m878_ := TR_le hT (by omega) (funext (fun s_ => by rw [p880_.2.2 2 s_ (outc rfl), p865_.2.2 2 s_ (outc rfl)])) (funext (fun s_ => by rw [p880_.2.2 84 s_ (outc rfl), p865_.2.2 84 s_ (outc rfl)]))
              refine T_ql (i_add rfl l_7 (by omega) (by omega)) ?_
              intro x896_ h897_
              exact ih j r hj hr x896_ m878_ (by omega) (by omega) g879_ q890_ q891_ q892_ q893_ t894_ (by omega)
            · refine T_qg (i_add rfl l_6 (by omega) (by omega)) (by omega) (by omega) ?_
              refine T_qcE (t_X12_game hn _ _ _ _ _ _ m863_ g864_ (by decide) (by decide)) ?_
              intro r898_ m899_ e902_ p901_
              have g900_ := p901_.2.1
              have f903_ : (m899_ 1 1).toInt = (m863_ 1 1).toInt := by rw [p901_.2.2 1 1 (by decide)]
              have f904_ : (m899_ 77 8).toInt = (m863_ 77 8).toInt := by rw [p901_.2.2 77 8 (by decide)]
              have f905_ : (m899_ 7 8).toInt = (m863_ 7 8).toInt := by rw [p901_.2.2 7 8 (by decide)]
              have f906_ : (m899_ 78 312).toInt = (m863_ 78 312).toInt := by rw [p901_.2.2 78 312 (by decide)]
              have f907_ : (m899_ 16 8).toInt = (m863_ 16 8).toInt := by rw [p901_.2.2 16 8 (by decide)]
              have f908_ : (m899_ 80 312).toInt = (m863_ 80 312).toInt := by rw [p901_.2.2 80 312 (by decide)]
              have f909_ : (m899_ 0 12).toInt = (m863_ 0 12).toInt := by rw [p901_.2.2 0 12 (by decide)]
              have f910_ : (m899_ 77 67).toInt = (m863_ 77 67).toInt := by rw [p901_.2.2 77 67 (by decide)]
              have q911_ : (m899_ 1 1).toInt = (m899_ 77 8).toInt := by omega
              have q912_ : (m899_ 7 8).toInt = (m899_ 78 312).toInt := by omega
              have q913_ : (m899_ 16 8).toInt = (m899_ 80 312).toInt := by omega
              have q914_ : (m899_ 0 12).toInt = (m899_ 77 67).toInt := by omega
              have f916_ := r_1_1 hG
              have t915_ : TR m899_ := TR_le hT (by omega) (funext (fun s_ => by rw [p901_.2.2 2 s_ (outc rfl), p865_.2.2 2 s_ (outc rfl)])) (funext (fun s_ => by rw [p901_.2.2 84 s_ (outc rfl), p865_.2.2 84 s_ (outc rfl)]))
              refine T_ql (i_add rfl l_7 (by omega) (by omega)) ?_
              intro x917_ h918_
              exact ih j r hj hr x917_ m899_ (by omega) (by omega) g900_ q911_ q912_ q913_ q914_ t915_ (by omega)
          · refine T_qg (i_add rfl l_5 (by omega) (by omega)) (by omega) (by omega) ?_
            refine T_eq rfl l_0 (fun c919_ => ?_) (fun c919_ => ?_)
            · refine T_qg (i_add rfl l_6 (by omega) (by omega)) (by omega) (by omega) ?_
              refine T_qcE (t_X12_game hn _ _ _ _ _ _ m863_ g864_ (by decide) (by decide)) ?_
              intro r920_ m921_ e924_ p923_
              have g922_ := p923_.2.1
              have f925_ : (m921_ 1 1).toInt = (m863_ 1 1).toInt := by rw [p923_.2.2 1 1 (by decide)]
              have f926_ : (m921_ 77 8).toInt = (m863_ 77 8).toInt := by rw [p923_.2.2 77 8 (by decide)]
              have f927_ : (m921_ 7 8).toInt = (m863_ 7 8).toInt := by rw [p923_.2.2 7 8 (by decide)]
              have f928_ : (m921_ 78 312).toInt = (m863_ 78 312).toInt := by rw [p923_.2.2 78 312 (by decide)]
              have f929_ : (m921_ 16 8).toInt = (m863_ 16 8).toInt := by rw [p923_.2.2 16 8 (by decide)]
              have f930_ : (m921_ 80 312).toInt = (m863_ 80 312).toInt := by rw [p923_.2.2 80 312 (by decide)]
              have f931_ : (m921_ 0 12).toInt = (m863_ 0 12).toInt := by rw [p923_.2.2 0 12 (by decide)]
              have f932_ : (m921_ 77 67).toInt = (m863_ 77 67).toInt := by rw [p923_.2.2 77 67 (by decide)]
              have q933_ : (m921_ 1 1).toInt = (m921_ 77 8).toInt := by omega
              have q934_ : (m921_ 7 8).toInt = (m921_ 78 312).toInt := by omega
              have q935_ : (m921_ 16 8).toInt = (m921_ 80 312).toInt := by omega
              have q936_ : (m921_ 0 12).toInt = (m921_ 77 67).toInt := by omega
              have f938_ := r_1_1 hG
              have t937_ : TR m921_ := TR_le hT (by omega) (funext (fun s_ => by rw [p923_.2.2 2 s_ (outc rfl), p865_.2.2 2 s_ (outc rfl)])) (funext (fun s_ => by rw [p923_.2.2 84 s_ (outc rfl), p865_.2.2 84 s_ (outc rfl)]))
              refine T_ql (i_add rfl l_7 (by omega) (by omega)) ?_
              intro x939_ h940_
              exact ih j r hj hr x939_ m921_ (by omega) (by omega) g922_ q933_ q934_ q935_ q936_ t937_ (by omega)
            · refine T_qg (i_add rfl l_6 (by omega) (by omega)) (by omega) (by omega) ?_
              refine T_qcE (t_X12_game hn _ _ _ _ _ _ m863_ g864_ (by decide) (by decide)) ?_
              intro r941_ m942_ e945_ p944_
              have g943_ := p944_.2.1
              have f946_ : (m942_ 1 1).toInt = (m863_ 1 1).toInt := by rw [p944_.2.2 1 1 (by decide)]
              have f947_ : (m942_ 77 8).toInt = (m863_ 77 8).toInt := by rw [p944_.2.2 77 8 (by decide)]
              have f948_ : (m942_ 7 8).toInt = (m863_ 7 8).toInt := by rw [p944_.2.2 7 8 (by decide)]
              have f949_ : (m942_ 78 312).toInt = (m863_ 78 312).toInt := by rw [p944_.2.2 78 312 (by decide)]
              have f950_ : (m942_ 16 8).toInt = (m863_ 16 8).toInt := by rw [p944_.2.2 16 8 (by decide)]
              have f951_ : (m942_ 80 312).toInt = (m863_ 80 312).toInt := by rw [p944_.2.2 80 312 (by decide)]
              have f952_ : (m942_ 0 12).toInt = (m863_ 0 12).toInt := by rw [p944_.2.2 0 12 (by decide)]
              have f953_ : (m942_ 77 67).toInt = (m863_ 77 67).toInt := by rw [p944_.2.2 77 67 (by decide)]
              have q954_ : (m942_ 1 1).toInt = (m942_ 77 8).toInt := by omega
              have q955_ : (m942_ 7 8).toInt = (m942_ 78 312).toInt := by omega
              have q956_ : (m942_ 16 8).toInt = (m942_ 80 312).toInt := by omega
              have q957_ : (m942_ 0 12).toInt = (m942_ 77 67).toInt := by omega
              have f959_ := r_1_1 hG
              have t958_ : TR m942_ := TR_le hT (by omega) (funext (fun s_ => by rw [p944_.2.2 2 s_ (outc rfl), p865_.2.2 2 s_ (outc rfl)])) (funext (fun s_ => by rw [p944_.2.2 84 s_ (outc rfl), p865_.2.2 84 s_ (outc rfl)]))
              refine T_ql (i_add rfl l_7 (by omega) (by omega)) ?_
              intro x960_ h961_
              exact ih j r hj hr x960_ m942_ (by omega) (by omega) g943_ q954_ q955_ q956_ q957_ t958_ (by omega)
        · refine T_qg (i_add rfl l_6 (by omega) (by omega)) (by omega) (by omega) ?_
          refine T_qcE (t_X11_game hn _ _ _ _ _ _ M hG (by decide) (by decide)) ?_
          intro r962_ m963_ e966_ p965_
          have g964_ := p965_.2.1
          have f967_ : (m963_ 1 1).toInt = (M 1 1).toInt := by rw [p965_.2.2 1 1 (by decide)]
          have f968_ : (m963_ 77 8).toInt = (M 77 8).toInt := by rw [p965_.2.2 77 8 (by decide)]
          have f969_ : (m963_ 7 8).toInt = (M 7 8).toInt := by rw [p965_.2.2 7 8 (by decide)]
          have f970_ : (m963_ 78 312).toInt = (M 78 312).toInt := by rw [p965_.2.2 78 312 (by decide)]
          have f971_ : (m963_ 16 8).toInt = (M 16 8).toInt := by rw [p965_.2.2 16 8 (by decide)]
          have f972_ : (m963_ 80 312).toInt = (M 80 312).toInt := by rw [p965_.2.2 80 312 (by decide)]
          have f973_ : (m963_ 0 12).toInt = (M 0 12).toInt := by rw [p965_.2.2 0 12 (by decide)]
          have f974_ : (m963_ 77 67).toInt = (M 77 67).toInt := by rw [p965_.2.2 77 67 (by decide)]
          refine T_qg (i_add rfl l_1 (by omega) (by omega)) (by omega) (by omega) ?_
          refine T_qg (i_add rfl l_2 (by omega) (by omega)) (by omega) (by omega) ?_
          refine T_qg (i_add rfl l_3 (by omega) (by omega)) (by omega) (by omega) ?_
          refine T_qg (i_add rfl l_4 (by omega) (by omega)) (by omega) (by omega) ?_
          refine T_eq rfl l_0 (fun c975_ => ?_) (fun c975_ => ?_)
          · refine T_qg (i_add rfl l_5 (by omega) (by omega)) (by omega) (by omega) ?_
            refine T_eq rfl l_0 (fun c976_ => ?_) (fun c976_ => ?_)
            · refine T_qg (i_add rfl l_6 (by omega) (by omega)) (by omega) (by omega) ?_
              refine T_qcE (t_X12_game hn _ _ _ _ _ _ m963_ g964_ (by decide) (by decide)) ?_
              intro r977_ m978_ e981_ p980_
              have g979_ := p980_.2.1
              have f982_ : (m978_ 1 1).toInt = (m963_ 1 1).toInt := by rw [p980_.2.2 1 1 (by decide)]
              have f983_ : (m978_ 77 8).toInt = (m963_ 77 8).toInt := by rw [p980_.2.2 77 8 (by decide)]
              have f984_ : (m978_ 7 8).toInt = (m963_ 7 8).toInt := by rw [p980_.2.2 7 8 (by decide)]
              have f985_ : (m978_ 78 312).toInt = (m963_ 78 312).toInt := by rw [p980_.2.2 78 312 (by decide)]
              have f986_ : (m978_ 16 8).toInt = (m963_ 16 8).toInt := by rw [p980_.2.2 16 8 (by decide)]
              have f987_ : (m978_ 80 312).toInt = (m963_ 80 312).toInt := by rw [p980_.2.2 80 312 (by decide)]
              have f988_ : (m978_ 0 12).toInt = (m963_ 0 12).toInt := by rw [p980_.2.2 0 12 (by decide)]
              have f989_ : (m978_ 77 67).toInt = (m963_ 77 67).toInt := by rw [p980_.2.2 77 67 (by decide)]
              have q990_ : (m978_ 1 1).toInt = (m978_ 77 8).toInt := by omega
              have q991_ : (m978_ 7 8).toInt = (m978_ 78 312).toInt := by omega
              have q992_ : (m978_ 16 8).toInt = (m978_ 80 312).toInt := by omega
              have q993_ : (m978_ 0 12).toInt = (m978_ 77 67).toInt := by omega
              have f995_ := r_1_1 hG
              have t994_ : TR m978_ := TR_le hT (by omega) (funext (fun s_ => by rw [p980_.2.2 2 s_ (outc rfl), p965_.2.2 2 s_ (outc rfl)])) (funext (fun s_ => by rw [p980_.2.2 84 s_ (outc rfl), p965_.2.2 84 s_ (outc rfl)]))
              refine T_ql (i_add rfl l_7 (by omega) (by omega)) ?_
              intro x996_ h997_
              exact ih j r hj hr x996_ m978_ (by omega) (by omega) g979_ q990_ q991_ q992_ q993_ t994_ (by omega)
            · refine T_qg (i_add rfl l_6 (by omega) (by omega)) (by omega) (by omega) ?_
              refine T_qcE (t_X12_game hn _ _ _ _ _ _ m963_ g964_ (by decide) (by decide)) ?_
              intro r998_ m999_ e1002_ p1001_
              have g1000_ := p1001_.2.1
              have f1003_ : (m999_ 1 1).toInt = (m963_ 1 1).toInt := by rw [p1001_.2.2 1 1 (by decide)]
              have f1004_ : (m999_ 77 8).toInt = (m963_ 77 8).toInt := by rw [p1001_.2.2 77 8 (by decide)]
              have f1005_ : (m999_ 7 8).toInt = (m963_ 7 8).toInt := by rw [p1001_.2.2 7 8 (by decide)]
              have f1006_ : (m999_ 78 312).toInt = (m963_ 78 312).toInt := by rw [p1001_.2.2 78 312 (by decide)]
              have f1007_ : (m999_ 16 8).toInt = (m963_ 16 8).toInt := by rw [p1001_.2.2 16 8 (by decide)]
              have f1008_ : (m999_ 80 312).toInt = (m963_ 80 312).toInt := by rw [p1001_.2.2 80 312 (by decide)]
              have f1009_ : (m999_ 0 12).toInt = (m963_ 0 12).toInt := by rw [p1001_.2.2 0 12 (by decide)]
              have f1010_ : (m999_ 77 67).toInt = (m963_ 77 67).toInt := by rw [p1001_.2.2 77 67 (by decide)]
              have q1011_ : (m999_ 1 1).toInt = (m999_ 77 8).toInt := by omega
              have q1012_ : (m999_ 7 8).toInt = (m999_ 78 312).toInt := by omega
              have q1013_ : (m999_ 16 8).toInt = (m999_ 80 312).toInt := by omega
              have q1014_ : (m999_ 0 12).toInt = (m999_ 77 67).toInt := by omega
              have f1016_ := r_1_1 hG
              have t1015_ : TR m999_ := TR_le hT (by omega) (funext (fun s_ => by rw [p1001_.2.2 2 s_ (outc rfl), p965_.2.2 2 s_ (outc rfl)])) (funext (fun s_ => by rw [p1001_.2.2 84 s_ (outc rfl), p965_.2.2 84 s_ (outc rfl)]))
              refine T_ql (i_add rfl l_7 (by omega) (by omega)) ?_
              intro x1017_ h1018_
              exact ih j r hj hr x1017_ m999_ (by omega) (by omega) g1000_ q1011_ q1012_ q1013_ q1014_ t1015_ (by omega)
          · refine T_qg (i_add rfl l_5 (by omega) (by omega)) (by omega) (by omega) ?_
            refine T_eq rfl l_0 (fun c1019_ => ?_) (fun c1019_ => ?_)
            · refine T_qg (i_add rfl l_6 (by omega) (by omega)) (by omega) (by omega) ?_
              refine T_qcE (t_X12_game hn _ _ _ _ _ _ m963_ g964_ (by decide) (by decide)) ?_
              intro r1020_ m1021_ e1024_ p1023_
              have g1022_ := p1023_.2.1
              have f1025_ : (m1021_ 1 1).toInt = (m963_ 1 1).toInt := by rw [p1023_.2.2 1 1 (by decide)]
              have f1026_ : (m1021_ 77 8).toInt = (m963_ 77 8).toInt := by rw [p1023_.2.2 77 8 (by decide)]
              have f1027_ : (m1021_ 7 8).toInt = (m963_ 7 8).toInt := by rw [p1023_.2.2 7 8 (by decide)]
              have f1028_ : (m1021_ 78 312).toInt = (m963_ 78 312).toInt := by rw [p1023_.2.2 78 312 (by decide)]
              have f1029_ : (m1021_ 16 8).toInt = (m963_ 16 8).toInt := by rw [p1023_.2.2 16 8 (by decide)]
              have f1030_ : (m1021_ 80 312).toInt = (m963_ 80 312).toInt := by rw [p1023_.2.2 80 312 (by decide)]
              have f1031_ : (m1021_ 0 12).toInt = (m963_ 0 12).toInt := by rw [p1023_.2.2 0 12 (by decide)]
              have f1032_ : (m1021_ 77 67).toInt = (m963_ 77 67).toInt := by rw [p1023_.2.2 77 67 (by decide)]
              have q1033_ : (m1021_ 1 1).toInt = (m1021_ 77 8).toInt := by omega
              have q1034_ : (m1021_ 7 8).toInt = (m1021_ 78 312).toInt := by omega
              have q1035_ : (m1021_ 16 8).toInt = (m1021_ 80 312).toInt := by omega
              have q1036_ : (m1021_ 0 12).toInt = (m1021_ 77 67).toInt := by omega
              have f1038_ := r_1_1 hG
              have t1037_ : TR m1021_ := TR_le hT (by omega) (funext (fun s_ => by rw [p1023_.2.2 2 s_ (outc rfl), p965_.2.2 2 s_ (outc rfl)])) (funext (fun s_ => by rw [p1023_.2.2 84 s_ (outc rfl), p965_.2.2 84 s_ (outc rfl)]))
              refine T_ql (i_add rfl l_7 (by omega) (by omega)) ?_
              intro x1039_ h1040_
              exact ih j r hj hr x1039_ m1021_ (by omega) (by omega) g1022_ q1033_ q1034_ q1035_ q1036_ t1037_ (by omega)
            · refine T_qg (i_add rfl l_6 (by omega) (by omega)) (by omega) (by omega) ?_
              refine T_qcE (t_X12_game hn _ _ _ _ _ _ m963_ g964_ (by decide) (by decide)) ?_
              intro r1041_ m1042_ e1045_ p1044_
              have g1043_ := p1044_.2.1
              have f1046_ : (m1042_ 1 1).toInt = (m963_ 1 1).toInt := by rw [p1044_.2.2 1 1 (by decide)]
              have f1047_ : (m1042_ 77 8).toInt = (m963_ 77 8).toInt := by rw [p1044_.2.2 77 8 (by decide)]
              have f1048_ : (m1042_ 7 8).toInt = (m963_ 7 8).toInt := by rw [p1044_.2.2 7 8 (by decide)]
              have f1049_ : (m1042_ 78 312).toInt = (m963_ 78 312).toInt := by rw [p1044_.2.2 78 312 (by decide)]
              have f1050_ : (m1042_ 16 8).toInt = (m963_ 16 8).toInt := by rw [p1044_.2.2 16 8 (by decide)]
              have f1051_ : (m1042_ 80 312).toInt = (m963_ 80 312).toInt := by rw [p1044_.2.2 80 312 (by decide)]
              have f1052_ : (m1042_ 0 12).toInt = (m963_ 0 12).toInt := by rw [p1044_.2.2 0 12 (by decide)]
              have f1053_ : (m1042_ 77 67).toInt = (m963_ 77 67).toInt := by rw [p1044_.2.2 77 67 (by decide)]
              have q1054_ : (m1042_ 1 1).toInt = (m1042_ 77 8).toInt := by omega
              have q1055_ : (m1042_ 7 8).toInt = (m1042_ 78 312).toInt := by omega
              have q1056_ : (m1042_ 16 8).toInt = (m1042_ 80 312).toInt := by omega
              have q1057_ : (m1042_ 0 12).toInt = (m1042_ 77 67).toInt := by omega
              have f1059_ := r_1_1 hG
              have t1058_ : TR m1042_ := TR_le hT (by omega) (funext (fun s_ => by rw [p1044_.2.2 2 s_ (outc rfl), p965_.2.2 2 s_ (outc rfl)])) (funext (fun s_ => by rw [p1044_.2.2 84 s_ (outc rfl), p965_.2.2 84 s_ (outc rfl)]))
              refine T_ql (i_add rfl l_7 (by omega) (by omega)) ?_
              intro x1060_ h1061_
              exact ih j r hj hr x1060_ m1042_ (by omega) (by omega) g1043_ q1054_ q1055_ q1056_ q1057_ t1058_ (by omega)
    refine T_sw rfl l_19 (fun s1062_ => ?_) (fun s1062_ => ?_)
    · refine T_qg (i_add rfl l_1 (by omega) (by omega)) (by omega) (by omega) ?_
      refine T_qg (i_add rfl l_2 (by omega) (by omega)) (by omega) (by omega) ?_
      refine T_qg (i_add rfl l_3 (by omega) (by omega)) (by omega) (by omega) ?_
      refine T_qg (i_add rfl l_4 (by omega) (by omega)) (by omega) (by omega) ?_
      refine T_qg (i_add rfl l_5 (by omega) (by omega)) (by omega) (by omega) ?_
      refine T_qg (i_add rfl l_6 (by omega) (by omega)) (by omega) (by omega) ?_
      refine T_qcE (t_X11_court hn _ _ _ _ _ _ M hG) ?_
      intro r1063_ m1064_ e1067_ p1066_
      have g1065_ := p1066_.2.1
      have f1068_ : (m1064_ 1 1).toInt = (M 1 1).toInt := by rw [p1066_.2.2 1 1 (by decide)]
      have f1069_ : (m1064_ 77 8).toInt = (M 77 8).toInt := by rw [p1066_.2.2 77 8 (by decide)]
      have f1070_ : (m1064_ 7 8).toInt = (M 7 8).toInt := by rw [p1066_.2.2 7 8 (by decide)]
      have f1071_ : (m1064_ 78 312).toInt = (M 78 312).toInt := by rw [p1066_.2.2 78 312 (by decide)]
      have f1072_ : (m1064_ 16 8).toInt = (M 16 8).toInt := by rw [p1066_.2.2 16 8 (by decide)]
      have f1073_ : (m1064_ 80 312).toInt = (M 80 312).toInt := by rw [p1066_.2.2 80 312 (by decide)]
      have f1074_ : (m1064_ 0 12).toInt = (M 0 12).toInt := by rw [p1066_.2.2 0 12 (by decide)]
      have f1075_ : (m1064_ 77 67).toInt = (M 77 67).toInt := by rw [p1066_.2.2 77 67 (by decide)]
      refine T_qg (i_add rfl l_1 (by omega) (by omega)) (by omega) (by omega) ?_
      refine T_qg (i_add rfl l_2 (by omega) (by omega)) (by omega) (by omega) ?_
      refine T_qg (i_add rfl l_3 (by omega) (by omega)) (by omega) (by omega) ?_
      refine T_qg (i_add rfl l_4 (by omega) (by omega)) (by omega) (by omega) ?_
      refine T_qg (i_add rfl l_5 (by omega) (by omega)) (by omega) (by omega) ?_
      refine T_qg (i_add rfl l_6 (by omega) (by omega)) (by omega) (by omega) ?_
      refine T_qcE (t_X12_court hn _ _ _ _ _ _ m1064_ g1065_) ?_
      intro r1076_ m1077_ e1080_ p1079_
      have g1078_ := p1079_.2.1
      have f1081_ : (m1077_ 1 1).toInt = (m1064_ 1 1).toInt := by rw [p1079_.2.2 1 1 (by decide)]
      have f1082_ : (m1077_ 77 8).toInt = (m1064_ 77 8).toInt := by rw [p1079_.2.2 77 8 (by decide)]
      have f1083_ : (m1077_ 7 8).toInt = (m1064_ 7 8).toInt := by rw [p1079_.2.2 7 8 (by decide)]
      have f1084_ : (m1077_ 78 312).toInt = (m1064_ 78 312).toInt := by rw [p1079_.2.2 78 312 (by decide)]
      have f1085_ : (m1077_ 16 8).toInt = (m1064_ 16 8).toInt := by rw [p1079_.2.2 16 8 (by decide)]
      have f1086_ : (m1077_ 80 312).toInt = (m1064_ 80 312).toInt := by rw [p1079_.2.2 80 312 (by decide)]
      have f1087_ : (m1077_ 0 12).toInt = (m1064_ 0 12).toInt := by rw [p1079_.2.2 0 12 (by decide)]
      have f1088_ : (m1077_ 77 67).toInt = (m1064_ 77 67).toInt := by rw [p1079_.2.2 77 67 (by decide)]
      have q1089_ : (m1077_ 1 1).toInt = (m1077_ 77 8).toInt := by omega
      have q1090_ : (m1077_ 7 8).toInt = (m1077_ 78 312).toInt := by omega
      have q1091_ : (m1077_ 16 8).toInt = (m1077_ 80 312).toInt := by omega
      have q1092_ : (m1077_ 0 12).toInt = (m1077_ 77 67).toInt := by omega
      have f1094_ := r_1_1 hG
      have t1093_ : TR m1077_ := TR_le hT (by omega) (funext (fun s_ => by rw [p1079_.2.2 2 s_ (outc rfl), p1066_.2.2 2 s_ (outc rfl)])) (funext (fun s_ => by rw [p1079_.2.2 84 s_ (outc rfl), p1066_.2.2 84 s_ (outc rfl)]))
      refine T_ql (i_add rfl l_7 (by omega) (by omega)) ?_
      intro x1095_ h1096_
      exact ih j r hj hr x1095_ m1077_ (by omega) (by omega) g1078_ q1089_ q1090_ q1091_ q1092_ t1093_ (by omega)
    refine T_sw rfl l_20 (fun s1097_ => ?_) (fun s1097_ => ?_)
    · refine T_qcE (t_X11_keep hn M hG) ?_
      intro r1098_ m1099_ e1102_ p1101_
      have g1100_ := p1101_.2.1
      have f1103_ : (m1099_ 1 1).toInt = (M 1 1).toInt := by rw [p1101_.2.2 1 1 (by decide)]
      have f1104_ : (m1099_ 77 8).toInt = (M 77 8).toInt := by rw [p1101_.2.2 77 8 (by decide)]
      have f1105_ : (m1099_ 7 8).toInt = (M 7 8).toInt := by rw [p1101_.2.2 7 8 (by decide)]
      have f1106_ : (m1099_ 78 312).toInt = (M 78 312).toInt := by rw [p1101_.2.2 78 312 (by decide)]
      have f1107_ : (m1099_ 80 312).toInt = (M 80 312).toInt := by rw [p1101_.2.2 80 312 (by decide)]
      have f1108_ : (m1099_ 77 67).toInt = (M 77 67).toInt := by rw [p1101_.2.2 77 67 (by decide)]
      have w1109_ := p1101_.1
      refine T_qcE (t_X12_keep hn m1099_ g1100_) ?_
      intro r1110_ m1111_ e1114_ p1113_
      have g1112_ := p1113_.2.1
      have f1115_ : (m1111_ 1 1).toInt = (m1099_ 1 1).toInt := by rw [p1113_.2.2 1 1 (by decide)]
      have f1116_ : (m1111_ 77 8).toInt = (m1099_ 77 8).toInt := by rw [p1113_.2.2 77 8 (by decide)]
      have f1117_ : (m1111_ 7 8).toInt = (m1099_ 7 8).toInt := by rw [p1113_.2.2 7 8 (by decide)]
      have f1118_ : (m1111_ 78 312).toInt = (m1099_ 78 312).toInt := by rw [p1113_.2.2 78 312 (by decide)]
      have f1119_ : (m1111_ 16 8).toInt = (m1099_ 16 8).toInt := by rw [p1113_.2.2 16 8 (by decide)]
      have f1120_ : (m1111_ 0 12).toInt = (m1099_ 0 12).toInt := by rw [p1113_.2.2 0 12 (by decide)]
      have w1121_ := p1113_.1
      have q1122_ : (m1111_ 1 1).toInt = (m1111_ 77 8).toInt := by omega
      have q1123_ : (m1111_ 7 8).toInt = (m1111_ 78 312).toInt := by omega
      have q1124_ : (m1111_ 16 8).toInt = (m1111_ 80 312).toInt := by omega
      have q1125_ : (m1111_ 0 12).toInt = (m1111_ 77 67).toInt := by omega
      have f1127_ := r_1_1 hG
      have t1126_ : TR m1111_ := TR_le hT (by omega) (funext (fun s_ => by rw [p1113_.2.2 2 s_ (outc rfl), p1101_.2.2 2 s_ (outc rfl)])) (funext (fun s_ => by rw [p1113_.2.2 84 s_ (outc rfl), p1101_.2.2 84 s_ (outc rfl)]))
      refine T_ql (i_add rfl l_7 (by omega) (by omega)) ?_
      intro x1128_ h1129_
      exact ih j r hj hr x1128_ m1111_ (by omega) (by omega) g1112_ q1122_ q1123_ q1124_ q1125_ t1126_ (by omega)
    refine T_sw rfl l_21 (fun s1130_ => ?_) (fun s1130_ => ?_)
    · refine T_qcE (t_X11_undo hn M hG) ?_
      intro r1131_ m1132_ e1135_ p1134_
      have g1133_ := p1134_.2.2.1
      have f1136_ : (m1132_ 1 1).toInt = (M 1 1).toInt := by rw [p1134_.2.2.2 1 1 (by decide)]
      have f1137_ : (m1132_ 77 8).toInt = (M 77 8).toInt := by rw [p1134_.2.2.2 77 8 (by decide)]
      have f1138_ : (m1132_ 78 312).toInt = (M 78 312).toInt := by rw [p1134_.2.2.2 78 312 (by decide)]
      have f1139_ : (m1132_ 16 8).toInt = (M 16 8).toInt := by rw [p1134_.2.2.2 16 8 (by decide)]
      have f1140_ : (m1132_ 80 312).toInt = (M 80 312).toInt := by rw [p1134_.2.2.2 80 312 (by decide)]
      have f1141_ : (m1132_ 0 12).toInt = (M 0 12).toInt := by rw [p1134_.2.2.2 0 12 (by decide)]
      have f1142_ : (m1132_ 77 67).toInt = (M 77 67).toInt := by rw [p1134_.2.2.2 77 67 (by decide)]
      have w1143_ := p1134_.2.1
      refine T_qcE (t_X12_undo hn m1132_ g1133_) ?_
      intro r1144_ m1145_ e1148_ p1147_
      have g1146_ := p1147_.2.2.1
      have f1149_ : (m1145_ 1 1).toInt = (m1132_ 1 1).toInt := by rw [p1147_.2.2.2 1 1 (by decide)]
      have f1150_ : (m1145_ 77 8).toInt = (m1132_ 77 8).toInt := by rw [p1147_.2.2.2 77 8 (by decide)]
      have f1151_ : (m1145_ 7 8).toInt = (m1132_ 7 8).toInt := by rw [p1147_.2.2.2 7 8 (by decide)]
      have f1152_ : (m1145_ 16 8).toInt = (m1132_ 16 8).toInt := by rw [p1147_.2.2.2 16 8 (by decide)]
      have f1153_ : (m1145_ 80 312).toInt = (m1132_ 80 312).toInt := by rw [p1147_.2.2.2 80 312 (by decide)]
      have f1154_ : (m1145_ 0 12).toInt = (m1132_ 0 12).toInt := by rw [p1147_.2.2.2 0 12 (by decide)]
      have f1155_ : (m1145_ 77 67).toInt = (m1132_ 77 67).toInt := by rw [p1147_.2.2.2 77 67 (by decide)]
      have w1156_ := p1147_.2.1
      have q1157_ : (m1145_ 1 1).toInt = (m1145_ 77 8).toInt := by omega
      have q1158_ : (m1145_ 7 8).toInt = (m1145_ 78 312).toInt := by omega
      have q1159_ : (m1145_ 16 8).toInt = (m1145_ 80 312).toInt := by omega
      have q1160_ : (m1145_ 0 12).toInt = (m1145_ 77 67).toInt := by omega
      have f1162_ := r_1_1 hG
      have t1161_ : TR m1145_ := TR_le hT (by omega) (funext (fun s_ => by rw [p1147_.2.2.2 2 s_ (outc rfl), p1134_.2.2.2 2 s_ (outc rfl)])) (funext (fun s_ => by rw [p1147_.2.2.2 84 s_ (outc rfl), p1134_.2.2.2 84 s_ (outc rfl)]))
      refine T_ql (i_add rfl l_7 (by omega) (by omega)) ?_
      intro x1163_ h1164_
      exact ih j r hj hr x1163_ m1145_ (by omega) (by omega) g1146_ q1157_ q1158_ q1159_ q1160_ t1161_ (by omega)
    refine T_sw rfl l_22 (fun s1165_ => ?_) (fun s1165_ => ?_)
    · refine T_qg (i_add rfl l_1 (by omega) (by omega)) (by omega) (by omega) ?_
      refine T_qg (i_add rfl l_2 (by omega) (by omega)) (by omega) (by omega) ?_
      refine T_qcE (t_X11_check hn _ _ M hG) ?_
      intro r1166_ m1167_ e1170_ p1169_
      have g1168_ := p1169_.2.2.1
      have f1171_ : (m1167_ 77 8).toInt = (M 77 8).toInt := by rw [p1169_.2.2.2 77 8 (by decide)]
      have f1172_ : (m1167_ 7 8).toInt = (M 7 8).toInt := by rw [p1169_.2.2.2 7 8 (by decide)]
      have f1173_ : (m1167_ 78 312).toInt = (M 78 312).toInt := by rw [p1169_.2.2.2 78 312 (by decide)]
      have f1174_ : (m1167_ 16 8).toInt = (M 16 8).toInt := by rw [p1169_.2.2.2 16 8 (by decide)]
      have f1175_ : (m1167_ 80 312).toInt = (M 80 312).toInt := by rw [p1169_.2.2.2 80 312 (by decide)]
      have f1176_ : (m1167_ 0 12).toInt = (M 0 12).toInt := by rw [p1169_.2.2.2 0 12 (by decide)]
      have f1177_ : (m1167_ 77 67).toInt = (M 77 67).toInt := by rw [p1169_.2.2.2 77 67 (by decide)]
      have w1178_ := p1169_.2.1
      refine T_qg (i_add rfl l_1 (by omega) (by omega)) (by omega) (by omega) ?_
      refine T_qg (i_add rfl l_2 (by omega) (by omega)) (by omega) (by omega) ?_
      refine T_qcE (t_X12_check hn _ _ m1167_ g1168_) ?_
      intro r1179_ m1180_ e1183_ p1182_
      have g1181_ := p1182_.2.2.1
      have f1184_ : (m1180_ 1 1).toInt = (m1167_ 1 1).toInt := by rw [p1182_.2.2.2 1 1 (by decide)]
      have f1185_ : (m1180_ 7 8).toInt = (m1167_ 7 8).toInt := by rw [p1182_.2.2.2 7 8 (by decide)]
      have f1186_ : (m1180_ 78 312).toInt = (m1167_ 78 312).toInt := by rw [p1182_.2.2.2 78 312 (by decide)]
      have f1187_ : (m1180_ 16 8).toInt = (m1167_ 16 8).toInt := by rw [p1182_.2.2.2 16 8 (by decide)]
      have f1188_ : (m1180_ 80 312).toInt = (m1167_ 80 312).toInt := by rw [p1182_.2.2.2 80 312 (by decide)]
      have f1189_ : (m1180_ 0 12).toInt = (m1167_ 0 12).toInt := by rw [p1182_.2.2.2 0 12 (by decide)]
      have f1190_ : (m1180_ 77 67).toInt = (m1167_ 77 67).toInt := by rw [p1182_.2.2.2 77 67 (by decide)]
      have w1191_ := p1182_.2.1
      have b1192_ : m1167_ 78 312 = M 7 8 := Int32.toInt_inj.mp (by omega)
      rw [b1192_] at w1191_
      have q1193_ : (m1180_ 1 1).toInt = (m1180_ 77 8).toInt := by omega
      have q1194_ : (m1180_ 7 8).toInt = (m1180_ 78 312).toInt := by omega
      have q1195_ : (m1180_ 16 8).toInt = (m1180_ 80 312).toInt := by omega
      have q1196_ : (m1180_ 0 12).toInt = (m1180_ 77 67).toInt := by omega
      have f1198_ := r_1_1 hG
      have t1197_ : TR m1180_ := TR_le hT (by omega) (funext (fun s_ => by rw [p1182_.2.2.2 2 s_ (outc rfl), p1169_.2.2.2 2 s_ (outc rfl)])) (funext (fun s_ => by rw [p1182_.2.2.2 84 s_ (outc rfl), p1169_.2.2.2 84 s_ (outc rfl)]))
      refine T_ql (i_add rfl l_7 (by omega) (by omega)) ?_
      intro x1199_ h1200_
      exact ih j r hj hr x1199_ m1180_ (by omega) (by omega) g1181_ q1193_ q1194_ q1195_ q1196_ t1197_ (by omega)
    refine T_sw rfl l_23 (fun s1201_ => ?_) (fun s1201_ => ?_)
    · refine T_qg (i_add rfl l_1 (by omega) (by omega)) (by omega) (by omega) ?_
      refine T_qcE (t_X11_count hn hj _ M hG) ?_
      intro r1202_ m1203_ e1206_ p1205_
      have g1204_ := p1205_.1
      have f1207_ : (m1203_ 1 1).toInt = (M 1 1).toInt := by rw [p1205_.2 1 1 (by decide)]
      have f1208_ : (m1203_ 77 8).toInt = (M 77 8).toInt := by rw [p1205_.2 77 8 (by decide)]
      have f1209_ : (m1203_ 7 8).toInt = (M 7 8).toInt := by rw [p1205_.2 7 8 (by decide)]
      have f1210_ : (m1203_ 78 312).toInt = (M 78 312).toInt := by rw [p1205_.2 78 312 (by decide)]
      have f1211_ : (m1203_ 16 8).toInt = (M 16 8).toInt := by rw [p1205_.2 16 8 (by decide)]
      have f1212_ : (m1203_ 80 312).toInt = (M 80 312).toInt := by rw [p1205_.2 80 312 (by decide)]
      have f1213_ : (m1203_ 0 12).toInt = (M 0 12).toInt := by rw [p1205_.2 0 12 (by decide)]
      have f1214_ : (m1203_ 77 67).toInt = (M 77 67).toInt := by rw [p1205_.2 77 67 (by decide)]
      refine T_qg (i_add rfl l_1 (by omega) (by omega)) (by omega) (by omega) ?_
      refine T_qcE (t_X12_count hn _ m1203_ g1204_) ?_
      intro r1215_ m1216_ e1219_ p1218_
      have g1217_ := p1218_.1
      have f1220_ : (m1216_ 1 1).toInt = (m1203_ 1 1).toInt := by rw [p1218_.2 1 1 (by decide)]
      have f1221_ : (m1216_ 77 8).toInt = (m1203_ 77 8).toInt := by rw [p1218_.2 77 8 (by decide)]
      have f1222_ : (m1216_ 7 8).toInt = (m1203_ 7 8).toInt := by rw [p1218_.2 7 8 (by decide)]
      have f1223_ : (m1216_ 78 312).toInt = (m1203_ 78 312).toInt := by rw [p1218_.2 78 312 (by decide)]
      have f1224_ : (m1216_ 16 8).toInt = (m1203_ 16 8).toInt := by rw [p1218_.2 16 8 (by decide)]
      have f1225_ : (m1216_ 80 312).toInt = (m1203_ 80 312).toInt := by rw [p1218_.2 80 312 (by decide)]
      have f1226_ : (m1216_ 0 12).toInt = (m1203_ 0 12).toInt := by rw [p1218_.2 0 12 (by decide)]
      have f1227_ : (m1216_ 77 67).toInt = (m1203_ 77 67).toInt := by rw [p1218_.2 77 67 (by decide)]
      have q1228_ : (m1216_ 1 1).toInt = (m1216_ 77 8).toInt := by omega
      have q1229_ : (m1216_ 7 8).toInt = (m1216_ 78 312).toInt := by omega
      have q1230_ : (m1216_ 16 8).toInt = (m1216_ 80 312).toInt := by omega
      have q1231_ : (m1216_ 0 12).toInt = (m1216_ 77 67).toInt := by omega
      have f1233_ := r_1_1 hG
      have t1232_ : TR m1216_ := TR_le hT (by omega) (funext (fun s_ => by rw [p1218_.2 2 s_ (outc rfl), p1205_.2 2 s_ (outc rfl)])) (funext (fun s_ => by rw [p1218_.2 84 s_ (outc rfl), p1205_.2 84 s_ (outc rfl)]))
      refine T_ql (i_add rfl l_7 (by omega) (by omega)) ?_
      intro x1234_ h1235_
      exact ih j r hj hr x1234_ m1216_ (by omega) (by omega) g1217_ q1228_ q1229_ q1230_ q1231_ t1232_ (by omega)
    refine T_sw0 ?_
    refine T_ql (i_add rfl l_7 (by omega) (by omega)) ?_
    intro x1236_ h1237_
    exact ih j r hj hr x1236_ M (by omega) (by omega) hG hR0 hR1 hR2 hR3 hT (by omega)
theorem pure_all : qPure := by
  intro g hN
  obtain ⟨M0, e, hF, hG⟩ := freshG
  obtain ⟨v, M', e2, hv⟩ := L_go (n := 200000) (Nat.le_refl _) g hN 4000 37 46 (Or.inl rfl) (Or.inr rfl) 0 M0 (by decide) (by decide) hG (by rw [hF.1 1 1 (by decide), hF.1 77 8 (by decide)]) (by rw [hF.1 7 8 (by decide), hF.2.1 312 (by decide)]) (by rw [hF.1 16 8 (by decide), hF.2.2 80 312 (by decide) (by decide) (by decide) (by decide)]) (by rw [hF.1 0 12 (by decide), hF.1 77 67 (by decide)]) (fun i hi => absurd hi (by rw [hF.1 1 1 (by decide)]; have z : ((0 : Int32).toInt : Int) = 0 := rfl; omega)) (by have z : ((0 : Int32).toInt : Int) = 0 := rfl; omega)
  subst hv
  exact ⟨200000, 4000, M0, M', e, e2⟩
