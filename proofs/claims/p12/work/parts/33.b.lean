theorem T_qcE {F : qR} {f : Int32 → qM → qR} {P Q : Int32 → qM → Prop} (h : qT F Q) (k : ∀ v m, F = some (v, m) → Q v m → qT (f v m) P) : qT (qc F f) P := by
  obtain ⟨v, M, e, p⟩ := h
  have := k v M e p
  rw [e, qc_v]
  exact this
abbrev l_law : List Bx := [(1, 2, 1, 5), (37, 53, 0, 0)]
abbrev LQ (a1 : Int32) (M m : qM) : Prop := G m ∧ Sm l_law M m ∧ (((1 ≤ a1.toInt ∧ a1.toInt ≤ 240 ∧ a1.toInt ≤ (M 1 1).toInt) ∧ (m 1 1).toInt = 0) ∨ (¬ (1 ≤ a1.toInt ∧ a1.toInt ≤ 240 ∧ a1.toInt ≤ (M 1 1).toInt) ∧ (m 1 1).toInt = (M 1 1).toInt))
theorem T_qc2s {a1 : Int32} {M : qM} {F1 F2 : qR} {E1 E2 : Int32 → qM → qR} {P : Int32 → qM → Prop} (h : (∃ v m, F1 = some (v, m) ∧ LQ a1 M m) ∨ (F1 = none ∧ ∃ v m, F2 = some (v, m) ∧ LQ a1 M m)) (h1 : ∀ v m, F1 = some (v, m) → LQ a1 M m → qT (E1 v m) P) (h2 : ∀ v m, F2 = some (v, m) → LQ a1 M m → qT (E2 v m) P) : qT (qc2 F1 F2 E1 E2) P := by
  rcases h with ⟨v, m, e, g⟩ | ⟨e, v, m, e2, g⟩
  · have := h1 v m e g
    rw [e]; exact this
  · have := h2 v m e2 g
    rw [e, e2]; exact this
theorem law_tots {n : Nat} (hn : 200000 ≤ n) {j r : Nat} (hr : q_isLaw r) (a1 : Int32) (M : qM) (hG : G M) : (∃ v m, f_X11_law n j r a1 M = some (v, m) ∧ LQ a1 M m) ∨ (f_X11_law n j r a1 M = none ∧ ∃ v m, f_X11_lawS n j r a1 M = some (v, m) ∧ LQ a1 M m) := by
  unfold f_X11_law f_X11_lawS
  by_cases c1 : a1 < (1 : Int32)
  · rw [if_pos c1]; rw [Int32.lt_iff_toInt_lt] at c1; have z1 : (1 : Int32).toInt = 1 := rfl; exact Or.inl ⟨_, _, rfl, hG, Sm.rf, Or.inr ⟨by omega, rfl⟩⟩
  · rw [if_neg c1, if_neg c1]
    by_cases c2 : (240 : Int32) < a1
    · rw [if_pos c2]; rw [Int32.lt_iff_toInt_lt] at c2; have z1 : (240 : Int32).toInt = 240 := rfl; exact Or.inl ⟨_, _, rfl, hG, Sm.rf, Or.inr ⟨by omega, rfl⟩⟩
    · rw [if_neg c2, if_neg c2]
      by_cases c3 : a1 ≤ M 1 1
      · rw [if_pos c3, if_pos c3]
        rw [Int32.lt_iff_toInt_lt] at c1 c2
        rw [Int32.le_iff_toInt_le] at c3
        have z1 : (1 : Int32).toInt = 1 := rfl
        have z2 : (240 : Int32).toInt = 240 := rfl
        obtain ⟨v, m2, e, p⟩ := t_X4_read hn hr a1 M hG (by omega)
        obtain ⟨v3, m3, e3, p3⟩ := t_X9_clear hn m2 (p.1)
        have hs : Sm l_law M m3 := (Sm.mono (p.2) rfl).tr (Sm.mono (p3.2.2.2) rfl)
        have hz := p3.2.1
        rw [e, qc_v, qc_v, e3, qc_v, qc_v]
        by_cases c4 : v ≤ (0 : Int32)
        · rw [if_pos c4]; exact Or.inl ⟨_, _, rfl, p3.2.2.1, hs, Or.inl ⟨by omega, hz⟩⟩
        · rw [if_neg c4, if_neg c4]; exact Or.inr ⟨rfl, _, _, rfl, p3.2.2.1, hs, Or.inl ⟨by omega, hz⟩⟩
      · rw [if_neg c3]; rw [Int32.le_iff_toInt_le] at c3; exact Or.inl ⟨_, _, rfl, hG, Sm.rf, Or.inr ⟨by omega, rfl⟩⟩
theorem ofN {k : Nat} (h : k ≤ 3584) : (Int32.ofNat k).toInt = (k : Int) := nI_toInt (by omega)
set_option maxRecDepth 8000 in
set_option maxHeartbeats 4000000 in
theorem L_go {n : Nat} (hn : 200000 ≤ n) (g : qG) (hN : g.2.2.2.2.2.1 ≤ 3584) : ∀ (m j r : Nat), q_isLaw j → q_isLaw r → j ≠ r → ∀ (a3 : Int32) (M : qM), 0 ≤ a3.toInt → a3.toInt ≤ 3600 → G M → (M 1 1).toInt = (M 77 8).toInt → (M 7 8).toInt = (M 78 312).toInt → (M 16 8).toInt = (M 80 312).toInt → (M 0 12).toInt = (M 77 67).toInt → (M 7 9).toInt = (M 78 313).toInt → (M 16 9).toInt = (M 80 313).toInt → TR M → KD M M → LR j M M → 3700 - a3.toInt < (m : Int) → qT (f_L_law g n m j r a3 M) (fun v _ => v = 1) := by
  intro m
  induction m with
  | zero => intro j r _ _ _ a3 M _ _ _ _ _ _ _ _ _ _ _ _ h; exfalso; omega
  | succ m ih =>
    intro j r hj hr hjr a3 M h0 h1 hG hR0 hR1 hR2 hR3 hR4 hR5 hT hD hL hm
    show qT (b_L_law g n j r (f_L_law g n m j r) (f_L_law g n m r j) a3 M) _
    unfold b_L_law
    refine T_lt (i_sub (ofN hN) l_7 (by omega) (by omega)) rfl (fun c => T_ret rfl) (fun c => ?_)
    refine T_qg rfl (by omega) (by omega) ?_
    refine T_sw rfl l_0 (fun s1_ => ?_) (fun s1_ => ?_)
    · refine T_qg (i_add rfl l_1 (by omega) (by omega)) (by omega) (by omega) ?_
      refine T_qg (i_add rfl l_2 (by omega) (by omega)) (by omega) (by omega) ?_
      refine T_qg (i_add rfl l_3 (by omega) (by omega)) (by omega) (by omega) ?_
      refine T_qg (i_add rfl l_4 (by omega) (by omega)) (by omega) (by omega) ?_
      refine T_qcE (t_X11_kind hn _ _ _ _ M hG) ?_
      intro r2_ m3_ e6_ p5_
      have g4_ := p5_.2.1
      have f7_ : (m3_ 1 1).toInt = (M 1 1).toInt := by rw [p5_.2.2 1 1 (by decide)]
      have f8_ : (m3_ 77 8).toInt = (M 77 8).toInt := by rw [p5_.2.2 77 8 (by decide)]
      have f9_ : (m3_ 7 8).toInt = (M 7 8).toInt := by rw [p5_.2.2 7 8 (by decide)]
      have f10_ : (m3_ 78 312).toInt = (M 78 312).toInt := by rw [p5_.2.2 78 312 (by decide)]
      have f11_ : (m3_ 16 8).toInt = (M 16 8).toInt := by rw [p5_.2.2 16 8 (by decide)]
      have f12_ : (m3_ 80 312).toInt = (M 80 312).toInt := by rw [p5_.2.2 80 312 (by decide)]
      have f13_ : (m3_ 0 12).toInt = (M 0 12).toInt := by rw [p5_.2.2 0 12 (by decide)]
      have f14_ : (m3_ 77 67).toInt = (M 77 67).toInt := by rw [p5_.2.2 77 67 (by decide)]
      have f15_ : (m3_ 7 9).toInt = (M 7 9).toInt := by rw [p5_.2.2 7 9 (by decide)]
      have f16_ : (m3_ 78 313).toInt = (M 78 313).toInt := by rw [p5_.2.2 78 313 (by decide)]
      have f17_ : (m3_ 16 9).toInt = (M 16 9).toInt := by rw [p5_.2.2 16 9 (by decide)]
      have f18_ : (m3_ 80 313).toInt = (M 80 313).toInt := by rw [p5_.2.2 80 313 (by decide)]
      have l19_ : LR j m3_ m3_ := LR_S hj hL (p5_.2.2) rfl rfl (p5_.2.2 77 17 (by decide))
      refine T_qg (i_add rfl l_1 (by omega) (by omega)) (by omega) (by omega) ?_
      refine T_qg (i_add rfl l_2 (by omega) (by omega)) (by omega) (by omega) ?_
      refine T_qg (i_add rfl l_3 (by omega) (by omega)) (by omega) (by omega) ?_
      refine T_qg (i_add rfl l_4 (by omega) (by omega)) (by omega) (by omega) ?_
      refine T_qcE (t_X12_kind hn _ _ _ _ m3_ g4_) ?_
      intro r20_ m21_ e24_ p23_
      have g22_ := p23_.2.1
      have f25_ : (m21_ 1 1).toInt = (m3_ 1 1).toInt := by rw [p23_.2.2 1 1 (by decide)]
      have f26_ : (m21_ 77 8).toInt = (m3_ 77 8).toInt := by rw [p23_.2.2 77 8 (by decide)]
      have f27_ : (m21_ 7 8).toInt = (m3_ 7 8).toInt := by rw [p23_.2.2 7 8 (by decide)]
      have f28_ : (m21_ 78 312).toInt = (m3_ 78 312).toInt := by rw [p23_.2.2 78 312 (by decide)]
      have f29_ : (m21_ 16 8).toInt = (m3_ 16 8).toInt := by rw [p23_.2.2 16 8 (by decide)]
      have f30_ : (m21_ 80 312).toInt = (m3_ 80 312).toInt := by rw [p23_.2.2 80 312 (by decide)]
      have f31_ : (m21_ 0 12).toInt = (m3_ 0 12).toInt := by rw [p23_.2.2 0 12 (by decide)]
      have f32_ : (m21_ 77 67).toInt = (m3_ 77 67).toInt := by rw [p23_.2.2 77 67 (by decide)]
      have f33_ : (m21_ 7 9).toInt = (m3_ 7 9).toInt := by rw [p23_.2.2 7 9 (by decide)]
      have f34_ : (m21_ 78 313).toInt = (m3_ 78 313).toInt := by rw [p23_.2.2 78 313 (by decide)]
      have f35_ : (m21_ 16 9).toInt = (m3_ 16 9).toInt := by rw [p23_.2.2 16 9 (by decide)]
      have f36_ : (m21_ 80 313).toInt = (m3_ 80 313).toInt := by rw [p23_.2.2 80 313 (by decide)]
      have l37_ : LR j m21_ m21_ := LR_S hj l19_ (p23_.2.2) rfl rfl (p23_.2.2 77 17 (by decide))
      have d38_ : KD m21_ m21_ := (kind_st hD e6_ e24_).2
      have q39_ : (m21_ 1 1).toInt = (m21_ 77 8).toInt := by omega
      have q40_ : (m21_ 7 8).toInt = (m21_ 78 312).toInt := by omega
      have q41_ : (m21_ 16 8).toInt = (m21_ 80 312).toInt := by omega
      have q42_ : (m21_ 0 12).toInt = (m21_ 77 67).toInt := by omega
      have q43_ : (m21_ 7 9).toInt = (m21_ 78 313).toInt := by omega
      have q44_ : (m21_ 16 9).toInt = (m21_ 80 313).toInt := by omega
      have f46_ := r_1_1 hG
      have t45_ : TR m21_ := TR_le hT (by omega) (funext (fun s_ => by rw [p23_.2.2 2 s_ (outc rfl), p5_.2.2 2 s_ (outc rfl)])) (funext (fun s_ => by rw [p23_.2.2 84 s_ (outc rfl), p5_.2.2 84 s_ (outc rfl)]))
      refine T_ql (i_add rfl l_7 (by omega) (by omega)) ?_
      intro x47_ h48_
      exact ih j r hj hr hjr x47_ m21_ (by omega) (by omega) g22_ q39_ q40_ q41_ q42_ q43_ q44_ t45_ d38_ l37_ (by omega)
    refine T_sw rfl l_1 (fun s49_ => ?_) (fun s49_ => ?_)
    · refine T_qg (i_add rfl l_1 (by omega) (by omega)) (by omega) (by omega) ?_
      refine T_qg (i_add rfl l_2 (by omega) (by omega)) (by omega) (by omega) ?_
      refine T_qcE (t_X11_person hn _ _ M hG) ?_
      intro r50_ m51_ e54_ p53_
      have g52_ := p53_.2.2.1
      have f55_ : (m51_ 1 1).toInt = (M 1 1).toInt := by rw [p53_.2.2.2 1 1 (by decide)]
      have f56_ : (m51_ 77 8).toInt = (M 77 8).toInt := by rw [p53_.2.2.2 77 8 (by decide)]
      have f57_ : (m51_ 78 312).toInt = (M 78 312).toInt := by rw [p53_.2.2.2 78 312 (by decide)]
      have f58_ : (m51_ 16 8).toInt = (M 16 8).toInt := by rw [p53_.2.2.2 16 8 (by decide)]
      have f59_ : (m51_ 80 312).toInt = (M 80 312).toInt := by rw [p53_.2.2.2 80 312 (by decide)]
      have f60_ : (m51_ 0 12).toInt = (M 0 12).toInt := by rw [p53_.2.2.2 0 12 (by decide)]
      have f61_ : (m51_ 77 67).toInt = (M 77 67).toInt := by rw [p53_.2.2.2 77 67 (by decide)]
      have f62_ : (m51_ 7 9).toInt = (M 7 9).toInt := by rw [p53_.2.2.2 7 9 (by decide)]
      have f63_ : (m51_ 78 313).toInt = (M 78 313).toInt := by rw [p53_.2.2.2 78 313 (by decide)]
      have f64_ : (m51_ 16 9).toInt = (M 16 9).toInt := by rw [p53_.2.2.2 16 9 (by decide)]
      have f65_ : (m51_ 80 313).toInt = (M 80 313).toInt := by rw [p53_.2.2.2 80 313 (by decide)]
      have w66_ := p53_.2.1
      have d67_ : KD m51_ m51_ := KD_S hD (p53_.2.2.2) (p53_.2.2.2 3 3 (by decide)) (p53_.2.2.2 77 6 (by decide)) rfl
      have l68_ : LR j m51_ m51_ := LR_S hj hL (p53_.2.2.2) rfl rfl (p53_.2.2.2 77 17 (by decide))
      refine T_qg (i_add rfl l_1 (by omega) (by omega)) (by omega) (by omega) ?_
      refine T_qg (i_add rfl l_2 (by omega) (by omega)) (by omega) (by omega) ?_
      refine T_qcE (t_X12_person hn _ _ m51_ g52_) ?_
      intro r69_ m70_ e73_ p72_
      have g71_ := p72_.2.2.1
      have f74_ : (m70_ 1 1).toInt = (m51_ 1 1).toInt := by rw [p72_.2.2.2 1 1 (by decide)]
      have f75_ : (m70_ 77 8).toInt = (m51_ 77 8).toInt := by rw [p72_.2.2.2 77 8 (by decide)]
      have f76_ : (m70_ 7 8).toInt = (m51_ 7 8).toInt := by rw [p72_.2.2.2 7 8 (by decide)]
      have f77_ : (m70_ 16 8).toInt = (m51_ 16 8).toInt := by rw [p72_.2.2.2 16 8 (by decide)]
      have f78_ : (m70_ 80 312).toInt = (m51_ 80 312).toInt := by rw [p72_.2.2.2 80 312 (by decide)]
      have f79_ : (m70_ 0 12).toInt = (m51_ 0 12).toInt := by rw [p72_.2.2.2 0 12 (by decide)]
      have f80_ : (m70_ 77 67).toInt = (m51_ 77 67).toInt := by rw [p72_.2.2.2 77 67 (by decide)]
      have f81_ : (m70_ 7 9).toInt = (m51_ 7 9).toInt := by rw [p72_.2.2.2 7 9 (by decide)]
      have f82_ : (m70_ 78 313).toInt = (m51_ 78 313).toInt := by rw [p72_.2.2.2 78 313 (by decide)]
      have f83_ : (m70_ 16 9).toInt = (m51_ 16 9).toInt := by rw [p72_.2.2.2 16 9 (by decide)]
      have f84_ : (m70_ 80 313).toInt = (m51_ 80 313).toInt := by rw [p72_.2.2.2 80 313 (by decide)]
      have w85_ := p72_.2.1
      have d86_ : KD m70_ m70_ := KD_S d67_ (p72_.2.2.2) (p72_.2.2.2 3 3 (by decide)) (p72_.2.2.2 77 6 (by decide)) rfl
      have l87_ : LR j m70_ m70_ := LR_S hj l68_ (p72_.2.2.2) rfl rfl (p72_.2.2.2 77 17 (by decide))
      have b88_ : m51_ 78 312 = M 7 8 := Int32.toInt_inj.mp (by omega)
      rw [b88_] at w85_
      have q89_ : (m70_ 1 1).toInt = (m70_ 77 8).toInt := by omega
      have q90_ : (m70_ 7 8).toInt = (m70_ 78 312).toInt := by omega
      have q91_ : (m70_ 16 8).toInt = (m70_ 80 312).toInt := by omega
      have q92_ : (m70_ 0 12).toInt = (m70_ 77 67).toInt := by omega
      have q93_ : (m70_ 7 9).toInt = (m70_ 78 313).toInt := by omega
      have q94_ : (m70_ 16 9).toInt = (m70_ 80 313).toInt := by omega
      have f96_ := r_1_1 hG
      have t95_ : TR m70_ := TR_le hT (by omega) (funext (fun s_ => by rw [p72_.2.2.2 2 s_ (outc rfl), p53_.2.2.2 2 s_ (outc rfl)])) (funext (fun s_ => by rw [p72_.2.2.2 84 s_ (outc rfl), p53_.2.2.2 84 s_ (outc rfl)]))
      refine T_ql (i_add rfl l_7 (by omega) (by omega)) ?_
      intro x97_ h98_
      exact ih j r hj hr hjr x97_ m70_ (by omega) (by omega) g71_ q89_ q90_ q91_ q92_ q93_ q94_ t95_ d86_ l87_ (by omega)
    refine T_sw rfl l_2 (fun s99_ => ?_) (fun s99_ => ?_)
    · refine T_qg (i_add rfl l_1 (by omega) (by omega)) (by omega) (by omega) ?_
      refine T_qg (i_add rfl l_2 (by omega) (by omega)) (by omega) (by omega) ?_
      refine T_qg (i_add rfl l_3 (by omega) (by omega)) (by omega) (by omega) ?_
      refine T_qg (i_add rfl l_4 (by omega) (by omega)) (by omega) (by omega) ?_
      refine T_qg (i_add rfl l_5 (by omega) (by omega)) (by omega) (by omega) ?_
      refine T_qcE (t_X11_feed hn _ _ _ _ _ M hG) ?_
      intro r100_ m101_ e104_ p103_
      have g102_ := p103_.2.2.1
      have f105_ : (m101_ 77 8).toInt = (M 77 8).toInt := by rw [p103_.2.2.2 77 8 (by decide)]
      have f106_ : (m101_ 7 8).toInt = (M 7 8).toInt := by rw [p103_.2.2.2 7 8 (by decide)]
      have f107_ : (m101_ 78 312).toInt = (M 78 312).toInt := by rw [p103_.2.2.2 78 312 (by decide)]
      have f108_ : (m101_ 16 8).toInt = (M 16 8).toInt := by rw [p103_.2.2.2 16 8 (by decide)]
      have f109_ : (m101_ 80 312).toInt = (M 80 312).toInt := by rw [p103_.2.2.2 80 312 (by decide)]
      have f110_ : (m101_ 0 12).toInt = (M 0 12).toInt := by rw [p103_.2.2.2 0 12 (by decide)]
      have f111_ : (m101_ 77 67).toInt = (M 77 67).toInt := by rw [p103_.2.2.2 77 67 (by decide)]
      have f112_ : (m101_ 7 9).toInt = (M 7 9).toInt := by rw [p103_.2.2.2 7 9 (by decide)]
      have f113_ : (m101_ 78 313).toInt = (M 78 313).toInt := by rw [p103_.2.2.2 78 313 (by decide)]
      have f114_ : (m101_ 16 9).toInt = (M 16 9).toInt := by rw [p103_.2.2.2 16 9 (by decide)]
      have f115_ : (m101_ 80 313).toInt = (M 80 313).toInt := by rw [p103_.2.2.2 80 313 (by decide)]
      have w116_ := p103_.2.1
      have d117_ : KD m101_ m101_ := KD_S hD (p103_.2.2.2) (p103_.2.2.2 3 3 (by decide)) (p103_.2.2.2 77 6 (by decide)) rfl
      have l118_ : LR j m101_ m101_ := LR_S hj hL (p103_.2.2.2) rfl rfl (p103_.2.2.2 77 17 (by decide))
      refine T_qg (i_add rfl l_1 (by omega) (by omega)) (by omega) (by omega) ?_
      refine T_qg (i_add rfl l_2 (by omega) (by omega)) (by omega) (by omega) ?_
      refine T_qg (i_add rfl l_3 (by omega) (by omega)) (by omega) (by omega) ?_
      refine T_qg (i_add rfl l_4 (by omega) (by omega)) (by omega) (by omega) ?_
      refine T_qg (i_add rfl l_5 (by omega) (by omega)) (by omega) (by omega) ?_
      refine T_qcE (t_X12_feed hn _ _ _ _ _ m101_ g102_) ?_
      intro r119_ m120_ e123_ p122_
      have g121_ := p122_.2.2.1
      have f124_ : (m120_ 1 1).toInt = (m101_ 1 1).toInt := by rw [p122_.2.2.2 1 1 (by decide)]
      have f125_ : (m120_ 7 8).toInt = (m101_ 7 8).toInt := by rw [p122_.2.2.2 7 8 (by decide)]
      have f126_ : (m120_ 78 312).toInt = (m101_ 78 312).toInt := by rw [p122_.2.2.2 78 312 (by decide)]
      have f127_ : (m120_ 16 8).toInt = (m101_ 16 8).toInt := by rw [p122_.2.2.2 16 8 (by decide)]
      have f128_ : (m120_ 80 312).toInt = (m101_ 80 312).toInt := by rw [p122_.2.2.2 80 312 (by decide)]
      have f129_ : (m120_ 0 12).toInt = (m101_ 0 12).toInt := by rw [p122_.2.2.2 0 12 (by decide)]
      have f130_ : (m120_ 77 67).toInt = (m101_ 77 67).toInt := by rw [p122_.2.2.2 77 67 (by decide)]
      have f131_ : (m120_ 7 9).toInt = (m101_ 7 9).toInt := by rw [p122_.2.2.2 7 9 (by decide)]
      have f132_ : (m120_ 78 313).toInt = (m101_ 78 313).toInt := by rw [p122_.2.2.2 78 313 (by decide)]
      have f133_ : (m120_ 16 9).toInt = (m101_ 16 9).toInt := by rw [p122_.2.2.2 16 9 (by decide)]
      have f134_ : (m120_ 80 313).toInt = (m101_ 80 313).toInt := by rw [p122_.2.2.2 80 313 (by decide)]
      have w135_ := p122_.2.1
      have d136_ : KD m120_ m120_ := KD_S d117_ (p122_.2.2.2) (p122_.2.2.2 3 3 (by decide)) (p122_.2.2.2 77 6 (by decide)) rfl
      have l137_ : LR j m120_ m120_ := LR_S hj l118_ (p122_.2.2.2) rfl rfl (p122_.2.2.2 77 17 (by decide))
      have q138_ : (m120_ 1 1).toInt = (m120_ 77 8).toInt := by omega
      have q139_ : (m120_ 7 8).toInt = (m120_ 78 312).toInt := by omega
      have q140_ : (m120_ 16 8).toInt = (m120_ 80 312).toInt := by omega
      have q141_ : (m120_ 0 12).toInt = (m120_ 77 67).toInt := by omega
      have q142_ : (m120_ 7 9).toInt = (m120_ 78 313).toInt := by omega
      have q143_ : (m120_ 16 9).toInt = (m120_ 80 313).toInt := by omega
      have t144_ : TR m120_ := feed_TR hn hG hT hR0 e104_ e123_
      refine T_ql (i_add rfl l_7 (by omega) (by omega)) ?_
      intro x145_ h146_
      exact ih j r hj hr hjr x145_ m120_ (by omega) (by omega) g121_ q138_ q139_ q140_ q141_ q142_ q143_ t144_ d136_ l137_ (by omega)
    refine T_sw rfl l_3 (fun s147_ => ?_) (fun s147_ => ?_)
    · refine T_qg (i_add rfl l_1 (by omega) (by omega)) (by omega) (by omega) ?_
      refine T_qc2s (law_tots hn hr _ M hG) (fun v_ m_ ee_ p_ => ?_) (fun v_ m_ ee_ p_ => ?_)
      · have f148_ : (m_ 77 8).toInt = (M 77 8).toInt := by rw [p_.2.1 77 8 (by decide)]
        have f149_ : (m_ 7 8).toInt = (M 7 8).toInt := by rw [p_.2.1 7 8 (by decide)]
        have f150_ : (m_ 78 312).toInt = (M 78 312).toInt := by rw [p_.2.1 78 312 (by decide)]
        have f151_ : (m_ 16 8).toInt = (M 16 8).toInt := by rw [p_.2.1 16 8 (by decide)]
        have f152_ : (m_ 80 312).toInt = (M 80 312).toInt := by rw [p_.2.1 80 312 (by decide)]
        have f153_ : (m_ 0 12).toInt = (M 0 12).toInt := by rw [p_.2.1 0 12 (by decide)]
        have f154_ : (m_ 77 67).toInt = (M 77 67).toInt := by rw [p_.2.1 77 67 (by decide)]
        have f155_ : (m_ 7 9).toInt = (M 7 9).toInt := by rw [p_.2.1 7 9 (by decide)]
        have f156_ : (m_ 78 313).toInt = (M 78 313).toInt := by rw [p_.2.1 78 313 (by decide)]
        have f157_ : (m_ 16 9).toInt = (M 16 9).toInt := by rw [p_.2.1 16 9 (by decide)]
        have f158_ : (m_ 80 313).toInt = (M 80 313).toInt := by rw [p_.2.1 80 313 (by decide)]
        have w159_ := p_.2.2
        have d160_ : KD m_ m_ := KD_S hD (p_.2.1) (p_.2.1 3 3 (by decide)) (p_.2.1 77 6 (by decide)) rfl
        refine T_qg (i_add rfl l_1 (by omega) (by omega)) (by omega) (by omega) ?_
        refine T_qcE (t_X12_law hn _ m_ p_.1) ?_
        intro r161_ m162_ e165_ p164_
        have g163_ := p164_.1
        have f166_ : (m162_ 1 1).toInt = (m_ 1 1).toInt := by rw [show m162_ 1 1 = m_ 1 1 from congrFun (p164_.2.1.2 1 (by decide) (by decide)) 1]
        have f167_ : (m162_ 7 8).toInt = (m_ 7 8).toInt := by rw [show m162_ 7 8 = m_ 7 8 from congrFun (p164_.2.1.2 7 (by decide) (by decide)) 8]
        have f168_ : (m162_ 78 312).toInt = (m_ 78 312).toInt := by rw [show m162_ 78 312 = m_ 78 312 from congrFun (p164_.2.1.2 78 (by decide) (by decide)) 312]
        have f169_ : (m162_ 16 8).toInt = (m_ 16 8).toInt := by rw [show m162_ 16 8 = m_ 16 8 from congrFun (p164_.2.1.2 16 (by decide) (by decide)) 8]
        have f170_ : (m162_ 80 312).toInt = (m_ 80 312).toInt := by rw [show m162_ 80 312 = m_ 80 312 from congrFun (p164_.2.1.2 80 (by decide) (by decide)) 312]
        have f171_ : (m162_ 0 12).toInt = (m_ 0 12).toInt := by rw [show m162_ 0 12 = m_ 0 12 from congrFun (p164_.2.1.2 0 (by decide) (by decide)) 12]
        have f172_ : (m162_ 77 67).toInt = (m_ 77 67).toInt := by rw [show m162_ 77 67 = m_ 77 67 from p164_.2.1.1 67 (by decide)]
        have f173_ : (m162_ 7 9).toInt = (m_ 7 9).toInt := by rw [show m162_ 7 9 = m_ 7 9 from congrFun (p164_.2.1.2 7 (by decide) (by decide)) 9]
        have f174_ : (m162_ 78 313).toInt = (m_ 78 313).toInt := by rw [show m162_ 78 313 = m_ 78 313 from congrFun (p164_.2.1.2 78 (by decide) (by decide)) 313]
        have f175_ : (m162_ 16 9).toInt = (m_ 16 9).toInt := by rw [show m162_ 16 9 = m_ 16 9 from congrFun (p164_.2.1.2 16 (by decide) (by decide)) 9]
        have f176_ : (m162_ 80 313).toInt = (m_ 80 313).toInt := by rw [show m162_ 80 313 = m_ 80 313 from congrFun (p164_.2.1.2 80 (by decide) (by decide)) 313]
        have w177_ := p164_.2.2
        have q178_ : (m162_ 1 1).toInt = (m162_ 77 8).toInt := by omega
        have q179_ : (m162_ 7 8).toInt = (m162_ 78 312).toInt := by omega
        have q180_ : (m162_ 16 8).toInt = (m162_ 80 312).toInt := by omega
        have q181_ : (m162_ 0 12).toInt = (m162_ 77 67).toInt := by omega
        have q182_ : (m162_ 7 9).toInt = (m162_ 78 313).toInt := by omega
        have q183_ : (m162_ 16 9).toInt = (m162_ 80 313).toInt := by omega
        have f185_ := r_1_1 hG
        have t184_ : TR m162_ := TR_le hT (by omega) (by rw [p164_.2.1.2 2 (by decide) (by decide)]; exact funext (fun s_ => p_.2.1 2 s_ (outc rfl))) (by rw [p164_.2.1.2 84 (by decide) (by decide)]; exact funext (fun s_ => p_.2.1 84 s_ (outc rfl)))
        have d186_ : KD m162_ m162_ := KD_cg d160_ (by rw [p164_.2.1.2 3 (by decide) (by decide)]) (by rw [p164_.2.1.1 6 (by decide)]) (fun q_ _ => by rw [p164_.2.1.2 4 (by decide) (by decide)]) (fun q_ _ => by rw [p164_.2.1.2 5 (by decide) (by decide)]) (fun q_ _ => by rw [p164_.2.1.2 6 (by decide) (by decide)]) (fun q_ _ => by rw [p164_.2.1.2 81 (by decide) (by decide)]) (fun q_ _ => by rw [p164_.2.1.2 82 (by decide) (by decide)]) (fun q_ _ => by rw [p164_.2.1.2 83 (by decide) (by decide)])
        have l187_ : LR j m162_ m162_ := by
          have l_ := ((law_st hn hj hr hjr hG p_.1 hT (by omega) (funext (fun s_ => p_.2.1 84 s_ (outc rfl))) (fun c_ h1_ h2_ => funext (fun s_ => p_.2.1 c_ s_ (out77 (by omega) rfl))) (p_.2.1 77 17 (by decide)) hL e165_).1 ee_).2
          exact LR_cg l_ (fun k_ hk_ => p164_.2.1.2 _ (by rcases hj with rfl | rfl <;> rcases hr with rfl | rfl <;> omega) (by rcases hj with rfl | rfl <;> rcases hr with rfl | rfl <;> omega)) (fun _ _ _ => rfl) rfl
        refine T_ql (i_add rfl l_7 (by omega) (by omega)) ?_
        intro x188_ h189_
        exact ih j r hj hr hjr x188_ m162_ (by omega) (by omega) g163_ q178_ q179_ q180_ q181_ q182_ q183_ t184_ d186_ l187_ (by omega)
      · have f190_ : (m_ 77 8).toInt = (M 77 8).toInt := by rw [p_.2.1 77 8 (by decide)]
        have f191_ : (m_ 7 8).toInt = (M 7 8).toInt := by rw [p_.2.1 7 8 (by decide)]
        have f192_ : (m_ 78 312).toInt = (M 78 312).toInt := by rw [p_.2.1 78 312 (by decide)]
        have f193_ : (m_ 16 8).toInt = (M 16 8).toInt := by rw [p_.2.1 16 8 (by decide)]
        have f194_ : (m_ 80 312).toInt = (M 80 312).toInt := by rw [p_.2.1 80 312 (by decide)]
        have f195_ : (m_ 0 12).toInt = (M 0 12).toInt := by rw [p_.2.1 0 12 (by decide)]
        have f196_ : (m_ 77 67).toInt = (M 77 67).toInt := by rw [p_.2.1 77 67 (by decide)]
        have f197_ : (m_ 7 9).toInt = (M 7 9).toInt := by rw [p_.2.1 7 9 (by decide)]
        have f198_ : (m_ 78 313).toInt = (M 78 313).toInt := by rw [p_.2.1 78 313 (by decide)]
        have f199_ : (m_ 16 9).toInt = (M 16 9).toInt := by rw [p_.2.1 16 9 (by decide)]
        have f200_ : (m_ 80 313).toInt = (M 80 313).toInt := by rw [p_.2.1 80 313 (by decide)]
        have w201_ := p_.2.2
        have d202_ : KD m_ m_ := KD_S hD (p_.2.1) (p_.2.1 3 3 (by decide)) (p_.2.1 77 6 (by decide)) rfl
        refine T_qg (i_add rfl l_1 (by omega) (by omega)) (by omega) (by omega) ?_
        refine T_qcE (t_X12_law hn _ m_ p_.1) ?_
        intro r203_ m204_ e207_ p206_
        have g205_ := p206_.1
        have f208_ : (m204_ 1 1).toInt = (m_ 1 1).toInt := by rw [show m204_ 1 1 = m_ 1 1 from congrFun (p206_.2.1.2 1 (by decide) (by decide)) 1]
        have f209_ : (m204_ 7 8).toInt = (m_ 7 8).toInt := by rw [show m204_ 7 8 = m_ 7 8 from congrFun (p206_.2.1.2 7 (by decide) (by decide)) 8]
        have f210_ : (m204_ 78 312).toInt = (m_ 78 312).toInt := by rw [show m204_ 78 312 = m_ 78 312 from congrFun (p206_.2.1.2 78 (by decide) (by decide)) 312]
        have f211_ : (m204_ 16 8).toInt = (m_ 16 8).toInt := by rw [show m204_ 16 8 = m_ 16 8 from congrFun (p206_.2.1.2 16 (by decide) (by decide)) 8]
        have f212_ : (m204_ 80 312).toInt = (m_ 80 312).toInt := by rw [show m204_ 80 312 = m_ 80 312 from congrFun (p206_.2.1.2 80 (by decide) (by decide)) 312]
        have f213_ : (m204_ 0 12).toInt = (m_ 0 12).toInt := by rw [show m204_ 0 12 = m_ 0 12 from congrFun (p206_.2.1.2 0 (by decide) (by decide)) 12]
        have f214_ : (m204_ 77 67).toInt = (m_ 77 67).toInt := by rw [show m204_ 77 67 = m_ 77 67 from p206_.2.1.1 67 (by decide)]
        have f215_ : (m204_ 7 9).toInt = (m_ 7 9).toInt := by rw [show m204_ 7 9 = m_ 7 9 from congrFun (p206_.2.1.2 7 (by decide) (by decide)) 9]
        have f216_ : (m204_ 78 313).toInt = (m_ 78 313).toInt := by rw [show m204_ 78 313 = m_ 78 313 from congrFun (p206_.2.1.2 78 (by decide) (by decide)) 313]
        have f217_ : (m204_ 16 9).toInt = (m_ 16 9).toInt := by rw [show m204_ 16 9 = m_ 16 9 from congrFun (p206_.2.1.2 16 (by decide) (by decide)) 9]
        have f218_ : (m204_ 80 313).toInt = (m_ 80 313).toInt := by rw [show m204_ 80 313 = m_ 80 313 from congrFun (p206_.2.1.2 80 (by decide) (by decide)) 313]
        have w219_ := p206_.2.2
        have q220_ : (m204_ 1 1).toInt = (m204_ 77 8).toInt := by omega
        have q221_ : (m204_ 7 8).toInt = (m204_ 78 312).toInt := by omega
        have q222_ : (m204_ 16 8).toInt = (m204_ 80 312).toInt := by omega
        have q223_ : (m204_ 0 12).toInt = (m204_ 77 67).toInt := by omega
        have q224_ : (m204_ 7 9).toInt = (m204_ 78 313).toInt := by omega
        have q225_ : (m204_ 16 9).toInt = (m204_ 80 313).toInt := by omega
        have f227_ := r_1_1 hG
        have t226_ : TR m204_ := TR_le hT (by omega) (by rw [p206_.2.1.2 2 (by decide) (by decide)]; exact funext (fun s_ => p_.2.1 2 s_ (outc rfl))) (by rw [p206_.2.1.2 84 (by decide) (by decide)]; exact funext (fun s_ => p_.2.1 84 s_ (outc rfl)))
        have d228_ : KD m204_ m204_ := KD_cg d202_ (by rw [p206_.2.1.2 3 (by decide) (by decide)]) (by rw [p206_.2.1.1 6 (by decide)]) (fun q_ _ => by rw [p206_.2.1.2 4 (by decide) (by decide)]) (fun q_ _ => by rw [p206_.2.1.2 5 (by decide) (by decide)]) (fun q_ _ => by rw [p206_.2.1.2 6 (by decide) (by decide)]) (fun q_ _ => by rw [p206_.2.1.2 81 (by decide) (by decide)]) (fun q_ _ => by rw [p206_.2.1.2 82 (by decide) (by decide)]) (fun q_ _ => by rw [p206_.2.1.2 83 (by decide) (by decide)])
        have l229_ : LR r m204_ m204_ := by
          have l_ := ((law_st hn hj hr hjr hG p_.1 hT (by omega) (funext (fun s_ => p_.2.1 84 s_ (outc rfl))) (fun c_ h1_ h2_ => funext (fun s_ => p_.2.1 c_ s_ (out77 (by omega) rfl))) (p_.2.1 77 17 (by decide)) hL e207_).2 ee_).2
          exact LR_cg l_ (fun k_ hk_ => p206_.2.1.2 _ (by rcases hj with rfl | rfl <;> rcases hr with rfl | rfl <;> omega) (by rcases hj with rfl | rfl <;> rcases hr with rfl | rfl <;> omega)) (fun _ _ _ => rfl) rfl
        refine T_ql (i_add rfl l_7 (by omega) (by omega)) ?_
        intro x230_ h231_
        exact ih r j hr hj (fun e_ => hjr e_.symm) x230_ m204_ (by omega) (by omega) g205_ q220_ q221_ q222_ q223_ q224_ q225_ t226_ d228_ l229_ (by omega)
    refine T_sw rfl l_4 (fun s232_ => ?_) (fun s232_ => ?_)
    · refine T_qg (i_add rfl l_1 (by omega) (by omega)) (by omega) (by omega) ?_
      refine T_qg (i_add rfl l_2 (by omega) (by omega)) (by omega) (by omega) ?_
      refine T_qcE (t_X11_plan hn _ _ M hG) ?_
      intro r233_ m234_ e237_ p236_
      have g235_ := p236_.2.1
      have f238_ : (m234_ 77 8).toInt = (M 77 8).toInt := by rw [p236_.2.2 77 8 (by decide)]
      have f239_ : (m234_ 7 8).toInt = (M 7 8).toInt := by rw [p236_.2.2 7 8 (by decide)]
      have f240_ : (m234_ 78 312).toInt = (M 78 312).toInt := by rw [p236_.2.2 78 312 (by decide)]
      have f241_ : (m234_ 16 8).toInt = (M 16 8).toInt := by rw [p236_.2.2 16 8 (by decide)]
      have f242_ : (m234_ 80 312).toInt = (M 80 312).toInt := by rw [p236_.2.2 80 312 (by decide)]
      have f243_ : (m234_ 0 12).toInt = (M 0 12).toInt := by rw [p236_.2.2 0 12 (by decide)]
      have f244_ : (m234_ 77 67).toInt = (M 77 67).toInt := by rw [p236_.2.2 77 67 (by decide)]
      have f245_ : (m234_ 7 9).toInt = (M 7 9).toInt := by rw [p236_.2.2 7 9 (by decide)]
      have f246_ : (m234_ 78 313).toInt = (M 78 313).toInt := by rw [p236_.2.2 78 313 (by decide)]
      have f247_ : (m234_ 16 9).toInt = (M 16 9).toInt := by rw [p236_.2.2 16 9 (by decide)]
      have f248_ : (m234_ 80 313).toInt = (M 80 313).toInt := by rw [p236_.2.2 80 313 (by decide)]
      have w249_ := p236_.1
      have d250_ : KD m234_ m234_ := KD_S hD (p236_.2.2) (p236_.2.2 3 3 (by decide)) (p236_.2.2 77 6 (by decide)) rfl
      have l251_ : LR j m234_ m234_ := LR_S hj hL (p236_.2.2) rfl rfl (p236_.2.2 77 17 (by decide))
      refine T_qg (i_add rfl l_1 (by omega) (by omega)) (by omega) (by omega) ?_
      refine T_qg (i_add rfl l_2 (by omega) (by omega)) (by omega) (by omega) ?_
      refine T_qcE (t_X12_plan hn _ _ m234_ g235_) ?_
      intro r252_ m253_ e256_ p255_
      have g254_ := p255_.2.1
      have f257_ : (m253_ 1 1).toInt = (m234_ 1 1).toInt := by rw [p255_.2.2 1 1 (by decide)]
      have f258_ : (m253_ 7 8).toInt = (m234_ 7 8).toInt := by rw [p255_.2.2 7 8 (by decide)]
      have f259_ : (m253_ 78 312).toInt = (m234_ 78 312).toInt := by rw [p255_.2.2 78 312 (by decide)]
      have f260_ : (m253_ 16 8).toInt = (m234_ 16 8).toInt := by rw [p255_.2.2 16 8 (by decide)]
      have f261_ : (m253_ 80 312).toInt = (m234_ 80 312).toInt := by rw [p255_.2.2 80 312 (by decide)]
      have f262_ : (m253_ 0 12).toInt = (m234_ 0 12).toInt := by rw [p255_.2.2 0 12 (by decide)]
      have f263_ : (m253_ 77 67).toInt = (m234_ 77 67).toInt := by rw [p255_.2.2 77 67 (by decide)]
      have f264_ : (m253_ 7 9).toInt = (m234_ 7 9).toInt := by rw [p255_.2.2 7 9 (by decide)]
      have f265_ : (m253_ 78 313).toInt = (m234_ 78 313).toInt := by rw [p255_.2.2 78 313 (by decide)]
      have f266_ : (m253_ 16 9).toInt = (m234_ 16 9).toInt := by rw [p255_.2.2 16 9 (by decide)]
      have f267_ : (m253_ 80 313).toInt = (m234_ 80 313).toInt := by rw [p255_.2.2 80 313 (by decide)]
      have w268_ := p255_.1
      have d269_ : KD m253_ m253_ := KD_S d250_ (p255_.2.2) (p255_.2.2 3 3 (by decide)) (p255_.2.2 77 6 (by decide)) rfl
      have l270_ : LR j m253_ m253_ := LR_S hj l251_ (p255_.2.2) rfl rfl (p255_.2.2 77 17 (by decide))
      have b271_ : m234_ 78 312 = M 7 8 := Int32.toInt_inj.mp (by omega)
      rw [b271_] at w268_
      have q272_ : (m253_ 1 1).toInt = (m253_ 77 8).toInt := by omega
      have q273_ : (m253_ 7 8).toInt = (m253_ 78 312).toInt := by omega
      have q274_ : (m253_ 16 8).toInt = (m253_ 80 312).toInt := by omega
      have q275_ : (m253_ 0 12).toInt = (m253_ 77 67).toInt := by omega
      have q276_ : (m253_ 7 9).toInt = (m253_ 78 313).toInt := by omega
      have q277_ : (m253_ 16 9).toInt = (m253_ 80 313).toInt := by omega
      have f279_ := r_1_1 hG
      have t278_ : TR m253_ := TR_le hT (by omega) (funext (fun s_ => by rw [p255_.2.2 2 s_ (outc rfl), p236_.2.2 2 s_ (outc rfl)])) (funext (fun s_ => by rw [p255_.2.2 84 s_ (outc rfl), p236_.2.2 84 s_ (outc rfl)]))
      refine T_ql (i_add rfl l_7 (by omega) (by omega)) ?_
      intro x280_ h281_
      exact ih j r hj hr hjr x280_ m253_ (by omega) (by omega) g254_ q272_ q273_ q274_ q275_ q276_ q277_ t278_ d269_ l270_ (by omega)
    refine T_sw rfl l_5 (fun s282_ => ?_) (fun s282_ => ?_)
    · refine T_qg (i_add rfl l_1 (by omega) (by omega)) (by omega) (by omega) ?_
      refine T_qg (i_add rfl l_2 (by omega) (by omega)) (by omega) (by omega) ?_
      refine T_qg (i_add rfl l_3 (by omega) (by omega)) (by omega) (by omega) ?_
      refine T_qcE (t_X11_tries hn hj _ _ _ M hG) ?_
      intro r283_ m284_ e287_ p286_
      have g285_ := p286_.2.1
      have f288_ : (m284_ 1 1).toInt = (M 1 1).toInt := by rw [p286_.2.2 1 1 (by decide)]
      have f289_ : (m284_ 77 8).toInt = (M 77 8).toInt := by rw [p286_.2.2 77 8 (by decide)]
      have f290_ : (m284_ 7 8).toInt = (M 7 8).toInt := by rw [p286_.2.2 7 8 (by decide)]
      have f291_ : (m284_ 78 312).toInt = (M 78 312).toInt := by rw [p286_.2.2 78 312 (by decide)]
      have f292_ : (m284_ 16 8).toInt = (M 16 8).toInt := by rw [p286_.2.2 16 8 (by decide)]
      have f293_ : (m284_ 80 312).toInt = (M 80 312).toInt := by rw [p286_.2.2 80 312 (by decide)]
      have f294_ : (m284_ 0 12).toInt = (M 0 12).toInt := by rw [p286_.2.2 0 12 (by decide)]
      have f295_ : (m284_ 77 67).toInt = (M 77 67).toInt := by rw [p286_.2.2 77 67 (by decide)]
      have f296_ : (m284_ 7 9).toInt = (M 7 9).toInt := by rw [p286_.2.2 7 9 (by decide)]
      have f297_ : (m284_ 78 313).toInt = (M 78 313).toInt := by rw [p286_.2.2 78 313 (by decide)]
      have f298_ : (m284_ 16 9).toInt = (M 16 9).toInt := by rw [p286_.2.2 16 9 (by decide)]
      have f299_ : (m284_ 80 313).toInt = (M 80 313).toInt := by rw [p286_.2.2 80 313 (by decide)]
      have d300_ : KD m284_ m284_ := KD_S hD (p286_.2.2) (p286_.2.2 3 3 (by decide)) (p286_.2.2 77 6 (by decide)) rfl
      have l301_ : LR j m284_ m284_ := LR_S hj hL (p286_.2.2) rfl rfl (p286_.2.2 77 17 (by decide))
      refine T_qg (i_add rfl l_1 (by omega) (by omega)) (by omega) (by omega) ?_
      refine T_qg (i_add rfl l_2 (by omega) (by omega)) (by omega) (by omega) ?_
      refine T_qg (i_add rfl l_3 (by omega) (by omega)) (by omega) (by omega) ?_
      refine T_qcE (t_X12_tries hn _ _ _ m284_ g285_) ?_
      intro r302_ m303_ e306_ p305_
      have g304_ := p305_.2.1
      have f307_ : (m303_ 1 1).toInt = (m284_ 1 1).toInt := by rw [p305_.2.2 1 1 (by decide)]
      have f308_ : (m303_ 77 8).toInt = (m284_ 77 8).toInt := by rw [p305_.2.2 77 8 (by decide)]
      have f309_ : (m303_ 7 8).toInt = (m284_ 7 8).toInt := by rw [p305_.2.2 7 8 (by decide)]
      have f310_ : (m303_ 78 312).toInt = (m284_ 78 312).toInt := by rw [p305_.2.2 78 312 (by decide)]
      have f311_ : (m303_ 16 8).toInt = (m284_ 16 8).toInt := by rw [p305_.2.2 16 8 (by decide)]
      have f312_ : (m303_ 80 312).toInt = (m284_ 80 312).toInt := by rw [p305_.2.2 80 312 (by decide)]
      have f313_ : (m303_ 0 12).toInt = (m284_ 0 12).toInt := by rw [p305_.2.2 0 12 (by decide)]
      have f314_ : (m303_ 77 67).toInt = (m284_ 77 67).toInt := by rw [p305_.2.2 77 67 (by decide)]
      have f315_ : (m303_ 7 9).toInt = (m284_ 7 9).toInt := by rw [p305_.2.2 7 9 (by decide)]
      have f316_ : (m303_ 78 313).toInt = (m284_ 78 313).toInt := by rw [p305_.2.2 78 313 (by decide)]
      have f317_ : (m303_ 16 9).toInt = (m284_ 16 9).toInt := by rw [p305_.2.2 16 9 (by decide)]
      have f318_ : (m303_ 80 313).toInt = (m284_ 80 313).toInt := by rw [p305_.2.2 80 313 (by decide)]
      have d319_ : KD m303_ m303_ := KD_S d300_ (p305_.2.2) (p305_.2.2 3 3 (by decide)) (p305_.2.2 77 6 (by decide)) rfl
      have l320_ : LR j m303_ m303_ := LR_S hj l301_ (p305_.2.2) rfl rfl (p305_.2.2 77 17 (by decide))
      have q321_ : (m303_ 1 1).toInt = (m303_ 77 8).toInt := by omega
      have q322_ : (m303_ 7 8).toInt = (m303_ 78 312).toInt := by omega
      have q323_ : (m303_ 16 8).toInt = (m303_ 80 312).toInt := by omega
      have q324_ : (m303_ 0 12).toInt = (m303_ 77 67).toInt := by omega
      have q325_ : (m303_ 7 9).toInt = (m303_ 78 313).toInt := by omega
      have q326_ : (m303_ 16 9).toInt = (m303_ 80 313).toInt := by omega
      have f328_ := r_1_1 hG
      have t327_ : TR m303_ := TR_le hT (by omega) (funext (fun s_ => by rw [p305_.2.2 2 s_ (outc rfl), p286_.2.2 2 s_ (outc rfl)])) (funext (fun s_ => by rw [p305_.2.2 84 s_ (outc rfl), p286_.2.2 84 s_ (outc rfl)]))
      refine T_ql (i_add rfl l_7 (by omega) (by omega)) ?_
      intro x329_ h330_
      exact ih j r hj hr hjr x329_ m303_ (by omega) (by omega) g304_ q321_ q322_ q323_ q324_ q325_ q326_ t327_ d319_ l320_ (by omega)
    refine T_sw rfl l_6 (fun s331_ => ?_) (fun s331_ => ?_)
    · refine T_qg (i_add rfl l_1 (by omega) (by omega)) (by omega) (by omega) ?_
      refine T_qg (i_add rfl l_2 (by omega) (by omega)) (by omega) (by omega) ?_
      refine T_qg (i_add rfl l_3 (by omega) (by omega)) (by omega) (by omega) ?_
      refine T_qcE (t_X11_buys hn hj _ _ _ M hG) ?_
      intro r332_ m333_ e336_ p335_
      have g334_ := p335_.2.1
      have f337_ : (m333_ 1 1).toInt = (M 1 1).toInt := by rw [p335_.2.2 1 1 (by decide)]
      have f338_ : (m333_ 77 8).toInt = (M 77 8).toInt := by rw [p335_.2.2 77 8 (by decide)]
      have f339_ : (m333_ 7 8).toInt = (M 7 8).toInt := by rw [p335_.2.2 7 8 (by decide)]
      have f340_ : (m333_ 78 312).toInt = (M 78 312).toInt := by rw [p335_.2.2 78 312 (by decide)]
      have f341_ : (m333_ 16 8).toInt = (M 16 8).toInt := by rw [p335_.2.2 16 8 (by decide)]
      have f342_ : (m333_ 80 312).toInt = (M 80 312).toInt := by rw [p335_.2.2 80 312 (by decide)]
      have f343_ : (m333_ 0 12).toInt = (M 0 12).toInt := by rw [p335_.2.2 0 12 (by decide)]
      have f344_ : (m333_ 77 67).toInt = (M 77 67).toInt := by rw [p335_.2.2 77 67 (by decide)]
      have f345_ : (m333_ 7 9).toInt = (M 7 9).toInt := by rw [p335_.2.2 7 9 (by decide)]
      have f346_ : (m333_ 78 313).toInt = (M 78 313).toInt := by rw [p335_.2.2 78 313 (by decide)]
      have f347_ : (m333_ 16 9).toInt = (M 16 9).toInt := by rw [p335_.2.2 16 9 (by decide)]
      have f348_ : (m333_ 80 313).toInt = (M 80 313).toInt := by rw [p335_.2.2 80 313 (by decide)]
      have d349_ : KD m333_ m333_ := KD_S hD (p335_.2.2) (p335_.2.2 3 3 (by decide)) (p335_.2.2 77 6 (by decide)) rfl
      have l350_ : LR j m333_ m333_ := LR_S hj hL (p335_.2.2) rfl rfl (p335_.2.2 77 17 (by decide))
      refine T_qg (i_add rfl l_1 (by omega) (by omega)) (by omega) (by omega) ?_
      refine T_qg (i_add rfl l_2 (by omega) (by omega)) (by omega) (by omega) ?_
      refine T_qg (i_add rfl l_3 (by omega) (by omega)) (by omega) (by omega) ?_
      refine T_qcE (t_X12_buys hn _ _ _ m333_ g334_) ?_
      intro r351_ m352_ e355_ p354_
      have g353_ := p354_.2.1
      have f356_ : (m352_ 1 1).toInt = (m333_ 1 1).toInt := by rw [p354_.2.2 1 1 (by decide)]
      have f357_ : (m352_ 77 8).toInt = (m333_ 77 8).toInt := by rw [p354_.2.2 77 8 (by decide)]
      have f358_ : (m352_ 7 8).toInt = (m333_ 7 8).toInt := by rw [p354_.2.2 7 8 (by decide)]
      have f359_ : (m352_ 78 312).toInt = (m333_ 78 312).toInt := by rw [p354_.2.2 78 312 (by decide)]
      have f360_ : (m352_ 16 8).toInt = (m333_ 16 8).toInt := by rw [p354_.2.2 16 8 (by decide)]
      have f361_ : (m352_ 80 312).toInt = (m333_ 80 312).toInt := by rw [p354_.2.2 80 312 (by decide)]
      have f362_ : (m352_ 0 12).toInt = (m333_ 0 12).toInt := by rw [p354_.2.2 0 12 (by decide)]
      have f363_ : (m352_ 77 67).toInt = (m333_ 77 67).toInt := by rw [p354_.2.2 77 67 (by decide)]
      have f364_ : (m352_ 7 9).toInt = (m333_ 7 9).toInt := by rw [p354_.2.2 7 9 (by decide)]
      have f365_ : (m352_ 78 313).toInt = (m333_ 78 313).toInt := by rw [p354_.2.2 78 313 (by decide)]
      have f366_ : (m352_ 16 9).toInt = (m333_ 16 9).toInt := by rw [p354_.2.2 16 9 (by decide)]
      have f367_ : (m352_ 80 313).toInt = (m333_ 80 313).toInt := by rw [p354_.2.2 80 313 (by decide)]
      have d368_ : KD m352_ m352_ := KD_S d349_ (p354_.2.2) (p354_.2.2 3 3 (by decide)) (p354_.2.2 77 6 (by decide)) rfl
      have l369_ : LR j m352_ m352_ := LR_S hj l350_ (p354_.2.2) rfl rfl (p354_.2.2 77 17 (by decide))
      have q370_ : (m352_ 1 1).toInt = (m352_ 77 8).toInt := by omega
      have q371_ : (m352_ 7 8).toInt = (m352_ 78 312).toInt := by omega
      have q372_ : (m352_ 16 8).toInt = (m352_ 80 312).toInt := by omega
      have q373_ : (m352_ 0 12).toInt = (m352_ 77 67).toInt := by omega
      have q374_ : (m352_ 7 9).toInt = (m352_ 78 313).toInt := by omega
      have q375_ : (m352_ 16 9).toInt = (m352_ 80 313).toInt := by omega
      have f377_ := r_1_1 hG
      have t376_ : TR m352_ := TR_le hT (by omega) (funext (fun s_ => by rw [p354_.2.2 2 s_ (outc rfl), p335_.2.2 2 s_ (outc rfl)])) (funext (fun s_ => by rw [p354_.2.2 84 s_ (outc rfl), p335_.2.2 84 s_ (outc rfl)]))
      refine T_ql (i_add rfl l_7 (by omega) (by omega)) ?_
      intro x378_ h379_
      exact ih j r hj hr hjr x378_ m352_ (by omega) (by omega) g353_ q370_ q371_ q372_ q373_ q374_ q375_ t376_ d368_ l369_ (by omega)
    refine T_sw rfl l_7 (fun s380_ => ?_) (fun s380_ => ?_)
    · refine T_qg (i_add rfl l_1 (by omega) (by omega)) (by omega) (by omega) ?_
      refine T_qcE (t_X11_days hn hj _ M hG) ?_
      intro r381_ m382_ e385_ p384_
      have g383_ := p384_.2.1
      have f386_ : (m382_ 1 1).toInt = (M 1 1).toInt := by rw [p384_.2.2 1 1 (by decide)]
      have f387_ : (m382_ 77 8).toInt = (M 77 8).toInt := by rw [p384_.2.2 77 8 (by decide)]
      have f388_ : (m382_ 7 8).toInt = (M 7 8).toInt := by rw [p384_.2.2 7 8 (by decide)]
      have f389_ : (m382_ 78 312).toInt = (M 78 312).toInt := by rw [p384_.2.2 78 312 (by decide)]
      have f390_ : (m382_ 16 8).toInt = (M 16 8).toInt := by rw [p384_.2.2 16 8 (by decide)]
      have f391_ : (m382_ 80 312).toInt = (M 80 312).toInt := by rw [p384_.2.2 80 312 (by decide)]
      have f392_ : (m382_ 0 12).toInt = (M 0 12).toInt := by rw [p384_.2.2 0 12 (by decide)]
      have f393_ : (m382_ 77 67).toInt = (M 77 67).toInt := by rw [p384_.2.2 77 67 (by decide)]
      have f394_ : (m382_ 78 313).toInt = (M 78 313).toInt := by rw [p384_.2.2 78 313 (by decide)]
      have f395_ : (m382_ 16 9).toInt = (M 16 9).toInt := by rw [p384_.2.2 16 9 (by decide)]
      have f396_ : (m382_ 80 313).toInt = (M 80 313).toInt := by rw [p384_.2.2 80 313 (by decide)]
      have w397_ := p384_.1
      have d398_ : KD m382_ m382_ := KD_S hD (p384_.2.2) (p384_.2.2 3 3 (by decide)) (p384_.2.2 77 6 (by decide)) rfl
      have l399_ : LR j m382_ m382_ := LR_S hj hL (p384_.2.2) rfl rfl (p384_.2.2 77 17 (by decide))
      refine T_qg (i_add rfl l_1 (by omega) (by omega)) (by omega) (by omega) ?_
      refine T_qcE (t_X12_days hn _ m382_ g383_) ?_
      intro r400_ m401_ e404_ p403_
      have g402_ := p403_.2.1
      have f405_ : (m401_ 1 1).toInt = (m382_ 1 1).toInt := by rw [p403_.2.2 1 1 (by decide)]
      have f406_ : (m401_ 77 8).toInt = (m382_ 77 8).toInt := by rw [p403_.2.2 77 8 (by decide)]
      have f407_ : (m401_ 7 8).toInt = (m382_ 7 8).toInt := by rw [p403_.2.2 7 8 (by decide)]
      have f408_ : (m401_ 78 312).toInt = (m382_ 78 312).toInt := by rw [p403_.2.2 78 312 (by decide)]
      have f409_ : (m401_ 16 8).toInt = (m382_ 16 8).toInt := by rw [p403_.2.2 16 8 (by decide)]
      have f410_ : (m401_ 80 312).toInt = (m382_ 80 312).toInt := by rw [p403_.2.2 80 312 (by decide)]
      have f411_ : (m401_ 0 12).toInt = (m382_ 0 12).toInt := by rw [p403_.2.2 0 12 (by decide)]
      have f412_ : (m401_ 77 67).toInt = (m382_ 77 67).toInt := by rw [p403_.2.2 77 67 (by decide)]
      have f413_ : (m401_ 7 9).toInt = (m382_ 7 9).toInt := by rw [p403_.2.2 7 9 (by decide)]
      have f414_ : (m401_ 16 9).toInt = (m382_ 16 9).toInt := by rw [p403_.2.2 16 9 (by decide)]
      have f415_ : (m401_ 80 313).toInt = (m382_ 80 313).toInt := by rw [p403_.2.2 80 313 (by decide)]
      have w416_ := p403_.1
      have d417_ : KD m401_ m401_ := KD_S d398_ (p403_.2.2) (p403_.2.2 3 3 (by decide)) (p403_.2.2 77 6 (by decide)) rfl
      have l418_ : LR j m401_ m401_ := LR_S hj l399_ (p403_.2.2) rfl rfl (p403_.2.2 77 17 (by decide))
      have q419_ : (m401_ 1 1).toInt = (m401_ 77 8).toInt := by omega
      have q420_ : (m401_ 7 8).toInt = (m401_ 78 312).toInt := by omega
      have q421_ : (m401_ 16 8).toInt = (m401_ 80 312).toInt := by omega
      have q422_ : (m401_ 0 12).toInt = (m401_ 77 67).toInt := by omega
      have q423_ : (m401_ 7 9).toInt = (m401_ 78 313).toInt := by omega
      have q424_ : (m401_ 16 9).toInt = (m401_ 80 313).toInt := by omega
      have f426_ := r_1_1 hG
      have t425_ : TR m401_ := TR_le hT (by omega) (funext (fun s_ => by rw [p403_.2.2 2 s_ (outc rfl), p384_.2.2 2 s_ (outc rfl)])) (funext (fun s_ => by rw [p403_.2.2 84 s_ (outc rfl), p384_.2.2 84 s_ (outc rfl)]))
      refine T_ql (i_add rfl l_7 (by omega) (by omega)) ?_
      intro x427_ h428_
      exact ih j r hj hr hjr x427_ m401_ (by omega) (by omega) g402_ q419_ q420_ q421_ q422_ q423_ q424_ t425_ d417_ l418_ (by omega)
    refine T_sw rfl l_8 (fun s429_ => ?_) (fun s429_ => ?_)
    · refine T_qg (i_add rfl l_1 (by omega) (by omega)) (by omega) (by omega) ?_
      refine T_qg (i_add rfl l_2 (by omega) (by omega)) (by omega) (by omega) ?_
      refine T_qcE (t_X11_tried hn hj _ _ M hG) ?_
      intro r430_ m431_ e434_ p433_
      have g432_ := p433_.1
      have f435_ : (m431_ 1 1).toInt = (M 1 1).toInt := by rw [p433_.2 1 1 (by decide)]
      have f436_ : (m431_ 77 8).toInt = (M 77 8).toInt := by rw [p433_.2 77 8 (by decide)]
      have f437_ : (m431_ 7 8).toInt = (M 7 8).toInt := by rw [p433_.2 7 8 (by decide)]
      have f438_ : (m431_ 78 312).toInt = (M 78 312).toInt := by rw [p433_.2 78 312 (by decide)]
      have f439_ : (m431_ 16 8).toInt = (M 16 8).toInt := by rw [p433_.2 16 8 (by decide)]
      have f440_ : (m431_ 80 312).toInt = (M 80 312).toInt := by rw [p433_.2 80 312 (by decide)]
      have f441_ : (m431_ 0 12).toInt = (M 0 12).toInt := by rw [p433_.2 0 12 (by decide)]
      have f442_ : (m431_ 77 67).toInt = (M 77 67).toInt := by rw [p433_.2 77 67 (by decide)]
      have f443_ : (m431_ 7 9).toInt = (M 7 9).toInt := by rw [p433_.2 7 9 (by decide)]
      have f444_ : (m431_ 78 313).toInt = (M 78 313).toInt := by rw [p433_.2 78 313 (by decide)]
      have f445_ : (m431_ 16 9).toInt = (M 16 9).toInt := by rw [p433_.2 16 9 (by decide)]
      have f446_ : (m431_ 80 313).toInt = (M 80 313).toInt := by rw [p433_.2 80 313 (by decide)]
      have d447_ : KD m431_ m431_ := KD_S hD (p433_.2) (p433_.2 3 3 (by decide)) (p433_.2 77 6 (by decide)) rfl
      have l448_ : LR j m431_ m431_ := LR_S hj hL (p433_.2) rfl rfl (p433_.2 77 17 (by decide))
      refine T_qg (i_add rfl l_1 (by omega) (by omega)) (by omega) (by omega) ?_
      refine T_qg (i_add rfl l_2 (by omega) (by omega)) (by omega) (by omega) ?_
      refine T_qcE (t_X12_tried hn _ _ m431_ g432_) ?_
      intro r449_ m450_ e453_ p452_
      have g451_ := p452_.2.1
      have f454_ : (m450_ 1 1).toInt = (m431_ 1 1).toInt := by rw [p452_.2.2 1 1 (by decide)]
      have f455_ : (m450_ 77 8).toInt = (m431_ 77 8).toInt := by rw [p452_.2.2 77 8 (by decide)]
      have f456_ : (m450_ 7 8).toInt = (m431_ 7 8).toInt := by rw [p452_.2.2 7 8 (by decide)]
      have f457_ : (m450_ 16 8).toInt = (m431_ 16 8).toInt := by rw [p452_.2.2 16 8 (by decide)]
      have f458_ : (m450_ 80 312).toInt = (m431_ 80 312).toInt := by rw [p452_.2.2 80 312 (by decide)]
      have f459_ : (m450_ 0 12).toInt = (m431_ 0 12).toInt := by rw [p452_.2.2 0 12 (by decide)]
      have f460_ : (m450_ 77 67).toInt = (m431_ 77 67).toInt := by rw [p452_.2.2 77 67 (by decide)]
      have f461_ : (m450_ 7 9).toInt = (m431_ 7 9).toInt := by rw [p452_.2.2 7 9 (by decide)]
      have f462_ : (m450_ 16 9).toInt = (m431_ 16 9).toInt := by rw [p452_.2.2 16 9 (by decide)]
      have f463_ : (m450_ 80 313).toInt = (m431_ 80 313).toInt := by rw [p452_.2.2 80 313 (by decide)]
      have w464_ := p452_.1
      have d465_ : KD m450_ m450_ := KD_S d447_ (p452_.2.2) (p452_.2.2 3 3 (by decide)) (p452_.2.2 77 6 (by decide)) rfl
      have l466_ : LR j m450_ m450_ := LR_S hj l448_ (p452_.2.2) rfl rfl (p452_.2.2 77 17 (by decide))
      have q467_ : (m450_ 1 1).toInt = (m450_ 77 8).toInt := by omega
      have q468_ : (m450_ 7 8).toInt = (m450_ 78 312).toInt := by omega
      have q469_ : (m450_ 16 8).toInt = (m450_ 80 312).toInt := by omega
      have q470_ : (m450_ 0 12).toInt = (m450_ 77 67).toInt := by omega
      have q471_ : (m450_ 7 9).toInt = (m450_ 78 313).toInt := by omega
      have q472_ : (m450_ 16 9).toInt = (m450_ 80 313).toInt := by omega
      have f474_ := r_1_1 hG
      have t473_ : TR m450_ := TR_le hT (by omega) (funext (fun s_ => by rw [p452_.2.2 2 s_ (outc rfl), p433_.2 2 s_ (outc rfl)])) (funext (fun s_ => by rw [p452_.2.2 84 s_ (outc rfl), p433_.2 84 s_ (outc rfl)]))
      refine T_ql (i_add rfl l_7 (by omega) (by omega)) ?_
      intro x475_ h476_
      exact ih j r hj hr hjr x475_ m450_ (by omega) (by omega) g451_ q467_ q468_ q469_ q470_ q471_ q472_ t473_ d465_ l466_ (by omega)
    refine T_sw rfl l_9 (fun s477_ => ?_) (fun s477_ => ?_)
    · refine T_qg (i_add rfl l_1 (by omega) (by omega)) (by omega) (by omega) ?_
      refine T_qg (i_add rfl l_2 (by omega) (by omega)) (by omega) (by omega) ?_
      refine T_qg (i_add rfl l_3 (by omega) (by omega)) (by omega) (by omega) ?_
      refine T_qcE (t_X11_has hn hj _ _ _ M hG) ?_
      intro r478_ m479_ e482_ p481_
      have g480_ := p481_.1
      have f483_ : (m479_ 1 1).toInt = (M 1 1).toInt := by rw [p481_.2 1 1 (by decide)]
      have f484_ : (m479_ 77 8).toInt = (M 77 8).toInt := by rw [p481_.2 77 8 (by decide)]
      have f485_ : (m479_ 7 8).toInt = (M 7 8).toInt := by rw [p481_.2 7 8 (by decide)]
      have f486_ : (m479_ 78 312).toInt = (M 78 312).toInt := by rw [p481_.2 78 312 (by decide)]
      have f487_ : (m479_ 16 8).toInt = (M 16 8).toInt := by rw [p481_.2 16 8 (by decide)]
      have f488_ : (m479_ 80 312).toInt = (M 80 312).toInt := by rw [p481_.2 80 312 (by decide)]
      have f489_ : (m479_ 0 12).toInt = (M 0 12).toInt := by rw [p481_.2 0 12 (by decide)]
      have f490_ : (m479_ 77 67).toInt = (M 77 67).toInt := by rw [p481_.2 77 67 (by decide)]
      have f491_ : (m479_ 7 9).toInt = (M 7 9).toInt := by rw [p481_.2 7 9 (by decide)]
      have f492_ : (m479_ 78 313).toInt = (M 78 313).toInt := by rw [p481_.2 78 313 (by decide)]
      have f493_ : (m479_ 16 9).toInt = (M 16 9).toInt := by rw [p481_.2 16 9 (by decide)]
      have f494_ : (m479_ 80 313).toInt = (M 80 313).toInt := by rw [p481_.2 80 313 (by decide)]
      have d495_ : KD m479_ m479_ := KD_S hD (p481_.2) (p481_.2 3 3 (by decide)) (p481_.2 77 6 (by decide)) rfl
      have l496_ : LR j m479_ m479_ := LR_S hj hL (p481_.2) rfl rfl (p481_.2 77 17 (by decide))
      refine T_qg (i_add rfl l_1 (by omega) (by omega)) (by omega) (by omega) ?_
      refine T_qg (i_add rfl l_2 (by omega) (by omega)) (by omega) (by omega) ?_
      refine T_qg (i_add rfl l_3 (by omega) (by omega)) (by omega) (by omega) ?_
      refine T_qcE (t_X12_has hn _ _ _ m479_ g480_) ?_
      intro r497_ m498_ e501_ p500_
      have g499_ := p500_.2.1
      have f502_ : (m498_ 1 1).toInt = (m479_ 1 1).toInt := by rw [p500_.2.2 1 1 (by decide)]
      have f503_ : (m498_ 77 8).toInt = (m479_ 77 8).toInt := by rw [p500_.2.2 77 8 (by decide)]
      have f504_ : (m498_ 7 8).toInt = (m479_ 7 8).toInt := by rw [p500_.2.2 7 8 (by decide)]
      have f505_ : (m498_ 16 8).toInt = (m479_ 16 8).toInt := by rw [p500_.2.2 16 8 (by decide)]
      have f506_ : (m498_ 80 312).toInt = (m479_ 80 312).toInt := by rw [p500_.2.2 80 312 (by decide)]
      have f507_ : (m498_ 0 12).toInt = (m479_ 0 12).toInt := by rw [p500_.2.2 0 12 (by decide)]
      have f508_ : (m498_ 77 67).toInt = (m479_ 77 67).toInt := by rw [p500_.2.2 77 67 (by decide)]
      have f509_ : (m498_ 7 9).toInt = (m479_ 7 9).toInt := by rw [p500_.2.2 7 9 (by decide)]
      have f510_ : (m498_ 16 9).toInt = (m479_ 16 9).toInt := by rw [p500_.2.2 16 9 (by decide)]
      have f511_ : (m498_ 80 313).toInt = (m479_ 80 313).toInt := by rw [p500_.2.2 80 313 (by decide)]
      have w512_ := p500_.1
      have d513_ : KD m498_ m498_ := KD_S d495_ (p500_.2.2) (p500_.2.2 3 3 (by decide)) (p500_.2.2 77 6 (by decide)) rfl
      have l514_ : LR j m498_ m498_ := LR_S hj l496_ (p500_.2.2) rfl rfl (p500_.2.2 77 17 (by decide))
      have q515_ : (m498_ 1 1).toInt = (m498_ 77 8).toInt := by omega
      have q516_ : (m498_ 7 8).toInt = (m498_ 78 312).toInt := by omega
      have q517_ : (m498_ 16 8).toInt = (m498_ 80 312).toInt := by omega
      have q518_ : (m498_ 0 12).toInt = (m498_ 77 67).toInt := by omega
      have q519_ : (m498_ 7 9).toInt = (m498_ 78 313).toInt := by omega
      have q520_ : (m498_ 16 9).toInt = (m498_ 80 313).toInt := by omega
      have f522_ := r_1_1 hG
      have t521_ : TR m498_ := TR_le hT (by omega) (funext (fun s_ => by rw [p500_.2.2 2 s_ (outc rfl), p481_.2 2 s_ (outc rfl)])) (funext (fun s_ => by rw [p500_.2.2 84 s_ (outc rfl), p481_.2 84 s_ (outc rfl)]))
      refine T_ql (i_add rfl l_7 (by omega) (by omega)) ?_
      intro x523_ h524_
      exact ih j r hj hr hjr x523_ m498_ (by omega) (by omega) g499_ q515_ q516_ q517_ q518_ q519_ q520_ t521_ d513_ l514_ (by omega)
    refine T_sw rfl l_10 (fun s525_ => ?_) (fun s525_ => ?_)
    · refine T_qg (i_add rfl l_1 (by omega) (by omega)) (by omega) (by omega) ?_
      refine T_qg (i_add rfl l_2 (by omega) (by omega)) (by omega) (by omega) ?_
      refine T_qcE (t_X11_alike hn hj _ _ M hG) ?_
      intro r526_ m527_ e530_ p529_
      have g528_ := p529_.2.1
      have f531_ : (m527_ 1 1).toInt = (M 1 1).toInt := by rw [p529_.2.2 1 1 (by decide)]
      have f532_ : (m527_ 77 8).toInt = (M 77 8).toInt := by rw [p529_.2.2 77 8 (by decide)]
      have f533_ : (m527_ 7 8).toInt = (M 7 8).toInt := by rw [p529_.2.2 7 8 (by decide)]
      have f534_ : (m527_ 78 312).toInt = (M 78 312).toInt := by rw [p529_.2.2 78 312 (by decide)]
      have f535_ : (m527_ 16 8).toInt = (M 16 8).toInt := by rw [p529_.2.2 16 8 (by decide)]
      have f536_ : (m527_ 80 312).toInt = (M 80 312).toInt := by rw [p529_.2.2 80 312 (by decide)]
      have f537_ : (m527_ 0 12).toInt = (M 0 12).toInt := by rw [p529_.2.2 0 12 (by decide)]
      have f538_ : (m527_ 77 67).toInt = (M 77 67).toInt := by rw [p529_.2.2 77 67 (by decide)]
      have f539_ : (m527_ 7 9).toInt = (M 7 9).toInt := by rw [p529_.2.2 7 9 (by decide)]
      have f540_ : (m527_ 78 313).toInt = (M 78 313).toInt := by rw [p529_.2.2 78 313 (by decide)]
      have f541_ : (m527_ 16 9).toInt = (M 16 9).toInt := by rw [p529_.2.2 16 9 (by decide)]
      have f542_ : (m527_ 80 313).toInt = (M 80 313).toInt := by rw [p529_.2.2 80 313 (by decide)]
      have d543_ : KD m527_ m527_ := KD_S hD (p529_.2.2) (p529_.2.2 3 3 (by decide)) (p529_.2.2 77 6 (by decide)) rfl
      have l544_ : LR j m527_ m527_ := LR_S hj hL (p529_.2.2) rfl rfl (p529_.2.2 77 17 (by decide))
      refine T_qg (i_add rfl l_1 (by omega) (by omega)) (by omega) (by omega) ?_
      refine T_qg (i_add rfl l_2 (by omega) (by omega)) (by omega) (by omega) ?_
      refine T_qcE (t_X12_alike hn _ _ m527_ g528_) ?_
      intro r545_ m546_ e549_ p548_
      have g547_ := p548_.2.1
      have f550_ : (m546_ 1 1).toInt = (m527_ 1 1).toInt := by rw [p548_.2.2 1 1 (by decide)]
      have f551_ : (m546_ 77 8).toInt = (m527_ 77 8).toInt := by rw [p548_.2.2 77 8 (by decide)]
      have f552_ : (m546_ 7 8).toInt = (m527_ 7 8).toInt := by rw [p548_.2.2 7 8 (by decide)]
      have f553_ : (m546_ 78 312).toInt = (m527_ 78 312).toInt := by rw [p548_.2.2 78 312 (by decide)]
      have f554_ : (m546_ 16 8).toInt = (m527_ 16 8).toInt := by rw [p548_.2.2 16 8 (by decide)]
      have f555_ : (m546_ 80 312).toInt = (m527_ 80 312).toInt := by rw [p548_.2.2 80 312 (by decide)]
      have f556_ : (m546_ 0 12).toInt = (m527_ 0 12).toInt := by rw [p548_.2.2 0 12 (by decide)]
      have f557_ : (m546_ 77 67).toInt = (m527_ 77 67).toInt := by rw [p548_.2.2 77 67 (by decide)]
      have f558_ : (m546_ 7 9).toInt = (m527_ 7 9).toInt := by rw [p548_.2.2 7 9 (by decide)]
      have f559_ : (m546_ 78 313).toInt = (m527_ 78 313).toInt := by rw [p548_.2.2 78 313 (by decide)]
      have f560_ : (m546_ 16 9).toInt = (m527_ 16 9).toInt := by rw [p548_.2.2 16 9 (by decide)]
      have f561_ : (m546_ 80 313).toInt = (m527_ 80 313).toInt := by rw [p548_.2.2 80 313 (by decide)]
      have d562_ : KD m546_ m546_ := KD_S d543_ (p548_.2.2) (p548_.2.2 3 3 (by decide)) (p548_.2.2 77 6 (by decide)) rfl
      have l563_ : LR j m546_ m546_ := LR_S hj l544_ (p548_.2.2) rfl rfl (p548_.2.2 77 17 (by decide))
      have q564_ : (m546_ 1 1).toInt = (m546_ 77 8).toInt := by omega
      have q565_ : (m546_ 7 8).toInt = (m546_ 78 312).toInt := by omega
      have q566_ : (m546_ 16 8).toInt = (m546_ 80 312).toInt := by omega
      have q567_ : (m546_ 0 12).toInt = (m546_ 77 67).toInt := by omega
      have q568_ : (m546_ 7 9).toInt = (m546_ 78 313).toInt := by omega
      have q569_ : (m546_ 16 9).toInt = (m546_ 80 313).toInt := by omega
      have f571_ := r_1_1 hG
      have t570_ : TR m546_ := TR_le hT (by omega) (funext (fun s_ => by rw [p548_.2.2 2 s_ (outc rfl), p529_.2.2 2 s_ (outc rfl)])) (funext (fun s_ => by rw [p548_.2.2 84 s_ (outc rfl), p529_.2.2 84 s_ (outc rfl)]))
      have w572_ : r526_ = r545_ := alike_ag hn hj hG g528_ hD hL (Int32.toInt_inj.mp hR4) (fun c_ hc_ => funext (fun s_ => p529_.2.2 c_ s_ (out77 hc_ rfl))) e530_ e549_
      rw [if_pos w572_]
      refine T_ql (i_add rfl l_7 (by omega) (by omega)) ?_
      intro x573_ h574_
      exact ih j r hj hr hjr x573_ m546_ (by omega) (by omega) g547_ q564_ q565_ q566_ q567_ q568_ q569_ t570_ d562_ l563_ (by omega)
    refine T_sw rfl l_11 (fun s575_ => ?_) (fun s575_ => ?_)
    · refine T_qg (i_add rfl l_1 (by omega) (by omega)) (by omega) (by omega) ?_
      refine T_qg (i_add rfl l_2 (by omega) (by omega)) (by omega) (by omega) ?_
      refine T_qg (i_add rfl l_3 (by omega) (by omega)) (by omega) (by omega) ?_
      refine T_qcE (t_X11_cost hn hj _ _ _ M hG) ?_
      intro r576_ m577_ e580_ p579_
      have g578_ := p579_.2.1
      have f581_ : (m577_ 1 1).toInt = (M 1 1).toInt := by rw [p579_.2.2 1 1 (by decide)]
      have f582_ : (m577_ 77 8).toInt = (M 77 8).toInt := by rw [p579_.2.2 77 8 (by decide)]
      have f583_ : (m577_ 7 8).toInt = (M 7 8).toInt := by rw [p579_.2.2 7 8 (by decide)]
      have f584_ : (m577_ 78 312).toInt = (M 78 312).toInt := by rw [p579_.2.2 78 312 (by decide)]
      have f585_ : (m577_ 16 8).toInt = (M 16 8).toInt := by rw [p579_.2.2 16 8 (by decide)]
      have f586_ : (m577_ 80 312).toInt = (M 80 312).toInt := by rw [p579_.2.2 80 312 (by decide)]
      have f587_ : (m577_ 0 12).toInt = (M 0 12).toInt := by rw [p579_.2.2 0 12 (by decide)]
      have f588_ : (m577_ 77 67).toInt = (M 77 67).toInt := by rw [p579_.2.2 77 67 (by decide)]
      have f589_ : (m577_ 7 9).toInt = (M 7 9).toInt := by rw [p579_.2.2 7 9 (by decide)]
      have f590_ : (m577_ 78 313).toInt = (M 78 313).toInt := by rw [p579_.2.2 78 313 (by decide)]
      have f591_ : (m577_ 16 9).toInt = (M 16 9).toInt := by rw [p579_.2.2 16 9 (by decide)]
      have f592_ : (m577_ 80 313).toInt = (M 80 313).toInt := by rw [p579_.2.2 80 313 (by decide)]
      have d593_ : KD m577_ m577_ := KD_S hD (p579_.2.2) (p579_.2.2 3 3 (by decide)) (p579_.2.2 77 6 (by decide)) rfl
      have l594_ : LR j m577_ m577_ := LR_S hj hL (p579_.2.2) rfl rfl (p579_.2.2 77 17 (by decide))
      refine T_qg (i_add rfl l_1 (by omega) (by omega)) (by omega) (by omega) ?_
      refine T_qg (i_add rfl l_2 (by omega) (by omega)) (by omega) (by omega) ?_
      refine T_qg (i_add rfl l_3 (by omega) (by omega)) (by omega) (by omega) ?_
      refine T_qcE (t_X12_cost hn _ _ _ m577_ g578_) ?_
      intro r595_ m596_ e599_ p598_
      have g597_ := p598_.2.1
      have f600_ : (m596_ 1 1).toInt = (m577_ 1 1).toInt := by rw [p598_.2.2 1 1 (by decide)]
      have f601_ : (m596_ 77 8).toInt = (m577_ 77 8).toInt := by rw [p598_.2.2 77 8 (by decide)]
      have f602_ : (m596_ 7 8).toInt = (m577_ 7 8).toInt := by rw [p598_.2.2 7 8 (by decide)]
      have f603_ : (m596_ 78 312).toInt = (m577_ 78 312).toInt := by rw [p598_.2.2 78 312 (by decide)]
      have f604_ : (m596_ 16 8).toInt = (m577_ 16 8).toInt := by rw [p598_.2.2 16 8 (by decide)]
      have f605_ : (m596_ 80 312).toInt = (m577_ 80 312).toInt := by rw [p598_.2.2 80 312 (by decide)]
      have f606_ : (m596_ 0 12).toInt = (m577_ 0 12).toInt := by rw [p598_.2.2 0 12 (by decide)]
      have f607_ : (m596_ 77 67).toInt = (m577_ 77 67).toInt := by rw [p598_.2.2 77 67 (by decide)]
      have f608_ : (m596_ 7 9).toInt = (m577_ 7 9).toInt := by rw [p598_.2.2 7 9 (by decide)]
      have f609_ : (m596_ 78 313).toInt = (m577_ 78 313).toInt := by rw [p598_.2.2 78 313 (by decide)]
      have f610_ : (m596_ 16 9).toInt = (m577_ 16 9).toInt := by rw [p598_.2.2 16 9 (by decide)]
      have f611_ : (m596_ 80 313).toInt = (m577_ 80 313).toInt := by rw [p598_.2.2 80 313 (by decide)]
      have d612_ : KD m596_ m596_ := KD_S d593_ (p598_.2.2) (p598_.2.2 3 3 (by decide)) (p598_.2.2 77 6 (by decide)) rfl
      have l613_ : LR j m596_ m596_ := LR_S hj l594_ (p598_.2.2) rfl rfl (p598_.2.2 77 17 (by decide))
      have q614_ : (m596_ 1 1).toInt = (m596_ 77 8).toInt := by omega
      have q615_ : (m596_ 7 8).toInt = (m596_ 78 312).toInt := by omega
      have q616_ : (m596_ 16 8).toInt = (m596_ 80 312).toInt := by omega
      have q617_ : (m596_ 0 12).toInt = (m596_ 77 67).toInt := by omega
      have q618_ : (m596_ 7 9).toInt = (m596_ 78 313).toInt := by omega
      have q619_ : (m596_ 16 9).toInt = (m596_ 80 313).toInt := by omega
      have f621_ := r_1_1 hG
      have t620_ : TR m596_ := TR_le hT (by omega) (funext (fun s_ => by rw [p598_.2.2 2 s_ (outc rfl), p579_.2.2 2 s_ (outc rfl)])) (funext (fun s_ => by rw [p598_.2.2 84 s_ (outc rfl), p579_.2.2 84 s_ (outc rfl)]))
      refine T_ql (i_add rfl l_7 (by omega) (by omega)) ?_
      intro x622_ h623_
      exact ih j r hj hr hjr x622_ m596_ (by omega) (by omega) g597_ q614_ q615_ q616_ q617_ q618_ q619_ t620_ d612_ l613_ (by omega)
    refine T_sw rfl l_12 (fun s624_ => ?_) (fun s624_ => ?_)
    · refine T_qg (i_add rfl l_1 (by omega) (by omega)) (by omega) (by omega) ?_
      refine T_qg (i_add rfl l_2 (by omega) (by omega)) (by omega) (by omega) ?_
      refine T_qg (i_add rfl l_3 (by omega) (by omega)) (by omega) (by omega) ?_
      refine T_qg (i_add rfl l_4 (by omega) (by omega)) (by omega) (by omega) ?_
      refine T_qg (i_add rfl l_5 (by omega) (by omega)) (by omega) (by omega) ?_
      refine T_qcE (t_X11_soonest hn hj _ _ _ _ _ M hG) ?_
      intro r625_ m626_ e629_ p628_
      have g627_ := p628_.1
      have f630_ : (m626_ 1 1).toInt = (M 1 1).toInt := by rw [p628_.2 1 1 (by decide)]
      have f631_ : (m626_ 77 8).toInt = (M 77 8).toInt := by rw [p628_.2 77 8 (by decide)]
      have f632_ : (m626_ 7 8).toInt = (M 7 8).toInt := by rw [p628_.2 7 8 (by decide)]
      have f633_ : (m626_ 78 312).toInt = (M 78 312).toInt := by rw [p628_.2 78 312 (by decide)]
      have f634_ : (m626_ 16 8).toInt = (M 16 8).toInt := by rw [p628_.2 16 8 (by decide)]
      have f635_ : (m626_ 80 312).toInt = (M 80 312).toInt := by rw [p628_.2 80 312 (by decide)]
      have f636_ : (m626_ 0 12).toInt = (M 0 12).toInt := by rw [p628_.2 0 12 (by decide)]
      have f637_ : (m626_ 77 67).toInt = (M 77 67).toInt := by rw [p628_.2 77 67 (by decide)]
      have f638_ : (m626_ 7 9).toInt = (M 7 9).toInt := by rw [p628_.2 7 9 (by decide)]
      have f639_ : (m626_ 78 313).toInt = (M 78 313).toInt := by rw [p628_.2 78 313 (by decide)]
      have f640_ : (m626_ 16 9).toInt = (M 16 9).toInt := by rw [p628_.2 16 9 (by decide)]
      have f641_ : (m626_ 80 313).toInt = (M 80 313).toInt := by rw [p628_.2 80 313 (by decide)]
      have d642_ : KD m626_ m626_ := KD_S hD (p628_.2) (p628_.2 3 3 (by decide)) (p628_.2 77 6 (by decide)) rfl
      have l643_ : LR j m626_ m626_ := LR_S hj hL (p628_.2) rfl rfl (p628_.2 77 17 (by decide))
      refine T_qg (i_add rfl l_1 (by omega) (by omega)) (by omega) (by omega) ?_
      refine T_qg (i_add rfl l_2 (by omega) (by omega)) (by omega) (by omega) ?_
      refine T_qg (i_add rfl l_3 (by omega) (by omega)) (by omega) (by omega) ?_
      refine T_qg (i_add rfl l_4 (by omega) (by omega)) (by omega) (by omega) ?_
      refine T_qg (i_add rfl l_5 (by omega) (by omega)) (by omega) (by omega) ?_
      refine T_qcE (t_X12_soonest hn _ _ _ _ _ m626_ g627_) ?_
      intro r644_ m645_ e648_ p647_
      have g646_ := p647_.1
      have f649_ : (m645_ 1 1).toInt = (m626_ 1 1).toInt := by rw [p647_.2 1 1 (by decide)]
      have f650_ : (m645_ 77 8).toInt = (m626_ 77 8).toInt := by rw [p647_.2 77 8 (by decide)]
      have f651_ : (m645_ 7 8).toInt = (m626_ 7 8).toInt := by rw [p647_.2 7 8 (by decide)]
      have f652_ : (m645_ 78 312).toInt = (m626_ 78 312).toInt := by rw [p647_.2 78 312 (by decide)]
      have f653_ : (m645_ 16 8).toInt = (m626_ 16 8).toInt := by rw [p647_.2 16 8 (by decide)]
      have f654_ : (m645_ 80 312).toInt = (m626_ 80 312).toInt := by rw [p647_.2 80 312 (by decide)]
      have f655_ : (m645_ 0 12).toInt = (m626_ 0 12).toInt := by rw [p647_.2 0 12 (by decide)]
      have f656_ : (m645_ 77 67).toInt = (m626_ 77 67).toInt := by rw [p647_.2 77 67 (by decide)]
      have f657_ : (m645_ 7 9).toInt = (m626_ 7 9).toInt := by rw [p647_.2 7 9 (by decide)]
      have f658_ : (m645_ 78 313).toInt = (m626_ 78 313).toInt := by rw [p647_.2 78 313 (by decide)]
      have f659_ : (m645_ 16 9).toInt = (m626_ 16 9).toInt := by rw [p647_.2 16 9 (by decide)]
      have f660_ : (m645_ 80 313).toInt = (m626_ 80 313).toInt := by rw [p647_.2 80 313 (by decide)]
      have d661_ : KD m645_ m645_ := KD_S d642_ (p647_.2) (p647_.2 3 3 (by decide)) (p647_.2 77 6 (by decide)) rfl
      have l662_ : LR j m645_ m645_ := LR_S hj l643_ (p647_.2) rfl rfl (p647_.2 77 17 (by decide))
      have q663_ : (m645_ 1 1).toInt = (m645_ 77 8).toInt := by omega
      have q664_ : (m645_ 7 8).toInt = (m645_ 78 312).toInt := by omega
      have q665_ : (m645_ 16 8).toInt = (m645_ 80 312).toInt := by omega
      have q666_ : (m645_ 0 12).toInt = (m645_ 77 67).toInt := by omega
      have q667_ : (m645_ 7 9).toInt = (m645_ 78 313).toInt := by omega
      have q668_ : (m645_ 16 9).toInt = (m645_ 80 313).toInt := by omega
      have f670_ := r_1_1 hG
      have t669_ : TR m645_ := TR_le hT (by omega) (funext (fun s_ => by rw [p647_.2 2 s_ (outc rfl), p628_.2 2 s_ (outc rfl)])) (funext (fun s_ => by rw [p647_.2 84 s_ (outc rfl), p628_.2 84 s_ (outc rfl)]))
      refine T_ql (i_add rfl l_7 (by omega) (by omega)) ?_
      intro x671_ h672_
      exact ih j r hj hr hjr x671_ m645_ (by omega) (by omega) g646_ q663_ q664_ q665_ q666_ q667_ q668_ t669_ d661_ l662_ (by omega)
    refine T_sw rfl l_13 (fun s673_ => ?_) (fun s673_ => ?_)
    · refine T_qg (i_add rfl l_1 (by omega) (by omega)) (by omega) (by omega) ?_
      refine T_qg (i_add rfl l_2 (by omega) (by omega)) (by omega) (by omega) ?_
      refine T_qg (i_add rfl l_3 (by omega) (by omega)) (by omega) (by omega) ?_
      refine T_qg (i_add rfl l_4 (by omega) (by omega)) (by omega) (by omega) ?_
      refine T_qg (i_add rfl l_5 (by omega) (by omega)) (by omega) (by omega) ?_
      refine T_qcE (t_X11_cheapest hn hj _ _ _ _ _ M hG) ?_
      intro r674_ m675_ e678_ p677_
      have g676_ := p677_.1
      have f679_ : (m675_ 1 1).toInt = (M 1 1).toInt := by rw [p677_.2 1 1 (by decide)]
      have f680_ : (m675_ 77 8).toInt = (M 77 8).toInt := by rw [p677_.2 77 8 (by decide)]
      have f681_ : (m675_ 7 8).toInt = (M 7 8).toInt := by rw [p677_.2 7 8 (by decide)]
      have f682_ : (m675_ 78 312).toInt = (M 78 312).toInt := by rw [p677_.2 78 312 (by decide)]
      have f683_ : (m675_ 16 8).toInt = (M 16 8).toInt := by rw [p677_.2 16 8 (by decide)]
      have f684_ : (m675_ 80 312).toInt = (M 80 312).toInt := by rw [p677_.2 80 312 (by decide)]
      have f685_ : (m675_ 0 12).toInt = (M 0 12).toInt := by rw [p677_.2 0 12 (by decide)]
      have f686_ : (m675_ 77 67).toInt = (M 77 67).toInt := by rw [p677_.2 77 67 (by decide)]
      have f687_ : (m675_ 7 9).toInt = (M 7 9).toInt := by rw [p677_.2 7 9 (by decide)]
      have f688_ : (m675_ 78 313).toInt = (M 78 313).toInt := by rw [p677_.2 78 313 (by decide)]
      have f689_ : (m675_ 16 9).toInt = (M 16 9).toInt := by rw [p677_.2 16 9 (by decide)]
      have f690_ : (m675_ 80 313).toInt = (M 80 313).toInt := by rw [p677_.2 80 313 (by decide)]
      have d691_ : KD m675_ m675_ := KD_S hD (p677_.2) (p677_.2 3 3 (by decide)) (p677_.2 77 6 (by decide)) rfl
      have l692_ : LR j m675_ m675_ := LR_S hj hL (p677_.2) rfl rfl (p677_.2 77 17 (by decide))
      refine T_qg (i_add rfl l_1 (by omega) (by omega)) (by omega) (by omega) ?_
      refine T_qg (i_add rfl l_2 (by omega) (by omega)) (by omega) (by omega) ?_
      refine T_qg (i_add rfl l_3 (by omega) (by omega)) (by omega) (by omega) ?_
      refine T_qg (i_add rfl l_4 (by omega) (by omega)) (by omega) (by omega) ?_
      refine T_qg (i_add rfl l_5 (by omega) (by omega)) (by omega) (by omega) ?_
      refine T_qcE (t_X12_cheapest hn _ _ _ _ _ m675_ g676_) ?_
      intro r693_ m694_ e697_ p696_
      have g695_ := p696_.1
      have f698_ : (m694_ 1 1).toInt = (m675_ 1 1).toInt := by rw [p696_.2 1 1 (by decide)]
      have f699_ : (m694_ 77 8).toInt = (m675_ 77 8).toInt := by rw [p696_.2 77 8 (by decide)]
      have f700_ : (m694_ 7 8).toInt = (m675_ 7 8).toInt := by rw [p696_.2 7 8 (by decide)]
      have f701_ : (m694_ 78 312).toInt = (m675_ 78 312).toInt := by rw [p696_.2 78 312 (by decide)]
      have f702_ : (m694_ 16 8).toInt = (m675_ 16 8).toInt := by rw [p696_.2 16 8 (by decide)]
      have f703_ : (m694_ 80 312).toInt = (m675_ 80 312).toInt := by rw [p696_.2 80 312 (by decide)]
      have f704_ : (m694_ 0 12).toInt = (m675_ 0 12).toInt := by rw [p696_.2 0 12 (by decide)]
      have f705_ : (m694_ 77 67).toInt = (m675_ 77 67).toInt := by rw [p696_.2 77 67 (by decide)]
      have f706_ : (m694_ 7 9).toInt = (m675_ 7 9).toInt := by rw [p696_.2 7 9 (by decide)]
      have f707_ : (m694_ 78 313).toInt = (m675_ 78 313).toInt := by rw [p696_.2 78 313 (by decide)]
      have f708_ : (m694_ 16 9).toInt = (m675_ 16 9).toInt := by rw [p696_.2 16 9 (by decide)]
      have f709_ : (m694_ 80 313).toInt = (m675_ 80 313).toInt := by rw [p696_.2 80 313 (by decide)]
      have d710_ : KD m694_ m694_ := KD_S d691_ (p696_.2) (p696_.2 3 3 (by decide)) (p696_.2 77 6 (by decide)) rfl
      have l711_ : LR j m694_ m694_ := LR_S hj l692_ (p696_.2) rfl rfl (p696_.2 77 17 (by decide))
      have q712_ : (m694_ 1 1).toInt = (m694_ 77 8).toInt := by omega
      have q713_ : (m694_ 7 8).toInt = (m694_ 78 312).toInt := by omega
      have q714_ : (m694_ 16 8).toInt = (m694_ 80 312).toInt := by omega
      have q715_ : (m694_ 0 12).toInt = (m694_ 77 67).toInt := by omega
      have q716_ : (m694_ 7 9).toInt = (m694_ 78 313).toInt := by omega
      have q717_ : (m694_ 16 9).toInt = (m694_ 80 313).toInt := by omega
      have f719_ := r_1_1 hG
      have t718_ : TR m694_ := TR_le hT (by omega) (funext (fun s_ => by rw [p696_.2 2 s_ (outc rfl), p677_.2 2 s_ (outc rfl)])) (funext (fun s_ => by rw [p696_.2 84 s_ (outc rfl), p677_.2 84 s_ (outc rfl)]))
      refine T_ql (i_add rfl l_7 (by omega) (by omega)) ?_
      intro x720_ h721_
      exact ih j r hj hr hjr x720_ m694_ (by omega) (by omega) g695_ q712_ q713_ q714_ q715_ q716_ q717_ t718_ d710_ l711_ (by omega)
    refine T_sw rfl l_14 (fun s722_ => ?_) (fun s722_ => ?_)
    · refine T_qg (i_add rfl l_1 (by omega) (by omega)) (by omega) (by omega) ?_
      refine T_qg (i_add rfl l_2 (by omega) (by omega)) (by omega) (by omega) ?_
      refine T_qg (i_add rfl l_3 (by omega) (by omega)) (by omega) (by omega) ?_
      refine T_qcE (t_X11_loophole hn hj _ _ _ M hG) ?_
      intro r723_ m724_ e727_ p726_
      have g725_ := p726_.1
      have f728_ : (m724_ 1 1).toInt = (M 1 1).toInt := by rw [p726_.2 1 1 (by decide)]
      have f729_ : (m724_ 77 8).toInt = (M 77 8).toInt := by rw [p726_.2 77 8 (by decide)]
      have f730_ : (m724_ 7 8).toInt = (M 7 8).toInt := by rw [p726_.2 7 8 (by decide)]
      have f731_ : (m724_ 78 312).toInt = (M 78 312).toInt := by rw [p726_.2 78 312 (by decide)]
      have f732_ : (m724_ 16 8).toInt = (M 16 8).toInt := by rw [p726_.2 16 8 (by decide)]
      have f733_ : (m724_ 80 312).toInt = (M 80 312).toInt := by rw [p726_.2 80 312 (by decide)]
      have f734_ : (m724_ 0 12).toInt = (M 0 12).toInt := by rw [p726_.2 0 12 (by decide)]
      have f735_ : (m724_ 77 67).toInt = (M 77 67).toInt := by rw [p726_.2 77 67 (by decide)]
      have f736_ : (m724_ 7 9).toInt = (M 7 9).toInt := by rw [p726_.2 7 9 (by decide)]
      have f737_ : (m724_ 78 313).toInt = (M 78 313).toInt := by rw [p726_.2 78 313 (by decide)]
      have f738_ : (m724_ 16 9).toInt = (M 16 9).toInt := by rw [p726_.2 16 9 (by decide)]
      have f739_ : (m724_ 80 313).toInt = (M 80 313).toInt := by rw [p726_.2 80 313 (by decide)]
      have d740_ : KD m724_ m724_ := KD_S hD (p726_.2) (p726_.2 3 3 (by decide)) (p726_.2 77 6 (by decide)) rfl
      have l741_ : LR j m724_ m724_ := LR_S hj hL (p726_.2) rfl rfl (p726_.2 77 17 (by decide))
      refine T_qg (i_add rfl l_1 (by omega) (by omega)) (by omega) (by omega) ?_
      refine T_qg (i_add rfl l_2 (by omega) (by omega)) (by omega) (by omega) ?_
      refine T_qg (i_add rfl l_3 (by omega) (by omega)) (by omega) (by omega) ?_
      refine T_qcE (t_X12_loophole hn _ _ _ m724_ g725_) ?_
      intro r742_ m743_ e746_ p745_
      have g744_ := p745_.1
      have f747_ : (m743_ 1 1).toInt = (m724_ 1 1).toInt := by rw [p745_.2 1 1 (by decide)]
      have f748_ : (m743_ 77 8).toInt = (m724_ 77 8).toInt := by rw [p745_.2 77 8 (by decide)]
      have f749_ : (m743_ 7 8).toInt = (m724_ 7 8).toInt := by rw [p745_.2 7 8 (by decide)]
      have f750_ : (m743_ 78 312).toInt = (m724_ 78 312).toInt := by rw [p745_.2 78 312 (by decide)]
      have f751_ : (m743_ 16 8).toInt = (m724_ 16 8).toInt := by rw [p745_.2 16 8 (by decide)]
      have f752_ : (m743_ 80 312).toInt = (m724_ 80 312).toInt := by rw [p745_.2 80 312 (by decide)]
      have f753_ : (m743_ 0 12).toInt = (m724_ 0 12).toInt := by rw [p745_.2 0 12 (by decide)]
      have f754_ : (m743_ 77 67).toInt = (m724_ 77 67).toInt := by rw [p745_.2 77 67 (by decide)]
      have f755_ : (m743_ 7 9).toInt = (m724_ 7 9).toInt := by rw [p745_.2 7 9 (by decide)]
      have f756_ : (m743_ 78 313).toInt = (m724_ 78 313).toInt := by rw [p745_.2 78 313 (by decide)]
      have f757_ : (m743_ 16 9).toInt = (m724_ 16 9).toInt := by rw [p745_.2 16 9 (by decide)]
      have f758_ : (m743_ 80 313).toInt = (m724_ 80 313).toInt := by rw [p745_.2 80 313 (by decide)]
      have d759_ : KD m743_ m743_ := KD_S d740_ (p745_.2) (p745_.2 3 3 (by decide)) (p745_.2 77 6 (by decide)) rfl
      have l760_ : LR j m743_ m743_ := LR_S hj l741_ (p745_.2) rfl rfl (p745_.2 77 17 (by decide))
      have q761_ : (m743_ 1 1).toInt = (m743_ 77 8).toInt := by omega
      have q762_ : (m743_ 7 8).toInt = (m743_ 78 312).toInt := by omega
      have q763_ : (m743_ 16 8).toInt = (m743_ 80 312).toInt := by omega
      have q764_ : (m743_ 0 12).toInt = (m743_ 77 67).toInt := by omega
      have q765_ : (m743_ 7 9).toInt = (m743_ 78 313).toInt := by omega
      have q766_ : (m743_ 16 9).toInt = (m743_ 80 313).toInt := by omega
      have f768_ := r_1_1 hG
      have t767_ : TR m743_ := TR_le hT (by omega) (funext (fun s_ => by rw [p745_.2 2 s_ (outc rfl), p726_.2 2 s_ (outc rfl)])) (funext (fun s_ => by rw [p745_.2 84 s_ (outc rfl), p726_.2 84 s_ (outc rfl)]))
      refine T_ql (i_add rfl l_7 (by omega) (by omega)) ?_
      intro x769_ h770_
      exact ih j r hj hr hjr x769_ m743_ (by omega) (by omega) g744_ q761_ q762_ q763_ q764_ q765_ q766_ t767_ d759_ l760_ (by omega)
    refine T_sw rfl l_15 (fun s771_ => ?_) (fun s771_ => ?_)
    · refine T_qg (i_add rfl l_1 (by omega) (by omega)) (by omega) (by omega) ?_
      refine T_qg (i_add rfl l_2 (by omega) (by omega)) (by omega) (by omega) ?_
      refine T_qg (i_add rfl l_3 (by omega) (by omega)) (by omega) (by omega) ?_
      refine T_qcE (t_X11_jobs hn hj _ _ _ M hG) ?_
      intro r772_ m773_ e776_ p775_
      have g774_ := p775_.2.2.1
      have f777_ : (m773_ 77 8).toInt = (M 77 8).toInt := by rw [p775_.2.2.2 77 8 (by decide)]
      have f778_ : (m773_ 7 8).toInt = (M 7 8).toInt := by rw [p775_.2.2.2 7 8 (by decide)]
      have f779_ : (m773_ 78 312).toInt = (M 78 312).toInt := by rw [p775_.2.2.2 78 312 (by decide)]
      have f780_ : (m773_ 16 8).toInt = (M 16 8).toInt := by rw [p775_.2.2.2 16 8 (by decide)]
      have f781_ : (m773_ 80 312).toInt = (M 80 312).toInt := by rw [p775_.2.2.2 80 312 (by decide)]
      have f782_ : (m773_ 0 12).toInt = (M 0 12).toInt := by rw [p775_.2.2.2 0 12 (by decide)]
      have f783_ : (m773_ 77 67).toInt = (M 77 67).toInt := by rw [p775_.2.2.2 77 67 (by decide)]
      have f784_ : (m773_ 7 9).toInt = (M 7 9).toInt := by rw [p775_.2.2.2 7 9 (by decide)]
      have f785_ : (m773_ 78 313).toInt = (M 78 313).toInt := by rw [p775_.2.2.2 78 313 (by decide)]
      have f786_ : (m773_ 16 9).toInt = (M 16 9).toInt := by rw [p775_.2.2.2 16 9 (by decide)]
      have f787_ : (m773_ 80 313).toInt = (M 80 313).toInt := by rw [p775_.2.2.2 80 313 (by decide)]
      have w788_ := p775_.2.1
      have d789_ : KD m773_ m773_ := KD_S hD (p775_.2.2.2) (p775_.2.2.2 3 3 (by decide)) (p775_.2.2.2 77 6 (by decide)) rfl
      have l790_ : LR j m773_ m773_ := LR_S hj hL (p775_.2.2.2) rfl rfl (p775_.2.2.2 77 17 (by decide))
      refine T_qg (i_add rfl l_1 (by omega) (by omega)) (by omega) (by omega) ?_
      refine T_qg (i_add rfl l_2 (by omega) (by omega)) (by omega) (by omega) ?_
      refine T_qg (i_add rfl l_3 (by omega) (by omega)) (by omega) (by omega) ?_
      refine T_qcE (t_X12_jobs hn _ _ _ m773_ g774_) ?_
      intro r791_ m792_ e795_ p794_
      have g793_ := p794_.2.1
      have f796_ : (m792_ 1 1).toInt = (m773_ 1 1).toInt := by rw [p794_.2.2 1 1 (by decide)]
      have f797_ : (m792_ 7 8).toInt = (m773_ 7 8).toInt := by rw [p794_.2.2 7 8 (by decide)]
      have f798_ : (m792_ 78 312).toInt = (m773_ 78 312).toInt := by rw [p794_.2.2 78 312 (by decide)]
      have f799_ : (m792_ 16 8).toInt = (m773_ 16 8).toInt := by rw [p794_.2.2 16 8 (by decide)]
      have f800_ : (m792_ 80 312).toInt = (m773_ 80 312).toInt := by rw [p794_.2.2 80 312 (by decide)]
      have f801_ : (m792_ 0 12).toInt = (m773_ 0 12).toInt := by rw [p794_.2.2 0 12 (by decide)]
      have f802_ : (m792_ 77 67).toInt = (m773_ 77 67).toInt := by rw [p794_.2.2 77 67 (by decide)]
      have f803_ : (m792_ 7 9).toInt = (m773_ 7 9).toInt := by rw [p794_.2.2 7 9 (by decide)]
      have f804_ : (m792_ 78 313).toInt = (m773_ 78 313).toInt := by rw [p794_.2.2 78 313 (by decide)]
      have f805_ : (m792_ 16 9).toInt = (m773_ 16 9).toInt := by rw [p794_.2.2 16 9 (by decide)]
      have f806_ : (m792_ 80 313).toInt = (m773_ 80 313).toInt := by rw [p794_.2.2 80 313 (by decide)]
      have w807_ := p794_.1
      have d808_ : KD m792_ m792_ := KD_S d789_ (p794_.2.2) (p794_.2.2 3 3 (by decide)) (p794_.2.2 77 6 (by decide)) rfl
      have l809_ : LR j m792_ m792_ := LR_S hj l790_ (p794_.2.2) rfl rfl (p794_.2.2 77 17 (by decide))
      have q810_ : (m792_ 1 1).toInt = (m792_ 77 8).toInt := by omega
      have q811_ : (m792_ 7 8).toInt = (m792_ 78 312).toInt := by omega
      have q812_ : (m792_ 16 8).toInt = (m792_ 80 312).toInt := by omega
      have q813_ : (m792_ 0 12).toInt = (m792_ 77 67).toInt := by omega
      have q814_ : (m792_ 7 9).toInt = (m792_ 78 313).toInt := by omega
      have q815_ : (m792_ 16 9).toInt = (m792_ 80 313).toInt := by omega
      have f817_ := r_1_1 hG
      have t816_ : TR m792_ := TR_le hT (by omega) (funext (fun s_ => by rw [p794_.2.2 2 s_ (outc rfl), p775_.2.2.2 2 s_ (outc rfl)])) (funext (fun s_ => by rw [p794_.2.2 84 s_ (outc rfl), p775_.2.2.2 84 s_ (outc rfl)]))
      refine T_ql (i_add rfl l_7 (by omega) (by omega)) ?_
      intro x818_ h819_
      exact ih j r hj hr hjr x818_ m792_ (by omega) (by omega) g793_ q810_ q811_ q812_ q813_ q814_ q815_ t816_ d808_ l809_ (by omega)
    refine T_sw rfl l_16 (fun s820_ => ?_) (fun s820_ => ?_)
    · refine T_qg (i_add rfl l_1 (by omega) (by omega)) (by omega) (by omega) ?_
      refine T_qg (i_add rfl l_2 (by omega) (by omega)) (by omega) (by omega) ?_
      refine T_qg (i_add rfl l_3 (by omega) (by omega)) (by omega) (by omega) ?_
      refine T_qcE (t_X11_rivals hn _ _ _ M hG) ?_
      intro r821_ m822_ e825_ p824_
      have g823_ := p824_.1
      have f826_ : (m822_ 1 1).toInt = (M 1 1).toInt := by rw [p824_.2 1 1 (by decide)]
      have f827_ : (m822_ 77 8).toInt = (M 77 8).toInt := by rw [p824_.2 77 8 (by decide)]
      have f828_ : (m822_ 7 8).toInt = (M 7 8).toInt := by rw [p824_.2 7 8 (by decide)]
      have f829_ : (m822_ 78 312).toInt = (M 78 312).toInt := by rw [p824_.2 78 312 (by decide)]
      have f830_ : (m822_ 16 8).toInt = (M 16 8).toInt := by rw [p824_.2 16 8 (by decide)]
      have f831_ : (m822_ 80 312).toInt = (M 80 312).toInt := by rw [p824_.2 80 312 (by decide)]
      have f832_ : (m822_ 0 12).toInt = (M 0 12).toInt := by rw [p824_.2 0 12 (by decide)]
      have f833_ : (m822_ 77 67).toInt = (M 77 67).toInt := by rw [p824_.2 77 67 (by decide)]
      have f834_ : (m822_ 7 9).toInt = (M 7 9).toInt := by rw [p824_.2 7 9 (by decide)]
      have f835_ : (m822_ 78 313).toInt = (M 78 313).toInt := by rw [p824_.2 78 313 (by decide)]
      have f836_ : (m822_ 16 9).toInt = (M 16 9).toInt := by rw [p824_.2 16 9 (by decide)]
      have f837_ : (m822_ 80 313).toInt = (M 80 313).toInt := by rw [p824_.2 80 313 (by decide)]
      have d838_ : KD m822_ m822_ := KD_S hD (p824_.2) (p824_.2 3 3 (by decide)) (p824_.2 77 6 (by decide)) rfl
      have l839_ : LR j m822_ m822_ := LR_S hj hL (p824_.2) rfl rfl (p824_.2 77 17 (by decide))
      refine T_qg (i_add rfl l_1 (by omega) (by omega)) (by omega) (by omega) ?_
      refine T_qg (i_add rfl l_2 (by omega) (by omega)) (by omega) (by omega) ?_
      refine T_qg (i_add rfl l_3 (by omega) (by omega)) (by omega) (by omega) ?_
      refine T_qcE (t_X12_rivals hn _ _ _ m822_ g823_) ?_
      intro r840_ m841_ e844_ p843_
      have g842_ := p843_.1
      have f845_ : (m841_ 1 1).toInt = (m822_ 1 1).toInt := by rw [p843_.2 1 1 (by decide)]
      have f846_ : (m841_ 77 8).toInt = (m822_ 77 8).toInt := by rw [p843_.2 77 8 (by decide)]
      have f847_ : (m841_ 7 8).toInt = (m822_ 7 8).toInt := by rw [p843_.2 7 8 (by decide)]
      have f848_ : (m841_ 78 312).toInt = (m822_ 78 312).toInt := by rw [p843_.2 78 312 (by decide)]
      have f849_ : (m841_ 16 8).toInt = (m822_ 16 8).toInt := by rw [p843_.2 16 8 (by decide)]
      have f850_ : (m841_ 80 312).toInt = (m822_ 80 312).toInt := by rw [p843_.2 80 312 (by decide)]
      have f851_ : (m841_ 0 12).toInt = (m822_ 0 12).toInt := by rw [p843_.2 0 12 (by decide)]
      have f852_ : (m841_ 77 67).toInt = (m822_ 77 67).toInt := by rw [p843_.2 77 67 (by decide)]
      have f853_ : (m841_ 7 9).toInt = (m822_ 7 9).toInt := by rw [p843_.2 7 9 (by decide)]
      have f854_ : (m841_ 78 313).toInt = (m822_ 78 313).toInt := by rw [p843_.2 78 313 (by decide)]
      have f855_ : (m841_ 16 9).toInt = (m822_ 16 9).toInt := by rw [p843_.2 16 9 (by decide)]
      have f856_ : (m841_ 80 313).toInt = (m822_ 80 313).toInt := by rw [p843_.2 80 313 (by decide)]
      have d857_ : KD m841_ m841_ := KD_S d838_ (p843_.2) (p843_.2 3 3 (by decide)) (p843_.2 77 6 (by decide)) rfl
      have l858_ : LR j m841_ m841_ := LR_S hj l839_ (p843_.2) rfl rfl (p843_.2 77 17 (by decide))
      have q859_ : (m841_ 1 1).toInt = (m841_ 77 8).toInt := by omega
      have q860_ : (m841_ 7 8).toInt = (m841_ 78 312).toInt := by omega
      have q861_ : (m841_ 16 8).toInt = (m841_ 80 312).toInt := by omega
      have q862_ : (m841_ 0 12).toInt = (m841_ 77 67).toInt := by omega
      have q863_ : (m841_ 7 9).toInt = (m841_ 78 313).toInt := by omega
      have q864_ : (m841_ 16 9).toInt = (m841_ 80 313).toInt := by omega
      have f866_ := r_1_1 hG
      have t865_ : TR m841_ := TR_le hT (by omega) (funext (fun s_ => by rw [p843_.2 2 s_ (outc rfl), p824_.2 2 s_ (outc rfl)])) (funext (fun s_ => by rw [p843_.2 84 s_ (outc rfl), p824_.2 84 s_ (outc rfl)]))
      refine T_ql (i_add rfl l_7 (by omega) (by omega)) ?_
      intro x867_ h868_
      exact ih j r hj hr hjr x867_ m841_ (by omega) (by omega) g842_ q859_ q860_ q861_ q862_ q863_ q864_ t865_ d857_ l858_ (by omega)
    refine T_sw rfl l_17 (fun s869_ => ?_) (fun s869_ => ?_)
    · refine T_qg (i_add rfl l_1 (by omega) (by omega)) (by omega) (by omega) ?_
      refine T_qg (i_add rfl l_2 (by omega) (by omega)) (by omega) (by omega) ?_
      refine T_qg (i_add rfl l_3 (by omega) (by omega)) (by omega) (by omega) ?_
      refine T_qg (i_add rfl l_4 (by omega) (by omega)) (by omega) (by omega) ?_
      refine T_qcE (t_X11_histories hn hj _ _ _ _ M hG) ?_
      intro r870_ m871_ e874_ p873_
      have g872_ := p873_.2.1
      have f875_ : (m871_ 77 8).toInt = (M 77 8).toInt := by rw [p873_.2.2 77 8 (by decide)]
      have f876_ : (m871_ 7 8).toInt = (M 7 8).toInt := by rw [p873_.2.2 7 8 (by decide)]
      have f877_ : (m871_ 78 312).toInt = (M 78 312).toInt := by rw [p873_.2.2 78 312 (by decide)]
      have f878_ : (m871_ 16 8).toInt = (M 16 8).toInt := by rw [p873_.2.2 16 8 (by decide)]
      have f879_ : (m871_ 80 312).toInt = (M 80 312).toInt := by rw [p873_.2.2 80 312 (by decide)]
      have f880_ : (m871_ 0 12).toInt = (M 0 12).toInt := by rw [p873_.2.2 0 12 (by decide)]
      have f881_ : (m871_ 77 67).toInt = (M 77 67).toInt := by rw [p873_.2.2 77 67 (by decide)]
      have f882_ : (m871_ 7 9).toInt = (M 7 9).toInt := by rw [p873_.2.2 7 9 (by decide)]
      have f883_ : (m871_ 78 313).toInt = (M 78 313).toInt := by rw [p873_.2.2 78 313 (by decide)]
      have f884_ : (m871_ 16 9).toInt = (M 16 9).toInt := by rw [p873_.2.2 16 9 (by decide)]
      have f885_ : (m871_ 80 313).toInt = (M 80 313).toInt := by rw [p873_.2.2 80 313 (by decide)]
      have w886_ := p873_.1
      have d887_ : KD m871_ m871_ := KD_S hD (p873_.2.2) (p873_.2.2 3 3 (by decide)) (p873_.2.2 77 6 (by decide)) rfl
      have l888_ : LR j m871_ m871_ := LR_S hj hL (p873_.2.2) rfl rfl (p873_.2.2 77 17 (by decide))
      refine T_qg (i_add rfl l_1 (by omega) (by omega)) (by omega) (by omega) ?_
      refine T_qg (i_add rfl l_2 (by omega) (by omega)) (by omega) (by omega) ?_
      refine T_qg (i_add rfl l_3 (by omega) (by omega)) (by omega) (by omega) ?_
      refine T_qg (i_add rfl l_4 (by omega) (by omega)) (by omega) (by omega) ?_
      refine T_qcE (t_X12_histories hn _ _ _ _ m871_ g872_) ?_
      intro r889_ m890_ e893_ p892_
      have g891_ := p892_.2.1
      have f894_ : (m890_ 1 1).toInt = (m871_ 1 1).toInt := by rw [p892_.2.2 1 1 (by decide)]
      have f895_ : (m890_ 7 8).toInt = (m871_ 7 8).toInt := by rw [p892_.2.2 7 8 (by decide)]
      have f896_ : (m890_ 78 312).toInt = (m871_ 78 312).toInt := by rw [p892_.2.2 78 312 (by decide)]
      have f897_ : (m890_ 16 8).toInt = (m871_ 16 8).toInt := by rw [p892_.2.2 16 8 (by decide)]
      have f898_ : (m890_ 80 312).toInt = (m871_ 80 312).toInt := by rw [p892_.2.2 80 312 (by decide)]
      have f899_ : (m890_ 0 12).toInt = (m871_ 0 12).toInt := by rw [p892_.2.2 0 12 (by decide)]
      have f900_ : (m890_ 77 67).toInt = (m871_ 77 67).toInt := by rw [p892_.2.2 77 67 (by decide)]
      have f901_ : (m890_ 7 9).toInt = (m871_ 7 9).toInt := by rw [p892_.2.2 7 9 (by decide)]
      have f902_ : (m890_ 78 313).toInt = (m871_ 78 313).toInt := by rw [p892_.2.2 78 313 (by decide)]
      have f903_ : (m890_ 16 9).toInt = (m871_ 16 9).toInt := by rw [p892_.2.2 16 9 (by decide)]
      have f904_ : (m890_ 80 313).toInt = (m871_ 80 313).toInt := by rw [p892_.2.2 80 313 (by decide)]
      have w905_ := p892_.1
      have d906_ : KD m890_ m890_ := KD_S d887_ (p892_.2.2) (p892_.2.2 3 3 (by decide)) (p892_.2.2 77 6 (by decide)) rfl
      have l907_ : LR j m890_ m890_ := LR_S hj l888_ (p892_.2.2) rfl rfl (p892_.2.2 77 17 (by decide))
      have q908_ : (m890_ 1 1).toInt = (m890_ 77 8).toInt := by omega
      have q909_ : (m890_ 7 8).toInt = (m890_ 78 312).toInt := by omega
      have q910_ : (m890_ 16 8).toInt = (m890_ 80 312).toInt := by omega
      have q911_ : (m890_ 0 12).toInt = (m890_ 77 67).toInt := by omega
      have q912_ : (m890_ 7 9).toInt = (m890_ 78 313).toInt := by omega
      have q913_ : (m890_ 16 9).toInt = (m890_ 80 313).toInt := by omega
      have f915_ := r_1_1 hG
      have t914_ : TR m890_ := TR_le hT (by omega) (funext (fun s_ => by rw [p892_.2.2 2 s_ (outc rfl), p873_.2.2 2 s_ (outc rfl)])) (funext (fun s_ => by rw [p892_.2.2 84 s_ (outc rfl), p873_.2.2 84 s_ (outc rfl)]))
      refine T_ql (i_add rfl l_7 (by omega) (by omega)) ?_
      intro x916_ h917_
      exact ih j r hj hr hjr x916_ m890_ (by omega) (by omega) g891_ q908_ q909_ q910_ q911_ q912_ q913_ t914_ d906_ l907_ (by omega)
    refine T_sw rfl l_18 (fun s918_ => ?_) (fun s918_ => ?_)
    · refine T_qg (i_add rfl l_1 (by omega) (by omega)) (by omega) (by omega) ?_
      refine T_qg (i_add rfl l_2 (by omega) (by omega)) (by omega) (by omega) ?_
      refine T_qg (i_add rfl l_3 (by omega) (by omega)) (by omega) (by omega) ?_
      refine T_qg (i_add rfl l_4 (by omega) (by omega)) (by omega) (by omega) ?_
      refine T_eq rfl l_0 (fun c919_ => ?_) (fun c919_ => ?_)
      · refine T_qg (i_add rfl l_5 (by omega) (by omega)) (by omega) (by omega) ?_
        refine T_eq rfl l_0 (fun c920_ => ?_) (fun c920_ => ?_)
        · refine T_qg (i_add rfl l_6 (by omega) (by omega)) (by omega) (by omega) ?_
          refine T_qcE (t_X11_game hn _ _ _ _ _ _ M hG (by decide) (by decide)) ?_
          intro r921_ m922_ e925_ p924_
          have g923_ := p924_.2.1
          have f926_ : (m922_ 1 1).toInt = (M 1 1).toInt := by rw [p924_.2.2 1 1 (by decide)]
          have f927_ : (m922_ 77 8).toInt = (M 77 8).toInt := by rw [p924_.2.2 77 8 (by decide)]
          have f928_ : (m922_ 7 8).toInt = (M 7 8).toInt := by rw [p924_.2.2 7 8 (by decide)]
          have f929_ : (m922_ 78 312).toInt = (M 78 312).toInt := by rw [p924_.2.2 78 312 (by decide)]
          have f930_ : (m922_ 16 8).toInt = (M 16 8).toInt := by rw [p924_.2.2 16 8 (by decide)]
          have f931_ : (m922_ 80 312).toInt = (M 80 312).toInt := by rw [p924_.2.2 80 312 (by decide)]
          have f932_ : (m922_ 0 12).toInt = (M 0 12).toInt := by rw [p924_.2.2 0 12 (by decide)]
          have f933_ : (m922_ 77 67).toInt = (M 77 67).toInt := by rw [p924_.2.2 77 67 (by decide)]
          have f934_ : (m922_ 7 9).toInt = (M 7 9).toInt := by rw [p924_.2.2 7 9 (by decide)]
          have f935_ : (m922_ 78 313).toInt = (M 78 313).toInt := by rw [p924_.2.2 78 313 (by decide)]
          have f936_ : (m922_ 16 9).toInt = (M 16 9).toInt := by rw [p924_.2.2 16 9 (by decide)]
          have f937_ : (m922_ 80 313).toInt = (M 80 313).toInt := by rw [p924_.2.2 80 313 (by decide)]
          have d938_ : KD m922_ m922_ := KD_S hD (p924_.2.2) (p924_.2.2 3 3 (by decide)) (p924_.2.2 77 6 (by decide)) rfl
          have l939_ : LR j m922_ m922_ := LR_S hj hL (p924_.2.2) rfl rfl (p924_.2.2 77 17 (by decide))
          refine T_qg (i_add rfl l_1 (by omega) (by omega)) (by omega) (by omega) ?_
          refine T_qg (i_add rfl l_2 (by omega) (by omega)) (by omega) (by omega) ?_
          refine T_qg (i_add rfl l_3 (by omega) (by omega)) (by omega) (by omega) ?_
          refine T_qg (i_add rfl l_4 (by omega) (by omega)) (by omega) (by omega) ?_
          refine T_eq rfl l_0 (fun c940_ => ?_) (fun c940_ => ?_)
          · refine T_qg (i_add rfl l_5 (by omega) (by omega)) (by omega) (by omega) ?_
            refine T_eq rfl l_0 (fun c941_ => ?_) (fun c941_ => ?_)
            · refine T_qg (i_add rfl l_6 (by omega) (by omega)) (by omega) (by omega) ?_
              refine T_qcE (t_X12_game hn _ _ _ _ _ _ m922_ g923_ (by decide) (by decide)) ?_
              intro r942_ m943_ e946_ p945_
              have g944_ := p945_.2.1
              have f947_ : (m943_ 1 1).toInt = (m922_ 1 1).toInt := by rw [p945_.2.2 1 1 (by decide)]
              have f948_ : (m943_ 77 8).toInt = (m922_ 77 8).toInt := by rw [p945_.2.2 77 8 (by decide)]
              have f949_ : (m943_ 7 8).toInt = (m922_ 7 8).toInt := by rw [p945_.2.2 7 8 (by decide)]
              have f950_ : (m943_ 78 312).toInt = (m922_ 78 312).toInt := by rw [p945_.2.2 78 312 (by decide)]
              have f951_ : (m943_ 16 8).toInt = (m922_ 16 8).toInt := by rw [p945_.2.2 16 8 (by decide)]
              have f952_ : (m943_ 80 312).toInt = (m922_ 80 312).toInt := by rw [p945_.2.2 80 312 (by decide)]
              have f953_ : (m943_ 0 12).toInt = (m922_ 0 12).toInt := by rw [p945_.2.2 0 12 (by decide)]
              have f954_ : (m943_ 77 67).toInt = (m922_ 77 67).toInt := by rw [p945_.2.2 77 67 (by decide)]
              have f955_ : (m943_ 7 9).toInt = (m922_ 7 9).toInt := by rw [p945_.2.2 7 9 (by decide)]
              have f956_ : (m943_ 78 313).toInt = (m922_ 78 313).toInt := by rw [p945_.2.2 78 313 (by decide)]
              have f957_ : (m943_ 16 9).toInt = (m922_ 16 9).toInt := by rw [p945_.2.2 16 9 (by decide)]
              have f958_ : (m943_ 80 313).toInt = (m922_ 80 313).toInt := by rw [p945_.2.2 80 313 (by decide)]
              have d959_ : KD m943_ m943_ := KD_S d938_ (p945_.2.2) (p945_.2.2 3 3 (by decide)) (p945_.2.2 77 6 (by decide)) rfl
              have l960_ : LR j m943_ m943_ := LR_S hj l939_ (p945_.2.2) rfl rfl (p945_.2.2 77 17 (by decide))
              have q961_ : (m943_ 1 1).toInt = (m943_ 77 8).toInt := by omega
              have q962_ : (m943_ 7 8).toInt = (m943_ 78 312).toInt := by omega
              have q963_ : (m943_ 16 8).toInt = (m943_ 80 312).toInt := by omega
              have q964_ : (m943_ 0 12).toInt = (m943_ 77 67).toInt := by omega
              have q965_ : (m943_ 7 9).toInt = (m943_ 78 313).toInt := by omega
              have q966_ : (m943_ 16 9).toInt = (m943_ 80 313).toInt := by omega
              have f968_ := r_1_1 hG
              have t967_ : TR m943_ := TR_le hT (by omega) (funext (fun s_ => by rw [p945_.2.2 2 s_ (outc rfl), p924_.2.2 2 s_ (outc rfl)])) (funext (fun s_ => by rw [p945_.2.2 84 s_ (outc rfl), p924_.2.2 84 s_ (outc rfl)]))
              refine T_ql (i_add rfl l_7 (by omega) (by omega)) ?_
              intro x969_ h970_
              exact ih j r hj hr hjr x969_ m943_ (by omega) (by omega) g944_ q961_ q962_ q963_ q964_ q965_ q966_ t967_ d959_ l960_ (by omega)
            · refine T_qg (i_add rfl l_6 (by omega) (by omega)) (by omega) (by omega) ?_
              refine T_qcE (t_X12_game hn _ _ _ _ _ _ m922_ g923_ (by decide) (by decide)) ?_
              intro r971_ m972_ e975_ p974_
              have g973_ := p974_.2.1
              have f976_ : (m972_ 1 1).toInt = (m922_ 1 1).toInt := by rw [p974_.2.2 1 1 (by decide)]
              have f977_ : (m972_ 77 8).toInt = (m922_ 77 8).toInt := by rw [p974_.2.2 77 8 (by decide)]
              have f978_ : (m972_ 7 8).toInt = (m922_ 7 8).toInt := by rw [p974_.2.2 7 8 (by decide)]
              have f979_ : (m972_ 78 312).toInt = (m922_ 78 312).toInt := by rw [p974_.2.2 78 312 (by decide)]
              have f980_ : (m972_ 16 8).toInt = (m922_ 16 8).toInt := by rw [p974_.2.2 16 8 (by decide)]
              have f981_ : (m972_ 80 312).toInt = (m922_ 80 312).toInt := by rw [p974_.2.2 80 312 (by decide)]
              have f982_ : (m972_ 0 12).toInt = (m922_ 0 12).toInt := by rw [p974_.2.2 0 12 (by decide)]
              have f983_ : (m972_ 77 67).toInt = (m922_ 77 67).toInt := by rw [p974_.2.2 77 67 (by decide)]
              have f984_ : (m972_ 7 9).toInt = (m922_ 7 9).toInt := by rw [p974_.2.2 7 9 (by decide)]
              have f985_ : (m972_ 78 313).toInt = (m922_ 78 313).toInt := by rw [p974_.2.2 78 313 (by decide)]
              have f986_ : (m972_ 16 9).toInt = (m922_ 16 9).toInt := by rw [p974_.2.2 16 9 (by decide)]
              have f987_ : (m972_ 80 313).toInt = (m922_ 80 313).toInt := by rw [p974_.2.2 80 313 (by decide)]
              have d988_ : KD m972_ m972_ := KD_S d938_ (p974_.2.2) (p974_.2.2 3 3 (by decide)) (p974_.2.2 77 6 (by decide)) rfl
              have l989_ : LR j m972_ m972_ := LR_S hj l939_ (p974_.2.2) rfl rfl (p974_.2.2 77 17 (by decide))
              have q990_ : (m972_ 1 1).toInt = (m972_ 77 8).toInt := by omega
              have q991_ : (m972_ 7 8).toInt = (m972_ 78 312).toInt := by omega
              have q992_ : (m972_ 16 8).toInt = (m972_ 80 312).toInt := by omega
              have q993_ : (m972_ 0 12).toInt = (m972_ 77 67).toInt := by omega
              have q994_ : (m972_ 7 9).toInt = (m972_ 78 313).toInt := by omega
              have q995_ : (m972_ 16 9).toInt = (m972_ 80 313).toInt := by omega
              have f997_ := r_1_1 hG
              have t996_ : TR m972_ := TR_le hT (by omega) (funext (fun s_ => by rw [p974_.2.2 2 s_ (outc rfl), p924_.2.2 2 s_ (outc rfl)])) (funext (fun s_ => by rw [p974_.2.2 84 s_ (outc rfl), p924_.2.2 84 s_ (outc rfl)]))
              refine T_ql (i_add rfl l_7 (by omega) (by omega)) ?_
              intro x998_ h999_
              exact ih j r hj hr hjr x998_ m972_ (by omega) (by omega) g973_ q990_ q991_ q992_ q993_ q994_ q995_ t996_ d988_ l989_ (by omega)
          · refine T_qg (i_add rfl l_5 (by omega) (by omega)) (by omega) (by omega) ?_
            refine T_eq rfl l_0 (fun c1000_ => ?_) (fun c1000_ => ?_)
            · refine T_qg (i_add rfl l_6 (by omega) (by omega)) (by omega) (by omega) ?_
              refine T_qcE (t_X12_game hn _ _ _ _ _ _ m922_ g923_ (by decide) (by decide)) ?_
              intro r1001_ m1002_ e1005_ p1004_
              have g1003_ := p1004_.2.1
              have f1006_ : (m1002_ 1 1).toInt = (m922_ 1 1).toInt := by rw [p1004_.2.2 1 1 (by decide)]
              have f1007_ : (m1002_ 77 8).toInt = (m922_ 77 8).toInt := by rw [p1004_.2.2 77 8 (by decide)]
              have f1008_ : (m1002_ 7 8).toInt = (m922_ 7 8).toInt := by rw [p1004_.2.2 7 8 (by decide)]
              have f1009_ : (m1002_ 78 312).toInt = (m922_ 78 312).toInt := by rw [p1004_.2.2 78 312 (by decide)]
              have f1010_ : (m1002_ 16 8).toInt = (m922_ 16 8).toInt := by rw [p1004_.2.2 16 8 (by decide)]
              have f1011_ : (m1002_ 80 312).toInt = (m922_ 80 312).toInt := by rw [p1004_.2.2 80 312 (by decide)]
              have f1012_ : (m1002_ 0 12).toInt = (m922_ 0 12).toInt := by rw [p1004_.2.2 0 12 (by decide)]
              have f1013_ : (m1002_ 77 67).toInt = (m922_ 77 67).toInt := by rw [p1004_.2.2 77 67 (by decide)]
              have f1014_ : (m1002_ 7 9).toInt = (m922_ 7 9).toInt := by rw [p1004_.2.2 7 9 (by decide)]
              have f1015_ : (m1002_ 78 313).toInt = (m922_ 78 313).toInt := by rw [p1004_.2.2 78 313 (by decide)]
              have f1016_ : (m1002_ 16 9).toInt = (m922_ 16 9).toInt := by rw [p1004_.2.2 16 9 (by decide)]
              have f1017_ : (m1002_ 80 313).toInt = (m922_ 80 313).toInt := by rw [p1004_.2.2 80 313 (by decide)]
              have d1018_ : KD m1002_ m1002_ := KD_S d938_ (p1004_.2.2) (p1004_.2.2 3 3 (by decide)) (p1004_.2.2 77 6 (by decide)) rfl
              have l1019_ : LR j m1002_ m1002_ := LR_S hj l939_ (p1004_.2.2) rfl rfl (p1004_.2.2 77 17 (by decide))
              have q1020_ : (m1002_ 1 1).toInt = (m1002_ 77 8).toInt := by omega
              have q1021_ : (m1002_ 7 8).toInt = (m1002_ 78 312).toInt := by omega
              have q1022_ : (m1002_ 16 8).toInt = (m1002_ 80 312).toInt := by omega
              have q1023_ : (m1002_ 0 12).toInt = (m1002_ 77 67).toInt := by omega
              have q1024_ : (m1002_ 7 9).toInt = (m1002_ 78 313).toInt := by omega
              have q1025_ : (m1002_ 16 9).toInt = (m1002_ 80 313).toInt := by omega
              have f1027_ := r_1_1 hG
              have t1026_ : TR m1002_ := TR_le hT (by omega) (funext (fun s_ => by rw [p1004_.2.2 2 s_ (outc rfl), p924_.2.2 2 s_ (outc rfl)])) (funext (fun s_ => by rw [p1004_.2.2 84 s_ (outc rfl), p924_.2.2 84 s_ (outc rfl)]))
              refine T_ql (i_add rfl l_7 (by omega) (by omega)) ?_
              intro x1028_ h1029_
              exact ih j r hj hr hjr x1028_ m1002_ (by omega) (by omega) g1003_ q1020_ q1021_ q1022_ q1023_ q1024_ q1025_ t1026_ d1018_ l1019_ (by omega)
            · refine T_qg (i_add rfl l_6 (by omega) (by omega)) (by omega) (by omega) ?_
              refine T_qcE (t_X12_game hn _ _ _ _ _ _ m922_ g923_ (by decide) (by decide)) ?_
              intro r1030_ m1031_ e1034_ p1033_
              have g1032_ := p1033_.2.1
              have f1035_ : (m1031_ 1 1).toInt = (m922_ 1 1).toInt := by rw [p1033_.2.2 1 1 (by decide)]
              have f1036_ : (m1031_ 77 8).toInt = (m922_ 77 8).toInt := by rw [p1033_.2.2 77 8 (by decide)]
              have f1037_ : (m1031_ 7 8).toInt = (m922_ 7 8).toInt := by rw [p1033_.2.2 7 8 (by decide)]
              have f1038_ : (m1031_ 78 312).toInt = (m922_ 78 312).toInt := by rw [p1033_.2.2 78 312 (by decide)]
              have f1039_ : (m1031_ 16 8).toInt = (m922_ 16 8).toInt := by rw [p1033_.2.2 16 8 (by decide)]
              have f1040_ : (m1031_ 80 312).toInt = (m922_ 80 312).toInt := by rw [p1033_.2.2 80 312 (by decide)]
              have f1041_ : (m1031_ 0 12).toInt = (m922_ 0 12).toInt := by rw [p1033_.2.2 0 12 (by decide)]
              have f1042_ : (m1031_ 77 67).toInt = (m922_ 77 67).toInt := by rw [p1033_.2.2 77 67 (by decide)]
              have f1043_ : (m1031_ 7 9).toInt = (m922_ 7 9).toInt := by rw [p1033_.2.2 7 9 (by decide)]
              have f1044_ : (m1031_ 78 313).toInt = (m922_ 78 313).toInt := by rw [p1033_.2.2 78 313 (by decide)]
              have f1045_ : (m1031_ 16 9).toInt = (m922_ 16 9).toInt := by rw [p1033_.2.2 16 9 (by decide)]
              have f1046_ : (m1031_ 80 313).toInt = (m922_ 80 313).toInt := by rw [p1033_.2.2 80 313 (by decide)]
              have d1047_ : KD m1031_ m1031_ := KD_S d938_ (p1033_.2.2) (p1033_.2.2 3 3 (by decide)) (p1033_.2.2 77 6 (by decide)) rfl
              have l1048_ : LR j m1031_ m1031_ := LR_S hj l939_ (p1033_.2.2) rfl rfl (p1033_.2.2 77 17 (by decide))
              have q1049_ : (m1031_ 1 1).toInt = (m1031_ 77 8).toInt := by omega
              have q1050_ : (m1031_ 7 8).toInt = (m1031_ 78 312).toInt := by omega
              have q1051_ : (m1031_ 16 8).toInt = (m1031_ 80 312).toInt := by omega
              have q1052_ : (m1031_ 0 12).toInt = (m1031_ 77 67).toInt := by omega
              have q1053_ : (m1031_ 7 9).toInt = (m1031_ 78 313).toInt := by omega
              have q1054_ : (m1031_ 16 9).toInt = (m1031_ 80 313).toInt := by omega
              have f1056_ := r_1_1 hG
              have t1055_ : TR m1031_ := TR_le hT (by omega) (funext (fun s_ => by rw [p1033_.2.2 2 s_ (outc rfl), p924_.2.2 2 s_ (outc rfl)])) (funext (fun s_ => by rw [p1033_.2.2 84 s_ (outc rfl), p924_.2.2 84 s_ (outc rfl)]))
              refine T_ql (i_add rfl l_7 (by omega) (by omega)) ?_
              intro x1057_ h1058_
              exact ih j r hj hr hjr x1057_ m1031_ (by omega) (by omega) g1032_ q1049_ q1050_ q1051_ q1052_ q1053_ q1054_ t1055_ d1047_ l1048_ (by omega)
        · refine T_qg (i_add rfl l_6 (by omega) (by omega)) (by omega) (by omega) ?_
          refine T_qcE (t_X11_game hn _ _ _ _ _ _ M hG (by decide) (by decide)) ?_
          intro r1059_ m1060_ e1063_ p1062_
          have g1061_ := p1062_.2.1
          have f1064_ : (m1060_ 1 1).toInt = (M 1 1).toInt := by rw [p1062_.2.2 1 1 (by decide)]
          have f1065_ : (m1060_ 77 8).toInt = (M 77 8).toInt := by rw [p1062_.2.2 77 8 (by decide)]
          have f1066_ : (m1060_ 7 8).toInt = (M 7 8).toInt := by rw [p1062_.2.2 7 8 (by decide)]
          have f1067_ : (m1060_ 78 312).toInt = (M 78 312).toInt := by rw [p1062_.2.2 78 312 (by decide)]
          have f1068_ : (m1060_ 16 8).toInt = (M 16 8).toInt := by rw [p1062_.2.2 16 8 (by decide)]
          have f1069_ : (m1060_ 80 312).toInt = (M 80 312).toInt := by rw [p1062_.2.2 80 312 (by decide)]
          have f1070_ : (m1060_ 0 12).toInt = (M 0 12).toInt := by rw [p1062_.2.2 0 12 (by decide)]
          have f1071_ : (m1060_ 77 67).toInt = (M 77 67).toInt := by rw [p1062_.2.2 77 67 (by decide)]
          have f1072_ : (m1060_ 7 9).toInt = (M 7 9).toInt := by rw [p1062_.2.2 7 9 (by decide)]
          have f1073_ : (m1060_ 78 313).toInt = (M 78 313).toInt := by rw [p1062_.2.2 78 313 (by decide)]
          have f1074_ : (m1060_ 16 9).toInt = (M 16 9).toInt := by rw [p1062_.2.2 16 9 (by decide)]
          have f1075_ : (m1060_ 80 313).toInt = (M 80 313).toInt := by rw [p1062_.2.2 80 313 (by decide)]
          have d1076_ : KD m1060_ m1060_ := KD_S hD (p1062_.2.2) (p1062_.2.2 3 3 (by decide)) (p1062_.2.2 77 6 (by decide)) rfl
          have l1077_ : LR j m1060_ m1060_ := LR_S hj hL (p1062_.2.2) rfl rfl (p1062_.2.2 77 17 (by decide))
          refine T_qg (i_add rfl l_1 (by omega) (by omega)) (by omega) (by omega) ?_
          refine T_qg (i_add rfl l_2 (by omega) (by omega)) (by omega) (by omega) ?_
          refine T_qg (i_add rfl l_3 (by omega) (by omega)) (by omega) (by omega) ?_
          refine T_qg (i_add rfl l_4 (by omega) (by omega)) (by omega) (by omega) ?_
          refine T_eq rfl l_0 (fun c1078_ => ?_) (fun c1078_ => ?_)
          · refine T_qg (i_add rfl l_5 (by omega) (by omega)) (by omega) (by omega) ?_
            refine T_eq rfl l_0 (fun c1079_ => ?_) (fun c1079_ => ?_)
            · refine T_qg (i_add rfl l_6 (by omega) (by omega)) (by omega) (by omega) ?_
              refine T_qcE (t_X12_game hn _ _ _ _ _ _ m1060_ g1061_ (by decide) (by decide)) ?_
              intro r1080_ m1081_ e1084_ p1083_
              have g1082_ := p1083_.2.1
              have f1085_ : (m1081_ 1 1).toInt = (m1060_ 1 1).toInt := by rw [p1083_.2.2 1 1 (by decide)]
              have f1086_ : (m1081_ 77 8).toInt = (m1060_ 77 8).toInt := by rw [p1083_.2.2 77 8 (by decide)]
              have f1087_ : (m1081_ 7 8).toInt = (m1060_ 7 8).toInt := by rw [p1083_.2.2 7 8 (by decide)]
              have f1088_ : (m1081_ 78 312).toInt = (m1060_ 78 312).toInt := by rw [p1083_.2.2 78 312 (by decide)]
              have f1089_ : (m1081_ 16 8).toInt = (m1060_ 16 8).toInt := by rw [p1083_.2.2 16 8 (by decide)]
              have f1090_ : (m1081_ 80 312).toInt = (m1060_ 80 312).toInt := by rw [p1083_.2.2 80 312 (by decide)]
              have f1091_ : (m1081_ 0 12).toInt = (m1060_ 0 12).toInt := by rw [p1083_.2.2 0 12 (by decide)]
              have f1092_ : (m1081_ 77 67).toInt = (m1060_ 77 67).toInt := by rw [p1083_.2.2 77 67 (by decide)]
              have f1093_ : (m1081_ 7 9).toInt = (m1060_ 7 9).toInt := by rw [p1083_.2.2 7 9 (by decide)]
              have f1094_ : (m1081_ 78 313).toInt = (m1060_ 78 313).toInt := by rw [p1083_.2.2 78 313 (by decide)]
              have f1095_ : (m1081_ 16 9).toInt = (m1060_ 16 9).toInt := by rw [p1083_.2.2 16 9 (by decide)]
              have f1096_ : (m1081_ 80 313).toInt = (m1060_ 80 313).toInt := by rw [p1083_.2.2 80 313 (by decide)]
              have d1097_ : KD m1081_ m1081_ := KD_S d1076_ (p1083_.2.2) (p1083_.2.2 3 3 (by decide)) (p1083_.2.2 77 6 (by decide)) rfl
              have l1098_ : LR j m1081_ m1081_ := LR_S hj l1077_ (p1083_.2.2) rfl rfl (p1083_.2.2 77 17 (by decide))
              have q1099_ : (m1081_ 1 1).toInt = (m1081_ 77 8).toInt := by omega
              have q1100_ : (m1081_ 7 8).toInt = (m1081_ 78 312).toInt := by omega
              have q1101_ : (m1081_ 16 8).toInt = (m1081_ 80 312).toInt := by omega
              have q1102_ : (m1081_ 0 12).toInt = (m1081_ 77 67).toInt := by omega
              have q1103_ : (m1081_ 7 9).toInt = (m1081_ 78 313).toInt := by omega
              have q1104_ : (m1081_ 16 9).toInt = (m1081_ 80 313).toInt := by omega
              have f1106_ := r_1_1 hG
              have t1105_ : TR m1081_ := TR_le hT (by omega) (funext (fun s_ => by rw [p1083_.2.2 2 s_ (outc rfl), p1062_.2.2 2 s_ (outc rfl)])) (funext (fun s_ => by rw [p1083_.2.2 84 s_ (outc rfl), p1062_.2.2 84 s_ (outc rfl)]))
              refine T_ql (i_add rfl l_7 (by omega) (by omega)) ?_
              intro x1107_ h1108_
              exact ih j r hj hr hjr x1107_ m1081_ (by omega) (by omega) g1082_ q1099_ q1100_ q1101_ q1102_ q1103_ q1104_ t1105_ d1097_ l1098_ (by omega)
            · refine T_qg (i_add rfl l_6 (by omega) (by omega)) (by omega) (by omega) ?_
              refine T_qcE (t_X12_game hn _ _ _ _ _ _ m1060_ g1061_ (by decide) (by decide)) ?_
              intro r1109_ m1110_ e1113_ p1112_
              have g1111_ := p1112_.2.1
              have f1114_ : (m1110_ 1 1).toInt = (m1060_ 1 1).toInt := by rw [p1112_.2.2 1 1 (by decide)]
              have f1115_ : (m1110_ 77 8).toInt = (m1060_ 77 8).toInt := by rw [p1112_.2.2 77 8 (by decide)]
              have f1116_ : (m1110_ 7 8).toInt = (m1060_ 7 8).toInt := by rw [p1112_.2.2 7 8 (by decide)]
              have f1117_ : (m1110_ 78 312).toInt = (m1060_ 78 312).toInt := by rw [p1112_.2.2 78 312 (by decide)]
              have f1118_ : (m1110_ 16 8).toInt = (m1060_ 16 8).toInt := by rw [p1112_.2.2 16 8 (by decide)]
              have f1119_ : (m1110_ 80 312).toInt = (m1060_ 80 312).toInt := by rw [p1112_.2.2 80 312 (by decide)]
              have f1120_ : (m1110_ 0 12).toInt = (m1060_ 0 12).toInt := by rw [p1112_.2.2 0 12 (by decide)]
              have f1121_ : (m1110_ 77 67).toInt = (m1060_ 77 67).toInt := by rw [p1112_.2.2 77 67 (by decide)]
              have f1122_ : (m1110_ 7 9).toInt = (m1060_ 7 9).toInt := by rw [p1112_.2.2 7 9 (by decide)]
              have f1123_ : (m1110_ 78 313).toInt = (m1060_ 78 313).toInt := by rw [p1112_.2.2 78 313 (by decide)]
              have f1124_ : (m1110_ 16 9).toInt = (m1060_ 16 9).toInt := by rw [p1112_.2.2 16 9 (by decide)]
              have f1125_ : (m1110_ 80 313).toInt = (m1060_ 80 313).toInt := by rw [p1112_.2.2 80 313 (by decide)]
              have d1126_ : KD m1110_ m1110_ := KD_S d1076_ (p1112_.2.2) (p1112_.2.2 3 3 (by decide)) (p1112_.2.2 77 6 (by decide)) rfl
              have l1127_ : LR j m1110_ m1110_ := LR_S hj l1077_ (p1112_.2.2) rfl rfl (p1112_.2.2 77 17 (by decide))
              have q1128_ : (m1110_ 1 1).toInt = (m1110_ 77 8).toInt := by omega
              have q1129_ : (m1110_ 7 8).toInt = (m1110_ 78 312).toInt := by omega
              have q1130_ : (m1110_ 16 8).toInt = (m1110_ 80 312).toInt := by omega
              have q1131_ : (m1110_ 0 12).toInt = (m1110_ 77 67).toInt := by omega
              have q1132_ : (m1110_ 7 9).toInt = (m1110_ 78 313).toInt := by omega
              have q1133_ : (m1110_ 16 9).toInt = (m1110_ 80 313).toInt := by omega
              have f1135_ := r_1_1 hG
              have t1134_ : TR m1110_ := TR_le hT (by omega) (funext (fun s_ => by rw [p1112_.2.2 2 s_ (outc rfl), p1062_.2.2 2 s_ (outc rfl)])) (funext (fun s_ => by rw [p1112_.2.2 84 s_ (outc rfl), p1062_.2.2 84 s_ (outc rfl)]))
              refine T_ql (i_add rfl l_7 (by omega) (by omega)) ?_
              intro x1136_ h1137_
              exact ih j r hj hr hjr x1136_ m1110_ (by omega) (by omega) g1111_ q1128_ q1129_ q1130_ q1131_ q1132_ q1133_ t1134_ d1126_ l1127_ (by omega)
          · refine T_qg (i_add rfl l_5 (by omega) (by omega)) (by omega) (by omega) ?_
            refine T_eq rfl l_0 (fun c1138_ => ?_) (fun c1138_ => ?_)
            · refine T_qg (i_add rfl l_6 (by omega) (by omega)) (by omega) (by omega) ?_
              refine T_qcE (t_X12_game hn _ _ _ _ _ _ m1060_ g1061_ (by decide) (by decide)) ?_
              intro r1139_ m1140_ e1143_ p1142_
              have g1141_ := p1142_.2.1
              have f1144_ : (m1140_ 1 1).toInt = (m1060_ 1 1).toInt := by rw [p1142_.2.2 1 1 (by decide)]
              have f1145_ : (m1140_ 77 8).toInt = (m1060_ 77 8).toInt := by rw [p1142_.2.2 77 8 (by decide)]
              have f1146_ : (m1140_ 7 8).toInt = (m1060_ 7 8).toInt := by rw [p1142_.2.2 7 8 (by decide)]
              have f1147_ : (m1140_ 78 312).toInt = (m1060_ 78 312).toInt := by rw [p1142_.2.2 78 312 (by decide)]
              have f1148_ : (m1140_ 16 8).toInt = (m1060_ 16 8).toInt := by rw [p1142_.2.2 16 8 (by decide)]
              have f1149_ : (m1140_ 80 312).toInt = (m1060_ 80 312).toInt := by rw [p1142_.2.2 80 312 (by decide)]
              have f1150_ : (m1140_ 0 12).toInt = (m1060_ 0 12).toInt := by rw [p1142_.2.2 0 12 (by decide)]
              have f1151_ : (m1140_ 77 67).toInt = (m1060_ 77 67).toInt := by rw [p1142_.2.2 77 67 (by decide)]
              have f1152_ : (m1140_ 7 9).toInt = (m1060_ 7 9).toInt := by rw [p1142_.2.2 7 9 (by decide)]
              have f1153_ : (m1140_ 78 313).toInt = (m1060_ 78 313).toInt := by rw [p1142_.2.2 78 313 (by decide)]
              have f1154_ : (m1140_ 16 9).toInt = (m1060_ 16 9).toInt := by rw [p1142_.2.2 16 9 (by decide)]
              have f1155_ : (m1140_ 80 313).toInt = (m1060_ 80 313).toInt := by rw [p1142_.2.2 80 313 (by decide)]
              have d1156_ : KD m1140_ m1140_ := KD_S d1076_ (p1142_.2.2) (p1142_.2.2 3 3 (by decide)) (p1142_.2.2 77 6 (by decide)) rfl
              have l1157_ : LR j m1140_ m1140_ := LR_S hj l1077_ (p1142_.2.2) rfl rfl (p1142_.2.2 77 17 (by decide))
              have q1158_ : (m1140_ 1 1).toInt = (m1140_ 77 8).toInt := by omega
              have q1159_ : (m1140_ 7 8).toInt = (m1140_ 78 312).toInt := by omega
              have q1160_ : (m1140_ 16 8).toInt = (m1140_ 80 312).toInt := by omega
              have q1161_ : (m1140_ 0 12).toInt = (m1140_ 77 67).toInt := by omega
              have q1162_ : (m1140_ 7 9).toInt = (m1140_ 78 313).toInt := by omega
              have q1163_ : (m1140_ 16 9).toInt = (m1140_ 80 313).toInt := by omega
              have f1165_ := r_1_1 hG
              have t1164_ : TR m1140_ := TR_le hT (by omega) (funext (fun s_ => by rw [p1142_.2.2 2 s_ (outc rfl), p1062_.2.2 2 s_ (outc rfl)])) (funext (fun s_ => by rw [p1142_.2.2 84 s_ (outc rfl), p1062_.2.2 84 s_ (outc rfl)]))
              refine T_ql (i_add rfl l_7 (by omega) (by omega)) ?_
              intro x1166_ h1167_
              exact ih j r hj hr hjr x1166_ m1140_ (by omega) (by omega) g1141_ q1158_ q1159_ q1160_ q1161_ q1162_ q1163_ t1164_ d1156_ l1157_ (by omega)
            · refine T_qg (i_add rfl l_6 (by omega) (by omega)) (by omega) (by omega) ?_
              refine T_qcE (t_X12_game hn _ _ _ _ _ _ m1060_ g1061_ (by decide) (by decide)) ?_
              intro r1168_ m1169_ e1172_ p1171_
              have g1170_ := p1171_.2.1
              have f1173_ : (m1169_ 1 1).toInt = (m1060_ 1 1).toInt := by rw [p1171_.2.2 1 1 (by decide)]
              have f1174_ : (m1169_ 77 8).toInt = (m1060_ 77 8).toInt := by rw [p1171_.2.2 77 8 (by decide)]
              have f1175_ : (m1169_ 7 8).toInt = (m1060_ 7 8).toInt := by rw [p1171_.2.2 7 8 (by decide)]
              have f1176_ : (m1169_ 78 312).toInt = (m1060_ 78 312).toInt := by rw [p1171_.2.2 78 312 (by decide)]
              have f1177_ : (m1169_ 16 8).toInt = (m1060_ 16 8).toInt := by rw [p1171_.2.2 16 8 (by decide)]
              have f1178_ : (m1169_ 80 312).toInt = (m1060_ 80 312).toInt := by rw [p1171_.2.2 80 312 (by decide)]
              have f1179_ : (m1169_ 0 12).toInt = (m1060_ 0 12).toInt := by rw [p1171_.2.2 0 12 (by decide)]
              have f1180_ : (m1169_ 77 67).toInt = (m1060_ 77 67).toInt := by rw [p1171_.2.2 77 67 (by decide)]
              have f1181_ : (m1169_ 7 9).toInt = (m1060_ 7 9).toInt := by rw [p1171_.2.2 7 9 (by decide)]
              have f1182_ : (m1169_ 78 313).toInt = (m1060_ 78 313).toInt := by rw [p1171_.2.2 78 313 (by decide)]
              have f1183_ : (m1169_ 16 9).toInt = (m1060_ 16 9).toInt := by rw [p1171_.2.2 16 9 (by decide)]
              have f1184_ : (m1169_ 80 313).toInt = (m1060_ 80 313).toInt := by rw [p1171_.2.2 80 313 (by decide)]
              have d1185_ : KD m1169_ m1169_ := KD_S d1076_ (p1171_.2.2) (p1171_.2.2 3 3 (by decide)) (p1171_.2.2 77 6 (by decide)) rfl
              have l1186_ : LR j m1169_ m1169_ := LR_S hj l1077_ (p1171_.2.2) rfl rfl (p1171_.2.2 77 17 (by decide))
              have q1187_ : (m1169_ 1 1).toInt = (m1169_ 77 8).toInt := by omega
              have q1188_ : (m1169_ 7 8).toInt = (m1169_ 78 312).toInt := by omega
              have q1189_ : (m1169_ 16 8).toInt = (m1169_ 80 312).toInt := by omega
              have q1190_ : (m1169_ 0 12).toInt = (m1169_ 77 67).toInt := by omega
              have q1191_ : (m1169_ 7 9).toInt = (m1169_ 78 313).toInt := by omega
              have q1192_ : (m1169_ 16 9).toInt = (m1169_ 80 313).toInt := by omega
              have f1194_ := r_1_1 hG
              have t1193_ : TR m1169_ := TR_le hT (by omega) (funext (fun s_ => by rw [p1171_.2.2 2 s_ (outc rfl), p1062_.2.2 2 s_ (outc rfl)])) (funext (fun s_ => by rw [p1171_.2.2 84 s_ (outc rfl), p1062_.2.2 84 s_ (outc rfl)]))
              refine T_ql (i_add rfl l_7 (by omega) (by omega)) ?_
              intro x1195_ h1196_
              exact ih j r hj hr hjr x1195_ m1169_ (by omega) (by omega) g1170_ q1187_ q1188_ q1189_ q1190_ q1191_ q1192_ t1193_ d1185_ l1186_ (by omega)
      · refine T_qg (i_add rfl l_5 (by omega) (by omega)) (by omega) (by omega) ?_
        refine T_eq rfl l_0 (fun c1197_ => ?_) (fun c1197_ => ?_)
        · refine T_qg (i_add rfl l_6 (by omega) (by omega)) (by omega) (by omega) ?_
          refine T_qcE (t_X11_game hn _ _ _ _ _ _ M hG (by decide) (by decide)) ?_
          intro r1198_ m1199_ e1202_ p1201_
          have g1200_ := p1201_.2.1
          have f1203_ : (m1199_ 1 1).toInt = (M 1 1).toInt := by rw [p1201_.2.2 1 1 (by decide)]
          have f1204_ : (m1199_ 77 8).toInt = (M 77 8).toInt := by rw [p1201_.2.2 77 8 (by decide)]
          have f1205_ : (m1199_ 7 8).toInt = (M 7 8).toInt := by rw [p1201_.2.2 7 8 (by decide)]
          have f1206_ : (m1199_ 78 312).toInt = (M 78 312).toInt := by rw [p1201_.2.2 78 312 (by decide)]
          have f1207_ : (m1199_ 16 8).toInt = (M 16 8).toInt := by rw [p1201_.2.2 16 8 (by decide)]
          have f1208_ : (m1199_ 80 312).toInt = (M 80 312).toInt := by rw [p1201_.2.2 80 312 (by decide)]
          have f1209_ : (m1199_ 0 12).toInt = (M 0 12).toInt := by rw [p1201_.2.2 0 12 (by decide)]
          have f1210_ : (m1199_ 77 67).toInt = (M 77 67).toInt := by rw [p1201_.2.2 77 67 (by decide)]
          have f1211_ : (m1199_ 7 9).toInt = (M 7 9).toInt := by rw [p1201_.2.2 7 9 (by decide)]
          have f1212_ : (m1199_ 78 313).toInt = (M 78 313).toInt := by rw [p1201_.2.2 78 313 (by decide)]
          have f1213_ : (m1199_ 16 9).toInt = (M 16 9).toInt := by rw [p1201_.2.2 16 9 (by decide)]
          have f1214_ : (m1199_ 80 313).toInt = (M 80 313).toInt := by rw [p1201_.2.2 80 313 (by decide)]
          have d1215_ : KD m1199_ m1199_ := KD_S hD (p1201_.2.2) (p1201_.2.2 3 3 (by decide)) (p1201_.2.2 77 6 (by decide)) rfl
          have l1216_ : LR j m1199_ m1199_ := LR_S hj hL (p1201_.2.2) rfl rfl (p1201_.2.2 77 17 (by decide))
          refine T_qg (i_add rfl l_1 (by omega) (by omega)) (by omega) (by omega) ?_
          refine T_qg (i_add rfl l_2 (by omega) (by omega)) (by omega) (by omega) ?_
          refine T_qg (i_add rfl l_3 (by omega) (by omega)) (by omega) (by omega) ?_
          refine T_qg (i_add rfl l_4 (by omega) (by omega)) (by omega) (by omega) ?_
          refine T_eq rfl l_0 (fun c1217_ => ?_) (fun c1217_ => ?_)
          · refine T_qg (i_add rfl l_5 (by omega) (by omega)) (by omega) (by omega) ?_
            refine T_eq rfl l_0 (fun c1218_ => ?_) (fun c1218_ => ?_)
            · refine T_qg (i_add rfl l_6 (by omega) (by omega)) (by omega) (by omega) ?_
              refine T_qcE (t_X12_game hn _ _ _ _ _ _ m1199_ g1200_ (by decide) (by decide)) ?_
              intro r1219_ m1220_ e1223_ p1222_
              have g1221_ := p1222_.2.1
              have f1224_ : (m1220_ 1 1).toInt = (m1199_ 1 1).toInt := by rw [p1222_.2.2 1 1 (by decide)]
              have f1225_ : (m1220_ 77 8).toInt = (m1199_ 77 8).toInt := by rw [p1222_.2.2 77 8 (by decide)]
              have f1226_ : (m1220_ 7 8).toInt = (m1199_ 7 8).toInt := by rw [p1222_.2.2 7 8 (by decide)]
              have f1227_ : (m1220_ 78 312).toInt = (m1199_ 78 312).toInt := by rw [p1222_.2.2 78 312 (by decide)]
              have f1228_ : (m1220_ 16 8).toInt = (m1199_ 16 8).toInt := by rw [p1222_.2.2 16 8 (by decide)]
              have f1229_ : (m1220_ 80 312).toInt = (m1199_ 80 312).toInt := by rw [p1222_.2.2 80 312 (by decide)]
              have f1230_ : (m1220_ 0 12).toInt = (m1199_ 0 12).toInt := by rw [p1222_.2.2 0 12 (by decide)]
              have f1231_ : (m1220_ 77 67).toInt = (m1199_ 77 67).toInt := by rw [p1222_.2.2 77 67 (by decide)]
              have f1232_ : (m1220_ 7 9).toInt = (m1199_ 7 9).toInt := by rw [p1222_.2.2 7 9 (by decide)]
              have f1233_ : (m1220_ 78 313).toInt = (m1199_ 78 313).toInt := by rw [p1222_.2.2 78 313 (by decide)]
              have f1234_ : (m1220_ 16 9).toInt = (m1199_ 16 9).toInt := by rw [p1222_.2.2 16 9 (by decide)]
              have f1235_ : (m1220_ 80 313).toInt = (m1199_ 80 313).toInt := by rw [p1222_.2.2 80 313 (by decide)]
              have d1236_ : KD m1220_ m1220_ := KD_S d1215_ (p1222_.2.2) (p1222_.2.2 3 3 (by decide)) (p1222_.2.2 77 6 (by decide)) rfl
              have l1237_ : LR j m1220_ m1220_ := LR_S hj l1216_ (p1222_.2.2) rfl rfl (p1222_.2.2 77 17 (by decide))
              have q1238_ : (m1220_ 1 1).toInt = (m1220_ 77 8).toInt := by omega
              have q1239_ : (m1220_ 7 8).toInt = (m1220_ 78 312).toInt := by omega
              have q1240_ : (m1220_ 16 8).toInt = (m1220_ 80 312).toInt := by omega
              have q1241_ : (m1220_ 0 12).toInt = (m1220_ 77 67).toInt := by omega
              have q1242_ : (m1220_ 7 9).toInt = (m1220_ 78 313).toInt := by omega
              have q1243_ : (m1220_ 16 9).toInt = (m1220_ 80 313).toInt := by omega
              have f1245_ := r_1_1 hG
              have t1244_ : TR m1220_ := TR_le hT (by omega) (funext (fun s_ => by rw [p1222_.2.2 2 s_ (outc rfl), p1201_.2.2 2 s_ (outc rfl)])) (funext (fun s_ => by rw [p1222_.2.2 84 s_ (outc rfl), p1201_.2.2 84 s_ (outc rfl)]))
              refine T_ql (i_add rfl l_7 (by omega) (by omega)) ?_
              intro x1246_ h1247_
              exact ih j r hj hr hjr x1246_ m1220_ (by omega) (by omega) g1221_ q1238_ q1239_ q1240_ q1241_ q1242_ q1243_ t1244_ d1236_ l1237_ (by omega)
            · refine T_qg (i_add rfl l_6 (by omega) (by omega)) (by omega) (by omega) ?_
              refine T_qcE (t_X12_game hn _ _ _ _ _ _ m1199_ g1200_ (by decide) (by decide)) ?_
              intro r1248_ m1249_ e1252_ p1251_
              have g1250_ := p1251_.2.1
              have f1253_ : (m1249_ 1 1).toInt = (m1199_ 1 1).toInt := by rw [p1251_.2.2 1 1 (by decide)]
              have f1254_ : (m1249_ 77 8).toInt = (m1199_ 77 8).toInt := by rw [p1251_.2.2 77 8 (by decide)]
              have f1255_ : (m1249_ 7 8).toInt = (m1199_ 7 8).toInt := by rw [p1251_.2.2 7 8 (by decide)]
              have f1256_ : (m1249_ 78 312).toInt = (m1199_ 78 312).toInt := by rw [p1251_.2.2 78 312 (by decide)]
              have f1257_ : (m1249_ 16 8).toInt = (m1199_ 16 8).toInt := by rw [p1251_.2.2 16 8 (by decide)]
              have f1258_ : (m1249_ 80 312).toInt = (m1199_ 80 312).toInt := by rw [p1251_.2.2 80 312 (by decide)]
              have f1259_ : (m1249_ 0 12).toInt = (m1199_ 0 12).toInt := by rw [p1251_.2.2 0 12 (by decide)]
              have f1260_ : (m1249_ 77 67).toInt = (m1199_ 77 67).toInt := by rw [p1251_.2.2 77 67 (by decide)]
              have f1261_ : (m1249_ 7 9).toInt = (m1199_ 7 9).toInt := by rw [p1251_.2.2 7 9 (by decide)]
              have f1262_ : (m1249_ 78 313).toInt = (m1199_ 78 313).toInt := by rw [p1251_.2.2 78 313 (by decide)]
              have f1263_ : (m1249_ 16 9).toInt = (m1199_ 16 9).toInt := by rw [p1251_.2.2 16 9 (by decide)]
              have f1264_ : (m1249_ 80 313).toInt = (m1199_ 80 313).toInt := by rw [p1251_.2.2 80 313 (by decide)]
              have d1265_ : KD m1249_ m1249_ := KD_S d1215_ (p1251_.2.2) (p1251_.2.2 3 3 (by decide)) (p1251_.2.2 77 6 (by decide)) rfl
              have l1266_ : LR j m1249_ m1249_ := LR_S hj l1216_ (p1251_.2.2) rfl rfl (p1251_.2.2 77 17 (by decide))
              have q1267_ : (m1249_ 1 1).toInt = (m1249_ 77 8).toInt := by omega
              have q1268_ : (m1249_ 7 8).toInt = (m1249_ 78 312).toInt := by omega
              have q1269_ : (m1249_ 16 8).toInt = (m1249_ 80 312).toInt := by omega
              have q1270_ : (m1249_ 0 12).toInt = (m1249_ 77 67).toInt := by omega
              have q1271_ : (m1249_ 7 9).toInt = (m1249_ 78 313).toInt := by omega
              have q1272_ : (m1249_ 16 9).toInt = (m1249_ 80 313).toInt := by omega
              have f1274_ := r_1_1 hG
              have t1273_ : TR m1249_ := TR_le hT (by omega) (funext (fun s_ => by rw [p1251_.2.2 2 s_ (outc rfl), p1201_.2.2 2 s_ (outc rfl)])) (funext (fun s_ => by rw [p1251_.2.2 84 s_ (outc rfl), p1201_.2.2 84 s_ (outc rfl)]))
              refine T_ql (i_add rfl l_7 (by omega) (by omega)) ?_
              intro x1275_ h1276_
              exact ih j r hj hr hjr x1275_ m1249_ (by omega) (by omega) g1250_ q1267_ q1268_ q1269_ q1270_ q1271_ q1272_ t1273_ d1265_ l1266_ (by omega)
          · refine T_qg (i_add rfl l_5 (by omega) (by omega)) (by omega) (by omega) ?_
            refine T_eq rfl l_0 (fun c1277_ => ?_) (fun c1277_ => ?_)
            · refine T_qg (i_add rfl l_6 (by omega) (by omega)) (by omega) (by omega) ?_
              refine T_qcE (t_X12_game hn _ _ _ _ _ _ m1199_ g1200_ (by decide) (by decide)) ?_
              intro r1278_ m1279_ e1282_ p1281_
              have g1280_ := p1281_.2.1
              have f1283_ : (m1279_ 1 1).toInt = (m1199_ 1 1).toInt := by rw [p1281_.2.2 1 1 (by decide)]
              have f1284_ : (m1279_ 77 8).toInt = (m1199_ 77 8).toInt := by rw [p1281_.2.2 77 8 (by decide)]
              have f1285_ : (m1279_ 7 8).toInt = (m1199_ 7 8).toInt := by rw [p1281_.2.2 7 8 (by decide)]
              have f1286_ : (m1279_ 78 312).toInt = (m1199_ 78 312).toInt := by rw [p1281_.2.2 78 312 (by decide)]
              have f1287_ : (m1279_ 16 8).toInt = (m1199_ 16 8).toInt := by rw [p1281_.2.2 16 8 (by decide)]
              have f1288_ : (m1279_ 80 312).toInt = (m1199_ 80 312).toInt := by rw [p1281_.2.2 80 312 (by decide)]
              have f1289_ : (m1279_ 0 12).toInt = (m1199_ 0 12).toInt := by rw [p1281_.2.2 0 12 (by decide)]
              have f1290_ : (m1279_ 77 67).toInt = (m1199_ 77 67).toInt := by rw [p1281_.2.2 77 67 (by decide)]
              have f1291_ : (m1279_ 7 9).toInt = (m1199_ 7 9).toInt := by rw [p1281_.2.2 7 9 (by decide)]
              have f1292_ : (m1279_ 78 313).toInt = (m1199_ 78 313).toInt := by rw [p1281_.2.2 78 313 (by decide)]
              have f1293_ : (m1279_ 16 9).toInt = (m1199_ 16 9).toInt := by rw [p1281_.2.2 16 9 (by decide)]
              have f1294_ : (m1279_ 80 313).toInt = (m1199_ 80 313).toInt := by rw [p1281_.2.2 80 313 (by decide)]
              have d1295_ : KD m1279_ m1279_ := KD_S d1215_ (p1281_.2.2) (p1281_.2.2 3 3 (by decide)) (p1281_.2.2 77 6 (by decide)) rfl
              have l1296_ : LR j m1279_ m1279_ := LR_S hj l1216_ (p1281_.2.2) rfl rfl (p1281_.2.2 77 17 (by decide))
              have q1297_ : (m1279_ 1 1).toInt = (m1279_ 77 8).toInt := by omega
              have q1298_ : (m1279_ 7 8).toInt = (m1279_ 78 312).toInt := by omega
              have q1299_ : (m1279_ 16 8).toInt = (m1279_ 80 312).toInt := by omega
              have q1300_ : (m1279_ 0 12).toInt = (m1279_ 77 67).toInt := by omega
              have q1301_ : (m1279_ 7 9).toInt = (m1279_ 78 313).toInt := by omega
              have q1302_ : (m1279_ 16 9).toInt = (m1279_ 80 313).toInt := by omega
              have f1304_ := r_1_1 hG
              have t1303_ : TR m1279_ := TR_le hT (by omega) (funext (fun s_ => by rw [p1281_.2.2 2 s_ (outc rfl), p1201_.2.2 2 s_ (outc rfl)])) (funext (fun s_ => by rw [p1281_.2.2 84 s_ (outc rfl), p1201_.2.2 84 s_ (outc rfl)]))
              refine T_ql (i_add rfl l_7 (by omega) (by omega)) ?_
              intro x1305_ h1306_
              exact ih j r hj hr hjr x1305_ m1279_ (by omega) (by omega) g1280_ q1297_ q1298_ q1299_ q1300_ q1301_ q1302_ t1303_ d1295_ l1296_ (by omega)
            · refine T_qg (i_add rfl l_6 (by omega) (by omega)) (by omega) (by omega) ?_
              refine T_qcE (t_X12_game hn _ _ _ _ _ _ m1199_ g1200_ (by decide) (by decide)) ?_
              intro r1307_ m1308_ e1311_ p1310_
              have g1309_ := p1310_.2.1
              have f1312_ : (m1308_ 1 1).toInt = (m1199_ 1 1).toInt := by rw [p1310_.2.2 1 1 (by decide)]
              have f1313_ : (m1308_ 77 8).toInt = (m1199_ 77 8).toInt := by rw [p1310_.2.2 77 8 (by decide)]
              have f1314_ : (m1308_ 7 8).toInt = (m1199_ 7 8).toInt := by rw [p1310_.2.2 7 8 (by decide)]
              have f1315_ : (m1308_ 78 312).toInt = (m1199_ 78 312).toInt := by rw [p1310_.2.2 78 312 (by decide)]
              have f1316_ : (m1308_ 16 8).toInt = (m1199_ 16 8).toInt := by rw [p1310_.2.2 16 8 (by decide)]
              have f1317_ : (m1308_ 80 312).toInt = (m1199_ 80 312).toInt := by rw [p1310_.2.2 80 312 (by decide)]
              have f1318_ : (m1308_ 0 12).toInt = (m1199_ 0 12).toInt := by rw [p1310_.2.2 0 12 (by decide)]
              have f1319_ : (m1308_ 77 67).toInt = (m1199_ 77 67).toInt := by rw [p1310_.2.2 77 67 (by decide)]
              have f1320_ : (m1308_ 7 9).toInt = (m1199_ 7 9).toInt := by rw [p1310_.2.2 7 9 (by decide)]
              have f1321_ : (m1308_ 78 313).toInt = (m1199_ 78 313).toInt := by rw [p1310_.2.2 78 313 (by decide)]
              have f1322_ : (m1308_ 16 9).toInt = (m1199_ 16 9).toInt := by rw [p1310_.2.2 16 9 (by decide)]
              have f1323_ : (m1308_ 80 313).toInt = (m1199_ 80 313).toInt := by rw [p1310_.2.2 80 313 (by decide)]
              have d1324_ : KD m1308_ m1308_ := KD_S d1215_ (p1310_.2.2) (p1310_.2.2 3 3 (by decide)) (p1310_.2.2 77 6 (by decide)) rfl
              have l1325_ : LR j m1308_ m1308_ := LR_S hj l1216_ (p1310_.2.2) rfl rfl (p1310_.2.2 77 17 (by decide))
              have q1326_ : (m1308_ 1 1).toInt = (m1308_ 77 8).toInt := by omega
              have q1327_ : (m1308_ 7 8).toInt = (m1308_ 78 312).toInt := by omega
              have q1328_ : (m1308_ 16 8).toInt = (m1308_ 80 312).toInt := by omega
              have q1329_ : (m1308_ 0 12).toInt = (m1308_ 77 67).toInt := by omega
              have q1330_ : (m1308_ 7 9).toInt = (m1308_ 78 313).toInt := by omega
              have q1331_ : (m1308_ 16 9).toInt = (m1308_ 80 313).toInt := by omega
              have f1333_ := r_1_1 hG
              have t1332_ : TR m1308_ := TR_le hT (by omega) (funext (fun s_ => by rw [p1310_.2.2 2 s_ (outc rfl), p1201_.2.2 2 s_ (outc rfl)])) (funext (fun s_ => by rw [p1310_.2.2 84 s_ (outc rfl), p1201_.2.2 84 s_ (outc rfl)]))
              refine T_ql (i_add rfl l_7 (by omega) (by omega)) ?_
              intro x1334_ h1335_
              exact ih j r hj hr hjr x1334_ m1308_ (by omega) (by omega) g1309_ q1326_ q1327_ q1328_ q1329_ q1330_ q1331_ t1332_ d1324_ l1325_ (by omega)
        · refine T_qg (i_add rfl l_6 (by omega) (by omega)) (by omega) (by omega) ?_
          refine T_qcE (t_X11_game hn _ _ _ _ _ _ M hG (by decide) (by decide)) ?_
          intro r1336_ m1337_ e1340_ p1339_
          have g1338_ := p1339_.2.1
          have f1341_ : (m1337_ 1 1).toInt = (M 1 1).toInt := by rw [p1339_.2.2 1 1 (by decide)]
          have f1342_ : (m1337_ 77 8).toInt = (M 77 8).toInt := by rw [p1339_.2.2 77 8 (by decide)]
          have f1343_ : (m1337_ 7 8).toInt = (M 7 8).toInt := by rw [p1339_.2.2 7 8 (by decide)]
          have f1344_ : (m1337_ 78 312).toInt = (M 78 312).toInt := by rw [p1339_.2.2 78 312 (by decide)]
          have f1345_ : (m1337_ 16 8).toInt = (M 16 8).toInt := by rw [p1339_.2.2 16 8 (by decide)]
          have f1346_ : (m1337_ 80 312).toInt = (M 80 312).toInt := by rw [p1339_.2.2 80 312 (by decide)]
          have f1347_ : (m1337_ 0 12).toInt = (M 0 12).toInt := by rw [p1339_.2.2 0 12 (by decide)]
          have f1348_ : (m1337_ 77 67).toInt = (M 77 67).toInt := by rw [p1339_.2.2 77 67 (by decide)]
          have f1349_ : (m1337_ 7 9).toInt = (M 7 9).toInt := by rw [p1339_.2.2 7 9 (by decide)]
          have f1350_ : (m1337_ 78 313).toInt = (M 78 313).toInt := by rw [p1339_.2.2 78 313 (by decide)]
          have f1351_ : (m1337_ 16 9).toInt = (M 16 9).toInt := by rw [p1339_.2.2 16 9 (by decide)]
          have f1352_ : (m1337_ 80 313).toInt = (M 80 313).toInt := by rw [p1339_.2.2 80 313 (by decide)]
          have d1353_ : KD m1337_ m1337_ := KD_S hD (p1339_.2.2) (p1339_.2.2 3 3 (by decide)) (p1339_.2.2 77 6 (by decide)) rfl
          have l1354_ : LR j m1337_ m1337_ := LR_S hj hL (p1339_.2.2) rfl rfl (p1339_.2.2 77 17 (by decide))
          refine T_qg (i_add rfl l_1 (by omega) (by omega)) (by omega) (by omega) ?_
          refine T_qg (i_add rfl l_2 (by omega) (by omega)) (by omega) (by omega) ?_
          refine T_qg (i_add rfl l_3 (by omega) (by omega)) (by omega) (by omega) ?_
          refine T_qg (i_add rfl l_4 (by omega) (by omega)) (by omega) (by omega) ?_
          refine T_eq rfl l_0 (fun c1355_ => ?_) (fun c1355_ => ?_)
          · refine T_qg (i_add rfl l_5 (by omega) (by omega)) (by omega) (by omega) ?_
            refine T_eq rfl l_0 (fun c1356_ => ?_) (fun c1356_ => ?_)
            · refine T_qg (i_add rfl l_6 (by omega) (by omega)) (by omega) (by omega) ?_
              refine T_qcE (t_X12_game hn _ _ _ _ _ _ m1337_ g1338_ (by decide) (by decide)) ?_
              intro r1357_ m1358_ e1361_ p1360_
              have g1359_ := p1360_.2.1
              have f1362_ : (m1358_ 1 1).toInt = (m1337_ 1 1).toInt := by rw [p1360_.2.2 1 1 (by decide)]
              have f1363_ : (m1358_ 77 8).toInt = (m1337_ 77 8).toInt := by rw [p1360_.2.2 77 8 (by decide)]
              have f1364_ : (m1358_ 7 8).toInt = (m1337_ 7 8).toInt := by rw [p1360_.2.2 7 8 (by decide)]
              have f1365_ : (m1358_ 78 312).toInt = (m1337_ 78 312).toInt := by rw [p1360_.2.2 78 312 (by decide)]
              have f1366_ : (m1358_ 16 8).toInt = (m1337_ 16 8).toInt := by rw [p1360_.2.2 16 8 (by decide)]
              have f1367_ : (m1358_ 80 312).toInt = (m1337_ 80 312).toInt := by rw [p1360_.2.2 80 312 (by decide)]
              have f1368_ : (m1358_ 0 12).toInt = (m1337_ 0 12).toInt := by rw [p1360_.2.2 0 12 (by decide)]
              have f1369_ : (m1358_ 77 67).toInt = (m1337_ 77 67).toInt := by rw [p1360_.2.2 77 67 (by decide)]
              have f1370_ : (m1358_ 7 9).toInt = (m1337_ 7 9).toInt := by rw [p1360_.2.2 7 9 (by decide)]
              have f1371_ : (m1358_ 78 313).toInt = (m1337_ 78 313).toInt := by rw [p1360_.2.2 78 313 (by decide)]
              have f1372_ : (m1358_ 16 9).toInt = (m1337_ 16 9).toInt := by rw [p1360_.2.2 16 9 (by decide)]
              have f1373_ : (m1358_ 80 313).toInt = (m1337_ 80 313).toInt := by rw [p1360_.2.2 80 313 (by decide)]
              have d1374_ : KD m1358_ m1358_ := KD_S d1353_ (p1360_.2.2) (p1360_.2.2 3 3 (by decide)) (p1360_.2.2 77 6 (by decide)) rfl
              have l1375_ : LR j m1358_ m1358_ := LR_S hj l1354_ (p1360_.2.2) rfl rfl (p1360_.2.2 77 17 (by decide))
              have q1376_ : (m1358_ 1 1).toInt = (m1358_ 77 8).toInt := by omega
              have q1377_ : (m1358_ 7 8).toInt = (m1358_ 78 312).toInt := by omega
              have q1378_ : (m1358_ 16 8).toInt = (m1358_ 80 312).toInt := by omega
              have q1379_ : (m1358_ 0 12).toInt = (m1358_ 77 67).toInt := by omega
              have q1380_ : (m1358_ 7 9).toInt = (m1358_ 78 313).toInt := by omega
              have q1381_ : (m1358_ 16 9).toInt = (m1358_ 80 313).toInt := by omega
              have f1383_ := r_1_1 hG
              have t1382_ : TR m1358_ := TR_le hT (by omega) (funext (fun s_ => by rw [p1360_.2.2 2 s_ (outc rfl), p1339_.2.2 2 s_ (outc rfl)])) (funext (fun s_ => by rw [p1360_.2.2 84 s_ (outc rfl), p1339_.2.2 84 s_ (outc rfl)]))
              refine T_ql (i_add rfl l_7 (by omega) (by omega)) ?_
              intro x1384_ h1385_
              exact ih j r hj hr hjr x1384_ m1358_ (by omega) (by omega) g1359_ q1376_ q1377_ q1378_ q1379_ q1380_ q1381_ t1382_ d1374_ l1375_ (by omega)
            · refine T_qg (i_add rfl l_6 (by omega) (by omega)) (by omega) (by omega) ?_
              refine T_qcE (t_X12_game hn _ _ _ _ _ _ m1337_ g1338_ (by decide) (by decide)) ?_
              intro r1386_ m1387_ e1390_ p1389_
              have g1388_ := p1389_.2.1
              have f1391_ : (m1387_ 1 1).toInt = (m1337_ 1 1).toInt := by rw [p1389_.2.2 1 1 (by decide)]
              have f1392_ : (m1387_ 77 8).toInt = (m1337_ 77 8).toInt := by rw [p1389_.2.2 77 8 (by decide)]
              have f1393_ : (m1387_ 7 8).toInt = (m1337_ 7 8).toInt := by rw [p1389_.2.2 7 8 (by decide)]
              have f1394_ : (m1387_ 78 312).toInt = (m1337_ 78 312).toInt := by rw [p1389_.2.2 78 312 (by decide)]
              have f1395_ : (m1387_ 16 8).toInt = (m1337_ 16 8).toInt := by rw [p1389_.2.2 16 8 (by decide)]
              have f1396_ : (m1387_ 80 312).toInt = (m1337_ 80 312).toInt := by rw [p1389_.2.2 80 312 (by decide)]
              have f1397_ : (m1387_ 0 12).toInt = (m1337_ 0 12).toInt := by rw [p1389_.2.2 0 12 (by decide)]
              have f1398_ : (m1387_ 77 67).toInt = (m1337_ 77 67).toInt := by rw [p1389_.2.2 77 67 (by decide)]
              have f1399_ : (m1387_ 7 9).toInt = (m1337_ 7 9).toInt := by rw [p1389_.2.2 7 9 (by decide)]
              have f1400_ : (m1387_ 78 313).toInt = (m1337_ 78 313).toInt := by rw [p1389_.2.2 78 313 (by decide)]
              have f1401_ : (m1387_ 16 9).toInt = (m1337_ 16 9).toInt := by rw [p1389_.2.2 16 9 (by decide)]
              have f1402_ : (m1387_ 80 313).toInt = (m1337_ 80 313).toInt := by rw [p1389_.2.2 80 313 (by decide)]
              have d1403_ : KD m1387_ m1387_ := KD_S d1353_ (p1389_.2.2) (p1389_.2.2 3 3 (by decide)) (p1389_.2.2 77 6 (by decide)) rfl
              have l1404_ : LR j m1387_ m1387_ := LR_S hj l1354_ (p1389_.2.2) rfl rfl (p1389_.2.2 77 17 (by decide))
              have q1405_ : (m1387_ 1 1).toInt = (m1387_ 77 8).toInt := by omega
              have q1406_ : (m1387_ 7 8).toInt = (m1387_ 78 312).toInt := by omega
              have q1407_ : (m1387_ 16 8).toInt = (m1387_ 80 312).toInt := by omega
              have q1408_ : (m1387_ 0 12).toInt = (m1387_ 77 67).toInt := by omega
              have q1409_ : (m1387_ 7 9).toInt = (m1387_ 78 313).toInt := by omega
              have q1410_ : (m1387_ 16 9).toInt = (m1387_ 80 313).toInt := by omega
              have f1412_ := r_1_1 hG
              have t1411_ : TR m1387_ := TR_le hT (by omega) (funext (fun s_ => by rw [p1389_.2.2 2 s_ (outc rfl), p1339_.2.2 2 s_ (outc rfl)])) (funext (fun s_ => by rw [p1389_.2.2 84 s_ (outc rfl), p1339_.2.2 84 s_ (outc rfl)]))
              refine T_ql (i_add rfl l_7 (by omega) (by omega)) ?_
              intro x1413_ h1414_
              exact ih j r hj hr hjr x1413_ m1387_ (by omega) (by omega) g1388_ q1405_ q1406_ q1407_ q1408_ q1409_ q1410_ t1411_ d1403_ l1404_ (by omega)
          · refine T_qg (i_add rfl l_5 (by omega) (by omega)) (by omega) (by omega) ?_
            refine T_eq rfl l_0 (fun c1415_ => ?_) (fun c1415_ => ?_)
            · refine T_qg (i_add rfl l_6 (by omega) (by omega)) (by omega) (by omega) ?_
              refine T_qcE (t_X12_game hn _ _ _ _ _ _ m1337_ g1338_ (by decide) (by decide)) ?_
              intro r1416_ m1417_ e1420_ p1419_
              have g1418_ := p1419_.2.1
              have f1421_ : (m1417_ 1 1).toInt = (m1337_ 1 1).toInt := by rw [p1419_.2.2 1 1 (by decide)]
              have f1422_ : (m1417_ 77 8).toInt = (m1337_ 77 8).toInt := by rw [p1419_.2.2 77 8 (by decide)]
              have f1423_ : (m1417_ 7 8).toInt = (m1337_ 7 8).toInt := by rw [p1419_.2.2 7 8 (by decide)]
              have f1424_ : (m1417_ 78 312).toInt = (m1337_ 78 312).toInt := by rw [p1419_.2.2 78 312 (by decide)]
              have f1425_ : (m1417_ 16 8).toInt = (m1337_ 16 8).toInt := by rw [p1419_.2.2 16 8 (by decide)]
              have f1426_ : (m1417_ 80 312).toInt = (m1337_ 80 312).toInt := by rw [p1419_.2.2 80 312 (by decide)]
              have f1427_ : (m1417_ 0 12).toInt = (m1337_ 0 12).toInt := by rw [p1419_.2.2 0 12 (by decide)]
              have f1428_ : (m1417_ 77 67).toInt = (m1337_ 77 67).toInt := by rw [p1419_.2.2 77 67 (by decide)]
              have f1429_ : (m1417_ 7 9).toInt = (m1337_ 7 9).toInt := by rw [p1419_.2.2 7 9 (by decide)]
              have f1430_ : (m1417_ 78 313).toInt = (m1337_ 78 313).toInt := by rw [p1419_.2.2 78 313 (by decide)]
              have f1431_ : (m1417_ 16 9).toInt = (m1337_ 16 9).toInt := by rw [p1419_.2.2 16 9 (by decide)]
              have f1432_ : (m1417_ 80 313).toInt = (m1337_ 80 313).toInt := by rw [p1419_.2.2 80 313 (by decide)]
              have d1433_ : KD m1417_ m1417_ := KD_S d1353_ (p1419_.2.2) (p1419_.2.2 3 3 (by decide)) (p1419_.2.2 77 6 (by decide)) rfl
              have l1434_ : LR j m1417_ m1417_ := LR_S hj l1354_ (p1419_.2.2) rfl rfl (p1419_.2.2 77 17 (by decide))
              have q1435_ : (m1417_ 1 1).toInt = (m1417_ 77 8).toInt := by omega
              have q1436_ : (m1417_ 7 8).toInt = (m1417_ 78 312).toInt := by omega
              have q1437_ : (m1417_ 16 8).toInt = (m1417_ 80 312).toInt := by omega
              have q1438_ : (m1417_ 0 12).toInt = (m1417_ 77 67).toInt := by omega
              have q1439_ : (m1417_ 7 9).toInt = (m1417_ 78 313).toInt := by omega
              have q1440_ : (m1417_ 16 9).toInt = (m1417_ 80 313).toInt := by omega
              have f1442_ := r_1_1 hG
              have t1441_ : TR m1417_ := TR_le hT (by omega) (funext (fun s_ => by rw [p1419_.2.2 2 s_ (outc rfl), p1339_.2.2 2 s_ (outc rfl)])) (funext (fun s_ => by rw [p1419_.2.2 84 s_ (outc rfl), p1339_.2.2 84 s_ (outc rfl)]))
              refine T_ql (i_add rfl l_7 (by omega) (by omega)) ?_
              intro x1443_ h1444_
              exact ih j r hj hr hjr x1443_ m1417_ (by omega) (by omega) g1418_ q1435_ q1436_ q1437_ q1438_ q1439_ q1440_ t1441_ d1433_ l1434_ (by omega)
            · refine T_qg (i_add rfl l_6 (by omega) (by omega)) (by omega) (by omega) ?_
              refine T_qcE (t_X12_game hn _ _ _ _ _ _ m1337_ g1338_ (by decide) (by decide)) ?_
              intro r1445_ m1446_ e1449_ p1448_
              have g1447_ := p1448_.2.1
              have f1450_ : (m1446_ 1 1).toInt = (m1337_ 1 1).toInt := by rw [p1448_.2.2 1 1 (by decide)]
              have f1451_ : (m1446_ 77 8).toInt = (m1337_ 77 8).toInt := by rw [p1448_.2.2 77 8 (by decide)]
              have f1452_ : (m1446_ 7 8).toInt = (m1337_ 7 8).toInt := by rw [p1448_.2.2 7 8 (by decide)]
              have f1453_ : (m1446_ 78 312).toInt = (m1337_ 78 312).toInt := by rw [p1448_.2.2 78 312 (by decide)]
              have f1454_ : (m1446_ 16 8).toInt = (m1337_ 16 8).toInt := by rw [p1448_.2.2 16 8 (by decide)]
              have f1455_ : (m1446_ 80 312).toInt = (m1337_ 80 312).toInt := by rw [p1448_.2.2 80 312 (by decide)]
              have f1456_ : (m1446_ 0 12).toInt = (m1337_ 0 12).toInt := by rw [p1448_.2.2 0 12 (by decide)]
              have f1457_ : (m1446_ 77 67).toInt = (m1337_ 77 67).toInt := by rw [p1448_.2.2 77 67 (by decide)]
              have f1458_ : (m1446_ 7 9).toInt = (m1337_ 7 9).toInt := by rw [p1448_.2.2 7 9 (by decide)]
              have f1459_ : (m1446_ 78 313).toInt = (m1337_ 78 313).toInt := by rw [p1448_.2.2 78 313 (by decide)]
              have f1460_ : (m1446_ 16 9).toInt = (m1337_ 16 9).toInt := by rw [p1448_.2.2 16 9 (by decide)]
              have f1461_ : (m1446_ 80 313).toInt = (m1337_ 80 313).toInt := by rw [p1448_.2.2 80 313 (by decide)]
              have d1462_ : KD m1446_ m1446_ := KD_S d1353_ (p1448_.2.2) (p1448_.2.2 3 3 (by decide)) (p1448_.2.2 77 6 (by decide)) rfl
              have l1463_ : LR j m1446_ m1446_ := LR_S hj l1354_ (p1448_.2.2) rfl rfl (p1448_.2.2 77 17 (by decide))
              have q1464_ : (m1446_ 1 1).toInt = (m1446_ 77 8).toInt := by omega
              have q1465_ : (m1446_ 7 8).toInt = (m1446_ 78 312).toInt := by omega
              have q1466_ : (m1446_ 16 8).toInt = (m1446_ 80 312).toInt := by omega
              have q1467_ : (m1446_ 0 12).toInt = (m1446_ 77 67).toInt := by omega
              have q1468_ : (m1446_ 7 9).toInt = (m1446_ 78 313).toInt := by omega
              have q1469_ : (m1446_ 16 9).toInt = (m1446_ 80 313).toInt := by omega
              have f1471_ := r_1_1 hG
              have t1470_ : TR m1446_ := TR_le hT (by omega) (funext (fun s_ => by rw [p1448_.2.2 2 s_ (outc rfl), p1339_.2.2 2 s_ (outc rfl)])) (funext (fun s_ => by rw [p1448_.2.2 84 s_ (outc rfl), p1339_.2.2 84 s_ (outc rfl)]))
              refine T_ql (i_add rfl l_7 (by omega) (by omega)) ?_
              intro x1472_ h1473_
              exact ih j r hj hr hjr x1472_ m1446_ (by omega) (by omega) g1447_ q1464_ q1465_ q1466_ q1467_ q1468_ q1469_ t1470_ d1462_ l1463_ (by omega)
    refine T_sw rfl l_19 (fun s1474_ => ?_) (fun s1474_ => ?_)
    · refine T_qg (i_add rfl l_1 (by omega) (by omega)) (by omega) (by omega) ?_
      refine T_qg (i_add rfl l_2 (by omega) (by omega)) (by omega) (by omega) ?_
      refine T_qg (i_add rfl l_3 (by omega) (by omega)) (by omega) (by omega) ?_
      refine T_qg (i_add rfl l_4 (by omega) (by omega)) (by omega) (by omega) ?_
      refine T_qg (i_add rfl l_5 (by omega) (by omega)) (by omega) (by omega) ?_
      refine T_qg (i_add rfl l_6 (by omega) (by omega)) (by omega) (by omega) ?_
      refine T_qcE (t_X11_court hn _ _ _ _ _ _ M hG) ?_
      intro r1475_ m1476_ e1479_ p1478_
      have g1477_ := p1478_.2.1
      have f1480_ : (m1476_ 1 1).toInt = (M 1 1).toInt := by rw [p1478_.2.2 1 1 (by decide)]
      have f1481_ : (m1476_ 77 8).toInt = (M 77 8).toInt := by rw [p1478_.2.2 77 8 (by decide)]
      have f1482_ : (m1476_ 7 8).toInt = (M 7 8).toInt := by rw [p1478_.2.2 7 8 (by decide)]
      have f1483_ : (m1476_ 78 312).toInt = (M 78 312).toInt := by rw [p1478_.2.2 78 312 (by decide)]
      have f1484_ : (m1476_ 16 8).toInt = (M 16 8).toInt := by rw [p1478_.2.2 16 8 (by decide)]
      have f1485_ : (m1476_ 80 312).toInt = (M 80 312).toInt := by rw [p1478_.2.2 80 312 (by decide)]
      have f1486_ : (m1476_ 0 12).toInt = (M 0 12).toInt := by rw [p1478_.2.2 0 12 (by decide)]
      have f1487_ : (m1476_ 77 67).toInt = (M 77 67).toInt := by rw [p1478_.2.2 77 67 (by decide)]
      have f1488_ : (m1476_ 7 9).toInt = (M 7 9).toInt := by rw [p1478_.2.2 7 9 (by decide)]
      have f1489_ : (m1476_ 78 313).toInt = (M 78 313).toInt := by rw [p1478_.2.2 78 313 (by decide)]
      have f1490_ : (m1476_ 16 9).toInt = (M 16 9).toInt := by rw [p1478_.2.2 16 9 (by decide)]
      have f1491_ : (m1476_ 80 313).toInt = (M 80 313).toInt := by rw [p1478_.2.2 80 313 (by decide)]
      have d1492_ : KD m1476_ m1476_ := KD_S hD (p1478_.2.2) (p1478_.2.2 3 3 (by decide)) (p1478_.2.2 77 6 (by decide)) rfl
      have l1493_ : LR j m1476_ m1476_ := LR_S hj hL (p1478_.2.2) rfl rfl (p1478_.2.2 77 17 (by decide))
      refine T_qg (i_add rfl l_1 (by omega) (by omega)) (by omega) (by omega) ?_
      refine T_qg (i_add rfl l_2 (by omega) (by omega)) (by omega) (by omega) ?_
      refine T_qg (i_add rfl l_3 (by omega) (by omega)) (by omega) (by omega) ?_
      refine T_qg (i_add rfl l_4 (by omega) (by omega)) (by omega) (by omega) ?_
      refine T_qg (i_add rfl l_5 (by omega) (by omega)) (by omega) (by omega) ?_
      refine T_qg (i_add rfl l_6 (by omega) (by omega)) (by omega) (by omega) ?_
      refine T_qcE (t_X12_court hn _ _ _ _ _ _ m1476_ g1477_) ?_
      intro r1494_ m1495_ e1498_ p1497_
      have g1496_ := p1497_.2.1
      have f1499_ : (m1495_ 1 1).toInt = (m1476_ 1 1).toInt := by rw [p1497_.2.2 1 1 (by decide)]
      have f1500_ : (m1495_ 77 8).toInt = (m1476_ 77 8).toInt := by rw [p1497_.2.2 77 8 (by decide)]
      have f1501_ : (m1495_ 7 8).toInt = (m1476_ 7 8).toInt := by rw [p1497_.2.2 7 8 (by decide)]
      have f1502_ : (m1495_ 78 312).toInt = (m1476_ 78 312).toInt := by rw [p1497_.2.2 78 312 (by decide)]
      have f1503_ : (m1495_ 16 8).toInt = (m1476_ 16 8).toInt := by rw [p1497_.2.2 16 8 (by decide)]
      have f1504_ : (m1495_ 80 312).toInt = (m1476_ 80 312).toInt := by rw [p1497_.2.2 80 312 (by decide)]
      have f1505_ : (m1495_ 0 12).toInt = (m1476_ 0 12).toInt := by rw [p1497_.2.2 0 12 (by decide)]
      have f1506_ : (m1495_ 77 67).toInt = (m1476_ 77 67).toInt := by rw [p1497_.2.2 77 67 (by decide)]
      have f1507_ : (m1495_ 7 9).toInt = (m1476_ 7 9).toInt := by rw [p1497_.2.2 7 9 (by decide)]
      have f1508_ : (m1495_ 78 313).toInt = (m1476_ 78 313).toInt := by rw [p1497_.2.2 78 313 (by decide)]
      have f1509_ : (m1495_ 16 9).toInt = (m1476_ 16 9).toInt := by rw [p1497_.2.2 16 9 (by decide)]
      have f1510_ : (m1495_ 80 313).toInt = (m1476_ 80 313).toInt := by rw [p1497_.2.2 80 313 (by decide)]
      have d1511_ : KD m1495_ m1495_ := KD_S d1492_ (p1497_.2.2) (p1497_.2.2 3 3 (by decide)) (p1497_.2.2 77 6 (by decide)) rfl
      have l1512_ : LR j m1495_ m1495_ := LR_S hj l1493_ (p1497_.2.2) rfl rfl (p1497_.2.2 77 17 (by decide))
      have q1513_ : (m1495_ 1 1).toInt = (m1495_ 77 8).toInt := by omega
      have q1514_ : (m1495_ 7 8).toInt = (m1495_ 78 312).toInt := by omega
      have q1515_ : (m1495_ 16 8).toInt = (m1495_ 80 312).toInt := by omega
      have q1516_ : (m1495_ 0 12).toInt = (m1495_ 77 67).toInt := by omega
      have q1517_ : (m1495_ 7 9).toInt = (m1495_ 78 313).toInt := by omega
      have q1518_ : (m1495_ 16 9).toInt = (m1495_ 80 313).toInt := by omega
      have f1520_ := r_1_1 hG
      have t1519_ : TR m1495_ := TR_le hT (by omega) (funext (fun s_ => by rw [p1497_.2.2 2 s_ (outc rfl), p1478_.2.2 2 s_ (outc rfl)])) (funext (fun s_ => by rw [p1497_.2.2 84 s_ (outc rfl), p1478_.2.2 84 s_ (outc rfl)]))
      refine T_ql (i_add rfl l_7 (by omega) (by omega)) ?_
      intro x1521_ h1522_
      exact ih j r hj hr hjr x1521_ m1495_ (by omega) (by omega) g1496_ q1513_ q1514_ q1515_ q1516_ q1517_ q1518_ t1519_ d1511_ l1512_ (by omega)
    refine T_sw rfl l_20 (fun s1523_ => ?_) (fun s1523_ => ?_)
    · refine T_qcE (t_X11_keep hn M hG) ?_
      intro r1524_ m1525_ e1528_ p1527_
      have g1526_ := p1527_.2.1
      have f1529_ : (m1525_ 1 1).toInt = (M 1 1).toInt := by rw [p1527_.2.2 1 1 (by decide)]
      have f1530_ : (m1525_ 77 8).toInt = (M 77 8).toInt := by rw [p1527_.2.2 77 8 (by decide)]
      have f1531_ : (m1525_ 7 8).toInt = (M 7 8).toInt := by rw [p1527_.2.2 7 8 (by decide)]
      have f1532_ : (m1525_ 78 312).toInt = (M 78 312).toInt := by rw [p1527_.2.2 78 312 (by decide)]
      have f1533_ : (m1525_ 80 312).toInt = (M 80 312).toInt := by rw [p1527_.2.2 80 312 (by decide)]
      have f1534_ : (m1525_ 77 67).toInt = (M 77 67).toInt := by rw [p1527_.2.2 77 67 (by decide)]
      have f1535_ : (m1525_ 7 9).toInt = (M 7 9).toInt := by rw [p1527_.2.2 7 9 (by decide)]
      have f1536_ : (m1525_ 78 313).toInt = (M 78 313).toInt := by rw [p1527_.2.2 78 313 (by decide)]
      have f1537_ : (m1525_ 80 313).toInt = (M 80 313).toInt := by rw [p1527_.2.2 80 313 (by decide)]
      have w1538_ := p1527_.1
      have d1539_ : KD m1525_ m1525_ := KD_S hD (p1527_.2.2) (p1527_.2.2 3 3 (by decide)) (p1527_.2.2 77 6 (by decide)) rfl
      have l1540_ : LR j m1525_ m1525_ := LR_S hj hL (p1527_.2.2) rfl rfl (p1527_.2.2 77 17 (by decide))
      refine T_qcE (t_X12_keep hn m1525_ g1526_) ?_
      intro r1541_ m1542_ e1545_ p1544_
      have g1543_ := p1544_.2.1
      have f1546_ : (m1542_ 1 1).toInt = (m1525_ 1 1).toInt := by rw [p1544_.2.2 1 1 (by decide)]
      have f1547_ : (m1542_ 77 8).toInt = (m1525_ 77 8).toInt := by rw [p1544_.2.2 77 8 (by decide)]
      have f1548_ : (m1542_ 7 8).toInt = (m1525_ 7 8).toInt := by rw [p1544_.2.2 7 8 (by decide)]
      have f1549_ : (m1542_ 78 312).toInt = (m1525_ 78 312).toInt := by rw [p1544_.2.2 78 312 (by decide)]
      have f1550_ : (m1542_ 16 8).toInt = (m1525_ 16 8).toInt := by rw [p1544_.2.2 16 8 (by decide)]
      have f1551_ : (m1542_ 0 12).toInt = (m1525_ 0 12).toInt := by rw [p1544_.2.2 0 12 (by decide)]
      have f1552_ : (m1542_ 7 9).toInt = (m1525_ 7 9).toInt := by rw [p1544_.2.2 7 9 (by decide)]
      have f1553_ : (m1542_ 78 313).toInt = (m1525_ 78 313).toInt := by rw [p1544_.2.2 78 313 (by decide)]
      have f1554_ : (m1542_ 16 9).toInt = (m1525_ 16 9).toInt := by rw [p1544_.2.2 16 9 (by decide)]
      have w1555_ := p1544_.1
      have d1556_ : KD m1542_ m1542_ := KD_S d1539_ (p1544_.2.2) (p1544_.2.2 3 3 (by decide)) (p1544_.2.2 77 6 (by decide)) rfl
      have l1557_ : LR j m1542_ m1542_ := LR_S hj l1540_ (p1544_.2.2) rfl rfl (p1544_.2.2 77 17 (by decide))
      have q1558_ : (m1542_ 1 1).toInt = (m1542_ 77 8).toInt := by omega
      have q1559_ : (m1542_ 7 8).toInt = (m1542_ 78 312).toInt := by omega
      have q1560_ : (m1542_ 16 8).toInt = (m1542_ 80 312).toInt := by omega
      have q1561_ : (m1542_ 0 12).toInt = (m1542_ 77 67).toInt := by omega
      have q1562_ : (m1542_ 7 9).toInt = (m1542_ 78 313).toInt := by omega
      have q1563_ : (m1542_ 16 9).toInt = (m1542_ 80 313).toInt := by omega
      have f1565_ := r_1_1 hG
      have t1564_ : TR m1542_ := TR_le hT (by omega) (funext (fun s_ => by rw [p1544_.2.2 2 s_ (outc rfl), p1527_.2.2 2 s_ (outc rfl)])) (funext (fun s_ => by rw [p1544_.2.2 84 s_ (outc rfl), p1527_.2.2 84 s_ (outc rfl)]))
      refine T_ql (i_add rfl l_7 (by omega) (by omega)) ?_
      intro x1566_ h1567_
      exact ih j r hj hr hjr x1566_ m1542_ (by omega) (by omega) g1543_ q1558_ q1559_ q1560_ q1561_ q1562_ q1563_ t1564_ d1556_ l1557_ (by omega)
    refine T_sw rfl l_21 (fun s1568_ => ?_) (fun s1568_ => ?_)
    · refine T_qcE (t_X11_undo hn M hG) ?_
      intro r1569_ m1570_ e1573_ p1572_
      have g1571_ := p1572_.2.2.1
      have f1574_ : (m1570_ 1 1).toInt = (M 1 1).toInt := by rw [p1572_.2.2.2 1 1 (by decide)]
      have f1575_ : (m1570_ 77 8).toInt = (M 77 8).toInt := by rw [p1572_.2.2.2 77 8 (by decide)]
      have f1576_ : (m1570_ 78 312).toInt = (M 78 312).toInt := by rw [p1572_.2.2.2 78 312 (by decide)]
      have f1577_ : (m1570_ 16 8).toInt = (M 16 8).toInt := by rw [p1572_.2.2.2 16 8 (by decide)]
      have f1578_ : (m1570_ 80 312).toInt = (M 80 312).toInt := by rw [p1572_.2.2.2 80 312 (by decide)]
      have f1579_ : (m1570_ 0 12).toInt = (M 0 12).toInt := by rw [p1572_.2.2.2 0 12 (by decide)]
      have f1580_ : (m1570_ 77 67).toInt = (M 77 67).toInt := by rw [p1572_.2.2.2 77 67 (by decide)]
      have f1581_ : (m1570_ 78 313).toInt = (M 78 313).toInt := by rw [p1572_.2.2.2 78 313 (by decide)]
      have f1582_ : (m1570_ 16 9).toInt = (M 16 9).toInt := by rw [p1572_.2.2.2 16 9 (by decide)]
      have f1583_ : (m1570_ 80 313).toInt = (M 80 313).toInt := by rw [p1572_.2.2.2 80 313 (by decide)]
      have w1584_ := p1572_.2.1
      have d1585_ : KD m1570_ m1570_ := KD_S hD (p1572_.2.2.2) (p1572_.2.2.2 3 3 (by decide)) (p1572_.2.2.2 77 6 (by decide)) rfl
      have l1586_ : LR j m1570_ m1570_ := LR_S hj hL (p1572_.2.2.2) rfl rfl (p1572_.2.2.2 77 17 (by decide))
      refine T_qcE (t_X12_undo hn m1570_ g1571_) ?_
      intro r1587_ m1588_ e1591_ p1590_
      have g1589_ := p1590_.2.2.1
      have f1592_ : (m1588_ 1 1).toInt = (m1570_ 1 1).toInt := by rw [p1590_.2.2.2 1 1 (by decide)]
      have f1593_ : (m1588_ 77 8).toInt = (m1570_ 77 8).toInt := by rw [p1590_.2.2.2 77 8 (by decide)]
      have f1594_ : (m1588_ 7 8).toInt = (m1570_ 7 8).toInt := by rw [p1590_.2.2.2 7 8 (by decide)]
      have f1595_ : (m1588_ 16 8).toInt = (m1570_ 16 8).toInt := by rw [p1590_.2.2.2 16 8 (by decide)]
      have f1596_ : (m1588_ 80 312).toInt = (m1570_ 80 312).toInt := by rw [p1590_.2.2.2 80 312 (by decide)]
      have f1597_ : (m1588_ 0 12).toInt = (m1570_ 0 12).toInt := by rw [p1590_.2.2.2 0 12 (by decide)]
      have f1598_ : (m1588_ 77 67).toInt = (m1570_ 77 67).toInt := by rw [p1590_.2.2.2 77 67 (by decide)]
      have f1599_ : (m1588_ 7 9).toInt = (m1570_ 7 9).toInt := by rw [p1590_.2.2.2 7 9 (by decide)]
      have f1600_ : (m1588_ 16 9).toInt = (m1570_ 16 9).toInt := by rw [p1590_.2.2.2 16 9 (by decide)]
      have f1601_ : (m1588_ 80 313).toInt = (m1570_ 80 313).toInt := by rw [p1590_.2.2.2 80 313 (by decide)]
      have w1602_ := p1590_.2.1
      have d1603_ : KD m1588_ m1588_ := KD_S d1585_ (p1590_.2.2.2) (p1590_.2.2.2 3 3 (by decide)) (p1590_.2.2.2 77 6 (by decide)) rfl
      have l1604_ : LR j m1588_ m1588_ := LR_S hj l1586_ (p1590_.2.2.2) rfl rfl (p1590_.2.2.2 77 17 (by decide))
      have q1605_ : (m1588_ 1 1).toInt = (m1588_ 77 8).toInt := by omega
      have q1606_ : (m1588_ 7 8).toInt = (m1588_ 78 312).toInt := by omega
      have q1607_ : (m1588_ 16 8).toInt = (m1588_ 80 312).toInt := by omega
      have q1608_ : (m1588_ 0 12).toInt = (m1588_ 77 67).toInt := by omega
      have q1609_ : (m1588_ 7 9).toInt = (m1588_ 78 313).toInt := by omega
      have q1610_ : (m1588_ 16 9).toInt = (m1588_ 80 313).toInt := by omega
      have f1612_ := r_1_1 hG
      have t1611_ : TR m1588_ := TR_le hT (by omega) (funext (fun s_ => by rw [p1590_.2.2.2 2 s_ (outc rfl), p1572_.2.2.2 2 s_ (outc rfl)])) (funext (fun s_ => by rw [p1590_.2.2.2 84 s_ (outc rfl), p1572_.2.2.2 84 s_ (outc rfl)]))
      refine T_ql (i_add rfl l_7 (by omega) (by omega)) ?_
      intro x1613_ h1614_
      exact ih j r hj hr hjr x1613_ m1588_ (by omega) (by omega) g1589_ q1605_ q1606_ q1607_ q1608_ q1609_ q1610_ t1611_ d1603_ l1604_ (by omega)
    refine T_sw rfl l_22 (fun s1615_ => ?_) (fun s1615_ => ?_)
    · refine T_qg (i_add rfl l_1 (by omega) (by omega)) (by omega) (by omega) ?_
      refine T_qg (i_add rfl l_2 (by omega) (by omega)) (by omega) (by omega) ?_
      refine T_qcE (t_X11_check hn _ _ M hG) ?_
      intro r1616_ m1617_ e1620_ p1619_
      have g1618_ := p1619_.2.2.1
      have f1621_ : (m1617_ 77 8).toInt = (M 77 8).toInt := by rw [p1619_.2.2.2 77 8 (by decide)]
      have f1622_ : (m1617_ 7 8).toInt = (M 7 8).toInt := by rw [p1619_.2.2.2 7 8 (by decide)]
      have f1623_ : (m1617_ 78 312).toInt = (M 78 312).toInt := by rw [p1619_.2.2.2 78 312 (by decide)]
      have f1624_ : (m1617_ 16 8).toInt = (M 16 8).toInt := by rw [p1619_.2.2.2 16 8 (by decide)]
      have f1625_ : (m1617_ 80 312).toInt = (M 80 312).toInt := by rw [p1619_.2.2.2 80 312 (by decide)]
      have f1626_ : (m1617_ 0 12).toInt = (M 0 12).toInt := by rw [p1619_.2.2.2 0 12 (by decide)]
      have f1627_ : (m1617_ 77 67).toInt = (M 77 67).toInt := by rw [p1619_.2.2.2 77 67 (by decide)]
      have f1628_ : (m1617_ 7 9).toInt = (M 7 9).toInt := by rw [p1619_.2.2.2 7 9 (by decide)]
      have f1629_ : (m1617_ 78 313).toInt = (M 78 313).toInt := by rw [p1619_.2.2.2 78 313 (by decide)]
      have f1630_ : (m1617_ 16 9).toInt = (M 16 9).toInt := by rw [p1619_.2.2.2 16 9 (by decide)]
      have f1631_ : (m1617_ 80 313).toInt = (M 80 313).toInt := by rw [p1619_.2.2.2 80 313 (by decide)]
      have w1632_ := p1619_.2.1
      have d1633_ : KD m1617_ m1617_ := KD_S hD (p1619_.2.2.2) (p1619_.2.2.2 3 3 (by decide)) (p1619_.2.2.2 77 6 (by decide)) rfl
      have l1634_ : LR j m1617_ m1617_ := LR_S hj hL (p1619_.2.2.2) rfl rfl (p1619_.2.2.2 77 17 (by decide))
      refine T_qg (i_add rfl l_1 (by omega) (by omega)) (by omega) (by omega) ?_
      refine T_qg (i_add rfl l_2 (by omega) (by omega)) (by omega) (by omega) ?_
      refine T_qcE (t_X12_check hn _ _ m1617_ g1618_) ?_
      intro r1635_ m1636_ e1639_ p1638_
      have g1637_ := p1638_.2.2.1
      have f1640_ : (m1636_ 1 1).toInt = (m1617_ 1 1).toInt := by rw [p1638_.2.2.2 1 1 (by decide)]
      have f1641_ : (m1636_ 7 8).toInt = (m1617_ 7 8).toInt := by rw [p1638_.2.2.2 7 8 (by decide)]
      have f1642_ : (m1636_ 78 312).toInt = (m1617_ 78 312).toInt := by rw [p1638_.2.2.2 78 312 (by decide)]
      have f1643_ : (m1636_ 16 8).toInt = (m1617_ 16 8).toInt := by rw [p1638_.2.2.2 16 8 (by decide)]
      have f1644_ : (m1636_ 80 312).toInt = (m1617_ 80 312).toInt := by rw [p1638_.2.2.2 80 312 (by decide)]
      have f1645_ : (m1636_ 0 12).toInt = (m1617_ 0 12).toInt := by rw [p1638_.2.2.2 0 12 (by decide)]
      have f1646_ : (m1636_ 77 67).toInt = (m1617_ 77 67).toInt := by rw [p1638_.2.2.2 77 67 (by decide)]
      have f1647_ : (m1636_ 7 9).toInt = (m1617_ 7 9).toInt := by rw [p1638_.2.2.2 7 9 (by decide)]
      have f1648_ : (m1636_ 78 313).toInt = (m1617_ 78 313).toInt := by rw [p1638_.2.2.2 78 313 (by decide)]
      have f1649_ : (m1636_ 16 9).toInt = (m1617_ 16 9).toInt := by rw [p1638_.2.2.2 16 9 (by decide)]
      have f1650_ : (m1636_ 80 313).toInt = (m1617_ 80 313).toInt := by rw [p1638_.2.2.2 80 313 (by decide)]
      have w1651_ := p1638_.2.1
      have d1652_ : KD m1636_ m1636_ := KD_S d1633_ (p1638_.2.2.2) (p1638_.2.2.2 3 3 (by decide)) (p1638_.2.2.2 77 6 (by decide)) rfl
      have l1653_ : LR j m1636_ m1636_ := LR_S hj l1634_ (p1638_.2.2.2) rfl rfl (p1638_.2.2.2 77 17 (by decide))
      have b1654_ : m1617_ 78 312 = M 7 8 := Int32.toInt_inj.mp (by omega)
      rw [b1654_] at w1651_
      have q1655_ : (m1636_ 1 1).toInt = (m1636_ 77 8).toInt := by omega
      have q1656_ : (m1636_ 7 8).toInt = (m1636_ 78 312).toInt := by omega
      have q1657_ : (m1636_ 16 8).toInt = (m1636_ 80 312).toInt := by omega
      have q1658_ : (m1636_ 0 12).toInt = (m1636_ 77 67).toInt := by omega
      have q1659_ : (m1636_ 7 9).toInt = (m1636_ 78 313).toInt := by omega
      have q1660_ : (m1636_ 16 9).toInt = (m1636_ 80 313).toInt := by omega
      have f1662_ := r_1_1 hG
      have t1661_ : TR m1636_ := TR_le hT (by omega) (funext (fun s_ => by rw [p1638_.2.2.2 2 s_ (outc rfl), p1619_.2.2.2 2 s_ (outc rfl)])) (funext (fun s_ => by rw [p1638_.2.2.2 84 s_ (outc rfl), p1619_.2.2.2 84 s_ (outc rfl)]))
      refine T_ql (i_add rfl l_7 (by omega) (by omega)) ?_
      intro x1663_ h1664_
      exact ih j r hj hr hjr x1663_ m1636_ (by omega) (by omega) g1637_ q1655_ q1656_ q1657_ q1658_ q1659_ q1660_ t1661_ d1652_ l1653_ (by omega)
    refine T_sw rfl l_23 (fun s1665_ => ?_) (fun s1665_ => ?_)
    · refine T_qg (i_add rfl l_1 (by omega) (by omega)) (by omega) (by omega) ?_
      refine T_qcE (t_X11_count hn hj _ M hG) ?_
      intro r1666_ m1667_ e1670_ p1669_
      have g1668_ := p1669_.1
      have f1671_ : (m1667_ 1 1).toInt = (M 1 1).toInt := by rw [p1669_.2 1 1 (by decide)]
      have f1672_ : (m1667_ 77 8).toInt = (M 77 8).toInt := by rw [p1669_.2 77 8 (by decide)]
      have f1673_ : (m1667_ 7 8).toInt = (M 7 8).toInt := by rw [p1669_.2 7 8 (by decide)]
      have f1674_ : (m1667_ 78 312).toInt = (M 78 312).toInt := by rw [p1669_.2 78 312 (by decide)]
      have f1675_ : (m1667_ 16 8).toInt = (M 16 8).toInt := by rw [p1669_.2 16 8 (by decide)]
      have f1676_ : (m1667_ 80 312).toInt = (M 80 312).toInt := by rw [p1669_.2 80 312 (by decide)]
      have f1677_ : (m1667_ 0 12).toInt = (M 0 12).toInt := by rw [p1669_.2 0 12 (by decide)]
      have f1678_ : (m1667_ 77 67).toInt = (M 77 67).toInt := by rw [p1669_.2 77 67 (by decide)]
      have f1679_ : (m1667_ 7 9).toInt = (M 7 9).toInt := by rw [p1669_.2 7 9 (by decide)]
      have f1680_ : (m1667_ 78 313).toInt = (M 78 313).toInt := by rw [p1669_.2 78 313 (by decide)]
      have f1681_ : (m1667_ 16 9).toInt = (M 16 9).toInt := by rw [p1669_.2 16 9 (by decide)]
      have f1682_ : (m1667_ 80 313).toInt = (M 80 313).toInt := by rw [p1669_.2 80 313 (by decide)]
      have d1683_ : KD m1667_ m1667_ := KD_S hD (p1669_.2) (p1669_.2 3 3 (by decide)) (p1669_.2 77 6 (by decide)) rfl
      have l1684_ : LR j m1667_ m1667_ := LR_S hj hL (p1669_.2) rfl rfl (p1669_.2 77 17 (by decide))
      refine T_qg (i_add rfl l_1 (by omega) (by omega)) (by omega) (by omega) ?_
      refine T_qcE (t_X12_count hn _ m1667_ g1668_) ?_
      intro r1685_ m1686_ e1689_ p1688_
      have g1687_ := p1688_.1
      have f1690_ : (m1686_ 1 1).toInt = (m1667_ 1 1).toInt := by rw [p1688_.2 1 1 (by decide)]
      have f1691_ : (m1686_ 77 8).toInt = (m1667_ 77 8).toInt := by rw [p1688_.2 77 8 (by decide)]
      have f1692_ : (m1686_ 7 8).toInt = (m1667_ 7 8).toInt := by rw [p1688_.2 7 8 (by decide)]
      have f1693_ : (m1686_ 78 312).toInt = (m1667_ 78 312).toInt := by rw [p1688_.2 78 312 (by decide)]
      have f1694_ : (m1686_ 16 8).toInt = (m1667_ 16 8).toInt := by rw [p1688_.2 16 8 (by decide)]
      have f1695_ : (m1686_ 80 312).toInt = (m1667_ 80 312).toInt := by rw [p1688_.2 80 312 (by decide)]
      have f1696_ : (m1686_ 0 12).toInt = (m1667_ 0 12).toInt := by rw [p1688_.2 0 12 (by decide)]
      have f1697_ : (m1686_ 77 67).toInt = (m1667_ 77 67).toInt := by rw [p1688_.2 77 67 (by decide)]
      have f1698_ : (m1686_ 7 9).toInt = (m1667_ 7 9).toInt := by rw [p1688_.2 7 9 (by decide)]
      have f1699_ : (m1686_ 78 313).toInt = (m1667_ 78 313).toInt := by rw [p1688_.2 78 313 (by decide)]
      have f1700_ : (m1686_ 16 9).toInt = (m1667_ 16 9).toInt := by rw [p1688_.2 16 9 (by decide)]
      have f1701_ : (m1686_ 80 313).toInt = (m1667_ 80 313).toInt := by rw [p1688_.2 80 313 (by decide)]
      have d1702_ : KD m1686_ m1686_ := KD_S d1683_ (p1688_.2) (p1688_.2 3 3 (by decide)) (p1688_.2 77 6 (by decide)) rfl
      have l1703_ : LR j m1686_ m1686_ := LR_S hj l1684_ (p1688_.2) rfl rfl (p1688_.2 77 17 (by decide))
      have q1704_ : (m1686_ 1 1).toInt = (m1686_ 77 8).toInt := by omega
      have q1705_ : (m1686_ 7 8).toInt = (m1686_ 78 312).toInt := by omega
      have q1706_ : (m1686_ 16 8).toInt = (m1686_ 80 312).toInt := by omega
      have q1707_ : (m1686_ 0 12).toInt = (m1686_ 77 67).toInt := by omega
      have q1708_ : (m1686_ 7 9).toInt = (m1686_ 78 313).toInt := by omega
      have q1709_ : (m1686_ 16 9).toInt = (m1686_ 80 313).toInt := by omega
      have f1711_ := r_1_1 hG
      have t1710_ : TR m1686_ := TR_le hT (by omega) (funext (fun s_ => by rw [p1688_.2 2 s_ (outc rfl), p1669_.2 2 s_ (outc rfl)])) (funext (fun s_ => by rw [p1688_.2 84 s_ (outc rfl), p1669_.2 84 s_ (outc rfl)]))
      refine T_ql (i_add rfl l_7 (by omega) (by omega)) ?_
      intro x1712_ h1713_
      exact ih j r hj hr hjr x1712_ m1686_ (by omega) (by omega) g1687_ q1704_ q1705_ q1706_ q1707_ q1708_ q1709_ t1710_ d1702_ l1703_ (by omega)
    refine T_sw0 ?_
    refine T_ql (i_add rfl l_7 (by omega) (by omega)) ?_
    intro x1714_ h1715_
    exact ih j r hj hr hjr x1714_ M (by omega) (by omega) hG hR0 hR1 hR2 hR3 hR4 hR5 hT hD hL (by omega)
theorem pure_all : qPure := by
  intro g hN
  obtain ⟨M0, e, hF, hG⟩ := freshG
  obtain ⟨v, M', e2, hv⟩ := L_go (n := 200000) (Nat.le_refl _) g hN 4000 37 46 (Or.inl rfl) (Or.inr rfl) (by decide) 0 M0 (by decide) (by decide) hG (by rw [hF.1 1 1 (by decide), hF.1 77 8 (by decide)]) (by rw [hF.1 7 8 (by decide), hF.2.1 312 (by decide)]) (by rw [hF.1 16 8 (by decide), hF.2.2 80 312 (by decide) (by decide) (by decide) (by decide)]) (by rw [hF.1 0 12 (by decide), hF.1 77 67 (by decide)]) (by rw [hF.1 7 9 (by decide), hF.2.1 313 (by decide)]) (by rw [hF.1 16 9 (by decide), hF.2.2 80 313 (by decide) (by decide) (by decide) (by decide)]) (fun i hi => absurd hi (by rw [hF.1 1 1 (by decide)]; have z : ((0 : Int32).toInt : Int) = 0 := rfl; omega)) (KD_0 hF) (LR_0 hF) (by have z : ((0 : Int32).toInt : Int) = 0 := rfl; omega)
  subst hv
  exact ⟨200000, 4000, M0, M', e, e2⟩
