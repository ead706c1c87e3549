theorem T_qcE {F : qR} {f : Int32 → qM → qR} {P Q : Int32 → qM → Prop} (h : qT F Q) (k : ∀ v m, F = some (v, m) → Q v m → qT (f v m) P) : qT (qc F f) P := by
  obtain ⟨v, M, e, p⟩ := h
  have := k v M e p
  rw [e, qc_v]
  exact this
abbrev l_law : List Bx := [(1, 2, 1, 5), (37, 53, 0, 0)]
abbrev LQ (a1 : Int32) (M m : qM) : Prop := G m ∧ Sm l_law M m ∧ (((1 ≤ a1.toInt ∧ a1.toInt ≤ 240 ∧ a1.toInt ≤ (M 1 1).toInt) ∧ (m 1 1).toInt = 0) ∨ (¬ (1 ≤ a1.toInt ∧ a1.toInt ≤ 240 ∧ a1.toInt ≤ (M 1 1).toInt) ∧ (m 1 1).toInt = (M 1 1).toInt))
theorem T_qc2s {a1 : Int32} {M : qM} {F1 F2 : qR} {E1 E2 : Int32 → qM → qR} {P : Int32 → qM → Prop} (h : (∃ v m, F1 = some (v, m) ∧ LQ a1 M m) ∨ (F1 = none ∧ ∃ v m, F2 = some (v, m) ∧ LQ a1 M m)) (h1 : ∀ v m, F1 = some (v, m) → LQ a1 M m → qT (E1 v m) P) (h2 : ∀ v m, F2 = some (v, m) → LQ a1 M m → qT (E2 v m) P) : qT (qc2 F1 F2 E1 E2) P := by
  rcases h with ⟨v, m, e, g⟩ | ⟨e, v, m, e2, g⟩
  · have := h1 v m e g
    rw [e]; exact this
  · have := h2 v m e2 g
    rw [e, e2]; exact this
theorem law_tots {n : Nat} (hn : 200000 ≤ n) {j r : Nat} (hr : q_isLaw r) (a1 : Int32) (M : qM) (hG : G M) : (∃ v m, f_X11_law n j r a1 M = some (v, m) ∧ LQ a1 M m) ∨ (f_X11_law n j r a1 M = none ∧ ∃ v m, f_X11_lawS n j r a1 M = some (v, m) ∧ LQ a1 M m) := by
  unfold f_X11_law f_X11_lawS
  by_cases c1 : a1 < (1 : Int32)
  · rw [if_pos c1]; rw [Int32.lt_iff_toInt_lt] at c1; have z1 : (1 : Int32).toInt = 1 := rfl; exact Or.inl ⟨_, _, rfl, hG, Sm.rf, Or.inr ⟨by omega, rfl⟩⟩
  · rw [if_neg c1, if_neg c1]
    by_cases c2 : (240 : Int32) < a1
    · rw [if_pos c2]; rw [Int32.lt_iff_toInt_lt] at c2; have z1 : (240 : Int32).toInt = 240 := rfl; exact Or.inl ⟨_, _, rfl, hG, Sm.rf, Or.inr ⟨by omega, rfl⟩⟩
    · rw [if_neg c2, if_neg c2]
      by_cases c3 : a1 ≤ M 1 1
      · rw [if_pos c3, if_pos c3]
        rw [Int32.lt_iff_toInt_lt] at c1 c2
        rw [Int32.le_iff_toInt_le] at c3
        have z1 : (1 : Int32).toInt = 1 := rfl
        have z2 : (240 : Int32).toInt = 240 := rfl
        obtain ⟨v, m2, e, p⟩ := t_X4_read hn hr a1 M hG (by omega)
        obtain ⟨v3, m3, e3, p3⟩ := t_X9_clear hn m2 (p.1)
        have hs : Sm l_law M m3 := (Sm.mono (p.2) rfl).tr (Sm.mono (p3.2.2.2) rfl)
        have hz := p3.2.1
        rw [e, qc_v, qc_v, e3, qc_v, qc_v]
        by_cases c4 : v ≤ (0 : Int32)
        · rw [if_pos c4]; exact Or.inl ⟨_, _, rfl, p3.2.2.1, hs, Or.inl ⟨by omega, hz⟩⟩
        · rw [if_neg c4, if_neg c4]; exact Or.inr ⟨rfl, _, _, rfl, p3.2.2.1, hs, Or.inl ⟨by omega, hz⟩⟩
      · rw [if_neg c3]; rw [Int32.le_iff_toInt_le] at c3; exact Or.inl ⟨_, _, rfl, hG, Sm.rf, Or.inr ⟨by omega, rfl⟩⟩
theorem ofN {k : Nat} (h : k ≤ 3584) : (Int32.ofNat k).toInt = (k : Int) := nI_toInt (by omega)
set_option maxRecDepth 8000 in
set_option maxHeartbeats 4000000 in
theorem L_go {n : Nat} (hn : 200000 ≤ n) (g : qG) (hN : g.2.2.2.2.2.1 ≤ 3584) : ∀ (m j r : Nat), q_isLaw j → q_isLaw r → ∀ (a3 : Int32) (M : qM), 0 ≤ a3.toInt → a3.toInt ≤ 3600 → G M → (M 0 12).toInt = (M 77 67).toInt → 3700 - a3.toInt < (m : Int) → qT (f_L_law g n m j r a3 M) (fun v _ => v = 1) := by
  intro m
  induction m with
  | zero => intro j r _ _ a3 M _ _ _ _ h; exfalso; omega
  | succ m ih =>
    intro j r hj hr a3 M h0 h1 hG hR0 hm
    show qT (b_L_law g n j r (f_L_law g n m j r) (f_L_law g n m r j) a3 M) _
    unfold b_L_law
    refine T_lt (i_sub (ofN hN) l_7 (by omega) (by omega)) rfl (fun c => T_ret rfl) (fun c => ?_)
    refine T_qg rfl (by omega) (by omega) ?_
    refine T_sw rfl l_0 (fun s1_ => ?_) (fun s1_ => ?_)
    · refine T_qg (i_add rfl l_1 (by omega) (by omega)) (by omega) (by omega) ?_
      refine T_qg (i_add rfl l_2 (by omega) (by omega)) (by omega) (by omega) ?_
      refine T_qg (i_add rfl l_3 (by omega) (by omega)) (by omega) (by omega) ?_
      refine T_qg (i_add rfl l_4 (by omega) (by omega)) (by omega) (by omega) ?_
      refine T_qcE (t_X11_kind hn _ _ _ _ M hG) ?_
      intro r2_ m3_ e6_ p5_
      have g4_ := p5_.2.1
      have f7_ : (m3_ 0 12).toInt = (M 0 12).toInt := by rw [p5_.2.2 0 12 (by decide)]
      have f8_ : (m3_ 77 67).toInt = (M 77 67).toInt := by rw [p5_.2.2 77 67 (by decide)]
      refine T_qg (i_add rfl l_1 (by omega) (by omega)) (by omega) (by omega) ?_
      refine T_qg (i_add rfl l_2 (by omega) (by omega)) (by omega) (by omega) ?_
      refine T_qg (i_add rfl l_3 (by omega) (by omega)) (by omega) (by omega) ?_
      refine T_qg (i_add rfl l_4 (by omega) (by omega)) (by omega) (by omega) ?_
      refine T_qcE (t_X12_kind hn _ _ _ _ m3_ g4_) ?_
      intro r9_ m10_ e13_ p12_
      have g11_ := p12_.2.1
      have f14_ : (m10_ 0 12).toInt = (m3_ 0 12).toInt := by rw [p12_.2.2 0 12 (by decide)]
      have f15_ : (m10_ 77 67).toInt = (m3_ 77 67).toInt := by rw [p12_.2.2 77 67 (by decide)]
      have q16_ : (m10_ 0 12).toInt = (m10_ 77 67).toInt := by omega
      refine T_ql (i_add rfl l_7 (by omega) (by omega)) ?_
      intro x17_ h18_
      exact ih j r hj hr x17_ m10_ (by omega) (by omega) g11_ q16_ (by omega)
    refine T_sw rfl l_1 (fun s19_ => ?_) (fun s19_ => ?_)
    · refine T_qg (i_add rfl l_1 (by omega) (by omega)) (by omega) (by omega) ?_
      refine T_qg (i_add rfl l_2 (by omega) (by omega)) (by omega) (by omega) ?_
      refine T_qcE (t_X11_person hn _ _ M hG) ?_
      intro r20_ m21_ e24_ p23_
      have g22_ := p23_.2.2.1
      have f25_ : (m21_ 0 12).toInt = (M 0 12).toInt := by rw [p23_.2.2.2 0 12 (by decide)]
      have f26_ : (m21_ 77 67).toInt = (M 77 67).toInt := by rw [p23_.2.2.2 77 67 (by decide)]
      refine T_qg (i_add rfl l_1 (by omega) (by omega)) (by omega) (by omega) ?_
      refine T_qg (i_add rfl l_2 (by omega) (by omega)) (by omega) (by omega) ?_
      refine T_qcE (t_X12_person hn _ _ m21_ g22_) ?_
      intro r27_ m28_ e31_ p30_
      have g29_ := p30_.2.2.1
      have f32_ : (m28_ 0 12).toInt = (m21_ 0 12).toInt := by rw [p30_.2.2.2 0 12 (by decide)]
      have f33_ : (m28_ 77 67).toInt = (m21_ 77 67).toInt := by rw [p30_.2.2.2 77 67 (by decide)]
      have q34_ : (m28_ 0 12).toInt = (m28_ 77 67).toInt := by omega
      refine T_ql (i_add rfl l_7 (by omega) (by omega)) ?_
      intro x35_ h36_
      exact ih j r hj hr x35_ m28_ (by omega) (by omega) g29_ q34_ (by omega)
    refine T_sw rfl l_2 (fun s37_ => ?_) (fun s37_ => ?_)
    · refine T_qg (i_add rfl l_1 (by omega) (by omega)) (by omega) (by omega) ?_
      refine T_qg (i_add rfl l_2 (by omega) (by omega)) (by omega) (by omega) ?_
      refine T_qg (i_add rfl l_3 (by omega) (by omega)) (by omega) (by omega) ?_
      refine T_qg (i_add rfl l_4 (by omega) (by omega)) (by omega) (by omega) ?_
      refine T_qg (i_add rfl l_5 (by omega) (by omega)) (by omega) (by omega) ?_
      refine T_qcE (t_X11_feed hn _ _ _ _ _ M hG) ?_
      intro r38_ m39_ e42_ p41_
      have g40_ := p41_.2.2.1
      have f43_ : (m39_ 0 12).toInt = (M 0 12).toInt := by rw [p41_.2.2.2 0 12 (by decide)]
      have f44_ : (m39_ 77 67).toInt = (M 77 67).toInt := by rw [p41_.2.2.2 77 67 (by decide)]
      refine T_qg (i_add rfl l_1 (by omega) (by omega)) (by omega) (by omega) ?_
      refine T_qg (i_add rfl l_2 (by omega) (by omega)) (by omega) (by omega) ?_
      refine T_qg (i_add rfl l_3 (by omega) (by omega)) (by omega) (by omega) ?_
      refine T_qg (i_add rfl l_4 (by omega) (by omega)) (by omega) (by omega) ?_
      refine T_qg (i_add rfl l_5 (by omega) (by omega)) (by omega) (by omega) ?_
      refine T_qcE (t_X12_feed hn _ _ _ _ _ m39_ g40_) ?_
      intro r45_ m46_ e49_ p48_
      have g47_ := p48_.2.2.1
      have f50_ : (m46_ 0 12).toInt = (m39_ 0 12).toInt := by rw [p48_.2.2.2 0 12 (by decide)]
      have f51_ : (m46_ 77 67).toInt = (m39_ 77 67).toInt := by rw [p48_.2.2.2 77 67 (by decide)]
      have q52_ : (m46_ 0 12).toInt = (m46_ 77 67).toInt := by omega
      refine T_ql (i_add rfl l_7 (by omega) (by omega)) ?_
      intro x53_ h54_
      exact ih j r hj hr x53_ m46_ (by omega) (by omega) g47_ q52_ (by omega)
    refine T_sw rfl l_3 (fun s55_ => ?_) (fun s55_ => ?_)
    · refine T_qg (i_add rfl l_1 (by omega) (by omega)) (by omega) (by omega) ?_
      refine T_qc2s (law_tots hn hr _ M hG) (fun v_ m_ ee_ p_ => ?_) (fun v_ m_ ee_ p_ => ?_)
      · have f56_ : (m_ 0 12).toInt = (M 0 12).toInt := by rw [p_.2.1 0 12 (by decide)]
        have f57_ : (m_ 77 67).toInt = (M 77 67).toInt := by rw [p_.2.1 77 67 (by decide)]
        refine T_qg (i_add rfl l_1 (by omega) (by omega)) (by omega) (by omega) ?_
        refine T_qcE (t_X12_law hn _ m_ p_.1) ?_
        intro r58_ m59_ e62_ p61_
        have g60_ := p61_.1
        have f63_ : (m59_ 0 12).toInt = (m_ 0 12).toInt := by rw [show m59_ 0 12 = m_ 0 12 from congrFun (p61_.2.1.2 0 (by decide) (by decide)) 12]
        have f64_ : (m59_ 77 67).toInt = (m_ 77 67).toInt := by rw [show m59_ 77 67 = m_ 77 67 from p61_.2.1.1 67 (by decide)]
        have q65_ : (m59_ 0 12).toInt = (m59_ 77 67).toInt := by omega
        refine T_ql (i_add rfl l_7 (by omega) (by omega)) ?_
        intro x66_ h67_
        exact ih j r hj hr x66_ m59_ (by omega) (by omega) g60_ q65_ (by omega)
      · have f68_ : (m_ 0 12).toInt = (M 0 12).toInt := by rw [p_.2.1 0 12 (by decide)]
        have f69_ : (m_ 77 67).toInt = (M 77 67).toInt := by rw [p_.2.1 77 67 (by decide)]
        refine T_qg (i_add rfl l_1 (by omega) (by omega)) (by omega) (by omega) ?_
        refine T_qcE (t_X12_law hn _ m_ p_.1) ?_
        intro r70_ m71_ e74_ p73_
        have g72_ := p73_.1
        have f75_ : (m71_ 0 12).toInt = (m_ 0 12).toInt := by rw [show m71_ 0 12 = m_ 0 12 from congrFun (p73_.2.1.2 0 (by decide) (by decide)) 12]
        have f76_ : (m71_ 77 67).toInt = (m_ 77 67).toInt := by rw [show m71_ 77 67 = m_ 77 67 from p73_.2.1.1 67 (by decide)]
        have q77_ : (m71_ 0 12).toInt = (m71_ 77 67).toInt := by omega
        refine T_ql (i_add rfl l_7 (by omega) (by omega)) ?_
        intro x78_ h79_
        exact ih r j hr hj x78_ m71_ (by omega) (by omega) g72_ q77_ (by omega)
    refine T_sw rfl l_4 (fun s80_ => ?_) (fun s80_ => ?_)
    · refine T_qg (i_add rfl l_1 (by omega) (by omega)) (by omega) (by omega) ?_
      refine T_qg (i_add rfl l_2 (by omega) (by omega)) (by omega) (by omega) ?_
      refine T_qcE (t_X11_plan hn _ _ M hG) ?_
      intro r81_ m82_ e85_ p84_
      have g83_ := p84_.2.1
      have f86_ : (m82_ 0 12).toInt = (M 0 12).toInt := by rw [p84_.2.2 0 12 (by decide)]
      have f87_ : (m82_ 77 67).toInt = (M 77 67).toInt := by rw [p84_.2.2 77 67 (by decide)]
      refine T_qg (i_add rfl l_1 (by omega) (by omega)) (by omega) (by omega) ?_
      refine T_qg (i_add rfl l_2 (by omega) (by omega)) (by omega) (by omega) ?_
      refine T_qcE (t_X12_plan hn _ _ m82_ g83_) ?_
      intro r88_ m89_ e92_ p91_
      have g90_ := p91_.2.1
      have f93_ : (m89_ 0 12).toInt = (m82_ 0 12).toInt := by rw [p91_.2.2 0 12 (by decide)]
      have f94_ : (m89_ 77 67).toInt = (m82_ 77 67).toInt := by rw [p91_.2.2 77 67 (by decide)]
      have q95_ : (m89_ 0 12).toInt = (m89_ 77 67).toInt := by omega
      refine T_ql (i_add rfl l_7 (by omega) (by omega)) ?_
      intro x96_ h97_
      exact ih j r hj hr x96_ m89_ (by omega) (by omega) g90_ q95_ (by omega)
    refine T_sw rfl l_5 (fun s98_ => ?_) (fun s98_ => ?_)
    · refine T_qg (i_add rfl l_1 (by omega) (by omega)) (by omega) (by omega) ?_
      refine T_qg (i_add rfl l_2 (by omega) (by omega)) (by omega) (by omega) ?_
      refine T_qg (i_add rfl l_3 (by omega) (by omega)) (by omega) (by omega) ?_
      refine T_qcE (t_X11_tries hn hj _ _ _ M hG) ?_
      intro r99_ m100_ e103_ p102_
      have g101_ := p102_.2.1
      have f104_ : (m100_ 0 12).toInt = (M 0 12).toInt := by rw [p102_.2.2 0 12 (by decide)]
      have f105_ : (m100_ 77 67).toInt = (M 77 67).toInt := by rw [p102_.2.2 77 67 (by decide)]
      refine T_qg (i_add rfl l_1 (by omega) (by omega)) (by omega) (by omega) ?_
      refine T_qg (i_add rfl l_2 (by omega) (by omega)) (by omega) (by omega) ?_
      refine T_qg (i_add rfl l_3 (by omega) (by omega)) (by omega) (by omega) ?_
      refine T_qcE (t_X12_tries hn _ _ _ m100_ g101_) ?_
      intro r106_ m107_ e110_ p109_
      have g108_ := p109_.2.1
      have f111_ : (m107_ 0 12).toInt = (m100_ 0 12).toInt := by rw [p109_.2.2 0 12 (by decide)]
      have f112_ : (m107_ 77 67).toInt = (m100_ 77 67).toInt := by rw [p109_.2.2 77 67 (by decide)]
      have q113_ : (m107_ 0 12).toInt = (m107_ 77 67).toInt := by omega
      refine T_ql (i_add rfl l_7 (by omega) (by omega)) ?_
      intro x114_ h115_
      exact ih j r hj hr x114_ m107_ (by omega) (by omega) g108_ q113_ (by omega)
    refine T_sw rfl l_6 (fun s116_ => ?_) (fun s116_ => ?_)
    · refine T_qg (i_add rfl l_1 (by omega) (by omega)) (by omega) (by omega) ?_
      refine T_qg (i_add rfl l_2 (by omega) (by omega)) (by omega) (by omega) ?_
      refine T_qg (i_add rfl l_3 (by omega) (by omega)) (by omega) (by omega) ?_
      refine T_qcE (t_X11_buys hn hj _ _ _ M hG) ?_
      intro r117_ m118_ e121_ p120_
      have g119_ := p120_.2.1
      have f122_ : (m118_ 0 12).toInt = (M 0 12).toInt := by rw [p120_.2.2 0 12 (by decide)]
      have f123_ : (m118_ 77 67).toInt = (M 77 67).toInt := by rw [p120_.2.2 77 67 (by decide)]
      refine T_qg (i_add rfl l_1 (by omega) (by omega)) (by omega) (by omega) ?_
      refine T_qg (i_add rfl l_2 (by omega) (by omega)) (by omega) (by omega) ?_
      refine T_qg (i_add rfl l_3 (by omega) (by omega)) (by omega) (by omega) ?_
      refine T_qcE (t_X12_buys hn _ _ _ m118_ g119_) ?_
      intro r124_ m125_ e128_ p127_
      have g126_ := p127_.2.1
      have f129_ : (m125_ 0 12).toInt = (m118_ 0 12).toInt := by rw [p127_.2.2 0 12 (by decide)]
      have f130_ : (m125_ 77 67).toInt = (m118_ 77 67).toInt := by rw [p127_.2.2 77 67 (by decide)]
      have q131_ : (m125_ 0 12).toInt = (m125_ 77 67).toInt := by omega
      refine T_ql (i_add rfl l_7 (by omega) (by omega)) ?_
      intro x132_ h133_
      exact ih j r hj hr x132_ m125_ (by omega) (by omega) g126_ q131_ (by omega)
    refine T_sw rfl l_7 (fun s134_ => ?_) (fun s134_ => ?_)
    · refine T_qg (i_add rfl l_1 (by omega) (by omega)) (by omega) (by omega) ?_
      refine T_qcE (t_X11_days hn hj _ M hG) ?_
      intro r135_ m136_ e139_ p138_
      have g137_ := p138_.2.1
      have f140_ : (m136_ 0 12).toInt = (M 0 12).toInt := by rw [p138_.2.2 0 12 (by decide)]
      have f141_ : (m136_ 77 67).toInt = (M 77 67).toInt := by rw [p138_.2.2 77 67 (by decide)]
      refine T_qg (i_add rfl l_1 (by omega) (by omega)) (by omega) (by omega) ?_
      refine T_qcE (t_X12_days hn _ m136_ g137_) ?_
      intro r142_ m143_ e146_ p145_
      have g144_ := p145_.2.1
      have f147_ : (m143_ 0 12).toInt = (m136_ 0 12).toInt := by rw [p145_.2.2 0 12 (by decide)]
      have f148_ : (m143_ 77 67).toInt = (m136_ 77 67).toInt := by rw [p145_.2.2 77 67 (by decide)]
      have q149_ : (m143_ 0 12).toInt = (m143_ 77 67).toInt := by omega
      refine T_ql (i_add rfl l_7 (by omega) (by omega)) ?_
      intro x150_ h151_
      exact ih j r hj hr x150_ m143_ (by omega) (by omega) g144_ q149_ (by omega)
    refine T_sw rfl l_8 (fun s152_ => ?_) (fun s152_ => ?_)
    · refine T_qg (i_add rfl l_1 (by omega) (by omega)) (by omega) (by omega) ?_
      refine T_qg (i_add rfl l_2 (by omega) (by omega)) (by omega) (by omega) ?_
      refine T_qcE (t_X11_tried hn hj _ _ M hG) ?_
      intro r153_ m154_ e157_ p156_
      have g155_ := p156_.1
      have f158_ : (m154_ 0 12).toInt = (M 0 12).toInt := by rw [p156_.2 0 12 (by decide)]
      have f159_ : (m154_ 77 67).toInt = (M 77 67).toInt := by rw [p156_.2 77 67 (by decide)]
      refine T_qg (i_add rfl l_1 (by omega) (by omega)) (by omega) (by omega) ?_
      refine T_qg (i_add rfl l_2 (by omega) (by omega)) (by omega) (by omega) ?_
      refine T_qcE (t_X12_tried hn _ _ m154_ g155_) ?_
      intro r160_ m161_ e164_ p163_
      have g162_ := p163_.2.1
      have f165_ : (m161_ 0 12).toInt = (m154_ 0 12).toInt := by rw [p163_.2.2 0 12 (by decide)]
      have f166_ : (m161_ 77 67).toInt = (m154_ 77 67).toInt := by rw [p163_.2.2 77 67 (by decide)]
      have q167_ : (m161_ 0 12).toInt = (m161_ 77 67).toInt := by omega
      refine T_ql (i_add rfl l_7 (by omega) (by omega)) ?_
      intro x168_ h169_
      exact ih j r hj hr x168_ m161_ (by omega) (by omega) g162_ q167_ (by omega)
    refine T_sw rfl l_9 (fun s170_ => ?_) (fun s170_ => ?_)
    · refine T_qg (i_add rfl l_1 (by omega) (by omega)) (by omega) (by omega) ?_
      refine T_qg (i_add rfl l_2 (by omega) (by omega)) (by omega) (by omega) ?_
      refine T_qg (i_add rfl l_3 (by omega) (by omega)) (by omega) (by omega) ?_
      refine T_qcE (t_X11_has hn hj _ _ _ M hG) ?_
      intro r171_ m172_ e175_ p174_
      have g173_ := p174_.1
      have f176_ : (m172_ 0 12).toInt = (M 0 12).toInt := by rw [p174_.2 0 12 (by decide)]
      have f177_ : (m172_ 77 67).toInt = (M 77 67).toInt := by rw [p174_.2 77 67 (by decide)]
      refine T_qg (i_add rfl l_1 (by omega) (by omega)) (by omega) (by omega) ?_
      refine T_qg (i_add rfl l_2 (by omega) (by omega)) (by omega) (by omega) ?_
      refine T_qg (i_add rfl l_3 (by omega) (by omega)) (by omega) (by omega) ?_
      refine T_qcE (t_X12_has hn _ _ _ m172_ g173_) ?_
      intro r178_ m179_ e182_ p181_
      have g180_ := p181_.2.1
      have f183_ : (m179_ 0 12).toInt = (m172_ 0 12).toInt := by rw [p181_.2.2 0 12 (by decide)]
      have f184_ : (m179_ 77 67).toInt = (m172_ 77 67).toInt := by rw [p181_.2.2 77 67 (by decide)]
      have q185_ : (m179_ 0 12).toInt = (m179_ 77 67).toInt := by omega
      refine T_ql (i_add rfl l_7 (by omega) (by omega)) ?_
      intro x186_ h187_
      exact ih j r hj hr x186_ m179_ (by omega) (by omega) g180_ q185_ (by omega)
    refine T_sw rfl l_10 (fun s188_ => ?_) (fun s188_ => ?_)
    · refine T_qg (i_add rfl l_1 (by omega) (by omega)) (by omega) (by omega) ?_
      refine T_qg (i_add rfl l_2 (by omega) (by omega)) (by omega) (by omega) ?_
      refine T_qcE (t_X11_alike hn hj _ _ M hG) ?_
      intro r189_ m190_ e193_ p192_
      have g191_ := p192_.2.1
      have f194_ : (m190_ 0 12).toInt = (M 0 12).toInt := by rw [p192_.2.2 0 12 (by decide)]
      have f195_ : (m190_ 77 67).toInt = (M 77 67).toInt := by rw [p192_.2.2 77 67 (by decide)]
      refine T_qg (i_add rfl l_1 (by omega) (by omega)) (by omega) (by omega) ?_
      refine T_qg (i_add rfl l_2 (by omega) (by omega)) (by omega) (by omega) ?_
      refine T_qcE (t_X12_alike hn _ _ m190_ g191_) ?_
      intro r196_ m197_ e200_ p199_
      have g198_ := p199_.2.1
      have f201_ : (m197_ 0 12).toInt = (m190_ 0 12).toInt := by rw [p199_.2.2 0 12 (by decide)]
      have f202_ : (m197_ 77 67).toInt = (m190_ 77 67).toInt := by rw [p199_.2.2 77 67 (by decide)]
      have q203_ : (m197_ 0 12).toInt = (m197_ 77 67).toInt := by omega
      refine T_ql (i_add rfl l_7 (by omega) (by omega)) ?_
      intro x204_ h205_
      exact ih j r hj hr x204_ m197_ (by omega) (by omega) g198_ q203_ (by omega)
    refine T_sw rfl l_11 (fun s206_ => ?_) (fun s206_ => ?_)
    · refine T_qg (i_add rfl l_1 (by omega) (by omega)) (by omega) (by omega) ?_
      refine T_qg (i_add rfl l_2 (by omega) (by omega)) (by omega) (by omega) ?_
      refine T_qg (i_add rfl l_3 (by omega) (by omega)) (by omega) (by omega) ?_
      refine T_qcE (t_X11_cost hn hj _ _ _ M hG) ?_
      intro r207_ m208_ e211_ p210_
      have g209_ := p210_.2.1
      have f212_ : (m208_ 0 12).toInt = (M 0 12).toInt := by rw [p210_.2.2 0 12 (by decide)]
      have f213_ : (m208_ 77 67).toInt = (M 77 67).toInt := by rw [p210_.2.2 77 67 (by decide)]
      refine T_qg (i_add rfl l_1 (by omega) (by omega)) (by omega) (by omega) ?_
      refine T_qg (i_add rfl l_2 (by omega) (by omega)) (by omega) (by omega) ?_
      refine T_qg (i_add rfl l_3 (by omega) (by omega)) (by omega) (by omega) ?_
      refine T_qcE (t_X12_cost hn _ _ _ m208_ g209_) ?_
      intro r214_ m215_ e218_ p217_
      have g216_ := p217_.2.1
      have f219_ : (m215_ 0 12).toInt = (m208_ 0 12).toInt := by rw [p217_.2.2 0 12 (by decide)]
      have f220_ : (m215_ 77 67).toInt = (m208_ 77 67).toInt := by rw [p217_.2.2 77 67 (by decide)]
      have q221_ : (m215_ 0 12).toInt = (m215_ 77 67).toInt := by omega
      refine T_ql (i_add rfl l_7 (by omega) (by omega)) ?_
      intro x222_ h223_
      exact ih j r hj hr x222_ m215_ (by omega) (by omega) g216_ q221_ (by omega)
    refine T_sw rfl l_12 (fun s224_ => ?_) (fun s224_ => ?_)
    · refine T_qg (i_add rfl l_1 (by omega) (by omega)) (by omega) (by omega) ?_
      refine T_qg (i_add rfl l_2 (by omega) (by omega)) (by omega) (by omega) ?_
      refine T_qg (i_add rfl l_3 (by omega) (by omega)) (by omega) (by omega) ?_
      refine T_qg (i_add rfl l_4 (by omega) (by omega)) (by omega) (by omega) ?_
      refine T_qg (i_add rfl l_5 (by omega) (by omega)) (by omega) (by omega) ?_
      refine T_qcE (t_X11_soonest hn hj _ _ _ _ _ M hG) ?_
      intro r225_ m226_ e229_ p228_
      have g227_ := p228_.1
      have f230_ : (m226_ 0 12).toInt = (M 0 12).toInt := by rw [p228_.2 0 12 (by decide)]
      have f231_ : (m226_ 77 67).toInt = (M 77 67).toInt := by rw [p228_.2 77 67 (by decide)]
      refine T_qg (i_add rfl l_1 (by omega) (by omega)) (by omega) (by omega) ?_
      refine T_qg (i_add rfl l_2 (by omega) (by omega)) (by omega) (by omega) ?_
      refine T_qg (i_add rfl l_3 (by omega) (by omega)) (by omega) (by omega) ?_
      refine T_qg (i_add rfl l_4 (by omega) (by omega)) (by omega) (by omega) ?_
      refine T_qg (i_add rfl l_5 (by omega) (by omega)) (by omega) (by omega) ?_
      refine T_qcE (t_X12_soonest hn _ _ _ _ _ m226_ g227_) ?_
      intro r232_ m233_ e236_ p235_
      have g234_ := p235_.1
      have f237_ : (m233_ 0 12).toInt = (m226_ 0 12).toInt := by rw [p235_.2 0 12 (by decide)]
      have f238_ : (m233_ 77 67).toInt = (m226_ 77 67).toInt := by rw [p235_.2 77 67 (by decide)]
      have q239_ : (m233_ 0 12).toInt = (m233_ 77 67).toInt := by omega
      refine T_ql (i_add rfl l_7 (by omega) (by omega)) ?_
      intro x240_ h241_
      exact ih j r hj hr x240_ m233_ (by omega) (by omega) g234_ q239_ (by omega)
    refine T_sw rfl l_13 (fun s242_ => ?_) (fun s242_ => ?_)
    · refine T_qg (i_add rfl l_1 (by omega) (by omega)) (by omega) (by omega) ?_
      refine T_qg (i_add rfl l_2 (by omega) (by omega)) (by omega) (by omega) ?_
      refine T_qg (i_add rfl l_3 (by omega) (by omega)) (by omega) (by omega) ?_
      refine T_qg (i_add rfl l_4 (by omega) (by omega)) (by omega) (by omega) ?_
      refine T_qg (i_add rfl l_5 (by omega) (by omega)) (by omega) (by omega) ?_
      refine T_qcE (t_X11_cheapest hn hj _ _ _ _ _ M hG) ?_
      intro r243_ m244_ e247_ p246_
      have g245_ := p246_.1
      have f248_ : (m244_ 0 12).toInt = (M 0 12).toInt := by rw [p246_.2 0 12 (by decide)]
      have f249_ : (m244_ 77 67).toInt = (M 77 67).toInt := by rw [p246_.2 77 67 (by decide)]
      refine T_qg (i_add rfl l_1 (by omega) (by omega)) (by omega) (by omega) ?_
      refine T_qg (i_add rfl l_2 (by omega) (by omega)) (by omega) (by omega) ?_
      refine T_qg (i_add rfl l_3 (by omega) (by omega)) (by omega) (by omega) ?_
      refine T_qg (i_add rfl l_4 (by omega) (by omega)) (by omega) (by omega) ?_
      refine T_qg (i_add rfl l_5 (by omega) (by omega)) (by omega) (by omega) ?_
      refine T_qcE (t_X12_cheapest hn _ _ _ _ _ m244_ g245_) ?_
      intro r250_ m251_ e254_ p253_
      have g252_ := p253_.1
      have f255_ : (m251_ 0 12).toInt = (m244_ 0 12).toInt := by rw [p253_.2 0 12 (by decide)]
      have f256_ : (m251_ 77 67).toInt = (m244_ 77 67).toInt := by rw [p253_.2 77 67 (by decide)]
      have q257_ : (m251_ 0 12).toInt = (m251_ 77 67).toInt := by omega
      refine T_ql (i_add rfl l_7 (by omega) (by omega)) ?_
      intro x258_ h259_
      exact ih j r hj hr x258_ m251_ (by omega) (by omega) g252_ q257_ (by omega)
    refine T_sw rfl l_14 (fun s260_ => ?_) (fun s260_ => ?_)
    · refine T_qg (i_add rfl l_1 (by omega) (by omega)) (by omega) (by omega) ?_
      refine T_qg (i_add rfl l_2 (by omega) (by omega)) (by omega) (by omega) ?_
      refine T_qg (i_add rfl l_3 (by omega) (by omega)) (by omega) (by omega) ?_
      refine T_qcE (t_X11_loophole hn hj _ _ _ M hG) ?_
      intro r261_ m262_ e265_ p264_
      have g263_ := p264_.1
      have f266_ : (m262_ 0 12).toInt = (M 0 12).toInt := by rw [p264_.2 0 12 (by decide)]
      have f267_ : (m262_ 77 67).toInt = (M 77 67).toInt := by rw [p264_.2 77 67 (by decide)]
      refine T_qg (i_add rfl l_1 (by omega) (by omega)) (by omega) (by omega) ?_
      refine T_qg (i_add rfl l_2 (by omega) (by omega)) (by omega) (by omega) ?_
      refine T_qg (i_add rfl l_3 (by omega) (by omega)) (by omega) (by omega) ?_
      refine T_qcE (t_X12_loophole hn _ _ _ m262_ g263_) ?_
      intro r268_ m269_ e272_ p271_
      have g270_ := p271_.1
      have f273_ : (m269_ 0 12).toInt = (m262_ 0 12).toInt := by rw [p271_.2 0 12 (by decide)]
      have f274_ : (m269_ 77 67).toInt = (m262_ 77 67).toInt := by rw [p271_.2 77 67 (by decide)]
      have q275_ : (m269_ 0 12).toInt = (m269_ 77 67).toInt := by omega
      refine T_ql (i_add rfl l_7 (by omega) (by omega)) ?_
      intro x276_ h277_
      exact ih j r hj hr x276_ m269_ (by omega) (by omega) g270_ q275_ (by omega)
    refine T_sw rfl l_15 (fun s278_ => ?_) (fun s278_ => ?_)
    · refine T_qg (i_add rfl l_1 (by omega) (by omega)) (by omega) (by omega) ?_
      refine T_qg (i_add rfl l_2 (by omega) (by omega)) (by omega) (by omega) ?_
      refine T_qg (i_add rfl l_3 (by omega) (by omega)) (by omega) (by omega) ?_
      refine T_qcE (t_X11_jobs hn hj _ _ _ M hG) ?_
      intro r279_ m280_ e283_ p282_
      have g281_ := p282_.2.2.1
      have f284_ : (m280_ 0 12).toInt = (M 0 12).toInt := by rw [p282_.2.2.2 0 12 (by decide)]
      have f285_ : (m280_ 77 67).toInt = (M 77 67).toInt := by rw [p282_.2.2.2 77 67 (by decide)]
      refine T_qg (i_add rfl l_1 (by omega) (by omega)) (by omega) (by omega) ?_
      refine T_qg (i_add rfl l_2 (by omega) (by omega)) (by omega) (by omega) ?_
      refine T_qg (i_add rfl l_3 (by omega) (by omega)) (by omega) (by omega) ?_
      refine T_qcE (t_X12_jobs hn _ _ _ m280_ g281_) ?_
      intro r286_ m287_ e290_ p289_
      have g288_ := p289_.2.1
      have f291_ : (m287_ 0 12).toInt = (m280_ 0 12).toInt := by rw [p289_.2.2 0 12 (by decide)]
      have f292_ : (m287_ 77 67).toInt = (m280_ 77 67).toInt := by rw [p289_.2.2 77 67 (by decide)]
      have q293_ : (m287_ 0 12).toInt = (m287_ 77 67).toInt := by omega
      refine T_ql (i_add rfl l_7 (by omega) (by omega)) ?_
      intro x294_ h295_
      exact ih j r hj hr x294_ m287_ (by omega) (by omega) g288_ q293_ (by omega)
    refine T_sw rfl l_16 (fun s296_ => ?_) (fun s296_ => ?_)
    · refine T_qg (i_add rfl l_1 (by omega) (by omega)) (by omega) (by omega) ?_
      refine T_qg (i_add rfl l_2 (by omega) (by omega)) (by omega) (by omega) ?_
      refine T_qg (i_add rfl l_3 (by omega) (by omega)) (by omega) (by omega) ?_
      refine T_qcE (t_X11_rivals hn _ _ _ M hG) ?_
      intro r297_ m298_ e301_ p300_
      have g299_ := p300_.1
      have f302_ : (m298_ 0 12).toInt = (M 0 12).toInt := by rw [p300_.2 0 12 (by decide)]
      have f303_ : (m298_ 77 67).toInt = (M 77 67).toInt := by rw [p300_.2 77 67 (by decide)]
      refine T_qg (i_add rfl l_1 (by omega) (by omega)) (by omega) (by omega) ?_
      refine T_qg (i_add rfl l_2 (by omega) (by omega)) (by omega) (by omega) ?_
      refine T_qg (i_add rfl l_3 (by omega) (by omega)) (by omega) (by omega) ?_
      refine T_qcE (t_X12_rivals hn _ _ _ m298_ g299_) ?_
      intro r304_ m305_ e308_ p307_
      have g306_ := p307_.1
      have f309_ : (m305_ 0 12).toInt = (m298_ 0 12).toInt := by rw [p307_.2 0 12 (by decide)]
      have f310_ : (m305_ 77 67).toInt = (m298_ 77 67).toInt := by rw [p307_.2 77 67 (by decide)]
      have q311_ : (m305_ 0 12).toInt = (m305_ 77 67).toInt := by omega
      refine T_ql (i_add rfl l_7 (by omega) (by omega)) ?_
      intro x312_ h313_
      exact ih j r hj hr x312_ m305_ (by omega) (by omega) g306_ q311_ (by omega)
    refine T_sw rfl l_17 (fun s314_ => ?_) (fun s314_ => ?_)
    · refine T_qg (i_add rfl l_1 (by omega) (by omega)) (by omega) (by omega) ?_
      refine T_qg (i_add rfl l_2 (by omega) (by omega)) (by omega) (by omega) ?_
      refine T_qg (i_add rfl l_3 (by omega) (by omega)) (by omega) (by omega) ?_
      refine T_qg (i_add rfl l_4 (by omega) (by omega)) (by omega) (by omega) ?_
      refine T_qcE (t_X11_histories hn hj _ _ _ _ M hG) ?_
      intro r315_ m316_ e319_ p318_
      have g317_ := p318_.2.1
      have f320_ : (m316_ 0 12).toInt = (M 0 12).toInt := by rw [p318_.2.2 0 12 (by decide)]
      have f321_ : (m316_ 77 67).toInt = (M 77 67).toInt := by rw [p318_.2.2 77 67 (by decide)]
      refine T_qg (i_add rfl l_1 (by omega) (by omega)) (by omega) (by omega) ?_
      refine T_qg (i_add rfl l_2 (by omega) (by omega)) (by omega) (by omega) ?_
      refine T_qg (i_add rfl l_3 (by omega) (by omega)) (by omega) (by omega) ?_
      refine T_qg (i_add rfl l_4 (by omega) (by omega)) (by omega) (by omega) ?_
      refine T_qcE (t_X12_histories hn _ _ _ _ m316_ g317_) ?_
      intro r322_ m323_ e326_ p325_
      have g324_ := p325_.2.1
      have f327_ : (m323_ 0 12).toInt = (m316_ 0 12).toInt := by rw [p325_.2.2 0 12 (by decide)]
      have f328_ : (m323_ 77 67).toInt = (m316_ 77 67).toInt := by rw [p325_.2.2 77 67 (by decide)]
      have q329_ : (m323_ 0 12).toInt = (m323_ 77 67).toInt := by omega
      refine T_ql (i_add rfl l_7 (by omega) (by omega)) ?_
      intro x330_ h331_
      exact ih j r hj hr x330_ m323_ (by omega) (by omega) g324_ q329_ (by omega)
    refine T_sw rfl l_18 (fun s332_ => ?_) (fun s332_ => ?_)
    · refine T_qg (i_add rfl l_1 (by omega) (by omega)) (by omega) (by omega) ?_
      refine T_qg (i_add rfl l_2 (by omega) (by omega)) (by omega) (by omega) ?_
      refine T_qg (i_add rfl l_3 (by omega) (by omega)) (by omega) (by omega) ?_
      refine T_qg (i_add rfl l_4 (by omega) (by omega)) (by omega) (by omega) ?_
      refine T_eq rfl l_0 (fun c333_ => ?_) (fun c333_ => ?_)
      · refine T_qg (i_add rfl l_5 (by omega) (by omega)) (by omega) (by omega) ?_
        refine T_eq rfl l_0 (fun c334_ => ?_) (fun c334_ => ?_)
        · refine T_qg (i_add rfl l_6 (by omega) (by omega)) (by omega) (by omega) ?_
          refine T_qcE (t_X11_game hn _ _ _ _ _ _ M hG (by decide) (by decide)) ?_
          intro r335_ m336_ e339_ p338_
          have g337_ := p338_.2.1
          have f340_ : (m336_ 0 12).toInt = (M 0 12).toInt := by rw [p338_.2.2 0 12 (by decide)]
          have f341_ : (m336_ 77 67).toInt = (M 77 67).toInt := by rw [p338_.2.2 77 67 (by decide)]
          refine T_qg (i_add rfl l_1 (by omega) (by omega)) (by omega) (by omega) ?_
          refine T_qg (i_add rfl l_2 (by omega) (by omega)) (by omega) (by omega) ?_
          refine T_qg (i_add rfl l_3 (by omega) (by omega)) (by omega) (by omega) ?_
          refine T_qg (i_add rfl l_4 (by omega) (by omega)) (by omega) (by omega) ?_
          refine T_eq rfl l_0 (fun c342_ => ?_) (fun c342_ => ?_)
          · refine T_qg (i_add rfl l_5 (by omega) (by omega)) (by omega) (by omega) ?_
            refine T_eq rfl l_0 (fun c343_ => ?_) (fun c343_ => ?_)
            · refine T_qg (i_add rfl l_6 (by omega) (by omega)) (by omega) (by omega) ?_
              refine T_qcE (t_X12_game hn _ _ _ _ _ _ m336_ g337_ (by decide) (by decide)) ?_
              intro r344_ m345_ e348_ p347_
              have g346_ := p347_.2.1
              have f349_ : (m345_ 0 12).toInt = (m336_ 0 12).toInt := by rw [p347_.2.2 0 12 (by decide)]
              have f350_ : (m345_ 77 67).toInt = (m336_ 77 67).toInt := by rw [p347_.2.2 77 67 (by decide)]
              have q351_ : (m345_ 0 12).toInt = (m345_ 77 67).toInt := by omega
              refine T_ql (i_add rfl l_7 (by omega) (by omega)) ?_
              intro x352_ h353_
              exact ih j r hj hr x352_ m345_ (by omega) (by omega) g346_ q351_ (by omega)
            · refine T_qg (i_add rfl l_6 (by omega) (by omega)) (by omega) (by omega) ?_
              refine T_qcE (t_X12_game hn _ _ _ _ _ _ m336_ g337_ (by decide) (by decide)) ?_
              intro r354_ m355_ e358_ p357_
              have g356_ := p357_.2.1
              have f359_ : (m355_ 0 12).toInt = (m336_ 0 12).toInt := by rw [p357_.2.2 0 12 (by decide)]
              have f360_ : (m355_ 77 67).toInt = (m336_ 77 67).toInt := by rw [p357_.2.2 77 67 (by decide)]
              have q361_ : (m355_ 0 12).toInt = (m355_ 77 67).toInt := by omega
              refine T_ql (i_add rfl l_7 (by omega) (by omega)) ?_
              intro x362_ h363_
              exact ih j r hj hr x362_ m355_ (by omega) (by omega) g356_ q361_ (by omega)
          · refine T_qg (i_add rfl l_5 (by omega) (by omega)) (by omega) (by omega) ?_
            refine T_eq rfl l_0 (fun c364_ => ?_) (fun c364_ => ?_)
            · refine T_qg (i_add rfl l_6 (by omega) (by omega)) (by omega) (by omega) ?_
              refine T_qcE (t_X12_game hn _ _ _ _ _ _ m336_ g337_ (by decide) (by decide)) ?_
              intro r365_ m366_ e369_ p368_
              have g367_ := p368_.2.1
              have f370_ : (m366_ 0 12).toInt = (m336_ 0 12).toInt := by rw [p368_.2.2 0 12 (by decide)]
              have f371_ : (m366_ 77 67).toInt = (m336_ 77 67).toInt := by rw [p368_.2.2 77 67 (by decide)]
              have q372_ : (m366_ 0 12).toInt = (m366_ 77 67).toInt := by omega
              refine T_ql (i_add rfl l_7 (by omega) (by omega)) ?_
              intro x373_ h374_
              exact ih j r hj hr x373_ m366_ (by omega) (by omega) g367_ q372_ (by omega)
            · refine T_qg (i_add rfl l_6 (by omega) (by omega)) (by omega) (by omega) ?_
              refine T_qcE (t_X12_game hn _ _ _ _ _ _ m336_ g337_ (by decide) (by decide)) ?_
              intro r375_ m376_ e379_ p378_
              have g377_ := p378_.2.1
              have f380_ : (m376_ 0 12).toInt = (m336_ 0 12).toInt := by rw [p378_.2.2 0 12 (by decide)]
              have f381_ : (m376_ 77 67).toInt = (m336_ 77 67).toInt := by rw [p378_.2.2 77 67 (by decide)]
              have q382_ : (m376_ 0 12).toInt = (m376_ 77 67).toInt := by omega
              refine T_ql (i_add rfl l_7 (by omega) (by omega)) ?_
              intro x383_ h384_
              exact ih j r hj hr x383_ m376_ (by omega) (by omega) g377_ q382_ (by omega)
        · refine T_qg (i_add rfl l_6 (by omega) (by omega)) (by omega) (by omega) ?_
          refine T_qcE (t_X11_game hn _ _ _ _ _ _ M hG (by decide) (by decide)) ?_
          intro r385_ m386_ e389_ p388_
          have g387_ := p388_.2.1
          have f390_ : (m386_ 0 12).toInt = (M 0 12).toInt := by rw [p388_.2.2 0 12 (by decide)]
          have f391_ : (m386_ 77 67).toInt = (M 77 67).toInt := by rw [p388_.2.2 77 67 (by decide)]
          refine T_qg (i_add rfl l_1 (by omega) (by omega)) (by omega) (by omega) ?_
          refine T_qg (i_add rfl l_2 (by omega) (by omega)) (by omega) (by omega) ?_
          refine T_qg (i_add rfl l_3 (by omega) (by omega)) (by omega) (by omega) ?_
          refine T_qg (i_add rfl l_4 (by omega) (by omega)) (by omega) (by omega) ?_
          refine T_eq rfl l_0 (fun c392_ => ?_) (fun c392_ => ?_)
          · refine T_qg (i_add rfl l_5 (by omega) (by omega)) (by omega) (by omega) ?_
            refine T_eq rfl l_0 (fun c393_ => ?_) (fun c393_ => ?_)
            · refine T_qg (i_add rfl l_6 (by omega) (by omega)) (by omega) (by omega) ?_
              refine T_qcE (t_X12_game hn _ _ _ _ _ _ m386_ g387_ (by decide) (by decide)) ?_
              intro r394_ m395_ e398_ p397_
              have g396_ := p397_.2.1
              have f399_ : (m395_ 0 12).toInt = (m386_ 0 12).toInt := by rw [p397_.2.2 0 12 (by decide)]
              have f400_ : (m395_ 77 67).toInt = (m386_ 77 67).toInt := by rw [p397_.2.2 77 67 (by decide)]
              have q401_ : (m395_ 0 12).toInt = (m395_ 77 67).toInt := by omega
              refine T_ql (i_add rfl l_7 (by omega) (by omega)) ?_
              intro x402_ h403_
              exact ih j r hj hr x402_ m395_ (by omega) (by omega) g396_ q401_ (by omega)
            · refine T_qg (i_add rfl l_6 (by omega) (by omega)) (by omega) (by omega) ?_
              refine T_qcE (t_X12_game hn _ _ _ _ _ _ m386_ g387_ (by decide) (by decide)) ?_
              intro r404_ m405_ e408_ p407_
              have g406_ := p407_.2.1
              have f409_ : (m405_ 0 12).toInt = (m386_ 0 12).toInt := by rw [p407_.2.2 0 12 (by decide)]
              have f410_ : (m405_ 77 67).toInt = (m386_ 77 67).toInt := by rw [p407_.2.2 77 67 (by decide)]
              have q411_ : (m405_ 0 12).toInt = (m405_ 77 67).toInt := by omega
              refine T_ql (i_add rfl l_7 (by omega) (by omega)) ?_
              intro x412_ h413_
              exact ih j r hj hr x412_ m405_ (by omega) (by omega) g406_ q411_ (by omega)
          · refine T_qg (i_add rfl l_5 (by omega) (by omega)) (by omega) (by omega) ?_
            refine T_eq rfl l_0 (fun c414_ => ?_) (fun c414_ => ?_)
            · refine T_qg (i_add rfl l_6 (by omega) (by omega)) (by omega) (by omega) ?_
              refine T_qcE (t_X12_game hn _ _ _ _ _ _ m386_ g387_ (by decide) (by decide)) ?_
              intro r415_ m416_ e419_ p418_
              have g417_ := p418_.2.1
              have f420_ : (m416_ 0 12).toInt = (m386_ 0 12).toInt := by rw [p418_.2.2 0 12 (by decide)]
              have f421_ : (m416_ 77 67).toInt = (m386_ 77 67).toInt := by rw [p418_.2.2 77 67 (by decide)]
              have q422_ : (m416_ 0 12).toInt = (m416_ 77 67).toInt := by omega
              refine T_ql (i_add rfl l_7 (by omega) (by omega)) ?_
              intro x423_ h424_
              exact ih j r hj hr x423_ m416_ (by omega) (by omega) g417_ q422_ (by omega)
            · refine T_qg (i_add rfl l_6 (by omega) (by omega)) (by omega) (by omega) ?_
              refine T_qcE (t_X12_game hn _ _ _ _ _ _ m386_ g387_ (by decide) (by decide)) ?_
              intro r425_ m426_ e429_ p428_
              have g427_ := p428_.2.1
              have f430_ : (m426_ 0 12).toInt = (m386_ 0 12).toInt := by rw [p428_.2.2 0 12 (by decide)]
              have f431_ : (m426_ 77 67).toInt = (m386_ 77 67).toInt := by rw [p428_.2.2 77 67 (by decide)]
              have q432_ : (m426_ 0 12).toInt = (m426_ 77 67).toInt := by omega
              refine T_ql (i_add rfl l_7 (by omega) (by omega)) ?_
              intro x433_ h434_
              exact ih j r hj hr x433_ m426_ (by omega) (by omega) g427_ q432_ (by omega)
      · refine T_qg (i_add rfl l_5 (by omega) (by omega)) (by omega) (by omega) ?_
        refine T_eq rfl l_0 (fun c435_ => ?_) (fun c435_ => ?_)
        · refine T_qg (i_add rfl l_6 (by omega) (by omega)) (by omega) (by omega) ?_
          refine T_qcE (t_X11_game hn _ _ _ _ _ _ M hG (by decide) (by decide)) ?_
          intro r436_ m437_ e440_ p439_
          have g438_ := p439_.2.1
          have f441_ : (m437_ 0 12).toInt = (M 0 12).toInt := by rw [p439_.2.2 0 12 (by decide)]
          have f442_ : (m437_ 77 67).toInt = (M 77 67).toInt := by rw [p439_.2.2 77 67 (by decide)]
          refine T_qg (i_add rfl l_1 (by omega) (by omega)) (by omega) (by omega) ?_
          refine T_qg (i_add rfl l_2 (by omega) (by omega)) (by omega) (by omega) ?_
          refine T_qg (i_add rfl l_3 (by omega) (by omega)) (by omega) (by omega) ?_
          refine T_qg (i_add rfl l_4 (by omega) (by omega)) (by omega) (by omega) ?_
          refine T_eq rfl l_0 (fun c443_ => ?_) (fun c443_ => ?_)
          · refine T_qg (i_add rfl l_5 (by omega) (by omega)) (by omega) (by omega) ?_
            refine T_eq rfl l_0 (fun c444_ => ?_) (fun c444_ => ?_)
            · refine T_qg (i_add rfl l_6 (by omega) (by omega)) (by omega) (by omega) ?_
              refine T_qcE (t_X12_game hn _ _ _ _ _ _ m437_ g438_ (by decide) (by decide)) ?_
              intro r445_ m446_ e449_ p448_
              have g447_ := p448_.2.1
              have f450_ : (m446_ 0 12).toInt = (m437_ 0 12).toInt := by rw [p448_.2.2 0 12 (by decide)]
              have f451_ : (m446_ 77 67).toInt = (m437_ 77 67).toInt := by rw [p448_.2.2 77 67 (by decide)]
              have q452_ : (m446_ 0 12).toInt = (m446_ 77 67).toInt := by omega
              refine T_ql (i_add rfl l_7 (by omega) (by omega)) ?_
              intro x453_ h454_
              exact ih j r hj hr x453_ m446_ (by omega) (by omega) g447_ q452_ (by omega)
            · refine T_qg (i_add rfl l_6 (by omega) (by omega)) (by omega) (by omega) ?_
              refine T_qcE (t_X12_game hn _ _ _ _ _ _ m437_ g438_ (by decide) (by decide)) ?_
              intro r455_ m456_ e459_ p458_
              have g457_ := p458_.2.1
              have f460_ : (m456_ 0 12).toInt = (m437_ 0 12).toInt := by rw [p458_.2.2 0 12 (by decide)]
              have f461_ : (m456_ 77 67).toInt = (m437_ 77 67).toInt := by rw [p458_.2.2 77 67 (by decide)]
              have q462_ : (m456_ 0 12).toInt = (m456_ 77 67).toInt := by omega
              refine T_ql (i_add rfl l_7 (by omega) (by omega)) ?_
              intro x463_ h464_
              exact ih j r hj hr x463_ m456_ (by omega) (by omega) g457_ q462_ (by omega)
          · refine T_qg (i_add rfl l_5 (by omega) (by omega)) (by omega) (by omega) ?_
            refine T_eq rfl l_0 (fun c465_ => ?_) (fun c465_ => ?_)
            · refine T_qg (i_add rfl l_6 (by omega) (by omega)) (by omega) (by omega) ?_
              refine T_qcE (t_X12_game hn _ _ _ _ _ _ m437_ g438_ (by decide) (by decide)) ?_
              intro r466_ m467_ e470_ p469_
              have g468_ := p469_.2.1
              have f471_ : (m467_ 0 12).toInt = (m437_ 0 12).toInt := by rw [p469_.2.2 0 12 (by decide)]
              have f472_ : (m467_ 77 67).toInt = (m437_ 77 67).toInt := by rw [p469_.2.2 77 67 (by decide)]
              have q473_ : (m467_ 0 12).toInt = (m467_ 77 67).toInt := by omega
              refine T_ql (i_add rfl l_7 (by omega) (by omega)) ?_
              intro x474_ h475_
              exact ih j r hj hr x474_ m467_ (by omega) (by omega) g468_ q473_ (by omega)
            · refine T_qg (i_add rfl l_6 (by omega) (by omega)) (by omega) (by omega) ?_
              refine T_qcE (t_X12_game hn _ _ _ _ _ _ m437_ g438_ (by decide) (by decide)) ?_
              intro r476_ m477_ e480_ p479_
              have g478_ := p479_.2.1
              have f481_ : (m477_ 0 12).toInt = (m437_ 0 12).toInt := by rw [p479_.2.2 0 12 (by decide)]
              have f482_ : (m477_ 77 67).toInt = (m437_ 77 67).toInt := by rw [p479_.2.2 77 67 (by decide)]
              have q483_ : (m477_ 0 12).toInt = (m477_ 77 67).toInt := by omega
              refine T_ql (i_add rfl l_7 (by omega) (by omega)) ?_
              intro x484_ h485_
              exact ih j r hj hr x484_ m477_ (by omega) (by omega) g478_ q483_ (by omega)
        · refine T_qg (i_add rfl l_6 (by omega) (by omega)) (by omega) (by omega) ?_
          refine T_qcE (t_X11_game hn _ _ _ _ _ _ M hG (by decide) (by decide)) ?_
          intro r486_ m487_ e490_ p489_
          have g488_ := p489_.2.1
          have f491_ : (m487_ 0 12).toInt = (M 0 12).toInt := by rw [p489_.2.2 0 12 (by decide)]
          have f492_ : (m487_ 77 67).toInt = (M 77 67).toInt := by rw [p489_.2.2 77 67 (by decide)]
          refine T_qg (i_add rfl l_1 (by omega) (by omega)) (by omega) (by omega) ?_
          refine T_qg (i_add rfl l_2 (by omega) (by omega)) (by omega) (by omega) ?_
          refine T_qg (i_add rfl l_3 (by omega) (by omega)) (by omega) (by omega) ?_
          refine T_qg (i_add rfl l_4 (by omega) (by omega)) (by omega) (by omega) ?_
          refine T_eq rfl l_0 (fun c493_ => ?_) (fun c493_ => ?_)
          · refine T_qg (i_add rfl l_5 (by omega) (by omega)) (by omega) (by omega) ?_
            refine T_eq rfl l_0 (fun c494_ => ?_) (fun c494_ => ?_)
            · refine T_qg (i_add rfl l_6 (by omega) (by omega)) (by omega) (by omega) ?_
              refine T_qcE (t_X12_game hn _ _ _ _ _ _ m487_ g488_ (by decide) (by decide)) ?_
              intro r495_ m496_ e499_ p498_
              have g497_ := p498_.2.1
              have f500_ : (m496_ 0 12).toInt = (m487_ 0 12).toInt := by rw [p498_.2.2 0 12 (by decide)]
              have f501_ : (m496_ 77 67).toInt = (m487_ 77 67).toInt := by rw [p498_.2.2 77 67 (by decide)]
              have q502_ : (m496_ 0 12).toInt = (m496_ 77 67).toInt := by omega
              refine T_ql (i_add rfl l_7 (by omega) (by omega)) ?_
              intro x503_ h504_
              exact ih j r hj hr x503_ m496_ (by omega) (by omega) g497_ q502_ (by omega)
            · refine T_qg (i_add rfl l_6 (by omega) (by omega)) (by omega) (by omega) ?_
              refine T_qcE (t_X12_game hn _ _ _ _ _ _ m487_ g488_ (by decide) (by decide)) ?_
              intro r505_ m506_ e509_ p508_
              have g507_ := p508_.2.1
              have f510_ : (m506_ 0 12).toInt = (m487_ 0 12).toInt := by rw [p508_.2.2 0 12 (by decide)]
              have f511_ : (m506_ 77 67).toInt = (m487_ 77 67).toInt := by rw [p508_.2.2 77 67 (by decide)]
              have q512_ : (m506_ 0 12).toInt = (m506_ 77 67).toInt := by omega
              refine T_ql (i_add rfl l_7 (by omega) (by omega)) ?_
              intro x513_ h514_
              exact ih j r hj hr x513_ m506_ (by omega) (by omega) g507_ q512_ (by omega)
          · refine T_qg (i_add rfl l_5 (by omega) (by omega)) (by omega) (by omega) ?_
            refine T_eq rfl l_0 (fun c515_ => ?_) (fun c515_ => ?_)
            · refine T_qg (i_add rfl l_6 (by omega) (by omega)) (by omega) (by omega) ?_
              refine T_qcE (t_X12_game hn _ _ _ _ _ _ m487_ g488_ (by decide) (by decide)) ?_
              intro r516_ m517_ e520_ p519_
              have g518_ := p519_.2.1
              have f521_ : (m517_ 0 12).toInt = (m487_ 0 12).toInt := by rw [p519_.2.2 0 12 (by decide)]
              have f522_ : (m517_ 77 67).toInt = (m487_ 77 67).toInt := by rw [p519_.2.2 77 67 (by decide)]
              have q523_ : (m517_ 0 12).toInt = (m517_ 77 67).toInt := by omega
              refine T_ql (i_add rfl l_7 (by omega) (by omega)) ?_
              intro x524_ h525_
              exact ih j r hj hr x524_ m517_ (by omega) (by omega) g518_ q523_ (by omega)
            · refine T_qg (i_add rfl l_6 (by omega) (by omega)) (by omega) (by omega) ?_
              refine T_qcE (t_X12_game hn _ _ _ _ _ _ m487_ g488_ (by decide) (by decide)) ?_
              intro r526_ m527_ e530_ p529_
              have g528_ := p529_.2.1
              have f531_ : (m527_ 0 12).toInt = (m487_ 0 12).toInt := by rw [p529_.2.2 0 12 (by decide)]
              have f532_ : (m527_ 77 67).toInt = (m487_ 77 67).toInt := by rw [p529_.2.2 77 67 (by decide)]
              have q533_ : (m527_ 0 12).toInt = (m527_ 77 67).toInt := by omega
              refine T_ql (i_add rfl l_7 (by omega) (by omega)) ?_
              intro x534_ h535_
              exact ih j r hj hr x534_ m527_ (by omega) (by omega) g528_ q533_ (by omega)
    refine T_sw rfl l_19 (fun s536_ => ?_) (fun s536_ => ?_)
    · refine T_qg (i_add rfl l_1 (by omega) (by omega)) (by omega) (by omega) ?_
      refine T_qg (i_add rfl l_2 (by omega) (by omega)) (by omega) (by omega) ?_
      refine T_qg (i_add rfl l_3 (by omega) (by omega)) (by omega) (by omega) ?_
      refine T_qg (i_add rfl l_4 (by omega) (by omega)) (by omega) (by omega) ?_
      refine T_qg (i_add rfl l_5 (by omega) (by omega)) (by omega) (by omega) ?_
      refine T_qg (i_add rfl l_6 (by omega) (by omega)) (by omega) (by omega) ?_
      refine T_qcE (t_X11_court hn _ _ _ _ _ _ M hG) ?_
      intro r537_ m538_ e541_ p540_
      have g539_ := p540_.2.1
      have f542_ : (m538_ 0 12).toInt = (M 0 12).toInt := by rw [p540_.2.2 0 12 (by decide)]
      have f543_ : (m538_ 77 67).toInt = (M 77 67).toInt := by rw [p540_.2.2 77 67 (by decide)]
      refine T_qg (i_add rfl l_1 (by omega) (by omega)) (by omega) (by omega) ?_
      refine T_qg (i_add rfl l_2 (by omega) (by omega)) (by omega) (by omega) ?_
      refine T_qg (i_add rfl l_3 (by omega) (by omega)) (by omega) (by omega) ?_
      refine T_qg (i_add rfl l_4 (by omega) (by omega)) (by omega) (by omega) ?_
      refine T_qg (i_add rfl l_5 (by omega) (by omega)) (by omega) (by omega) ?_
      refine T_qg (i_add rfl l_6 (by omega) (by omega)) (by omega) (by omega) ?_
      refine T_qcE (t_X12_court hn _ _ _ _ _ _ m538_ g539_) ?_
      intro r544_ m545_ e548_ p547_
      have g546_ := p547_.2.1
      have f549_ : (m545_ 0 12).toInt = (m538_ 0 12).toInt := by rw [p547_.2.2 0 12 (by decide)]
      have f550_ : (m545_ 77 67).toInt = (m538_ 77 67).toInt := by rw [p547_.2.2 77 67 (by decide)]
      have q551_ : (m545_ 0 12).toInt = (m545_ 77 67).toInt := by omega
      refine T_ql (i_add rfl l_7 (by omega) (by omega)) ?_
      intro x552_ h553_
      exact ih j r hj hr x552_ m545_ (by omega) (by omega) g546_ q551_ (by omega)
    refine T_sw rfl l_20 (fun s554_ => ?_) (fun s554_ => ?_)
    · refine T_qcE (t_X11_keep hn M hG) ?_
      intro r555_ m556_ e559_ p558_
      have g557_ := p558_.2.1
      have f560_ : (m556_ 77 67).toInt = (M 77 67).toInt := by rw [p558_.2.2 77 67 (by decide)]
      have w561_ := p558_.1
      refine T_qcE (t_X12_keep hn m556_ g557_) ?_
      intro r562_ m563_ e566_ p565_
      have g564_ := p565_.2.1
      have f567_ : (m563_ 0 12).toInt = (m556_ 0 12).toInt := by rw [p565_.2.2 0 12 (by decide)]
      have w568_ := p565_.1
      have q569_ : (m563_ 0 12).toInt = (m563_ 77 67).toInt := by omega
      refine T_ql (i_add rfl l_7 (by omega) (by omega)) ?_
      intro x570_ h571_
      exact ih j r hj hr x570_ m563_ (by omega) (by omega) g564_ q569_ (by omega)
    refine T_sw rfl l_21 (fun s572_ => ?_) (fun s572_ => ?_)
    · refine T_qcE (t_X11_undo hn M hG) ?_
      intro r573_ m574_ e577_ p576_
      have g575_ := p576_.2.2.1
      have f578_ : (m574_ 0 12).toInt = (M 0 12).toInt := by rw [p576_.2.2.2 0 12 (by decide)]
      have f579_ : (m574_ 77 67).toInt = (M 77 67).toInt := by rw [p576_.2.2.2 77 67 (by decide)]
      have w580_ := p576_.2.1
      refine T_qcE (t_X12_undo hn m574_ g575_) ?_
      intro r581_ m582_ e585_ p584_
      have g583_ := p584_.2.2.1
      have f586_ : (m582_ 0 12).toInt = (m574_ 0 12).toInt := by rw [p584_.2.2.2 0 12 (by decide)]
      have f587_ : (m582_ 77 67).toInt = (m574_ 77 67).toInt := by rw [p584_.2.2.2 77 67 (by decide)]
      have w588_ := p584_.2.1
      have q589_ : (m582_ 0 12).toInt = (m582_ 77 67).toInt := by omega
      have w590_ : r573_ = r581_ := Int32.toInt_inj.mp (by omega)
      rw [if_pos w590_]
      refine T_ql (i_add rfl l_7 (by omega) (by omega)) ?_
      intro x591_ h592_
      exact ih j r hj hr x591_ m582_ (by omega) (by omega) g583_ q589_ (by omega)
    refine T_sw rfl l_22 (fun s593_ => ?_) (fun s593_ => ?_)
    · refine T_qg (i_add rfl l_1 (by omega) (by omega)) (by omega) (by omega) ?_
      refine T_qg (i_add rfl l_2 (by omega) (by omega)) (by omega) (by omega) ?_
      refine T_qcE (t_X11_check hn _ _ M hG) ?_
      intro r594_ m595_ e598_ p597_
      have g596_ := p597_.2.2.1
      have f599_ : (m595_ 0 12).toInt = (M 0 12).toInt := by rw [p597_.2.2.2 0 12 (by decide)]
      have f600_ : (m595_ 77 67).toInt = (M 77 67).toInt := by rw [p597_.2.2.2 77 67 (by decide)]
      refine T_qg (i_add rfl l_1 (by omega) (by omega)) (by omega) (by omega) ?_
      refine T_qg (i_add rfl l_2 (by omega) (by omega)) (by omega) (by omega) ?_
      refine T_qcE (t_X12_check hn _ _ m595_ g596_) ?_
      intro r601_ m602_ e605_ p604_
      have g603_ := p604_.2.2.1
      have f606_ : (m602_ 0 12).toInt = (m595_ 0 12).toInt := by rw [p604_.2.2.2 0 12 (by decide)]
      have f607_ : (m602_ 77 67).toInt = (m595_ 77 67).toInt := by rw [p604_.2.2.2 77 67 (by decide)]
      have q608_ : (m602_ 0 12).toInt = (m602_ 77 67).toInt := by omega
      refine T_ql (i_add rfl l_7 (by omega) (by omega)) ?_
      intro x609_ h610_
      exact ih j r hj hr x609_ m602_ (by omega) (by omega) g603_ q608_ (by omega)
    refine T_sw rfl l_23 (fun s611_ => ?_) (fun s611_ => ?_)
    · refine T_qg (i_add rfl l_1 (by omega) (by omega)) (by omega) (by omega) ?_
      refine T_qcE (t_X11_count hn hj _ M hG) ?_
      intro r612_ m613_ e616_ p615_
      have g614_ := p615_.1
      have f617_ : (m613_ 0 12).toInt = (M 0 12).toInt := by rw [p615_.2 0 12 (by decide)]
      have f618_ : (m613_ 77 67).toInt = (M 77 67).toInt := by rw [p615_.2 77 67 (by decide)]
      refine T_qg (i_add rfl l_1 (by omega) (by omega)) (by omega) (by omega) ?_
      refine T_qcE (t_X12_count hn _ m613_ g614_) ?_
      intro r619_ m620_ e623_ p622_
      have g621_ := p622_.1
      have f624_ : (m620_ 0 12).toInt = (m613_ 0 12).toInt := by rw [p622_.2 0 12 (by decide)]
      have f625_ : (m620_ 77 67).toInt = (m613_ 77 67).toInt := by rw [p622_.2 77 67 (by decide)]
      have q626_ : (m620_ 0 12).toInt = (m620_ 77 67).toInt := by omega
      refine T_ql (i_add rfl l_7 (by omega) (by omega)) ?_
      intro x627_ h628_
      exact ih j r hj hr x627_ m620_ (by omega) (by omega) g621_ q626_ (by omega)
    refine T_sw0 ?_
    refine T_ql (i_add rfl l_7 (by omega) (by omega)) ?_
    intro x629_ h630_
    exact ih j r hj hr x629_ M (by omega) (by omega) hG hR0 (by omega)
theorem pure_all : qPure := by
  intro g hN
  obtain ⟨M0, e, hF, hG⟩ := freshG
  obtain ⟨v, M', e2, hv⟩ := L_go (n := 200000) (Nat.le_refl _) g hN 4000 37 46 (Or.inl rfl) (Or.inr rfl) 0 M0 (by decide) (by decide) hG (by rw [hF.1 0 12 (by decide), hF.1 77 67 (by decide)]) (by have z : ((0 : Int32).toInt : Int) = 0 := rfl; omega)
  subst hv
  exact ⟨200000, 4000, M0, M', e, e2⟩
