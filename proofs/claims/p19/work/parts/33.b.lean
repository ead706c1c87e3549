theorem T_qcE {F : qR} {f : Int32 → qM → qR} {P Q : Int32 → qM → Prop} (h : qT F Q) (k : ∀ v m, F = some (v, m) → Q v m → qT (f v m) P) : qT (qc F f) P := by
  obtain ⟨v, M, e, p⟩ := h
  have := k v M e p
  rw [e, qc_v]
  exact this
abbrev l_law : List Bx := [(1, 2, 1, 5), (37, 53, 0, 0)]
abbrev LQ (a1 : Int32) (M m : qM) : Prop := G m ∧ Sm l_law M m ∧ (((1 ≤ a1.toInt ∧ a1.toInt ≤ 240 ∧ a1.toInt ≤ (M 1 1).toInt) ∧ (m 1 1).toInt = 0) ∨ (¬ (1 ≤ a1.toInt ∧ a1.toInt ≤ 240 ∧ a1.toInt ≤ (M 1 1).toInt) ∧ (m 1 1).toInt = (M 1 1).toInt))
theorem T_qc2s {a1 : Int32} {M : qM} {F1 F2 : qR} {E1 E2 : Int32 → qM → qR} {P : Int32 → qM → Prop} (h : (∃ v m, F1 = some (v, m) ∧ LQ a1 M m) ∨ (F1 = none ∧ ∃ v m, F2 = some (v, m) ∧ LQ a1 M m)) (h1 : ∀ v m, F1 = some (v, m) → LQ a1 M m → qT (E1 v m) P) (h2 : ∀ v m, F2 = some (v, m) → LQ a1 M m → qT (E2 v m) P) : qT (qc2 F1 F2 E1 E2) P := by
  rcases h with ⟨v, m, e, g⟩ | ⟨e, v, m, e2, g⟩
  · have := h1 v m e g
    rw [e]; exact this
  · have := h2 v m e2 g
    rw [e, e2]; exact this
theorem law_tots {n : Nat} (hn : 200000 ≤ n) {j r : Nat} (hr : q_isLaw r) (a1 : Int32) (M : qM) (hG : G M) : (∃ v m, f_X11_law n j r a1 M = some (v, m) ∧ LQ a1 M m) ∨ (f_X11_law n j r a1 M = none ∧ ∃ v m, f_X11_lawS n j r a1 M = some (v, m) ∧ LQ a1 M m) := by
  unfold f_X11_law f_X11_lawS
  by_cases c1 : a1 < (1 : Int32)
  · rw [if_pos c1]; rw [Int32.lt_iff_toInt_lt] at c1; have z1 : (1 : Int32).toInt = 1 := rfl; exact Or.inl ⟨_, _, rfl, hG, Sm.rf, Or.inr ⟨by omega, rfl⟩⟩
  · rw [if_neg c1, if_neg c1]
    by_cases c2 : (240 : Int32) < a1
    · rw [if_pos c2]; rw [Int32.lt_iff_toInt_lt] at c2; have z1 : (240 : Int32).toInt = 240 := rfl; exact Or.inl ⟨_, _, rfl, hG, Sm.rf, Or.inr ⟨by omega, rfl⟩⟩
    · rw [if_neg c2, if_neg c2]
      by_cases c3 : a1 ≤ M 1 1
      · rw [if_pos c3, if_pos c3]
        rw [Int32.lt_iff_toInt_lt] at c1 c2
        rw [Int32.le_iff_toInt_le] at c3
        have z1 : (1 : Int32).toInt = 1 := rfl
        have z2 : (240 : Int32).toInt = 240 := rfl
        obtain ⟨v, m2, e, p⟩ := t_X4_read hn hr a1 M hG (by omega)
        obtain ⟨v3, m3, e3, p3⟩ := t_X9_clear hn m2 (p.1)
        have hs : Sm l_law M m3 := (Sm.mono (p.2) rfl).tr (Sm.mono (p3.2.2.2) rfl)
        have hz := p3.2.1
        rw [e, qc_v, qc_v, e3, qc_v, qc_v]
        by_cases c4 : v ≤ (0 : Int32)
        · rw [if_pos c4]; exact Or.inl ⟨_, _, rfl, p3.2.2.1, hs, Or.inl ⟨by omega, hz⟩⟩
        · rw [if_neg c4, if_neg c4]; exact Or.inr ⟨rfl, _, _, rfl, p3.2.2.1, hs, Or.inl ⟨by omega, hz⟩⟩
      · rw [if_neg c3]; rw [Int32.le_iff_toInt_le] at c3; exact Or.inl ⟨_, _, rfl, hG, Sm.rf, Or.inr ⟨by omega, rfl⟩⟩
theorem ofN {k : Nat} (h : k ≤ 3584) : (Int32.ofNat k).toInt = (k : Int) := nI_toInt (by omega)
set_option maxRecDepth 8000 in
set_option maxHeartbeats 4000000 in
theorem L_go {n : Nat} (hn : 200000 ≤ n) (g : qG) (hN : g.2.2.2.2.2.1 ≤ 3584) : ∀ (m j r : Nat), q_isLaw j → q_isLaw r → j ≠ r → ∀ (a3 : Int32) (M : qM), 0 ≤ a3.toInt → a3.toInt ≤ 3600 → G M → (M 1 1).toInt = (M 77 8).toInt → (M 7 8).toInt = (M 78 312).toInt → (M 16 8).toInt = (M 80 312).toInt → (M 0 12).toInt = (M 77 67).toInt → (M 7 9).toInt = (M 78 313).toInt → (M 16 9).toInt = (M 80 313).toInt → TR M → KD M M → LR j M M → TN 7 78 M M → (M 0 12 ≠ 0 → TN 16 80 M M) → 3700 - a3.toInt < (m : Int) → qT (f_L_law g n m j r a3 M) (fun v _ => v = 1) := by
  intro m
  induction m with
  | zero => intro j r _ _ _ a3 M _ _ _ _ _ _ _ _ _ _ _ _ _ _ h; exfalso; omega
  | succ m ih =>
    intro j r hj hr hjr a3 M h0 h1 hG hR0 hR1 hR2 hR3 hR4 hR5 hT hD hL hW hX hm
    show qT (b_L_law g n j r (f_L_law g n m j r) (f_L_law g n m r j) a3 M) _
    unfold b_L_law
    refine T_lt (i_sub (ofN hN) l_7 (by omega) (by omega)) rfl (fun c => T_ret rfl) (fun c => ?_)
    refine T_qg rfl (by omega) (by omega) ?_
    refine T_sw rfl l_0 (fun s1_ => ?_) (fun s1_ => ?_)
    · refine T_qg (i_add rfl l_1 (by omega) (by omega)) (by omega) (by omega) ?_
      refine T_qg (i_add rfl l_2 (by omega) (by omega)) (by omega) (by omega) ?_
      refine T_qg (i_add rfl l_3 (by omega) (by omega)) (by omega) (by omega) ?_
      refine T_qg (i_add rfl l_4 (by omega) (by omega)) (by omega) (by omega) ?_
      refine T_qcE (t_X11_kind hn _ _ _ _ M hG) ?_
      intro r2_ m3_ e6_ p5_
      have g4_ := p5_.2.1
      have f7_ : (m3_ 1 1).toInt = (M 1 1).toInt := by rw [p5_.2.2 1 1 (by decide)]
      have f8_ : (m3_ 77 8).toInt = (M 77 8).toInt := by rw [p5_.2.2 77 8 (by decide)]
      have f9_ : (m3_ 7 8).toInt = (M 7 8).toInt := by rw [p5_.2.2 7 8 (by decide)]
      have f10_ : (m3_ 78 312).toInt = (M 78 312).toInt := by rw [p5_.2.2 78 312 (by decide)]
      have f11_ : (m3_ 16 8).toInt = (M 16 8).toInt := by rw [p5_.2.2 16 8 (by decide)]
      have f12_ : (m3_ 80 312).toInt = (M 80 312).toInt := by rw [p5_.2.2 80 312 (by decide)]
      have f13_ : (m3_ 0 12).toInt = (M 0 12).toInt := by rw [p5_.2.2 0 12 (by decide)]
      have f14_ : (m3_ 77 67).toInt = (M 77 67).toInt := by rw [p5_.2.2 77 67 (by decide)]
      have f15_ : (m3_ 7 9).toInt = (M 7 9).toInt := by rw [p5_.2.2 7 9 (by decide)]
      have f16_ : (m3_ 78 313).toInt = (M 78 313).toInt := by rw [p5_.2.2 78 313 (by decide)]
      have f17_ : (m3_ 16 9).toInt = (M 16 9).toInt := by rw [p5_.2.2 16 9 (by decide)]
      have f18_ : (m3_ 80 313).toInt = (M 80 313).toInt := by rw [p5_.2.2 80 313 (by decide)]
      have l19_ : LR j m3_ m3_ := LR_S hj hL (p5_.2.2) rfl rfl (p5_.2.2 77 17 (by decide))
      have tw20_ : TN 7 78 m3_ m3_ := TN_S hW (p5_.2.2) rfl rfl
      have tx21_ : m3_ 0 12 ≠ 0 → TN 16 80 m3_ m3_ := KX_S hX (p5_.2.2) (p5_.2.2 0 12 (by decide)) rfl rfl
      refine T_qg (i_add rfl l_1 (by omega) (by omega)) (by omega) (by omega) ?_
      refine T_qg (i_add rfl l_2 (by omega) (by omega)) (by omega) (by omega) ?_
      refine T_qg (i_add rfl l_3 (by omega) (by omega)) (by omega) (by omega) ?_
      refine T_qg (i_add rfl l_4 (by omega) (by omega)) (by omega) (by omega) ?_
      refine T_qcE (t_X12_kind hn _ _ _ _ m3_ g4_) ?_
      intro r22_ m23_ e26_ p25_
      have g24_ := p25_.2.1
      have f27_ : (m23_ 1 1).toInt = (m3_ 1 1).toInt := by rw [p25_.2.2 1 1 (by decide)]
      have f28_ : (m23_ 77 8).toInt = (m3_ 77 8).toInt := by rw [p25_.2.2 77 8 (by decide)]
      have f29_ : (m23_ 7 8).toInt = (m3_ 7 8).toInt := by rw [p25_.2.2 7 8 (by decide)]
      have f30_ : (m23_ 78 312).toInt = (m3_ 78 312).toInt := by rw [p25_.2.2 78 312 (by decide)]
      have f31_ : (m23_ 16 8).toInt = (m3_ 16 8).toInt := by rw [p25_.2.2 16 8 (by decide)]
      have f32_ : (m23_ 80 312).toInt = (m3_ 80 312).toInt := by rw [p25_.2.2 80 312 (by decide)]
      have f33_ : (m23_ 0 12).toInt = (m3_ 0 12).toInt := by rw [p25_.2.2 0 12 (by decide)]
      have f34_ : (m23_ 77 67).toInt = (m3_ 77 67).toInt := by rw [p25_.2.2 77 67 (by decide)]
      have f35_ : (m23_ 7 9).toInt = (m3_ 7 9).toInt := by rw [p25_.2.2 7 9 (by decide)]
      have f36_ : (m23_ 78 313).toInt = (m3_ 78 313).toInt := by rw [p25_.2.2 78 313 (by decide)]
      have f37_ : (m23_ 16 9).toInt = (m3_ 16 9).toInt := by rw [p25_.2.2 16 9 (by decide)]
      have f38_ : (m23_ 80 313).toInt = (m3_ 80 313).toInt := by rw [p25_.2.2 80 313 (by decide)]
      have l39_ : LR j m23_ m23_ := LR_S hj l19_ (p25_.2.2) rfl rfl (p25_.2.2 77 17 (by decide))
      have tw40_ : TN 7 78 m23_ m23_ := TN_S tw20_ (p25_.2.2) rfl rfl
      have tx41_ : m23_ 0 12 ≠ 0 → TN 16 80 m23_ m23_ := KX_S tx21_ (p25_.2.2) (p25_.2.2 0 12 (by decide)) rfl rfl
      have d42_ : KD m23_ m23_ := (kind_st hD e6_ e26_).2
      have q43_ : (m23_ 1 1).toInt = (m23_ 77 8).toInt := by omega
      have q44_ : (m23_ 7 8).toInt = (m23_ 78 312).toInt := by omega
      have q45_ : (m23_ 16 8).toInt = (m23_ 80 312).toInt := by omega
      have q46_ : (m23_ 0 12).toInt = (m23_ 77 67).toInt := by omega
      have q47_ : (m23_ 7 9).toInt = (m23_ 78 313).toInt := by omega
      have q48_ : (m23_ 16 9).toInt = (m23_ 80 313).toInt := by omega
      have f50_ := r_1_1 hG
      have t49_ : TR m23_ := TR_le hT (by omega) (funext (fun s_ => by rw [p25_.2.2 2 s_ (outc rfl), p5_.2.2 2 s_ (outc rfl)])) (funext (fun s_ => by rw [p25_.2.2 84 s_ (outc rfl), p5_.2.2 84 s_ (outc rfl)]))
      refine T_ql (i_add rfl l_7 (by omega) (by omega)) ?_
      intro x51_ h52_
      exact ih j r hj hr hjr x51_ m23_ (by omega) (by omega) g24_ q43_ q44_ q45_ q46_ q47_ q48_ t49_ d42_ l39_ tw40_ tx41_ (by omega)
    refine T_sw rfl l_1 (fun s53_ => ?_) (fun s53_ => ?_)
    · refine T_qg (i_add rfl l_1 (by omega) (by omega)) (by omega) (by omega) ?_
      refine T_qg (i_add rfl l_2 (by omega) (by omega)) (by omega) (by omega) ?_
      refine T_qcE (t_X11_person hn _ _ M hG) ?_
      intro r54_ m55_ e58_ p57_
      have g56_ := p57_.2.2.1
      have f59_ : (m55_ 1 1).toInt = (M 1 1).toInt := by rw [p57_.2.2.2 1 1 (by decide)]
      have f60_ : (m55_ 77 8).toInt = (M 77 8).toInt := by rw [p57_.2.2.2 77 8 (by decide)]
      have f61_ : (m55_ 78 312).toInt = (M 78 312).toInt := by rw [p57_.2.2.2 78 312 (by decide)]
      have f62_ : (m55_ 16 8).toInt = (M 16 8).toInt := by rw [p57_.2.2.2 16 8 (by decide)]
      have f63_ : (m55_ 80 312).toInt = (M 80 312).toInt := by rw [p57_.2.2.2 80 312 (by decide)]
      have f64_ : (m55_ 0 12).toInt = (M 0 12).toInt := by rw [p57_.2.2.2 0 12 (by decide)]
      have f65_ : (m55_ 77 67).toInt = (M 77 67).toInt := by rw [p57_.2.2.2 77 67 (by decide)]
      have f66_ : (m55_ 7 9).toInt = (M 7 9).toInt := by rw [p57_.2.2.2 7 9 (by decide)]
      have f67_ : (m55_ 78 313).toInt = (M 78 313).toInt := by rw [p57_.2.2.2 78 313 (by decide)]
      have f68_ : (m55_ 16 9).toInt = (M 16 9).toInt := by rw [p57_.2.2.2 16 9 (by decide)]
      have f69_ : (m55_ 80 313).toInt = (M 80 313).toInt := by rw [p57_.2.2.2 80 313 (by decide)]
      have w70_ := p57_.2.1
      have d71_ : KD m55_ m55_ := KD_S hD (p57_.2.2.2) (p57_.2.2.2 3 3 (by decide)) (p57_.2.2.2 77 6 (by decide)) rfl
      have l72_ : LR j m55_ m55_ := LR_S hj hL (p57_.2.2.2) rfl rfl (p57_.2.2.2 77 17 (by decide))
      have tx73_ : m55_ 0 12 ≠ 0 → TN 16 80 m55_ m55_ := KX_S hX (p57_.2.2.2) (p57_.2.2.2 0 12 (by decide)) rfl rfl
      refine T_qg (i_add rfl l_1 (by omega) (by omega)) (by omega) (by omega) ?_
      refine T_qg (i_add rfl l_2 (by omega) (by omega)) (by omega) (by omega) ?_
      refine T_qcE (t_X12_person hn _ _ m55_ g56_) ?_
      intro r74_ m75_ e78_ p77_
      have g76_ := p77_.2.2.1
      have f79_ : (m75_ 1 1).toInt = (m55_ 1 1).toInt := by rw [p77_.2.2.2 1 1 (by decide)]
      have f80_ : (m75_ 77 8).toInt = (m55_ 77 8).toInt := by rw [p77_.2.2.2 77 8 (by decide)]
      have f81_ : (m75_ 7 8).toInt = (m55_ 7 8).toInt := by rw [p77_.2.2.2 7 8 (by decide)]
      have f82_ : (m75_ 16 8).toInt = (m55_ 16 8).toInt := by rw [p77_.2.2.2 16 8 (by decide)]
      have f83_ : (m75_ 80 312).toInt = (m55_ 80 312).toInt := by rw [p77_.2.2.2 80 312 (by decide)]
      have f84_ : (m75_ 0 12).toInt = (m55_ 0 12).toInt := by rw [p77_.2.2.2 0 12 (by decide)]
      have f85_ : (m75_ 77 67).toInt = (m55_ 77 67).toInt := by rw [p77_.2.2.2 77 67 (by decide)]
      have f86_ : (m75_ 7 9).toInt = (m55_ 7 9).toInt := by rw [p77_.2.2.2 7 9 (by decide)]
      have f87_ : (m75_ 78 313).toInt = (m55_ 78 313).toInt := by rw [p77_.2.2.2 78 313 (by decide)]
      have f88_ : (m75_ 16 9).toInt = (m55_ 16 9).toInt := by rw [p77_.2.2.2 16 9 (by decide)]
      have f89_ : (m75_ 80 313).toInt = (m55_ 80 313).toInt := by rw [p77_.2.2.2 80 313 (by decide)]
      have w90_ := p77_.2.1
      have d91_ : KD m75_ m75_ := KD_S d71_ (p77_.2.2.2) (p77_.2.2.2 3 3 (by decide)) (p77_.2.2.2 77 6 (by decide)) rfl
      have l92_ : LR j m75_ m75_ := LR_S hj l72_ (p77_.2.2.2) rfl rfl (p77_.2.2.2 77 17 (by decide))
      have tx93_ : m75_ 0 12 ≠ 0 → TN 16 80 m75_ m75_ := KX_S tx73_ (p77_.2.2.2) (p77_.2.2.2 0 12 (by decide)) rfl rfl
      have b94_ : m55_ 78 312 = M 7 8 := Int32.toInt_inj.mp (by omega)
      rw [b94_] at w90_
      have q95_ : (m75_ 1 1).toInt = (m75_ 77 8).toInt := by omega
      have q96_ : (m75_ 7 8).toInt = (m75_ 78 312).toInt := by omega
      have q97_ : (m75_ 16 8).toInt = (m75_ 80 312).toInt := by omega
      have q98_ : (m75_ 0 12).toInt = (m75_ 77 67).toInt := by omega
      have q99_ : (m75_ 7 9).toInt = (m75_ 78 313).toInt := by omega
      have q100_ : (m75_ 16 9).toInt = (m75_ 80 313).toInt := by omega
      have f102_ := r_1_1 hG
      have t101_ : TR m75_ := TR_le hT (by omega) (funext (fun s_ => by rw [p77_.2.2.2 2 s_ (outc rfl), p57_.2.2.2 2 s_ (outc rfl)])) (funext (fun s_ => by rw [p77_.2.2.2 84 s_ (outc rfl), p57_.2.2.2 84 s_ (outc rfl)]))
      have wk103_ := person_st hW (fun c_ hc_ => funext (fun s_ => p57_.2.2.2 c_ s_ (out77 hc_ rfl))) e58_ e78_
      have tw104_ : TN 7 78 m75_ m75_ := TN_fr wk103_.2 (fun x_ h1_ h2_ => funext (fun s_ => p77_.2.2.2 x_ s_ (out715 h1_ h2_ rfl))) (fun _ _ => rfl)
      refine T_ql (i_add rfl l_7 (by omega) (by omega)) ?_
      intro x105_ h106_
      exact ih j r hj hr hjr x105_ m75_ (by omega) (by omega) g76_ q95_ q96_ q97_ q98_ q99_ q100_ t101_ d91_ l92_ tw104_ tx93_ (by omega)
    refine T_sw rfl l_2 (fun s107_ => ?_) (fun s107_ => ?_)
    · refine T_qg (i_add rfl l_1 (by omega) (by omega)) (by omega) (by omega) ?_
      refine T_qg (i_add rfl l_2 (by omega) (by omega)) (by omega) (by omega) ?_
      refine T_qg (i_add rfl l_3 (by omega) (by omega)) (by omega) (by omega) ?_
      refine T_qg (i_add rfl l_4 (by omega) (by omega)) (by omega) (by omega) ?_
      refine T_qg (i_add rfl l_5 (by omega) (by omega)) (by omega) (by omega) ?_
      refine T_qcE (t_X11_feed hn _ _ _ _ _ M hG) ?_
      intro r108_ m109_ e112_ p111_
      have g110_ := p111_.2.2.1
      have f113_ : (m109_ 77 8).toInt = (M 77 8).toInt := by rw [p111_.2.2.2 77 8 (by decide)]
      have f114_ : (m109_ 7 8).toInt = (M 7 8).toInt := by rw [p111_.2.2.2 7 8 (by decide)]
      have f115_ : (m109_ 78 312).toInt = (M 78 312).toInt := by rw [p111_.2.2.2 78 312 (by decide)]
      have f116_ : (m109_ 16 8).toInt = (M 16 8).toInt := by rw [p111_.2.2.2 16 8 (by decide)]
      have f117_ : (m109_ 80 312).toInt = (M 80 312).toInt := by rw [p111_.2.2.2 80 312 (by decide)]
      have f118_ : (m109_ 0 12).toInt = (M 0 12).toInt := by rw [p111_.2.2.2 0 12 (by decide)]
      have f119_ : (m109_ 77 67).toInt = (M 77 67).toInt := by rw [p111_.2.2.2 77 67 (by decide)]
      have f120_ : (m109_ 7 9).toInt = (M 7 9).toInt := by rw [p111_.2.2.2 7 9 (by decide)]
      have f121_ : (m109_ 78 313).toInt = (M 78 313).toInt := by rw [p111_.2.2.2 78 313 (by decide)]
      have f122_ : (m109_ 16 9).toInt = (M 16 9).toInt := by rw [p111_.2.2.2 16 9 (by decide)]
      have f123_ : (m109_ 80 313).toInt = (M 80 313).toInt := by rw [p111_.2.2.2 80 313 (by decide)]
      have w124_ := p111_.2.1
      have d125_ : KD m109_ m109_ := KD_S hD (p111_.2.2.2) (p111_.2.2.2 3 3 (by decide)) (p111_.2.2.2 77 6 (by decide)) rfl
      have l126_ : LR j m109_ m109_ := LR_S hj hL (p111_.2.2.2) rfl rfl (p111_.2.2.2 77 17 (by decide))
      have tw127_ : TN 7 78 m109_ m109_ := TN_S hW (p111_.2.2.2) rfl rfl
      have tx128_ : m109_ 0 12 ≠ 0 → TN 16 80 m109_ m109_ := KX_S hX (p111_.2.2.2) (p111_.2.2.2 0 12 (by decide)) rfl rfl
      refine T_qg (i_add rfl l_1 (by omega) (by omega)) (by omega) (by omega) ?_
      refine T_qg (i_add rfl l_2 (by omega) (by omega)) (by omega) (by omega) ?_
      refine T_qg (i_add rfl l_3 (by omega) (by omega)) (by omega) (by omega) ?_
      refine T_qg (i_add rfl l_4 (by omega) (by omega)) (by omega) (by omega) ?_
      refine T_qg (i_add rfl l_5 (by omega) (by omega)) (by omega) (by omega) ?_
      refine T_qcE (t_X12_feed hn _ _ _ _ _ m109_ g110_) ?_
      intro r129_ m130_ e133_ p132_
      have g131_ := p132_.2.2.1
      have f134_ : (m130_ 1 1).toInt = (m109_ 1 1).toInt := by rw [p132_.2.2.2 1 1 (by decide)]
      have f135_ : (m130_ 7 8).toInt = (m109_ 7 8).toInt := by rw [p132_.2.2.2 7 8 (by decide)]
      have f136_ : (m130_ 78 312).toInt = (m109_ 78 312).toInt := by rw [p132_.2.2.2 78 312 (by decide)]
      have f137_ : (m130_ 16 8).toInt = (m109_ 16 8).toInt := by rw [p132_.2.2.2 16 8 (by decide)]
      have f138_ : (m130_ 80 312).toInt = (m109_ 80 312).toInt := by rw [p132_.2.2.2 80 312 (by decide)]
      have f139_ : (m130_ 0 12).toInt = (m109_ 0 12).toInt := by rw [p132_.2.2.2 0 12 (by decide)]
      have f140_ : (m130_ 77 67).toInt = (m109_ 77 67).toInt := by rw [p132_.2.2.2 77 67 (by decide)]
      have f141_ : (m130_ 7 9).toInt = (m109_ 7 9).toInt := by rw [p132_.2.2.2 7 9 (by decide)]
      have f142_ : (m130_ 78 313).toInt = (m109_ 78 313).toInt := by rw [p132_.2.2.2 78 313 (by decide)]
      have f143_ : (m130_ 16 9).toInt = (m109_ 16 9).toInt := by rw [p132_.2.2.2 16 9 (by decide)]
      have f144_ : (m130_ 80 313).toInt = (m109_ 80 313).toInt := by rw [p132_.2.2.2 80 313 (by decide)]
      have w145_ := p132_.2.1
      have d146_ : KD m130_ m130_ := KD_S d125_ (p132_.2.2.2) (p132_.2.2.2 3 3 (by decide)) (p132_.2.2.2 77 6 (by decide)) rfl
      have l147_ : LR j m130_ m130_ := LR_S hj l126_ (p132_.2.2.2) rfl rfl (p132_.2.2.2 77 17 (by decide))
      have tw148_ : TN 7 78 m130_ m130_ := TN_S tw127_ (p132_.2.2.2) rfl rfl
      have tx149_ : m130_ 0 12 ≠ 0 → TN 16 80 m130_ m130_ := KX_S tx128_ (p132_.2.2.2) (p132_.2.2.2 0 12 (by decide)) rfl rfl
      have q150_ : (m130_ 1 1).toInt = (m130_ 77 8).toInt := by omega
      have q151_ : (m130_ 7 8).toInt = (m130_ 78 312).toInt := by omega
      have q152_ : (m130_ 16 8).toInt = (m130_ 80 312).toInt := by omega
      have q153_ : (m130_ 0 12).toInt = (m130_ 77 67).toInt := by omega
      have q154_ : (m130_ 7 9).toInt = (m130_ 78 313).toInt := by omega
      have q155_ : (m130_ 16 9).toInt = (m130_ 80 313).toInt := by omega
      have t156_ : TR m130_ := feed_TR hn hG hT hR0 e112_ e133_
      refine T_ql (i_add rfl l_7 (by omega) (by omega)) ?_
      intro x157_ h158_
      exact ih j r hj hr hjr x157_ m130_ (by omega) (by omega) g131_ q150_ q151_ q152_ q153_ q154_ q155_ t156_ d146_ l147_ tw148_ tx149_ (by omega)
    refine T_sw rfl l_3 (fun s159_ => ?_) (fun s159_ => ?_)
    · refine T_qg (i_add rfl l_1 (by omega) (by omega)) (by omega) (by omega) ?_
      refine T_qc2s (law_tots hn hr _ M hG) (fun v_ m_ ee_ p_ => ?_) (fun v_ m_ ee_ p_ => ?_)
      · have f160_ : (m_ 77 8).toInt = (M 77 8).toInt := by rw [p_.2.1 77 8 (by decide)]
        have f161_ : (m_ 7 8).toInt = (M 7 8).toInt := by rw [p_.2.1 7 8 (by decide)]
        have f162_ : (m_ 78 312).toInt = (M 78 312).toInt := by rw [p_.2.1 78 312 (by decide)]
        have f163_ : (m_ 16 8).toInt = (M 16 8).toInt := by rw [p_.2.1 16 8 (by decide)]
        have f164_ : (m_ 80 312).toInt = (M 80 312).toInt := by rw [p_.2.1 80 312 (by decide)]
        have f165_ : (m_ 0 12).toInt = (M 0 12).toInt := by rw [p_.2.1 0 12 (by decide)]
        have f166_ : (m_ 77 67).toInt = (M 77 67).toInt := by rw [p_.2.1 77 67 (by decide)]
        have f167_ : (m_ 7 9).toInt = (M 7 9).toInt := by rw [p_.2.1 7 9 (by decide)]
        have f168_ : (m_ 78 313).toInt = (M 78 313).toInt := by rw [p_.2.1 78 313 (by decide)]
        have f169_ : (m_ 16 9).toInt = (M 16 9).toInt := by rw [p_.2.1 16 9 (by decide)]
        have f170_ : (m_ 80 313).toInt = (M 80 313).toInt := by rw [p_.2.1 80 313 (by decide)]
        have w171_ := p_.2.2
        have d172_ : KD m_ m_ := KD_S hD (p_.2.1) (p_.2.1 3 3 (by decide)) (p_.2.1 77 6 (by decide)) rfl
        have tw173_ : TN 7 78 m_ m_ := TN_S hW (p_.2.1) rfl rfl
        have tx174_ : m_ 0 12 ≠ 0 → TN 16 80 m_ m_ := KX_S hX (p_.2.1) (p_.2.1 0 12 (by decide)) rfl rfl
        refine T_qg (i_add rfl l_1 (by omega) (by omega)) (by omega) (by omega) ?_
        refine T_qcE (t_X12_law hn _ m_ p_.1) ?_
        intro r175_ m176_ e179_ p178_
        have g177_ := p178_.1
        have f180_ : (m176_ 1 1).toInt = (m_ 1 1).toInt := by rw [show m176_ 1 1 = m_ 1 1 from congrFun (p178_.2.1.2 1 (by decide) (by decide)) 1]
        have f181_ : (m176_ 7 8).toInt = (m_ 7 8).toInt := by rw [show m176_ 7 8 = m_ 7 8 from congrFun (p178_.2.1.2 7 (by decide) (by decide)) 8]
        have f182_ : (m176_ 78 312).toInt = (m_ 78 312).toInt := by rw [show m176_ 78 312 = m_ 78 312 from congrFun (p178_.2.1.2 78 (by decide) (by decide)) 312]
        have f183_ : (m176_ 16 8).toInt = (m_ 16 8).toInt := by rw [show m176_ 16 8 = m_ 16 8 from congrFun (p178_.2.1.2 16 (by decide) (by decide)) 8]
        have f184_ : (m176_ 80 312).toInt = (m_ 80 312).toInt := by rw [show m176_ 80 312 = m_ 80 312 from congrFun (p178_.2.1.2 80 (by decide) (by decide)) 312]
        have f185_ : (m176_ 0 12).toInt = (m_ 0 12).toInt := by rw [show m176_ 0 12 = m_ 0 12 from congrFun (p178_.2.1.2 0 (by decide) (by decide)) 12]
        have f186_ : (m176_ 77 67).toInt = (m_ 77 67).toInt := by rw [show m176_ 77 67 = m_ 77 67 from p178_.2.1.1 67 (by decide)]
        have f187_ : (m176_ 7 9).toInt = (m_ 7 9).toInt := by rw [show m176_ 7 9 = m_ 7 9 from congrFun (p178_.2.1.2 7 (by decide) (by decide)) 9]
        have f188_ : (m176_ 78 313).toInt = (m_ 78 313).toInt := by rw [show m176_ 78 313 = m_ 78 313 from congrFun (p178_.2.1.2 78 (by decide) (by decide)) 313]
        have f189_ : (m176_ 16 9).toInt = (m_ 16 9).toInt := by rw [show m176_ 16 9 = m_ 16 9 from congrFun (p178_.2.1.2 16 (by decide) (by decide)) 9]
        have f190_ : (m176_ 80 313).toInt = (m_ 80 313).toInt := by rw [show m176_ 80 313 = m_ 80 313 from congrFun (p178_.2.1.2 80 (by decide) (by decide)) 313]
        have w191_ := p178_.2.2
        have q192_ : (m176_ 1 1).toInt = (m176_ 77 8).toInt := by omega
        have q193_ : (m176_ 7 8).toInt = (m176_ 78 312).toInt := by omega
        have q194_ : (m176_ 16 8).toInt = (m176_ 80 312).toInt := by omega
        have q195_ : (m176_ 0 12).toInt = (m176_ 77 67).toInt := by omega
        have q196_ : (m176_ 7 9).toInt = (m176_ 78 313).toInt := by omega
        have q197_ : (m176_ 16 9).toInt = (m176_ 80 313).toInt := by omega
        have f199_ := r_1_1 hG
        have t198_ : TR m176_ := TR_le hT (by omega) (by rw [p178_.2.1.2 2 (by decide) (by decide)]; exact funext (fun s_ => p_.2.1 2 s_ (outc rfl))) (by rw [p178_.2.1.2 84 (by decide) (by decide)]; exact funext (fun s_ => p_.2.1 84 s_ (outc rfl)))
        have d200_ : KD m176_ m176_ := KD_cg d172_ (by rw [p178_.2.1.2 3 (by decide) (by decide)]) (by rw [p178_.2.1.1 6 (by decide)]) (fun q_ _ => by rw [p178_.2.1.2 4 (by decide) (by decide)]) (fun q_ _ => by rw [p178_.2.1.2 5 (by decide) (by decide)]) (fun q_ _ => by rw [p178_.2.1.2 6 (by decide) (by decide)]) (fun q_ _ => by rw [p178_.2.1.2 81 (by decide) (by decide)]) (fun q_ _ => by rw [p178_.2.1.2 82 (by decide) (by decide)]) (fun q_ _ => by rw [p178_.2.1.2 83 (by decide) (by decide)])
        have l201_ : LR j m176_ m176_ := by
          have l_ := ((law_st hn hj hr hjr hG p_.1 hT (by omega) (funext (fun s_ => p_.2.1 84 s_ (outc rfl))) (fun c_ h1_ h2_ => funext (fun s_ => p_.2.1 c_ s_ (out77 (by omega) rfl))) (p_.2.1 77 17 (by decide)) hL e179_).1 ee_).2
          exact LR_cg l_ (fun k_ hk_ => p178_.2.1.2 _ (by rcases hj with rfl | rfl <;> rcases hr with rfl | rfl <;> omega) (by rcases hj with rfl | rfl <;> rcases hr with rfl | rfl <;> omega)) (fun _ _ _ => rfl) rfl
        have tw202_ : TN 7 78 m176_ m176_ := TN_fr tw173_ (fun x_ h1_ h2_ => p178_.2.1.2 x_ (by omega) (by omega)) (fun i_ _ => by rw [p178_.2.1.2 78 (by decide) (by decide)])
        have tx203_ : m176_ 0 12 ≠ 0 → TN 16 80 m176_ m176_ := fun q_ => TN_fr (tx174_ (fun z_ => q_ (by rw [p178_.2.1.2 0 (by decide) (by decide)]; exact z_))) (fun x_ h1_ h2_ => p178_.2.1.2 x_ (by omega) (by omega)) (fun i_ _ => by rw [p178_.2.1.2 80 (by decide) (by decide)])
        refine T_ql (i_add rfl l_7 (by omega) (by omega)) ?_
        intro x204_ h205_
        exact ih j r hj hr hjr x204_ m176_ (by omega) (by omega) g177_ q192_ q193_ q194_ q195_ q196_ q197_ t198_ d200_ l201_ tw202_ tx203_ (by omega)
      · have f206_ : (m_ 77 8).toInt = (M 77 8).toInt := by rw [p_.2.1 77 8 (by decide)]
        have f207_ : (m_ 7 8).toInt = (M 7 8).toInt := by rw [p_.2.1 7 8 (by decide)]
        have f208_ : (m_ 78 312).toInt = (M 78 312).toInt := by rw [p_.2.1 78 312 (by decide)]
        have f209_ : (m_ 16 8).toInt = (M 16 8).toInt := by rw [p_.2.1 16 8 (by decide)]
        have f210_ : (m_ 80 312).toInt = (M 80 312).toInt := by rw [p_.2.1 80 312 (by decide)]
        have f211_ : (m_ 0 12).toInt = (M 0 12).toInt := by rw [p_.2.1 0 12 (by decide)]
        have f212_ : (m_ 77 67).toInt = (M 77 67).toInt := by rw [p_.2.1 77 67 (by decide)]
        have f213_ : (m_ 7 9).toInt = (M 7 9).toInt := by rw [p_.2.1 7 9 (by decide)]
        have f214_ : (m_ 78 313).toInt = (M 78 313).toInt := by rw [p_.2.1 78 313 (by decide)]
        have f215_ : (m_ 16 9).toInt = (M 16 9).toInt := by rw [p_.2.1 16 9 (by decide)]
        have f216_ : (m_ 80 313).toInt = (M 80 313).toInt := by rw [p_.2.1 80 313 (by decide)]
        have w217_ := p_.2.2
        have d218_ : KD m_ m_ := KD_S hD (p_.2.1) (p_.2.1 3 3 (by decide)) (p_.2.1 77 6 (by decide)) rfl
        have tw219_ : TN 7 78 m_ m_ := TN_S hW (p_.2.1) rfl rfl
        have tx220_ : m_ 0 12 ≠ 0 → TN 16 80 m_ m_ := KX_S hX (p_.2.1) (p_.2.1 0 12 (by decide)) rfl rfl
        refine T_qg (i_add rfl l_1 (by omega) (by omega)) (by omega) (by omega) ?_
        refine T_qcE (t_X12_law hn _ m_ p_.1) ?_
        intro r221_ m222_ e225_ p224_
        have g223_ := p224_.1
        have f226_ : (m222_ 1 1).toInt = (m_ 1 1).toInt := by rw [show m222_ 1 1 = m_ 1 1 from congrFun (p224_.2.1.2 1 (by decide) (by decide)) 1]
        have f227_ : (m222_ 7 8).toInt = (m_ 7 8).toInt := by rw [show m222_ 7 8 = m_ 7 8 from congrFun (p224_.2.1.2 7 (by decide) (by decide)) 8]
        have f228_ : (m222_ 78 312).toInt = (m_ 78 312).toInt := by rw [show m222_ 78 312 = m_ 78 312 from congrFun (p224_.2.1.2 78 (by decide) (by decide)) 312]
        have f229_ : (m222_ 16 8).toInt = (m_ 16 8).toInt := by rw [show m222_ 16 8 = m_ 16 8 from congrFun (p224_.2.1.2 16 (by decide) (by decide)) 8]
        have f230_ : (m222_ 80 312).toInt = (m_ 80 312).toInt := by rw [show m222_ 80 312 = m_ 80 312 from congrFun (p224_.2.1.2 80 (by decide) (by decide)) 312]
        have f231_ : (m222_ 0 12).toInt = (m_ 0 12).toInt := by rw [show m222_ 0 12 = m_ 0 12 from congrFun (p224_.2.1.2 0 (by decide) (by decide)) 12]
        have f232_ : (m222_ 77 67).toInt = (m_ 77 67).toInt := by rw [show m222_ 77 67 = m_ 77 67 from p224_.2.1.1 67 (by decide)]
        have f233_ : (m222_ 7 9).toInt = (m_ 7 9).toInt := by rw [show m222_ 7 9 = m_ 7 9 from congrFun (p224_.2.1.2 7 (by decide) (by decide)) 9]
        have f234_ : (m222_ 78 313).toInt = (m_ 78 313).toInt := by rw [show m222_ 78 313 = m_ 78 313 from congrFun (p224_.2.1.2 78 (by decide) (by decide)) 313]
        have f235_ : (m222_ 16 9).toInt = (m_ 16 9).toInt := by rw [show m222_ 16 9 = m_ 16 9 from congrFun (p224_.2.1.2 16 (by decide) (by decide)) 9]
        have f236_ : (m222_ 80 313).toInt = (m_ 80 313).toInt := by rw [show m222_ 80 313 = m_ 80 313 from congrFun (p224_.2.1.2 80 (by decide) (by decide)) 313]
        have w237_ := p224_.2.2
        have q238_ : (m222_ 1 1).toInt = (m222_ 77 8).toInt := by omega
        have q239_ : (m222_ 7 8).toInt = (m222_ 78 312).toInt := by omega
        have q240_ : (m222_ 16 8).toInt = (m222_ 80 312).toInt := by omega
        have q241_ : (m222_ 0 12).toInt = (m222_ 77 67).toInt := by omega
        have q242_ : (m222_ 7 9).toInt = (m222_ 78 313).toInt := by omega
        have q243_ : (m222_ 16 9).toInt = (m222_ 80 313).toInt := by omega
        have f245_ := r_1_1 hG
        have t244_ : TR m222_ := TR_le hT (by omega) (by rw [p224_.2.1.2 2 (by decide) (by decide)]; exact funext (fun s_ => p_.2.1 2 s_ (outc rfl))) (by rw [p224_.2.1.2 84 (by decide) (by decide)]; exact funext (fun s_ => p_.2.1 84 s_ (outc rfl)))
        have d246_ : KD m222_ m222_ := KD_cg d218_ (by rw [p224_.2.1.2 3 (by decide) (by decide)]) (by rw [p224_.2.1.1 6 (by decide)]) (fun q_ _ => by rw [p224_.2.1.2 4 (by decide) (by decide)]) (fun q_ _ => by rw [p224_.2.1.2 5 (by decide) (by decide)]) (fun q_ _ => by rw [p224_.2.1.2 6 (by decide) (by decide)]) (fun q_ _ => by rw [p224_.2.1.2 81 (by decide) (by decide)]) (fun q_ _ => by rw [p224_.2.1.2 82 (by decide) (by decide)]) (fun q_ _ => by rw [p224_.2.1.2 83 (by decide) (by decide)])
        have l247_ : LR r m222_ m222_ := by
          have l_ := ((law_st hn hj hr hjr hG p_.1 hT (by omega) (funext (fun s_ => p_.2.1 84 s_ (outc rfl))) (fun c_ h1_ h2_ => funext (fun s_ => p_.2.1 c_ s_ (out77 (by omega) rfl))) (p_.2.1 77 17 (by decide)) hL e225_).2 ee_).2
          exact LR_cg l_ (fun k_ hk_ => p224_.2.1.2 _ (by rcases hj with rfl | rfl <;> rcases hr with rfl | rfl <;> omega) (by rcases hj with rfl | rfl <;> rcases hr with rfl | rfl <;> omega)) (fun _ _ _ => rfl) rfl
        have tw248_ : TN 7 78 m222_ m222_ := TN_fr tw219_ (fun x_ h1_ h2_ => p224_.2.1.2 x_ (by omega) (by omega)) (fun i_ _ => by rw [p224_.2.1.2 78 (by decide) (by decide)])
        have tx249_ : m222_ 0 12 ≠ 0 → TN 16 80 m222_ m222_ := fun q_ => TN_fr (tx220_ (fun z_ => q_ (by rw [p224_.2.1.2 0 (by decide) (by decide)]; exact z_))) (fun x_ h1_ h2_ => p224_.2.1.2 x_ (by omega) (by omega)) (fun i_ _ => by rw [p224_.2.1.2 80 (by decide) (by decide)])
        refine T_ql (i_add rfl l_7 (by omega) (by omega)) ?_
        intro x250_ h251_
        exact ih r j hr hj (fun e_ => hjr e_.symm) x250_ m222_ (by omega) (by omega) g223_ q238_ q239_ q240_ q241_ q242_ q243_ t244_ d246_ l247_ tw248_ tx249_ (by omega)
    refine T_sw rfl l_4 (fun s252_ => ?_) (fun s252_ => ?_)
    · refine T_qg (i_add rfl l_1 (by omega) (by omega)) (by omega) (by omega) ?_
      refine T_qg (i_add rfl l_2 (by omega) (by omega)) (by omega) (by omega) ?_
      refine T_qcE (t_X11_plan hn _ _ M hG) ?_
      intro r253_ m254_ e257_ p256_
      have g255_ := p256_.2.1
      have f258_ : (m254_ 77 8).toInt = (M 77 8).toInt := by rw [p256_.2.2 77 8 (by decide)]
      have f259_ : (m254_ 7 8).toInt = (M 7 8).toInt := by rw [p256_.2.2 7 8 (by decide)]
      have f260_ : (m254_ 78 312).toInt = (M 78 312).toInt := by rw [p256_.2.2 78 312 (by decide)]
      have f261_ : (m254_ 16 8).toInt = (M 16 8).toInt := by rw [p256_.2.2 16 8 (by decide)]
      have f262_ : (m254_ 80 312).toInt = (M 80 312).toInt := by rw [p256_.2.2 80 312 (by decide)]
      have f263_ : (m254_ 0 12).toInt = (M 0 12).toInt := by rw [p256_.2.2 0 12 (by decide)]
      have f264_ : (m254_ 77 67).toInt = (M 77 67).toInt := by rw [p256_.2.2 77 67 (by decide)]
      have f265_ : (m254_ 7 9).toInt = (M 7 9).toInt := by rw [p256_.2.2 7 9 (by decide)]
      have f266_ : (m254_ 78 313).toInt = (M 78 313).toInt := by rw [p256_.2.2 78 313 (by decide)]
      have f267_ : (m254_ 16 9).toInt = (M 16 9).toInt := by rw [p256_.2.2 16 9 (by decide)]
      have f268_ : (m254_ 80 313).toInt = (M 80 313).toInt := by rw [p256_.2.2 80 313 (by decide)]
      have w269_ := p256_.1
      have d270_ : KD m254_ m254_ := KD_S hD (p256_.2.2) (p256_.2.2 3 3 (by decide)) (p256_.2.2 77 6 (by decide)) rfl
      have l271_ : LR j m254_ m254_ := LR_S hj hL (p256_.2.2) rfl rfl (p256_.2.2 77 17 (by decide))
      have tx272_ : m254_ 0 12 ≠ 0 → TN 16 80 m254_ m254_ := KX_S hX (p256_.2.2) (p256_.2.2 0 12 (by decide)) rfl rfl
      refine T_qg (i_add rfl l_1 (by omega) (by omega)) (by omega) (by omega) ?_
      refine T_qg (i_add rfl l_2 (by omega) (by omega)) (by omega) (by omega) ?_
      refine T_qcE (t_X12_plan hn _ _ m254_ g255_) ?_
      intro r273_ m274_ e277_ p276_
      have g275_ := p276_.2.1
      have f278_ : (m274_ 1 1).toInt = (m254_ 1 1).toInt := by rw [p276_.2.2 1 1 (by decide)]
      have f279_ : (m274_ 7 8).toInt = (m254_ 7 8).toInt := by rw [p276_.2.2 7 8 (by decide)]
      have f280_ : (m274_ 78 312).toInt = (m254_ 78 312).toInt := by rw [p276_.2.2 78 312 (by decide)]
      have f281_ : (m274_ 16 8).toInt = (m254_ 16 8).toInt := by rw [p276_.2.2 16 8 (by decide)]
      have f282_ : (m274_ 80 312).toInt = (m254_ 80 312).toInt := by rw [p276_.2.2 80 312 (by decide)]
      have f283_ : (m274_ 0 12).toInt = (m254_ 0 12).toInt := by rw [p276_.2.2 0 12 (by decide)]
      have f284_ : (m274_ 77 67).toInt = (m254_ 77 67).toInt := by rw [p276_.2.2 77 67 (by decide)]
      have f285_ : (m274_ 7 9).toInt = (m254_ 7 9).toInt := by rw [p276_.2.2 7 9 (by decide)]
      have f286_ : (m274_ 78 313).toInt = (m254_ 78 313).toInt := by rw [p276_.2.2 78 313 (by decide)]
      have f287_ : (m274_ 16 9).toInt = (m254_ 16 9).toInt := by rw [p276_.2.2 16 9 (by decide)]
      have f288_ : (m274_ 80 313).toInt = (m254_ 80 313).toInt := by rw [p276_.2.2 80 313 (by decide)]
      have w289_ := p276_.1
      have d290_ : KD m274_ m274_ := KD_S d270_ (p276_.2.2) (p276_.2.2 3 3 (by decide)) (p276_.2.2 77 6 (by decide)) rfl
      have l291_ : LR j m274_ m274_ := LR_S hj l271_ (p276_.2.2) rfl rfl (p276_.2.2 77 17 (by decide))
      have tx292_ : m274_ 0 12 ≠ 0 → TN 16 80 m274_ m274_ := KX_S tx272_ (p276_.2.2) (p276_.2.2 0 12 (by decide)) rfl rfl
      have b293_ : m254_ 78 312 = M 7 8 := Int32.toInt_inj.mp (by omega)
      rw [b293_] at w289_
      have q294_ : (m274_ 1 1).toInt = (m274_ 77 8).toInt := by omega
      have q295_ : (m274_ 7 8).toInt = (m274_ 78 312).toInt := by omega
      have q296_ : (m274_ 16 8).toInt = (m274_ 80 312).toInt := by omega
      have q297_ : (m274_ 0 12).toInt = (m274_ 77 67).toInt := by omega
      have q298_ : (m274_ 7 9).toInt = (m274_ 78 313).toInt := by omega
      have q299_ : (m274_ 16 9).toInt = (m274_ 80 313).toInt := by omega
      have f301_ := r_1_1 hG
      have t300_ : TR m274_ := TR_le hT (by omega) (funext (fun s_ => by rw [p276_.2.2 2 s_ (outc rfl), p256_.2.2 2 s_ (outc rfl)])) (funext (fun s_ => by rw [p276_.2.2 84 s_ (outc rfl), p256_.2.2 84 s_ (outc rfl)]))
      have wk302_ := plan_st hn hG g255_ hT (by omega) (funext (fun s_ => p256_.2.2 84 s_ (outc rfl))) (TN_fr hW (fun _ _ _ => rfl) (fun i_ _ => by rw [(fun c_ hc_ => funext (fun s_ => p256_.2.2 c_ s_ (out77 hc_ rfl))) 78 (by decide)])) e257_ e277_
      have tw303_ : TN 7 78 m274_ m274_ := TN_fr wk302_ (fun x_ h1_ h2_ => funext (fun s_ => p276_.2.2 x_ s_ (out715 h1_ h2_ rfl))) (fun _ _ => rfl)
      refine T_ql (i_add rfl l_7 (by omega) (by omega)) ?_
      intro x304_ h305_
      exact ih j r hj hr hjr x304_ m274_ (by omega) (by omega) g275_ q294_ q295_ q296_ q297_ q298_ q299_ t300_ d290_ l291_ tw303_ tx292_ (by omega)
    refine T_sw rfl l_5 (fun s306_ => ?_) (fun s306_ => ?_)
    · refine T_qg (i_add rfl l_1 (by omega) (by omega)) (by omega) (by omega) ?_
      refine T_qg (i_add rfl l_2 (by omega) (by omega)) (by omega) (by omega) ?_
      refine T_qg (i_add rfl l_3 (by omega) (by omega)) (by omega) (by omega) ?_
      refine T_qcE (t_X11_tries hn hj _ _ _ M hG) ?_
      intro r307_ m308_ e311_ p310_
      have g309_ := p310_.2.1
      have f312_ : (m308_ 1 1).toInt = (M 1 1).toInt := by rw [p310_.2.2 1 1 (by decide)]
      have f313_ : (m308_ 77 8).toInt = (M 77 8).toInt := by rw [p310_.2.2 77 8 (by decide)]
      have f314_ : (m308_ 7 8).toInt = (M 7 8).toInt := by rw [p310_.2.2 7 8 (by decide)]
      have f315_ : (m308_ 78 312).toInt = (M 78 312).toInt := by rw [p310_.2.2 78 312 (by decide)]
      have f316_ : (m308_ 16 8).toInt = (M 16 8).toInt := by rw [p310_.2.2 16 8 (by decide)]
      have f317_ : (m308_ 80 312).toInt = (M 80 312).toInt := by rw [p310_.2.2 80 312 (by decide)]
      have f318_ : (m308_ 0 12).toInt = (M 0 12).toInt := by rw [p310_.2.2 0 12 (by decide)]
      have f319_ : (m308_ 77 67).toInt = (M 77 67).toInt := by rw [p310_.2.2 77 67 (by decide)]
      have f320_ : (m308_ 7 9).toInt = (M 7 9).toInt := by rw [p310_.2.2 7 9 (by decide)]
      have f321_ : (m308_ 78 313).toInt = (M 78 313).toInt := by rw [p310_.2.2 78 313 (by decide)]
      have f322_ : (m308_ 16 9).toInt = (M 16 9).toInt := by rw [p310_.2.2 16 9 (by decide)]
      have f323_ : (m308_ 80 313).toInt = (M 80 313).toInt := by rw [p310_.2.2 80 313 (by decide)]
      have d324_ : KD m308_ m308_ := KD_S hD (p310_.2.2) (p310_.2.2 3 3 (by decide)) (p310_.2.2 77 6 (by decide)) rfl
      have l325_ : LR j m308_ m308_ := LR_S hj hL (p310_.2.2) rfl rfl (p310_.2.2 77 17 (by decide))
      have tx326_ : m308_ 0 12 ≠ 0 → TN 16 80 m308_ m308_ := KX_S hX (p310_.2.2) (p310_.2.2 0 12 (by decide)) rfl rfl
      refine T_qg (i_add rfl l_1 (by omega) (by omega)) (by omega) (by omega) ?_
      refine T_qg (i_add rfl l_2 (by omega) (by omega)) (by omega) (by omega) ?_
      refine T_qg (i_add rfl l_3 (by omega) (by omega)) (by omega) (by omega) ?_
      refine T_qcE (t_X12_tries hn _ _ _ m308_ g309_) ?_
      intro r327_ m328_ e331_ p330_
      have g329_ := p330_.2.1
      have f332_ : (m328_ 1 1).toInt = (m308_ 1 1).toInt := by rw [p330_.2.2 1 1 (by decide)]
      have f333_ : (m328_ 77 8).toInt = (m308_ 77 8).toInt := by rw [p330_.2.2 77 8 (by decide)]
      have f334_ : (m328_ 7 8).toInt = (m308_ 7 8).toInt := by rw [p330_.2.2 7 8 (by decide)]
      have f335_ : (m328_ 78 312).toInt = (m308_ 78 312).toInt := by rw [p330_.2.2 78 312 (by decide)]
      have f336_ : (m328_ 16 8).toInt = (m308_ 16 8).toInt := by rw [p330_.2.2 16 8 (by decide)]
      have f337_ : (m328_ 80 312).toInt = (m308_ 80 312).toInt := by rw [p330_.2.2 80 312 (by decide)]
      have f338_ : (m328_ 0 12).toInt = (m308_ 0 12).toInt := by rw [p330_.2.2 0 12 (by decide)]
      have f339_ : (m328_ 77 67).toInt = (m308_ 77 67).toInt := by rw [p330_.2.2 77 67 (by decide)]
      have f340_ : (m328_ 7 9).toInt = (m308_ 7 9).toInt := by rw [p330_.2.2 7 9 (by decide)]
      have f341_ : (m328_ 78 313).toInt = (m308_ 78 313).toInt := by rw [p330_.2.2 78 313 (by decide)]
      have f342_ : (m328_ 16 9).toInt = (m308_ 16 9).toInt := by rw [p330_.2.2 16 9 (by decide)]
      have f343_ : (m328_ 80 313).toInt = (m308_ 80 313).toInt := by rw [p330_.2.2 80 313 (by decide)]
      have d344_ : KD m328_ m328_ := KD_S d324_ (p330_.2.2) (p330_.2.2 3 3 (by decide)) (p330_.2.2 77 6 (by decide)) rfl
      have l345_ : LR j m328_ m328_ := LR_S hj l325_ (p330_.2.2) rfl rfl (p330_.2.2 77 17 (by decide))
      have tx346_ : m328_ 0 12 ≠ 0 → TN 16 80 m328_ m328_ := KX_S tx326_ (p330_.2.2) (p330_.2.2 0 12 (by decide)) rfl rfl
      have q347_ : (m328_ 1 1).toInt = (m328_ 77 8).toInt := by omega
      have q348_ : (m328_ 7 8).toInt = (m328_ 78 312).toInt := by omega
      have q349_ : (m328_ 16 8).toInt = (m328_ 80 312).toInt := by omega
      have q350_ : (m328_ 0 12).toInt = (m328_ 77 67).toInt := by omega
      have q351_ : (m328_ 7 9).toInt = (m328_ 78 313).toInt := by omega
      have q352_ : (m328_ 16 9).toInt = (m328_ 80 313).toInt := by omega
      have f354_ := r_1_1 hG
      have t353_ : TR m328_ := TR_le hT (by omega) (funext (fun s_ => by rw [p330_.2.2 2 s_ (outc rfl), p310_.2.2 2 s_ (outc rfl)])) (funext (fun s_ => by rw [p330_.2.2 84 s_ (outc rfl), p310_.2.2 84 s_ (outc rfl)]))
      have wk355_ := tries_st hn hj hG g309_ hD hL hW (fun c_ hc_ => funext (fun s_ => p310_.2.2 c_ s_ (out77 hc_ rfl))) e311_ e331_
      have tw356_ : TN 7 78 m328_ m328_ := TN_fr wk355_.2 (fun x_ h1_ h2_ => funext (fun s_ => p330_.2.2 x_ s_ (out715 h1_ h2_ rfl))) (fun _ _ => rfl)
      refine T_ql (i_add rfl l_7 (by omega) (by omega)) ?_
      intro x357_ h358_
      exact ih j r hj hr hjr x357_ m328_ (by omega) (by omega) g329_ q347_ q348_ q349_ q350_ q351_ q352_ t353_ d344_ l345_ tw356_ tx346_ (by omega)
    refine T_sw rfl l_6 (fun s359_ => ?_) (fun s359_ => ?_)
    · refine T_qg (i_add rfl l_1 (by omega) (by omega)) (by omega) (by omega) ?_
      refine T_qg (i_add rfl l_2 (by omega) (by omega)) (by omega) (by omega) ?_
      refine T_qg (i_add rfl l_3 (by omega) (by omega)) (by omega) (by omega) ?_
      refine T_qcE (t_X11_buys hn hj _ _ _ M hG) ?_
      intro r360_ m361_ e364_ p363_
      have g362_ := p363_.2.1
      have f365_ : (m361_ 1 1).toInt = (M 1 1).toInt := by rw [p363_.2.2 1 1 (by decide)]
      have f366_ : (m361_ 77 8).toInt = (M 77 8).toInt := by rw [p363_.2.2 77 8 (by decide)]
      have f367_ : (m361_ 7 8).toInt = (M 7 8).toInt := by rw [p363_.2.2 7 8 (by decide)]
      have f368_ : (m361_ 78 312).toInt = (M 78 312).toInt := by rw [p363_.2.2 78 312 (by decide)]
      have f369_ : (m361_ 16 8).toInt = (M 16 8).toInt := by rw [p363_.2.2 16 8 (by decide)]
      have f370_ : (m361_ 80 312).toInt = (M 80 312).toInt := by rw [p363_.2.2 80 312 (by decide)]
      have f371_ : (m361_ 0 12).toInt = (M 0 12).toInt := by rw [p363_.2.2 0 12 (by decide)]
      have f372_ : (m361_ 77 67).toInt = (M 77 67).toInt := by rw [p363_.2.2 77 67 (by decide)]
      have f373_ : (m361_ 7 9).toInt = (M 7 9).toInt := by rw [p363_.2.2 7 9 (by decide)]
      have f374_ : (m361_ 78 313).toInt = (M 78 313).toInt := by rw [p363_.2.2 78 313 (by decide)]
      have f375_ : (m361_ 16 9).toInt = (M 16 9).toInt := by rw [p363_.2.2 16 9 (by decide)]
      have f376_ : (m361_ 80 313).toInt = (M 80 313).toInt := by rw [p363_.2.2 80 313 (by decide)]
      have d377_ : KD m361_ m361_ := KD_S hD (p363_.2.2) (p363_.2.2 3 3 (by decide)) (p363_.2.2 77 6 (by decide)) rfl
      have l378_ : LR j m361_ m361_ := LR_S hj hL (p363_.2.2) rfl rfl (p363_.2.2 77 17 (by decide))
      have tx379_ : m361_ 0 12 ≠ 0 → TN 16 80 m361_ m361_ := KX_S hX (p363_.2.2) (p363_.2.2 0 12 (by decide)) rfl rfl
      refine T_qg (i_add rfl l_1 (by omega) (by omega)) (by omega) (by omega) ?_
      refine T_qg (i_add rfl l_2 (by omega) (by omega)) (by omega) (by omega) ?_
      refine T_qg (i_add rfl l_3 (by omega) (by omega)) (by omega) (by omega) ?_
      refine T_qcE (t_X12_buys hn _ _ _ m361_ g362_) ?_
      intro r380_ m381_ e384_ p383_
      have g382_ := p383_.2.1
      have f385_ : (m381_ 1 1).toInt = (m361_ 1 1).toInt := by rw [p383_.2.2 1 1 (by decide)]
      have f386_ : (m381_ 77 8).toInt = (m361_ 77 8).toInt := by rw [p383_.2.2 77 8 (by decide)]
      have f387_ : (m381_ 7 8).toInt = (m361_ 7 8).toInt := by rw [p383_.2.2 7 8 (by decide)]
      have f388_ : (m381_ 78 312).toInt = (m361_ 78 312).toInt := by rw [p383_.2.2 78 312 (by decide)]
      have f389_ : (m381_ 16 8).toInt = (m361_ 16 8).toInt := by rw [p383_.2.2 16 8 (by decide)]
      have f390_ : (m381_ 80 312).toInt = (m361_ 80 312).toInt := by rw [p383_.2.2 80 312 (by decide)]
      have f391_ : (m381_ 0 12).toInt = (m361_ 0 12).toInt := by rw [p383_.2.2 0 12 (by decide)]
      have f392_ : (m381_ 77 67).toInt = (m361_ 77 67).toInt := by rw [p383_.2.2 77 67 (by decide)]
      have f393_ : (m381_ 7 9).toInt = (m361_ 7 9).toInt := by rw [p383_.2.2 7 9 (by decide)]
      have f394_ : (m381_ 78 313).toInt = (m361_ 78 313).toInt := by rw [p383_.2.2 78 313 (by decide)]
      have f395_ : (m381_ 16 9).toInt = (m361_ 16 9).toInt := by rw [p383_.2.2 16 9 (by decide)]
      have f396_ : (m381_ 80 313).toInt = (m361_ 80 313).toInt := by rw [p383_.2.2 80 313 (by decide)]
      have d397_ : KD m381_ m381_ := KD_S d377_ (p383_.2.2) (p383_.2.2 3 3 (by decide)) (p383_.2.2 77 6 (by decide)) rfl
      have l398_ : LR j m381_ m381_ := LR_S hj l378_ (p383_.2.2) rfl rfl (p383_.2.2 77 17 (by decide))
      have tx399_ : m381_ 0 12 ≠ 0 → TN 16 80 m381_ m381_ := KX_S tx379_ (p383_.2.2) (p383_.2.2 0 12 (by decide)) rfl rfl
      have q400_ : (m381_ 1 1).toInt = (m381_ 77 8).toInt := by omega
      have q401_ : (m381_ 7 8).toInt = (m381_ 78 312).toInt := by omega
      have q402_ : (m381_ 16 8).toInt = (m381_ 80 312).toInt := by omega
      have q403_ : (m381_ 0 12).toInt = (m381_ 77 67).toInt := by omega
      have q404_ : (m381_ 7 9).toInt = (m381_ 78 313).toInt := by omega
      have q405_ : (m381_ 16 9).toInt = (m381_ 80 313).toInt := by omega
      have f407_ := r_1_1 hG
      have t406_ : TR m381_ := TR_le hT (by omega) (funext (fun s_ => by rw [p383_.2.2 2 s_ (outc rfl), p363_.2.2 2 s_ (outc rfl)])) (funext (fun s_ => by rw [p383_.2.2 84 s_ (outc rfl), p363_.2.2 84 s_ (outc rfl)]))
      have wk408_ := buys_st hn hj hG g362_ hD hL hW (fun c_ hc_ => funext (fun s_ => p363_.2.2 c_ s_ (out77 hc_ rfl))) e364_ e384_
      have tw409_ : TN 7 78 m381_ m381_ := TN_fr wk408_.2 (fun x_ h1_ h2_ => funext (fun s_ => p383_.2.2 x_ s_ (out715 h1_ h2_ rfl))) (fun _ _ => rfl)
      refine T_ql (i_add rfl l_7 (by omega) (by omega)) ?_
      intro x410_ h411_
      exact ih j r hj hr hjr x410_ m381_ (by omega) (by omega) g382_ q400_ q401_ q402_ q403_ q404_ q405_ t406_ d397_ l398_ tw409_ tx399_ (by omega)
    refine T_sw rfl l_7 (fun s412_ => ?_) (fun s412_ => ?_)
    · refine T_qg (i_add rfl l_1 (by omega) (by omega)) (by omega) (by omega) ?_
      refine T_qcE (t_X11_days hn hj _ M hG) ?_
      intro r413_ m414_ e417_ p416_
      have g415_ := p416_.2.1
      have f418_ : (m414_ 1 1).toInt = (M 1 1).toInt := by rw [p416_.2.2 1 1 (by decide)]
      have f419_ : (m414_ 77 8).toInt = (M 77 8).toInt := by rw [p416_.2.2 77 8 (by decide)]
      have f420_ : (m414_ 7 8).toInt = (M 7 8).toInt := by rw [p416_.2.2 7 8 (by decide)]
      have f421_ : (m414_ 78 312).toInt = (M 78 312).toInt := by rw [p416_.2.2 78 312 (by decide)]
      have f422_ : (m414_ 16 8).toInt = (M 16 8).toInt := by rw [p416_.2.2 16 8 (by decide)]
      have f423_ : (m414_ 80 312).toInt = (M 80 312).toInt := by rw [p416_.2.2 80 312 (by decide)]
      have f424_ : (m414_ 0 12).toInt = (M 0 12).toInt := by rw [p416_.2.2 0 12 (by decide)]
      have f425_ : (m414_ 77 67).toInt = (M 77 67).toInt := by rw [p416_.2.2 77 67 (by decide)]
      have f426_ : (m414_ 78 313).toInt = (M 78 313).toInt := by rw [p416_.2.2 78 313 (by decide)]
      have f427_ : (m414_ 16 9).toInt = (M 16 9).toInt := by rw [p416_.2.2 16 9 (by decide)]
      have f428_ : (m414_ 80 313).toInt = (M 80 313).toInt := by rw [p416_.2.2 80 313 (by decide)]
      have w429_ := p416_.1
      have d430_ : KD m414_ m414_ := KD_S hD (p416_.2.2) (p416_.2.2 3 3 (by decide)) (p416_.2.2 77 6 (by decide)) rfl
      have l431_ : LR j m414_ m414_ := LR_S hj hL (p416_.2.2) rfl rfl (p416_.2.2 77 17 (by decide))
      have tx432_ : m414_ 0 12 ≠ 0 → TN 16 80 m414_ m414_ := KX_S hX (p416_.2.2) (p416_.2.2 0 12 (by decide)) rfl rfl
      refine T_qg (i_add rfl l_1 (by omega) (by omega)) (by omega) (by omega) ?_
      refine T_qcE (t_X12_days hn _ m414_ g415_) ?_
      intro r433_ m434_ e437_ p436_
      have g435_ := p436_.2.1
      have f438_ : (m434_ 1 1).toInt = (m414_ 1 1).toInt := by rw [p436_.2.2 1 1 (by decide)]
      have f439_ : (m434_ 77 8).toInt = (m414_ 77 8).toInt := by rw [p436_.2.2 77 8 (by decide)]
      have f440_ : (m434_ 7 8).toInt = (m414_ 7 8).toInt := by rw [p436_.2.2 7 8 (by decide)]
      have f441_ : (m434_ 78 312).toInt = (m414_ 78 312).toInt := by rw [p436_.2.2 78 312 (by decide)]
      have f442_ : (m434_ 16 8).toInt = (m414_ 16 8).toInt := by rw [p436_.2.2 16 8 (by decide)]
      have f443_ : (m434_ 80 312).toInt = (m414_ 80 312).toInt := by rw [p436_.2.2 80 312 (by decide)]
      have f444_ : (m434_ 0 12).toInt = (m414_ 0 12).toInt := by rw [p436_.2.2 0 12 (by decide)]
      have f445_ : (m434_ 77 67).toInt = (m414_ 77 67).toInt := by rw [p436_.2.2 77 67 (by decide)]
      have f446_ : (m434_ 7 9).toInt = (m414_ 7 9).toInt := by rw [p436_.2.2 7 9 (by decide)]
      have f447_ : (m434_ 16 9).toInt = (m414_ 16 9).toInt := by rw [p436_.2.2 16 9 (by decide)]
      have f448_ : (m434_ 80 313).toInt = (m414_ 80 313).toInt := by rw [p436_.2.2 80 313 (by decide)]
      have w449_ := p436_.1
      have d450_ : KD m434_ m434_ := KD_S d430_ (p436_.2.2) (p436_.2.2 3 3 (by decide)) (p436_.2.2 77 6 (by decide)) rfl
      have l451_ : LR j m434_ m434_ := LR_S hj l431_ (p436_.2.2) rfl rfl (p436_.2.2 77 17 (by decide))
      have tx452_ : m434_ 0 12 ≠ 0 → TN 16 80 m434_ m434_ := KX_S tx432_ (p436_.2.2) (p436_.2.2 0 12 (by decide)) rfl rfl
      have q453_ : (m434_ 1 1).toInt = (m434_ 77 8).toInt := by omega
      have q454_ : (m434_ 7 8).toInt = (m434_ 78 312).toInt := by omega
      have q455_ : (m434_ 16 8).toInt = (m434_ 80 312).toInt := by omega
      have q456_ : (m434_ 0 12).toInt = (m434_ 77 67).toInt := by omega
      have q457_ : (m434_ 7 9).toInt = (m434_ 78 313).toInt := by omega
      have q458_ : (m434_ 16 9).toInt = (m434_ 80 313).toInt := by omega
      have f460_ := r_1_1 hG
      have t459_ : TR m434_ := TR_le hT (by omega) (funext (fun s_ => by rw [p436_.2.2 2 s_ (outc rfl), p416_.2.2 2 s_ (outc rfl)])) (funext (fun s_ => by rw [p436_.2.2 84 s_ (outc rfl), p416_.2.2 84 s_ (outc rfl)]))
      have wk461_ := days_st hn hj hG g415_ hD hL hW (fun c_ hc_ => funext (fun s_ => p416_.2.2 c_ s_ (out77 hc_ rfl))) e417_ e437_
      have tw462_ : TN 7 78 m434_ m434_ := TN_fr wk461_.2 (fun x_ h1_ h2_ => funext (fun s_ => p436_.2.2 x_ s_ (out715 h1_ h2_ rfl))) (fun _ _ => rfl)
      refine T_ql (i_add rfl l_7 (by omega) (by omega)) ?_
      intro x463_ h464_
      exact ih j r hj hr hjr x463_ m434_ (by omega) (by omega) g435_ q453_ q454_ q455_ q456_ q457_ q458_ t459_ d450_ l451_ tw462_ tx452_ (by omega)
    refine T_sw rfl l_8 (fun s465_ => ?_) (fun s465_ => ?_)
    · refine T_qg (i_add rfl l_1 (by omega) (by omega)) (by omega) (by omega) ?_
      refine T_qg (i_add rfl l_2 (by omega) (by omega)) (by omega) (by omega) ?_
      refine T_qcE (t_X11_tried hn hj _ _ M hG) ?_
      intro r466_ m467_ e470_ p469_
      have g468_ := p469_.1
      have f471_ : (m467_ 1 1).toInt = (M 1 1).toInt := by rw [p469_.2 1 1 (by decide)]
      have f472_ : (m467_ 77 8).toInt = (M 77 8).toInt := by rw [p469_.2 77 8 (by decide)]
      have f473_ : (m467_ 7 8).toInt = (M 7 8).toInt := by rw [p469_.2 7 8 (by decide)]
      have f474_ : (m467_ 78 312).toInt = (M 78 312).toInt := by rw [p469_.2 78 312 (by decide)]
      have f475_ : (m467_ 16 8).toInt = (M 16 8).toInt := by rw [p469_.2 16 8 (by decide)]
      have f476_ : (m467_ 80 312).toInt = (M 80 312).toInt := by rw [p469_.2 80 312 (by decide)]
      have f477_ : (m467_ 0 12).toInt = (M 0 12).toInt := by rw [p469_.2 0 12 (by decide)]
      have f478_ : (m467_ 77 67).toInt = (M 77 67).toInt := by rw [p469_.2 77 67 (by decide)]
      have f479_ : (m467_ 7 9).toInt = (M 7 9).toInt := by rw [p469_.2 7 9 (by decide)]
      have f480_ : (m467_ 78 313).toInt = (M 78 313).toInt := by rw [p469_.2 78 313 (by decide)]
      have f481_ : (m467_ 16 9).toInt = (M 16 9).toInt := by rw [p469_.2 16 9 (by decide)]
      have f482_ : (m467_ 80 313).toInt = (M 80 313).toInt := by rw [p469_.2 80 313 (by decide)]
      have d483_ : KD m467_ m467_ := KD_S hD (p469_.2) (p469_.2 3 3 (by decide)) (p469_.2 77 6 (by decide)) rfl
      have l484_ : LR j m467_ m467_ := LR_S hj hL (p469_.2) rfl rfl (p469_.2 77 17 (by decide))
      have tx485_ : m467_ 0 12 ≠ 0 → TN 16 80 m467_ m467_ := KX_S hX (p469_.2) (p469_.2 0 12 (by decide)) rfl rfl
      refine T_qg (i_add rfl l_1 (by omega) (by omega)) (by omega) (by omega) ?_
      refine T_qg (i_add rfl l_2 (by omega) (by omega)) (by omega) (by omega) ?_
      refine T_qcE (t_X12_tried hn _ _ m467_ g468_) ?_
      intro r486_ m487_ e490_ p489_
      have g488_ := p489_.2.1
      have f491_ : (m487_ 1 1).toInt = (m467_ 1 1).toInt := by rw [p489_.2.2 1 1 (by decide)]
      have f492_ : (m487_ 77 8).toInt = (m467_ 77 8).toInt := by rw [p489_.2.2 77 8 (by decide)]
      have f493_ : (m487_ 7 8).toInt = (m467_ 7 8).toInt := by rw [p489_.2.2 7 8 (by decide)]
      have f494_ : (m487_ 16 8).toInt = (m467_ 16 8).toInt := by rw [p489_.2.2 16 8 (by decide)]
      have f495_ : (m487_ 80 312).toInt = (m467_ 80 312).toInt := by rw [p489_.2.2 80 312 (by decide)]
      have f496_ : (m487_ 0 12).toInt = (m467_ 0 12).toInt := by rw [p489_.2.2 0 12 (by decide)]
      have f497_ : (m487_ 77 67).toInt = (m467_ 77 67).toInt := by rw [p489_.2.2 77 67 (by decide)]
      have f498_ : (m487_ 7 9).toInt = (m467_ 7 9).toInt := by rw [p489_.2.2 7 9 (by decide)]
      have f499_ : (m487_ 16 9).toInt = (m467_ 16 9).toInt := by rw [p489_.2.2 16 9 (by decide)]
      have f500_ : (m487_ 80 313).toInt = (m467_ 80 313).toInt := by rw [p489_.2.2 80 313 (by decide)]
      have w501_ := p489_.1
      have d502_ : KD m487_ m487_ := KD_S d483_ (p489_.2.2) (p489_.2.2 3 3 (by decide)) (p489_.2.2 77 6 (by decide)) rfl
      have l503_ : LR j m487_ m487_ := LR_S hj l484_ (p489_.2.2) rfl rfl (p489_.2.2 77 17 (by decide))
      have tx504_ : m487_ 0 12 ≠ 0 → TN 16 80 m487_ m487_ := KX_S tx485_ (p489_.2.2) (p489_.2.2 0 12 (by decide)) rfl rfl
      have q505_ : (m487_ 1 1).toInt = (m487_ 77 8).toInt := by omega
      have q506_ : (m487_ 7 8).toInt = (m487_ 78 312).toInt := by omega
      have q507_ : (m487_ 16 8).toInt = (m487_ 80 312).toInt := by omega
      have q508_ : (m487_ 0 12).toInt = (m487_ 77 67).toInt := by omega
      have q509_ : (m487_ 7 9).toInt = (m487_ 78 313).toInt := by omega
      have q510_ : (m487_ 16 9).toInt = (m487_ 80 313).toInt := by omega
      have f512_ := r_1_1 hG
      have t511_ : TR m487_ := TR_le hT (by omega) (funext (fun s_ => by rw [p489_.2.2 2 s_ (outc rfl), p469_.2 2 s_ (outc rfl)])) (funext (fun s_ => by rw [p489_.2.2 84 s_ (outc rfl), p469_.2 84 s_ (outc rfl)]))
      have wk513_ := tried_st hn hj hG g468_ hD hL hW (fun c_ hc_ => funext (fun s_ => p469_.2 c_ s_ (out77 hc_ rfl))) e470_ e490_
      have tw514_ : TN 7 78 m487_ m487_ := TN_fr hW (fun x_ h1_ h2_ => funext (fun s_ => (p489_.2.2 x_ s_ (out715 h1_ h2_ rfl)).trans (p469_.2 x_ s_ (out715 h1_ h2_ rfl)))) (fun i_ hi_ => (wk513_.2 i_ hi_).trans (by rw [(fun c_ hc_ => funext (fun s_ => p469_.2 c_ s_ (out77 hc_ rfl))) 78 (by decide)]))
      refine T_ql (i_add rfl l_7 (by omega) (by omega)) ?_
      intro x515_ h516_
      exact ih j r hj hr hjr x515_ m487_ (by omega) (by omega) g488_ q505_ q506_ q507_ q508_ q509_ q510_ t511_ d502_ l503_ tw514_ tx504_ (by omega)
    refine T_sw rfl l_9 (fun s517_ => ?_) (fun s517_ => ?_)
    · refine T_qg (i_add rfl l_1 (by omega) (by omega)) (by omega) (by omega) ?_
      refine T_qg (i_add rfl l_2 (by omega) (by omega)) (by omega) (by omega) ?_
      refine T_qg (i_add rfl l_3 (by omega) (by omega)) (by omega) (by omega) ?_
      refine T_qcE (t_X11_has hn hj _ _ _ M hG) ?_
      intro r518_ m519_ e522_ p521_
      have g520_ := p521_.1
      have f523_ : (m519_ 1 1).toInt = (M 1 1).toInt := by rw [p521_.2 1 1 (by decide)]
      have f524_ : (m519_ 77 8).toInt = (M 77 8).toInt := by rw [p521_.2 77 8 (by decide)]
      have f525_ : (m519_ 7 8).toInt = (M 7 8).toInt := by rw [p521_.2 7 8 (by decide)]
      have f526_ : (m519_ 78 312).toInt = (M 78 312).toInt := by rw [p521_.2 78 312 (by decide)]
      have f527_ : (m519_ 16 8).toInt = (M 16 8).toInt := by rw [p521_.2 16 8 (by decide)]
      have f528_ : (m519_ 80 312).toInt = (M 80 312).toInt := by rw [p521_.2 80 312 (by decide)]
      have f529_ : (m519_ 0 12).toInt = (M 0 12).toInt := by rw [p521_.2 0 12 (by decide)]
      have f530_ : (m519_ 77 67).toInt = (M 77 67).toInt := by rw [p521_.2 77 67 (by decide)]
      have f531_ : (m519_ 7 9).toInt = (M 7 9).toInt := by rw [p521_.2 7 9 (by decide)]
      have f532_ : (m519_ 78 313).toInt = (M 78 313).toInt := by rw [p521_.2 78 313 (by decide)]
      have f533_ : (m519_ 16 9).toInt = (M 16 9).toInt := by rw [p521_.2 16 9 (by decide)]
      have f534_ : (m519_ 80 313).toInt = (M 80 313).toInt := by rw [p521_.2 80 313 (by decide)]
      have d535_ : KD m519_ m519_ := KD_S hD (p521_.2) (p521_.2 3 3 (by decide)) (p521_.2 77 6 (by decide)) rfl
      have l536_ : LR j m519_ m519_ := LR_S hj hL (p521_.2) rfl rfl (p521_.2 77 17 (by decide))
      have tx537_ : m519_ 0 12 ≠ 0 → TN 16 80 m519_ m519_ := KX_S hX (p521_.2) (p521_.2 0 12 (by decide)) rfl rfl
      refine T_qg (i_add rfl l_1 (by omega) (by omega)) (by omega) (by omega) ?_
      refine T_qg (i_add rfl l_2 (by omega) (by omega)) (by omega) (by omega) ?_
      refine T_qg (i_add rfl l_3 (by omega) (by omega)) (by omega) (by omega) ?_
      refine T_qcE (t_X12_has hn _ _ _ m519_ g520_) ?_
      intro r538_ m539_ e542_ p541_
      have g540_ := p541_.2.1
      have f543_ : (m539_ 1 1).toInt = (m519_ 1 1).toInt := by rw [p541_.2.2 1 1 (by decide)]
      have f544_ : (m539_ 77 8).toInt = (m519_ 77 8).toInt := by rw [p541_.2.2 77 8 (by decide)]
      have f545_ : (m539_ 7 8).toInt = (m519_ 7 8).toInt := by rw [p541_.2.2 7 8 (by decide)]
      have f546_ : (m539_ 16 8).toInt = (m519_ 16 8).toInt := by rw [p541_.2.2 16 8 (by decide)]
      have f547_ : (m539_ 80 312).toInt = (m519_ 80 312).toInt := by rw [p541_.2.2 80 312 (by decide)]
      have f548_ : (m539_ 0 12).toInt = (m519_ 0 12).toInt := by rw [p541_.2.2 0 12 (by decide)]
      have f549_ : (m539_ 77 67).toInt = (m519_ 77 67).toInt := by rw [p541_.2.2 77 67 (by decide)]
      have f550_ : (m539_ 7 9).toInt = (m519_ 7 9).toInt := by rw [p541_.2.2 7 9 (by decide)]
      have f551_ : (m539_ 16 9).toInt = (m519_ 16 9).toInt := by rw [p541_.2.2 16 9 (by decide)]
      have f552_ : (m539_ 80 313).toInt = (m519_ 80 313).toInt := by rw [p541_.2.2 80 313 (by decide)]
      have w553_ := p541_.1
      have d554_ : KD m539_ m539_ := KD_S d535_ (p541_.2.2) (p541_.2.2 3 3 (by decide)) (p541_.2.2 77 6 (by decide)) rfl
      have l555_ : LR j m539_ m539_ := LR_S hj l536_ (p541_.2.2) rfl rfl (p541_.2.2 77 17 (by decide))
      have tx556_ : m539_ 0 12 ≠ 0 → TN 16 80 m539_ m539_ := KX_S tx537_ (p541_.2.2) (p541_.2.2 0 12 (by decide)) rfl rfl
      have q557_ : (m539_ 1 1).toInt = (m539_ 77 8).toInt := by omega
      have q558_ : (m539_ 7 8).toInt = (m539_ 78 312).toInt := by omega
      have q559_ : (m539_ 16 8).toInt = (m539_ 80 312).toInt := by omega
      have q560_ : (m539_ 0 12).toInt = (m539_ 77 67).toInt := by omega
      have q561_ : (m539_ 7 9).toInt = (m539_ 78 313).toInt := by omega
      have q562_ : (m539_ 16 9).toInt = (m539_ 80 313).toInt := by omega
      have f564_ := r_1_1 hG
      have t563_ : TR m539_ := TR_le hT (by omega) (funext (fun s_ => by rw [p541_.2.2 2 s_ (outc rfl), p521_.2 2 s_ (outc rfl)])) (funext (fun s_ => by rw [p541_.2.2 84 s_ (outc rfl), p521_.2 84 s_ (outc rfl)]))
      have wk565_ := has_st hn hj hG g520_ hD hL hW (fun c_ hc_ => funext (fun s_ => p521_.2 c_ s_ (out77 hc_ rfl))) e522_ e542_
      have tw566_ : TN 7 78 m539_ m539_ := TN_fr hW (fun x_ h1_ h2_ => funext (fun s_ => (p541_.2.2 x_ s_ (out715 h1_ h2_ rfl)).trans (p521_.2 x_ s_ (out715 h1_ h2_ rfl)))) (fun i_ hi_ => (wk565_.2 i_ hi_).trans (by rw [(fun c_ hc_ => funext (fun s_ => p521_.2 c_ s_ (out77 hc_ rfl))) 78 (by decide)]))
      refine T_ql (i_add rfl l_7 (by omega) (by omega)) ?_
      intro x567_ h568_
      exact ih j r hj hr hjr x567_ m539_ (by omega) (by omega) g540_ q557_ q558_ q559_ q560_ q561_ q562_ t563_ d554_ l555_ tw566_ tx556_ (by omega)
    refine T_sw rfl l_10 (fun s569_ => ?_) (fun s569_ => ?_)
    · refine T_qg (i_add rfl l_1 (by omega) (by omega)) (by omega) (by omega) ?_
      refine T_qg (i_add rfl l_2 (by omega) (by omega)) (by omega) (by omega) ?_
      refine T_qcE (t_X11_alike hn hj _ _ M hG) ?_
      intro r570_ m571_ e574_ p573_
      have g572_ := p573_.2.1
      have f575_ : (m571_ 1 1).toInt = (M 1 1).toInt := by rw [p573_.2.2 1 1 (by decide)]
      have f576_ : (m571_ 77 8).toInt = (M 77 8).toInt := by rw [p573_.2.2 77 8 (by decide)]
      have f577_ : (m571_ 7 8).toInt = (M 7 8).toInt := by rw [p573_.2.2 7 8 (by decide)]
      have f578_ : (m571_ 78 312).toInt = (M 78 312).toInt := by rw [p573_.2.2 78 312 (by decide)]
      have f579_ : (m571_ 16 8).toInt = (M 16 8).toInt := by rw [p573_.2.2 16 8 (by decide)]
      have f580_ : (m571_ 80 312).toInt = (M 80 312).toInt := by rw [p573_.2.2 80 312 (by decide)]
      have f581_ : (m571_ 0 12).toInt = (M 0 12).toInt := by rw [p573_.2.2 0 12 (by decide)]
      have f582_ : (m571_ 77 67).toInt = (M 77 67).toInt := by rw [p573_.2.2 77 67 (by decide)]
      have f583_ : (m571_ 7 9).toInt = (M 7 9).toInt := by rw [p573_.2.2 7 9 (by decide)]
      have f584_ : (m571_ 78 313).toInt = (M 78 313).toInt := by rw [p573_.2.2 78 313 (by decide)]
      have f585_ : (m571_ 16 9).toInt = (M 16 9).toInt := by rw [p573_.2.2 16 9 (by decide)]
      have f586_ : (m571_ 80 313).toInt = (M 80 313).toInt := by rw [p573_.2.2 80 313 (by decide)]
      have d587_ : KD m571_ m571_ := KD_S hD (p573_.2.2) (p573_.2.2 3 3 (by decide)) (p573_.2.2 77 6 (by decide)) rfl
      have l588_ : LR j m571_ m571_ := LR_S hj hL (p573_.2.2) rfl rfl (p573_.2.2 77 17 (by decide))
      have tw589_ : TN 7 78 m571_ m571_ := TN_S hW (p573_.2.2) rfl rfl
      have tx590_ : m571_ 0 12 ≠ 0 → TN 16 80 m571_ m571_ := KX_S hX (p573_.2.2) (p573_.2.2 0 12 (by decide)) rfl rfl
      refine T_qg (i_add rfl l_1 (by omega) (by omega)) (by omega) (by omega) ?_
      refine T_qg (i_add rfl l_2 (by omega) (by omega)) (by omega) (by omega) ?_
      refine T_qcE (t_X12_alike hn _ _ m571_ g572_) ?_
      intro r591_ m592_ e595_ p594_
      have g593_ := p594_.2.1
      have f596_ : (m592_ 1 1).toInt = (m571_ 1 1).toInt := by rw [p594_.2.2 1 1 (by decide)]
      have f597_ : (m592_ 77 8).toInt = (m571_ 77 8).toInt := by rw [p594_.2.2 77 8 (by decide)]
      have f598_ : (m592_ 7 8).toInt = (m571_ 7 8).toInt := by rw [p594_.2.2 7 8 (by decide)]
      have f599_ : (m592_ 78 312).toInt = (m571_ 78 312).toInt := by rw [p594_.2.2 78 312 (by decide)]
      have f600_ : (m592_ 16 8).toInt = (m571_ 16 8).toInt := by rw [p594_.2.2 16 8 (by decide)]
      have f601_ : (m592_ 80 312).toInt = (m571_ 80 312).toInt := by rw [p594_.2.2 80 312 (by decide)]
      have f602_ : (m592_ 0 12).toInt = (m571_ 0 12).toInt := by rw [p594_.2.2 0 12 (by decide)]
      have f603_ : (m592_ 77 67).toInt = (m571_ 77 67).toInt := by rw [p594_.2.2 77 67 (by decide)]
      have f604_ : (m592_ 7 9).toInt = (m571_ 7 9).toInt := by rw [p594_.2.2 7 9 (by decide)]
      have f605_ : (m592_ 78 313).toInt = (m571_ 78 313).toInt := by rw [p594_.2.2 78 313 (by decide)]
      have f606_ : (m592_ 16 9).toInt = (m571_ 16 9).toInt := by rw [p594_.2.2 16 9 (by decide)]
      have f607_ : (m592_ 80 313).toInt = (m571_ 80 313).toInt := by rw [p594_.2.2 80 313 (by decide)]
      have d608_ : KD m592_ m592_ := KD_S d587_ (p594_.2.2) (p594_.2.2 3 3 (by decide)) (p594_.2.2 77 6 (by decide)) rfl
      have l609_ : LR j m592_ m592_ := LR_S hj l588_ (p594_.2.2) rfl rfl (p594_.2.2 77 17 (by decide))
      have tw610_ : TN 7 78 m592_ m592_ := TN_S tw589_ (p594_.2.2) rfl rfl
      have tx611_ : m592_ 0 12 ≠ 0 → TN 16 80 m592_ m592_ := KX_S tx590_ (p594_.2.2) (p594_.2.2 0 12 (by decide)) rfl rfl
      have q612_ : (m592_ 1 1).toInt = (m592_ 77 8).toInt := by omega
      have q613_ : (m592_ 7 8).toInt = (m592_ 78 312).toInt := by omega
      have q614_ : (m592_ 16 8).toInt = (m592_ 80 312).toInt := by omega
      have q615_ : (m592_ 0 12).toInt = (m592_ 77 67).toInt := by omega
      have q616_ : (m592_ 7 9).toInt = (m592_ 78 313).toInt := by omega
      have q617_ : (m592_ 16 9).toInt = (m592_ 80 313).toInt := by omega
      have f619_ := r_1_1 hG
      have t618_ : TR m592_ := TR_le hT (by omega) (funext (fun s_ => by rw [p594_.2.2 2 s_ (outc rfl), p573_.2.2 2 s_ (outc rfl)])) (funext (fun s_ => by rw [p594_.2.2 84 s_ (outc rfl), p573_.2.2 84 s_ (outc rfl)]))
      refine T_ql (i_add rfl l_7 (by omega) (by omega)) ?_
      intro x620_ h621_
      exact ih j r hj hr hjr x620_ m592_ (by omega) (by omega) g593_ q612_ q613_ q614_ q615_ q616_ q617_ t618_ d608_ l609_ tw610_ tx611_ (by omega)
    refine T_sw rfl l_11 (fun s622_ => ?_) (fun s622_ => ?_)
    · refine T_qg (i_add rfl l_1 (by omega) (by omega)) (by omega) (by omega) ?_
      refine T_qg (i_add rfl l_2 (by omega) (by omega)) (by omega) (by omega) ?_
      refine T_qg (i_add rfl l_3 (by omega) (by omega)) (by omega) (by omega) ?_
      refine T_qcE (t_X11_cost hn hj _ _ _ M hG) ?_
      intro r623_ m624_ e627_ p626_
      have g625_ := p626_.2.1
      have f628_ : (m624_ 1 1).toInt = (M 1 1).toInt := by rw [p626_.2.2 1 1 (by decide)]
      have f629_ : (m624_ 77 8).toInt = (M 77 8).toInt := by rw [p626_.2.2 77 8 (by decide)]
      have f630_ : (m624_ 7 8).toInt = (M 7 8).toInt := by rw [p626_.2.2 7 8 (by decide)]
      have f631_ : (m624_ 78 312).toInt = (M 78 312).toInt := by rw [p626_.2.2 78 312 (by decide)]
      have f632_ : (m624_ 16 8).toInt = (M 16 8).toInt := by rw [p626_.2.2 16 8 (by decide)]
      have f633_ : (m624_ 80 312).toInt = (M 80 312).toInt := by rw [p626_.2.2 80 312 (by decide)]
      have f634_ : (m624_ 0 12).toInt = (M 0 12).toInt := by rw [p626_.2.2 0 12 (by decide)]
      have f635_ : (m624_ 77 67).toInt = (M 77 67).toInt := by rw [p626_.2.2 77 67 (by decide)]
      have f636_ : (m624_ 7 9).toInt = (M 7 9).toInt := by rw [p626_.2.2 7 9 (by decide)]
      have f637_ : (m624_ 78 313).toInt = (M 78 313).toInt := by rw [p626_.2.2 78 313 (by decide)]
      have f638_ : (m624_ 16 9).toInt = (M 16 9).toInt := by rw [p626_.2.2 16 9 (by decide)]
      have f639_ : (m624_ 80 313).toInt = (M 80 313).toInt := by rw [p626_.2.2 80 313 (by decide)]
      have d640_ : KD m624_ m624_ := KD_S hD (p626_.2.2) (p626_.2.2 3 3 (by decide)) (p626_.2.2 77 6 (by decide)) rfl
      have l641_ : LR j m624_ m624_ := LR_S hj hL (p626_.2.2) rfl rfl (p626_.2.2 77 17 (by decide))
      have tw642_ : TN 7 78 m624_ m624_ := TN_S hW (p626_.2.2) rfl rfl
      have tx643_ : m624_ 0 12 ≠ 0 → TN 16 80 m624_ m624_ := KX_S hX (p626_.2.2) (p626_.2.2 0 12 (by decide)) rfl rfl
      refine T_qg (i_add rfl l_1 (by omega) (by omega)) (by omega) (by omega) ?_
      refine T_qg (i_add rfl l_2 (by omega) (by omega)) (by omega) (by omega) ?_
      refine T_qg (i_add rfl l_3 (by omega) (by omega)) (by omega) (by omega) ?_
      refine T_qcE (t_X12_cost hn _ _ _ m624_ g625_) ?_
      intro r644_ m645_ e648_ p647_
      have g646_ := p647_.2.1
      have f649_ : (m645_ 1 1).toInt = (m624_ 1 1).toInt := by rw [p647_.2.2 1 1 (by decide)]
      have f650_ : (m645_ 77 8).toInt = (m624_ 77 8).toInt := by rw [p647_.2.2 77 8 (by decide)]
      have f651_ : (m645_ 7 8).toInt = (m624_ 7 8).toInt := by rw [p647_.2.2 7 8 (by decide)]
      have f652_ : (m645_ 78 312).toInt = (m624_ 78 312).toInt := by rw [p647_.2.2 78 312 (by decide)]
      have f653_ : (m645_ 16 8).toInt = (m624_ 16 8).toInt := by rw [p647_.2.2 16 8 (by decide)]
      have f654_ : (m645_ 80 312).toInt = (m624_ 80 312).toInt := by rw [p647_.2.2 80 312 (by decide)]
      have f655_ : (m645_ 0 12).toInt = (m624_ 0 12).toInt := by rw [p647_.2.2 0 12 (by decide)]
      have f656_ : (m645_ 77 67).toInt = (m624_ 77 67).toInt := by rw [p647_.2.2 77 67 (by decide)]
      have f657_ : (m645_ 7 9).toInt = (m624_ 7 9).toInt := by rw [p647_.2.2 7 9 (by decide)]
      have f658_ : (m645_ 78 313).toInt = (m624_ 78 313).toInt := by rw [p647_.2.2 78 313 (by decide)]
      have f659_ : (m645_ 16 9).toInt = (m624_ 16 9).toInt := by rw [p647_.2.2 16 9 (by decide)]
      have f660_ : (m645_ 80 313).toInt = (m624_ 80 313).toInt := by rw [p647_.2.2 80 313 (by decide)]
      have d661_ : KD m645_ m645_ := KD_S d640_ (p647_.2.2) (p647_.2.2 3 3 (by decide)) (p647_.2.2 77 6 (by decide)) rfl
      have l662_ : LR j m645_ m645_ := LR_S hj l641_ (p647_.2.2) rfl rfl (p647_.2.2 77 17 (by decide))
      have tw663_ : TN 7 78 m645_ m645_ := TN_S tw642_ (p647_.2.2) rfl rfl
      have tx664_ : m645_ 0 12 ≠ 0 → TN 16 80 m645_ m645_ := KX_S tx643_ (p647_.2.2) (p647_.2.2 0 12 (by decide)) rfl rfl
      have q665_ : (m645_ 1 1).toInt = (m645_ 77 8).toInt := by omega
      have q666_ : (m645_ 7 8).toInt = (m645_ 78 312).toInt := by omega
      have q667_ : (m645_ 16 8).toInt = (m645_ 80 312).toInt := by omega
      have q668_ : (m645_ 0 12).toInt = (m645_ 77 67).toInt := by omega
      have q669_ : (m645_ 7 9).toInt = (m645_ 78 313).toInt := by omega
      have q670_ : (m645_ 16 9).toInt = (m645_ 80 313).toInt := by omega
      have f672_ := r_1_1 hG
      have t671_ : TR m645_ := TR_le hT (by omega) (funext (fun s_ => by rw [p647_.2.2 2 s_ (outc rfl), p626_.2.2 2 s_ (outc rfl)])) (funext (fun s_ => by rw [p647_.2.2 84 s_ (outc rfl), p626_.2.2 84 s_ (outc rfl)]))
      refine T_ql (i_add rfl l_7 (by omega) (by omega)) ?_
      intro x673_ h674_
      exact ih j r hj hr hjr x673_ m645_ (by omega) (by omega) g646_ q665_ q666_ q667_ q668_ q669_ q670_ t671_ d661_ l662_ tw663_ tx664_ (by omega)
    refine T_sw rfl l_12 (fun s675_ => ?_) (fun s675_ => ?_)
    · refine T_qg (i_add rfl l_1 (by omega) (by omega)) (by omega) (by omega) ?_
      refine T_qg (i_add rfl l_2 (by omega) (by omega)) (by omega) (by omega) ?_
      refine T_qg (i_add rfl l_3 (by omega) (by omega)) (by omega) (by omega) ?_
      refine T_qg (i_add rfl l_4 (by omega) (by omega)) (by omega) (by omega) ?_
      refine T_qg (i_add rfl l_5 (by omega) (by omega)) (by omega) (by omega) ?_
      refine T_qcE (t_X11_soonest hn hj _ _ _ _ _ M hG) ?_
      intro r676_ m677_ e680_ p679_
      have g678_ := p679_.1
      have f681_ : (m677_ 1 1).toInt = (M 1 1).toInt := by rw [p679_.2 1 1 (by decide)]
      have f682_ : (m677_ 77 8).toInt = (M 77 8).toInt := by rw [p679_.2 77 8 (by decide)]
      have f683_ : (m677_ 7 8).toInt = (M 7 8).toInt := by rw [p679_.2 7 8 (by decide)]
      have f684_ : (m677_ 78 312).toInt = (M 78 312).toInt := by rw [p679_.2 78 312 (by decide)]
      have f685_ : (m677_ 16 8).toInt = (M 16 8).toInt := by rw [p679_.2 16 8 (by decide)]
      have f686_ : (m677_ 80 312).toInt = (M 80 312).toInt := by rw [p679_.2 80 312 (by decide)]
      have f687_ : (m677_ 0 12).toInt = (M 0 12).toInt := by rw [p679_.2 0 12 (by decide)]
      have f688_ : (m677_ 77 67).toInt = (M 77 67).toInt := by rw [p679_.2 77 67 (by decide)]
      have f689_ : (m677_ 7 9).toInt = (M 7 9).toInt := by rw [p679_.2 7 9 (by decide)]
      have f690_ : (m677_ 78 313).toInt = (M 78 313).toInt := by rw [p679_.2 78 313 (by decide)]
      have f691_ : (m677_ 16 9).toInt = (M 16 9).toInt := by rw [p679_.2 16 9 (by decide)]
      have f692_ : (m677_ 80 313).toInt = (M 80 313).toInt := by rw [p679_.2 80 313 (by decide)]
      have d693_ : KD m677_ m677_ := KD_S hD (p679_.2) (p679_.2 3 3 (by decide)) (p679_.2 77 6 (by decide)) rfl
      have l694_ : LR j m677_ m677_ := LR_S hj hL (p679_.2) rfl rfl (p679_.2 77 17 (by decide))
      have tw695_ : TN 7 78 m677_ m677_ := TN_S hW (p679_.2) rfl rfl
      have tx696_ : m677_ 0 12 ≠ 0 → TN 16 80 m677_ m677_ := KX_S hX (p679_.2) (p679_.2 0 12 (by decide)) rfl rfl
      refine T_qg (i_add rfl l_1 (by omega) (by omega)) (by omega) (by omega) ?_
      refine T_qg (i_add rfl l_2 (by omega) (by omega)) (by omega) (by omega) ?_
      refine T_qg (i_add rfl l_3 (by omega) (by omega)) (by omega) (by omega) ?_
      refine T_qg (i_add rfl l_4 (by omega) (by omega)) (by omega) (by omega) ?_
      refine T_qg (i_add rfl l_5 (by omega) (by omega)) (by omega) (by omega) ?_
      refine T_qcE (t_X12_soonest hn _ _ _ _ _ m677_ g678_) ?_
      intro r697_ m698_ e701_ p700_
      have g699_ := p700_.1
      have f702_ : (m698_ 1 1).toInt = (m677_ 1 1).toInt := by rw [p700_.2 1 1 (by decide)]
      have f703_ : (m698_ 77 8).toInt = (m677_ 77 8).toInt := by rw [p700_.2 77 8 (by decide)]
      have f704_ : (m698_ 7 8).toInt = (m677_ 7 8).toInt := by rw [p700_.2 7 8 (by decide)]
      have f705_ : (m698_ 78 312).toInt = (m677_ 78 312).toInt := by rw [p700_.2 78 312 (by decide)]
      have f706_ : (m698_ 16 8).toInt = (m677_ 16 8).toInt := by rw [p700_.2 16 8 (by decide)]
      have f707_ : (m698_ 80 312).toInt = (m677_ 80 312).toInt := by rw [p700_.2 80 312 (by decide)]
      have f708_ : (m698_ 0 12).toInt = (m677_ 0 12).toInt := by rw [p700_.2 0 12 (by decide)]
      have f709_ : (m698_ 77 67).toInt = (m677_ 77 67).toInt := by rw [p700_.2 77 67 (by decide)]
      have f710_ : (m698_ 7 9).toInt = (m677_ 7 9).toInt := by rw [p700_.2 7 9 (by decide)]
      have f711_ : (m698_ 78 313).toInt = (m677_ 78 313).toInt := by rw [p700_.2 78 313 (by decide)]
      have f712_ : (m698_ 16 9).toInt = (m677_ 16 9).toInt := by rw [p700_.2 16 9 (by decide)]
      have f713_ : (m698_ 80 313).toInt = (m677_ 80 313).toInt := by rw [p700_.2 80 313 (by decide)]
      have d714_ : KD m698_ m698_ := KD_S d693_ (p700_.2) (p700_.2 3 3 (by decide)) (p700_.2 77 6 (by decide)) rfl
      have l715_ : LR j m698_ m698_ := LR_S hj l694_ (p700_.2) rfl rfl (p700_.2 77 17 (by decide))
      have tw716_ : TN 7 78 m698_ m698_ := TN_S tw695_ (p700_.2) rfl rfl
      have tx717_ : m698_ 0 12 ≠ 0 → TN 16 80 m698_ m698_ := KX_S tx696_ (p700_.2) (p700_.2 0 12 (by decide)) rfl rfl
      have q718_ : (m698_ 1 1).toInt = (m698_ 77 8).toInt := by omega
      have q719_ : (m698_ 7 8).toInt = (m698_ 78 312).toInt := by omega
      have q720_ : (m698_ 16 8).toInt = (m698_ 80 312).toInt := by omega
      have q721_ : (m698_ 0 12).toInt = (m698_ 77 67).toInt := by omega
      have q722_ : (m698_ 7 9).toInt = (m698_ 78 313).toInt := by omega
      have q723_ : (m698_ 16 9).toInt = (m698_ 80 313).toInt := by omega
      have f725_ := r_1_1 hG
      have t724_ : TR m698_ := TR_le hT (by omega) (funext (fun s_ => by rw [p700_.2 2 s_ (outc rfl), p679_.2 2 s_ (outc rfl)])) (funext (fun s_ => by rw [p700_.2 84 s_ (outc rfl), p679_.2 84 s_ (outc rfl)]))
      refine T_ql (i_add rfl l_7 (by omega) (by omega)) ?_
      intro x726_ h727_
      exact ih j r hj hr hjr x726_ m698_ (by omega) (by omega) g699_ q718_ q719_ q720_ q721_ q722_ q723_ t724_ d714_ l715_ tw716_ tx717_ (by omega)
    refine T_sw rfl l_13 (fun s728_ => ?_) (fun s728_ => ?_)
    · refine T_qg (i_add rfl l_1 (by omega) (by omega)) (by omega) (by omega) ?_
      refine T_qg (i_add rfl l_2 (by omega) (by omega)) (by omega) (by omega) ?_
      refine T_qg (i_add rfl l_3 (by omega) (by omega)) (by omega) (by omega) ?_
      refine T_qg (i_add rfl l_4 (by omega) (by omega)) (by omega) (by omega) ?_
      refine T_qg (i_add rfl l_5 (by omega) (by omega)) (by omega) (by omega) ?_
      refine T_qcE (t_X11_cheapest hn hj _ _ _ _ _ M hG) ?_
      intro r729_ m730_ e733_ p732_
      have g731_ := p732_.1
      have f734_ : (m730_ 1 1).toInt = (M 1 1).toInt := by rw [p732_.2 1 1 (by decide)]
      have f735_ : (m730_ 77 8).toInt = (M 77 8).toInt := by rw [p732_.2 77 8 (by decide)]
      have f736_ : (m730_ 7 8).toInt = (M 7 8).toInt := by rw [p732_.2 7 8 (by decide)]
      have f737_ : (m730_ 78 312).toInt = (M 78 312).toInt := by rw [p732_.2 78 312 (by decide)]
      have f738_ : (m730_ 16 8).toInt = (M 16 8).toInt := by rw [p732_.2 16 8 (by decide)]
      have f739_ : (m730_ 80 312).toInt = (M 80 312).toInt := by rw [p732_.2 80 312 (by decide)]
      have f740_ : (m730_ 0 12).toInt = (M 0 12).toInt := by rw [p732_.2 0 12 (by decide)]
      have f741_ : (m730_ 77 67).toInt = (M 77 67).toInt := by rw [p732_.2 77 67 (by decide)]
      have f742_ : (m730_ 7 9).toInt = (M 7 9).toInt := by rw [p732_.2 7 9 (by decide)]
      have f743_ : (m730_ 78 313).toInt = (M 78 313).toInt := by rw [p732_.2 78 313 (by decide)]
      have f744_ : (m730_ 16 9).toInt = (M 16 9).toInt := by rw [p732_.2 16 9 (by decide)]
      have f745_ : (m730_ 80 313).toInt = (M 80 313).toInt := by rw [p732_.2 80 313 (by decide)]
      have d746_ : KD m730_ m730_ := KD_S hD (p732_.2) (p732_.2 3 3 (by decide)) (p732_.2 77 6 (by decide)) rfl
      have l747_ : LR j m730_ m730_ := LR_S hj hL (p732_.2) rfl rfl (p732_.2 77 17 (by decide))
      have tw748_ : TN 7 78 m730_ m730_ := TN_S hW (p732_.2) rfl rfl
      have tx749_ : m730_ 0 12 ≠ 0 → TN 16 80 m730_ m730_ := KX_S hX (p732_.2) (p732_.2 0 12 (by decide)) rfl rfl
      refine T_qg (i_add rfl l_1 (by omega) (by omega)) (by omega) (by omega) ?_
      refine T_qg (i_add rfl l_2 (by omega) (by omega)) (by omega) (by omega) ?_
      refine T_qg (i_add rfl l_3 (by omega) (by omega)) (by omega) (by omega) ?_
      refine T_qg (i_add rfl l_4 (by omega) (by omega)) (by omega) (by omega) ?_
      refine T_qg (i_add rfl l_5 (by omega) (by omega)) (by omega) (by omega) ?_
      refine T_qcE (t_X12_cheapest hn _ _ _ _ _ m730_ g731_) ?_
      intro r750_ m751_ e754_ p753_
      have g752_ := p753_.1
      have f755_ : (m751_ 1 1).toInt = (m730_ 1 1).toInt := by rw [p753_.2 1 1 (by decide)]
      have f756_ : (m751_ 77 8).toInt = (m730_ 77 8).toInt := by rw [p753_.2 77 8 (by decide)]
      have f757_ : (m751_ 7 8).toInt = (m730_ 7 8).toInt := by rw [p753_.2 7 8 (by decide)]
      have f758_ : (m751_ 78 312).toInt = (m730_ 78 312).toInt := by rw [p753_.2 78 312 (by decide)]
      have f759_ : (m751_ 16 8).toInt = (m730_ 16 8).toInt := by rw [p753_.2 16 8 (by decide)]
      have f760_ : (m751_ 80 312).toInt = (m730_ 80 312).toInt := by rw [p753_.2 80 312 (by decide)]
      have f761_ : (m751_ 0 12).toInt = (m730_ 0 12).toInt := by rw [p753_.2 0 12 (by decide)]
      have f762_ : (m751_ 77 67).toInt = (m730_ 77 67).toInt := by rw [p753_.2 77 67 (by decide)]
      have f763_ : (m751_ 7 9).toInt = (m730_ 7 9).toInt := by rw [p753_.2 7 9 (by decide)]
      have f764_ : (m751_ 78 313).toInt = (m730_ 78 313).toInt := by rw [p753_.2 78 313 (by decide)]
      have f765_ : (m751_ 16 9).toInt = (m730_ 16 9).toInt := by rw [p753_.2 16 9 (by decide)]
      have f766_ : (m751_ 80 313).toInt = (m730_ 80 313).toInt := by rw [p753_.2 80 313 (by decide)]
      have d767_ : KD m751_ m751_ := KD_S d746_ (p753_.2) (p753_.2 3 3 (by decide)) (p753_.2 77 6 (by decide)) rfl
      have l768_ : LR j m751_ m751_ := LR_S hj l747_ (p753_.2) rfl rfl (p753_.2 77 17 (by decide))
      have tw769_ : TN 7 78 m751_ m751_ := TN_S tw748_ (p753_.2) rfl rfl
      have tx770_ : m751_ 0 12 ≠ 0 → TN 16 80 m751_ m751_ := KX_S tx749_ (p753_.2) (p753_.2 0 12 (by decide)) rfl rfl
      have q771_ : (m751_ 1 1).toInt = (m751_ 77 8).toInt := by omega
      have q772_ : (m751_ 7 8).toInt = (m751_ 78 312).toInt := by omega
      have q773_ : (m751_ 16 8).toInt = (m751_ 80 312).toInt := by omega
      have q774_ : (m751_ 0 12).toInt = (m751_ 77 67).toInt := by omega
      have q775_ : (m751_ 7 9).toInt = (m751_ 78 313).toInt := by omega
      have q776_ : (m751_ 16 9).toInt = (m751_ 80 313).toInt := by omega
      have f778_ := r_1_1 hG
      have t777_ : TR m751_ := TR_le hT (by omega) (funext (fun s_ => by rw [p753_.2 2 s_ (outc rfl), p732_.2 2 s_ (outc rfl)])) (funext (fun s_ => by rw [p753_.2 84 s_ (outc rfl), p732_.2 84 s_ (outc rfl)]))
      refine T_ql (i_add rfl l_7 (by omega) (by omega)) ?_
      intro x779_ h780_
      exact ih j r hj hr hjr x779_ m751_ (by omega) (by omega) g752_ q771_ q772_ q773_ q774_ q775_ q776_ t777_ d767_ l768_ tw769_ tx770_ (by omega)
    refine T_sw rfl l_14 (fun s781_ => ?_) (fun s781_ => ?_)
    · refine T_qg (i_add rfl l_1 (by omega) (by omega)) (by omega) (by omega) ?_
      refine T_qg (i_add rfl l_2 (by omega) (by omega)) (by omega) (by omega) ?_
      refine T_qg (i_add rfl l_3 (by omega) (by omega)) (by omega) (by omega) ?_
      refine T_qcE (t_X11_loophole hn hj _ _ _ M hG) ?_
      intro r782_ m783_ e786_ p785_
      have g784_ := p785_.1
      have f787_ : (m783_ 1 1).toInt = (M 1 1).toInt := by rw [p785_.2 1 1 (by decide)]
      have f788_ : (m783_ 77 8).toInt = (M 77 8).toInt := by rw [p785_.2 77 8 (by decide)]
      have f789_ : (m783_ 7 8).toInt = (M 7 8).toInt := by rw [p785_.2 7 8 (by decide)]
      have f790_ : (m783_ 78 312).toInt = (M 78 312).toInt := by rw [p785_.2 78 312 (by decide)]
      have f791_ : (m783_ 16 8).toInt = (M 16 8).toInt := by rw [p785_.2 16 8 (by decide)]
      have f792_ : (m783_ 80 312).toInt = (M 80 312).toInt := by rw [p785_.2 80 312 (by decide)]
      have f793_ : (m783_ 0 12).toInt = (M 0 12).toInt := by rw [p785_.2 0 12 (by decide)]
      have f794_ : (m783_ 77 67).toInt = (M 77 67).toInt := by rw [p785_.2 77 67 (by decide)]
      have f795_ : (m783_ 7 9).toInt = (M 7 9).toInt := by rw [p785_.2 7 9 (by decide)]
      have f796_ : (m783_ 78 313).toInt = (M 78 313).toInt := by rw [p785_.2 78 313 (by decide)]
      have f797_ : (m783_ 16 9).toInt = (M 16 9).toInt := by rw [p785_.2 16 9 (by decide)]
      have f798_ : (m783_ 80 313).toInt = (M 80 313).toInt := by rw [p785_.2 80 313 (by decide)]
      have d799_ : KD m783_ m783_ := KD_S hD (p785_.2) (p785_.2 3 3 (by decide)) (p785_.2 77 6 (by decide)) rfl
      have l800_ : LR j m783_ m783_ := LR_S hj hL (p785_.2) rfl rfl (p785_.2 77 17 (by decide))
      have tw801_ : TN 7 78 m783_ m783_ := TN_S hW (p785_.2) rfl rfl
      have tx802_ : m783_ 0 12 ≠ 0 → TN 16 80 m783_ m783_ := KX_S hX (p785_.2) (p785_.2 0 12 (by decide)) rfl rfl
      refine T_qg (i_add rfl l_1 (by omega) (by omega)) (by omega) (by omega) ?_
      refine T_qg (i_add rfl l_2 (by omega) (by omega)) (by omega) (by omega) ?_
      refine T_qg (i_add rfl l_3 (by omega) (by omega)) (by omega) (by omega) ?_
      refine T_qcE (t_X12_loophole hn _ _ _ m783_ g784_) ?_
      intro r803_ m804_ e807_ p806_
      have g805_ := p806_.1
      have f808_ : (m804_ 1 1).toInt = (m783_ 1 1).toInt := by rw [p806_.2 1 1 (by decide)]
      have f809_ : (m804_ 77 8).toInt = (m783_ 77 8).toInt := by rw [p806_.2 77 8 (by decide)]
      have f810_ : (m804_ 7 8).toInt = (m783_ 7 8).toInt := by rw [p806_.2 7 8 (by decide)]
      have f811_ : (m804_ 78 312).toInt = (m783_ 78 312).toInt := by rw [p806_.2 78 312 (by decide)]
      have f812_ : (m804_ 16 8).toInt = (m783_ 16 8).toInt := by rw [p806_.2 16 8 (by decide)]
      have f813_ : (m804_ 80 312).toInt = (m783_ 80 312).toInt := by rw [p806_.2 80 312 (by decide)]
      have f814_ : (m804_ 0 12).toInt = (m783_ 0 12).toInt := by rw [p806_.2 0 12 (by decide)]
      have f815_ : (m804_ 77 67).toInt = (m783_ 77 67).toInt := by rw [p806_.2 77 67 (by decide)]
      have f816_ : (m804_ 7 9).toInt = (m783_ 7 9).toInt := by rw [p806_.2 7 9 (by decide)]
      have f817_ : (m804_ 78 313).toInt = (m783_ 78 313).toInt := by rw [p806_.2 78 313 (by decide)]
      have f818_ : (m804_ 16 9).toInt = (m783_ 16 9).toInt := by rw [p806_.2 16 9 (by decide)]
      have f819_ : (m804_ 80 313).toInt = (m783_ 80 313).toInt := by rw [p806_.2 80 313 (by decide)]
      have d820_ : KD m804_ m804_ := KD_S d799_ (p806_.2) (p806_.2 3 3 (by decide)) (p806_.2 77 6 (by decide)) rfl
      have l821_ : LR j m804_ m804_ := LR_S hj l800_ (p806_.2) rfl rfl (p806_.2 77 17 (by decide))
      have tw822_ : TN 7 78 m804_ m804_ := TN_S tw801_ (p806_.2) rfl rfl
      have tx823_ : m804_ 0 12 ≠ 0 → TN 16 80 m804_ m804_ := KX_S tx802_ (p806_.2) (p806_.2 0 12 (by decide)) rfl rfl
      have q824_ : (m804_ 1 1).toInt = (m804_ 77 8).toInt := by omega
      have q825_ : (m804_ 7 8).toInt = (m804_ 78 312).toInt := by omega
      have q826_ : (m804_ 16 8).toInt = (m804_ 80 312).toInt := by omega
      have q827_ : (m804_ 0 12).toInt = (m804_ 77 67).toInt := by omega
      have q828_ : (m804_ 7 9).toInt = (m804_ 78 313).toInt := by omega
      have q829_ : (m804_ 16 9).toInt = (m804_ 80 313).toInt := by omega
      have f831_ := r_1_1 hG
      have t830_ : TR m804_ := TR_le hT (by omega) (funext (fun s_ => by rw [p806_.2 2 s_ (outc rfl), p785_.2 2 s_ (outc rfl)])) (funext (fun s_ => by rw [p806_.2 84 s_ (outc rfl), p785_.2 84 s_ (outc rfl)]))
      refine T_ql (i_add rfl l_7 (by omega) (by omega)) ?_
      intro x832_ h833_
      exact ih j r hj hr hjr x832_ m804_ (by omega) (by omega) g805_ q824_ q825_ q826_ q827_ q828_ q829_ t830_ d820_ l821_ tw822_ tx823_ (by omega)
    refine T_sw rfl l_15 (fun s834_ => ?_) (fun s834_ => ?_)
    · refine T_qg (i_add rfl l_1 (by omega) (by omega)) (by omega) (by omega) ?_
      refine T_qg (i_add rfl l_2 (by omega) (by omega)) (by omega) (by omega) ?_
      refine T_qg (i_add rfl l_3 (by omega) (by omega)) (by omega) (by omega) ?_
      refine T_qcE (t_X11_jobs hn hj _ _ _ M hG) ?_
      intro r835_ m836_ e839_ p838_
      have g837_ := p838_.2.2.1
      have f840_ : (m836_ 77 8).toInt = (M 77 8).toInt := by rw [p838_.2.2.2 77 8 (by decide)]
      have f841_ : (m836_ 7 8).toInt = (M 7 8).toInt := by rw [p838_.2.2.2 7 8 (by decide)]
      have f842_ : (m836_ 78 312).toInt = (M 78 312).toInt := by rw [p838_.2.2.2 78 312 (by decide)]
      have f843_ : (m836_ 16 8).toInt = (M 16 8).toInt := by rw [p838_.2.2.2 16 8 (by decide)]
      have f844_ : (m836_ 80 312).toInt = (M 80 312).toInt := by rw [p838_.2.2.2 80 312 (by decide)]
      have f845_ : (m836_ 0 12).toInt = (M 0 12).toInt := by rw [p838_.2.2.2 0 12 (by decide)]
      have f846_ : (m836_ 77 67).toInt = (M 77 67).toInt := by rw [p838_.2.2.2 77 67 (by decide)]
      have f847_ : (m836_ 7 9).toInt = (M 7 9).toInt := by rw [p838_.2.2.2 7 9 (by decide)]
      have f848_ : (m836_ 78 313).toInt = (M 78 313).toInt := by rw [p838_.2.2.2 78 313 (by decide)]
      have f849_ : (m836_ 16 9).toInt = (M 16 9).toInt := by rw [p838_.2.2.2 16 9 (by decide)]
      have f850_ : (m836_ 80 313).toInt = (M 80 313).toInt := by rw [p838_.2.2.2 80 313 (by decide)]
      have w851_ := p838_.2.1
      have d852_ : KD m836_ m836_ := KD_S hD (p838_.2.2.2) (p838_.2.2.2 3 3 (by decide)) (p838_.2.2.2 77 6 (by decide)) rfl
      have l853_ : LR j m836_ m836_ := LR_S hj hL (p838_.2.2.2) rfl rfl (p838_.2.2.2 77 17 (by decide))
      have tw854_ : TN 7 78 m836_ m836_ := TN_S hW (p838_.2.2.2) rfl rfl
      have tx855_ : m836_ 0 12 ≠ 0 → TN 16 80 m836_ m836_ := KX_S hX (p838_.2.2.2) (p838_.2.2.2 0 12 (by decide)) rfl rfl
      refine T_qg (i_add rfl l_1 (by omega) (by omega)) (by omega) (by omega) ?_
      refine T_qg (i_add rfl l_2 (by omega) (by omega)) (by omega) (by omega) ?_
      refine T_qg (i_add rfl l_3 (by omega) (by omega)) (by omega) (by omega) ?_
      refine T_qcE (t_X12_jobs hn _ _ _ m836_ g837_) ?_
      intro r856_ m857_ e860_ p859_
      have g858_ := p859_.2.1
      have f861_ : (m857_ 1 1).toInt = (m836_ 1 1).toInt := by rw [p859_.2.2 1 1 (by decide)]
      have f862_ : (m857_ 7 8).toInt = (m836_ 7 8).toInt := by rw [p859_.2.2 7 8 (by decide)]
      have f863_ : (m857_ 78 312).toInt = (m836_ 78 312).toInt := by rw [p859_.2.2 78 312 (by decide)]
      have f864_ : (m857_ 16 8).toInt = (m836_ 16 8).toInt := by rw [p859_.2.2 16 8 (by decide)]
      have f865_ : (m857_ 80 312).toInt = (m836_ 80 312).toInt := by rw [p859_.2.2 80 312 (by decide)]
      have f866_ : (m857_ 0 12).toInt = (m836_ 0 12).toInt := by rw [p859_.2.2 0 12 (by decide)]
      have f867_ : (m857_ 77 67).toInt = (m836_ 77 67).toInt := by rw [p859_.2.2 77 67 (by decide)]
      have f868_ : (m857_ 7 9).toInt = (m836_ 7 9).toInt := by rw [p859_.2.2 7 9 (by decide)]
      have f869_ : (m857_ 78 313).toInt = (m836_ 78 313).toInt := by rw [p859_.2.2 78 313 (by decide)]
      have f870_ : (m857_ 16 9).toInt = (m836_ 16 9).toInt := by rw [p859_.2.2 16 9 (by decide)]
      have f871_ : (m857_ 80 313).toInt = (m836_ 80 313).toInt := by rw [p859_.2.2 80 313 (by decide)]
      have w872_ := p859_.1
      have d873_ : KD m857_ m857_ := KD_S d852_ (p859_.2.2) (p859_.2.2 3 3 (by decide)) (p859_.2.2 77 6 (by decide)) rfl
      have l874_ : LR j m857_ m857_ := LR_S hj l853_ (p859_.2.2) rfl rfl (p859_.2.2 77 17 (by decide))
      have tw875_ : TN 7 78 m857_ m857_ := TN_S tw854_ (p859_.2.2) rfl rfl
      have tx876_ : m857_ 0 12 ≠ 0 → TN 16 80 m857_ m857_ := KX_S tx855_ (p859_.2.2) (p859_.2.2 0 12 (by decide)) rfl rfl
      have q877_ : (m857_ 1 1).toInt = (m857_ 77 8).toInt := by omega
      have q878_ : (m857_ 7 8).toInt = (m857_ 78 312).toInt := by omega
      have q879_ : (m857_ 16 8).toInt = (m857_ 80 312).toInt := by omega
      have q880_ : (m857_ 0 12).toInt = (m857_ 77 67).toInt := by omega
      have q881_ : (m857_ 7 9).toInt = (m857_ 78 313).toInt := by omega
      have q882_ : (m857_ 16 9).toInt = (m857_ 80 313).toInt := by omega
      have f884_ := r_1_1 hG
      have t883_ : TR m857_ := TR_le hT (by omega) (funext (fun s_ => by rw [p859_.2.2 2 s_ (outc rfl), p838_.2.2.2 2 s_ (outc rfl)])) (funext (fun s_ => by rw [p859_.2.2 84 s_ (outc rfl), p838_.2.2.2 84 s_ (outc rfl)]))
      refine T_ql (i_add rfl l_7 (by omega) (by omega)) ?_
      intro x885_ h886_
      exact ih j r hj hr hjr x885_ m857_ (by omega) (by omega) g858_ q877_ q878_ q879_ q880_ q881_ q882_ t883_ d873_ l874_ tw875_ tx876_ (by omega)
    refine T_sw rfl l_16 (fun s887_ => ?_) (fun s887_ => ?_)
    · refine T_qg (i_add rfl l_1 (by omega) (by omega)) (by omega) (by omega) ?_
      refine T_qg (i_add rfl l_2 (by omega) (by omega)) (by omega) (by omega) ?_
      refine T_qg (i_add rfl l_3 (by omega) (by omega)) (by omega) (by omega) ?_
      refine T_qcE (t_X11_rivals hn _ _ _ M hG) ?_
      intro r888_ m889_ e892_ p891_
      have g890_ := p891_.1
      have f893_ : (m889_ 1 1).toInt = (M 1 1).toInt := by rw [p891_.2 1 1 (by decide)]
      have f894_ : (m889_ 77 8).toInt = (M 77 8).toInt := by rw [p891_.2 77 8 (by decide)]
      have f895_ : (m889_ 7 8).toInt = (M 7 8).toInt := by rw [p891_.2 7 8 (by decide)]
      have f896_ : (m889_ 78 312).toInt = (M 78 312).toInt := by rw [p891_.2 78 312 (by decide)]
      have f897_ : (m889_ 16 8).toInt = (M 16 8).toInt := by rw [p891_.2 16 8 (by decide)]
      have f898_ : (m889_ 80 312).toInt = (M 80 312).toInt := by rw [p891_.2 80 312 (by decide)]
      have f899_ : (m889_ 0 12).toInt = (M 0 12).toInt := by rw [p891_.2 0 12 (by decide)]
      have f900_ : (m889_ 77 67).toInt = (M 77 67).toInt := by rw [p891_.2 77 67 (by decide)]
      have f901_ : (m889_ 7 9).toInt = (M 7 9).toInt := by rw [p891_.2 7 9 (by decide)]
      have f902_ : (m889_ 78 313).toInt = (M 78 313).toInt := by rw [p891_.2 78 313 (by decide)]
      have f903_ : (m889_ 16 9).toInt = (M 16 9).toInt := by rw [p891_.2 16 9 (by decide)]
      have f904_ : (m889_ 80 313).toInt = (M 80 313).toInt := by rw [p891_.2 80 313 (by decide)]
      have d905_ : KD m889_ m889_ := KD_S hD (p891_.2) (p891_.2 3 3 (by decide)) (p891_.2 77 6 (by decide)) rfl
      have l906_ : LR j m889_ m889_ := LR_S hj hL (p891_.2) rfl rfl (p891_.2 77 17 (by decide))
      have tw907_ : TN 7 78 m889_ m889_ := TN_S hW (p891_.2) rfl rfl
      have tx908_ : m889_ 0 12 ≠ 0 → TN 16 80 m889_ m889_ := KX_S hX (p891_.2) (p891_.2 0 12 (by decide)) rfl rfl
      refine T_qg (i_add rfl l_1 (by omega) (by omega)) (by omega) (by omega) ?_
      refine T_qg (i_add rfl l_2 (by omega) (by omega)) (by omega) (by omega) ?_
      refine T_qg (i_add rfl l_3 (by omega) (by omega)) (by omega) (by omega) ?_
      refine T_qcE (t_X12_rivals hn _ _ _ m889_ g890_) ?_
      intro r909_ m910_ e913_ p912_
      have g911_ := p912_.1
      have f914_ : (m910_ 1 1).toInt = (m889_ 1 1).toInt := by rw [p912_.2 1 1 (by decide)]
      have f915_ : (m910_ 77 8).toInt = (m889_ 77 8).toInt := by rw [p912_.2 77 8 (by decide)]
      have f916_ : (m910_ 7 8).toInt = (m889_ 7 8).toInt := by rw [p912_.2 7 8 (by decide)]
      have f917_ : (m910_ 78 312).toInt = (m889_ 78 312).toInt := by rw [p912_.2 78 312 (by decide)]
      have f918_ : (m910_ 16 8).toInt = (m889_ 16 8).toInt := by rw [p912_.2 16 8 (by decide)]
      have f919_ : (m910_ 80 312).toInt = (m889_ 80 312).toInt := by rw [p912_.2 80 312 (by decide)]
      have f920_ : (m910_ 0 12).toInt = (m889_ 0 12).toInt := by rw [p912_.2 0 12 (by decide)]
      have f921_ : (m910_ 77 67).toInt = (m889_ 77 67).toInt := by rw [p912_.2 77 67 (by decide)]
      have f922_ : (m910_ 7 9).toInt = (m889_ 7 9).toInt := by rw [p912_.2 7 9 (by decide)]
      have f923_ : (m910_ 78 313).toInt = (m889_ 78 313).toInt := by rw [p912_.2 78 313 (by decide)]
      have f924_ : (m910_ 16 9).toInt = (m889_ 16 9).toInt := by rw [p912_.2 16 9 (by decide)]
      have f925_ : (m910_ 80 313).toInt = (m889_ 80 313).toInt := by rw [p912_.2 80 313 (by decide)]
      have d926_ : KD m910_ m910_ := KD_S d905_ (p912_.2) (p912_.2 3 3 (by decide)) (p912_.2 77 6 (by decide)) rfl
      have l927_ : LR j m910_ m910_ := LR_S hj l906_ (p912_.2) rfl rfl (p912_.2 77 17 (by decide))
      have tw928_ : TN 7 78 m910_ m910_ := TN_S tw907_ (p912_.2) rfl rfl
      have tx929_ : m910_ 0 12 ≠ 0 → TN 16 80 m910_ m910_ := KX_S tx908_ (p912_.2) (p912_.2 0 12 (by decide)) rfl rfl
      have q930_ : (m910_ 1 1).toInt = (m910_ 77 8).toInt := by omega
      have q931_ : (m910_ 7 8).toInt = (m910_ 78 312).toInt := by omega
      have q932_ : (m910_ 16 8).toInt = (m910_ 80 312).toInt := by omega
      have q933_ : (m910_ 0 12).toInt = (m910_ 77 67).toInt := by omega
      have q934_ : (m910_ 7 9).toInt = (m910_ 78 313).toInt := by omega
      have q935_ : (m910_ 16 9).toInt = (m910_ 80 313).toInt := by omega
      have f937_ := r_1_1 hG
      have t936_ : TR m910_ := TR_le hT (by omega) (funext (fun s_ => by rw [p912_.2 2 s_ (outc rfl), p891_.2 2 s_ (outc rfl)])) (funext (fun s_ => by rw [p912_.2 84 s_ (outc rfl), p891_.2 84 s_ (outc rfl)]))
      refine T_ql (i_add rfl l_7 (by omega) (by omega)) ?_
      intro x938_ h939_
      exact ih j r hj hr hjr x938_ m910_ (by omega) (by omega) g911_ q930_ q931_ q932_ q933_ q934_ q935_ t936_ d926_ l927_ tw928_ tx929_ (by omega)
    refine T_sw rfl l_17 (fun s940_ => ?_) (fun s940_ => ?_)
    · refine T_qg (i_add rfl l_1 (by omega) (by omega)) (by omega) (by omega) ?_
      refine T_qg (i_add rfl l_2 (by omega) (by omega)) (by omega) (by omega) ?_
      refine T_qg (i_add rfl l_3 (by omega) (by omega)) (by omega) (by omega) ?_
      refine T_qg (i_add rfl l_4 (by omega) (by omega)) (by omega) (by omega) ?_
      refine T_qcE (t_X11_histories hn hj _ _ _ _ M hG) ?_
      intro r941_ m942_ e945_ p944_
      have g943_ := p944_.2.1
      have f946_ : (m942_ 77 8).toInt = (M 77 8).toInt := by rw [p944_.2.2 77 8 (by decide)]
      have f947_ : (m942_ 7 8).toInt = (M 7 8).toInt := by rw [p944_.2.2 7 8 (by decide)]
      have f948_ : (m942_ 78 312).toInt = (M 78 312).toInt := by rw [p944_.2.2 78 312 (by decide)]
      have f949_ : (m942_ 16 8).toInt = (M 16 8).toInt := by rw [p944_.2.2 16 8 (by decide)]
      have f950_ : (m942_ 80 312).toInt = (M 80 312).toInt := by rw [p944_.2.2 80 312 (by decide)]
      have f951_ : (m942_ 0 12).toInt = (M 0 12).toInt := by rw [p944_.2.2 0 12 (by decide)]
      have f952_ : (m942_ 77 67).toInt = (M 77 67).toInt := by rw [p944_.2.2 77 67 (by decide)]
      have f953_ : (m942_ 7 9).toInt = (M 7 9).toInt := by rw [p944_.2.2 7 9 (by decide)]
      have f954_ : (m942_ 78 313).toInt = (M 78 313).toInt := by rw [p944_.2.2 78 313 (by decide)]
      have f955_ : (m942_ 16 9).toInt = (M 16 9).toInt := by rw [p944_.2.2 16 9 (by decide)]
      have f956_ : (m942_ 80 313).toInt = (M 80 313).toInt := by rw [p944_.2.2 80 313 (by decide)]
      have w957_ := p944_.1
      have d958_ : KD m942_ m942_ := KD_S hD (p944_.2.2) (p944_.2.2 3 3 (by decide)) (p944_.2.2 77 6 (by decide)) rfl
      have l959_ : LR j m942_ m942_ := LR_S hj hL (p944_.2.2) rfl rfl (p944_.2.2 77 17 (by decide))
      have tw960_ : TN 7 78 m942_ m942_ := TN_S hW (p944_.2.2) rfl rfl
      have tx961_ : m942_ 0 12 ≠ 0 → TN 16 80 m942_ m942_ := KX_S hX (p944_.2.2) (p944_.2.2 0 12 (by decide)) rfl rfl
      refine T_qg (i_add rfl l_1 (by omega) (by omega)) (by omega) (by omega) ?_
      refine T_qg (i_add rfl l_2 (by omega) (by omega)) (by omega) (by omega) ?_
      refine T_qg (i_add rfl l_3 (by omega) (by omega)) (by omega) (by omega) ?_
      refine T_qg (i_add rfl l_4 (by omega) (by omega)) (by omega) (by omega) ?_
      refine T_qcE (t_X12_histories hn _ _ _ _ m942_ g943_) ?_
      intro r962_ m963_ e966_ p965_
      have g964_ := p965_.2.1
      have f967_ : (m963_ 1 1).toInt = (m942_ 1 1).toInt := by rw [p965_.2.2 1 1 (by decide)]
      have f968_ : (m963_ 7 8).toInt = (m942_ 7 8).toInt := by rw [p965_.2.2 7 8 (by decide)]
      have f969_ : (m963_ 78 312).toInt = (m942_ 78 312).toInt := by rw [p965_.2.2 78 312 (by decide)]
      have f970_ : (m963_ 16 8).toInt = (m942_ 16 8).toInt := by rw [p965_.2.2 16 8 (by decide)]
      have f971_ : (m963_ 80 312).toInt = (m942_ 80 312).toInt := by rw [p965_.2.2 80 312 (by decide)]
      have f972_ : (m963_ 0 12).toInt = (m942_ 0 12).toInt := by rw [p965_.2.2 0 12 (by decide)]
      have f973_ : (m963_ 77 67).toInt = (m942_ 77 67).toInt := by rw [p965_.2.2 77 67 (by decide)]
      have f974_ : (m963_ 7 9).toInt = (m942_ 7 9).toInt := by rw [p965_.2.2 7 9 (by decide)]
      have f975_ : (m963_ 78 313).toInt = (m942_ 78 313).toInt := by rw [p965_.2.2 78 313 (by decide)]
      have f976_ : (m963_ 16 9).toInt = (m942_ 16 9).toInt := by rw [p965_.2.2 16 9 (by decide)]
      have f977_ : (m963_ 80 313).toInt = (m942_ 80 313).toInt := by rw [p965_.2.2 80 313 (by decide)]
      have w978_ := p965_.1
      have d979_ : KD m963_ m963_ := KD_S d958_ (p965_.2.2) (p965_.2.2 3 3 (by decide)) (p965_.2.2 77 6 (by decide)) rfl
      have l980_ : LR j m963_ m963_ := LR_S hj l959_ (p965_.2.2) rfl rfl (p965_.2.2 77 17 (by decide))
      have tw981_ : TN 7 78 m963_ m963_ := TN_S tw960_ (p965_.2.2) rfl rfl
      have tx982_ : m963_ 0 12 ≠ 0 → TN 16 80 m963_ m963_ := KX_S tx961_ (p965_.2.2) (p965_.2.2 0 12 (by decide)) rfl rfl
      have q983_ : (m963_ 1 1).toInt = (m963_ 77 8).toInt := by omega
      have q984_ : (m963_ 7 8).toInt = (m963_ 78 312).toInt := by omega
      have q985_ : (m963_ 16 8).toInt = (m963_ 80 312).toInt := by omega
      have q986_ : (m963_ 0 12).toInt = (m963_ 77 67).toInt := by omega
      have q987_ : (m963_ 7 9).toInt = (m963_ 78 313).toInt := by omega
      have q988_ : (m963_ 16 9).toInt = (m963_ 80 313).toInt := by omega
      have f990_ := r_1_1 hG
      have t989_ : TR m963_ := TR_le hT (by omega) (funext (fun s_ => by rw [p965_.2.2 2 s_ (outc rfl), p944_.2.2 2 s_ (outc rfl)])) (funext (fun s_ => by rw [p965_.2.2 84 s_ (outc rfl), p944_.2.2 84 s_ (outc rfl)]))
      have w991_ : r941_ = r962_ := histories_ag hn hj hG g943_ hD hL (Int32.toInt_inj.mp hR4) (fun c_ hc_ => funext (fun s_ => p944_.2.2 c_ s_ (out77 hc_ rfl))) hT hR0 e945_ e966_
      rw [if_pos w991_]
      refine T_ql (i_add rfl l_7 (by omega) (by omega)) ?_
      intro x992_ h993_
      exact ih j r hj hr hjr x992_ m963_ (by omega) (by omega) g964_ q983_ q984_ q985_ q986_ q987_ q988_ t989_ d979_ l980_ tw981_ tx982_ (by omega)
    refine T_sw rfl l_18 (fun s994_ => ?_) (fun s994_ => ?_)
    · refine T_qg (i_add rfl l_1 (by omega) (by omega)) (by omega) (by omega) ?_
      refine T_qg (i_add rfl l_2 (by omega) (by omega)) (by omega) (by omega) ?_
      refine T_qg (i_add rfl l_3 (by omega) (by omega)) (by omega) (by omega) ?_
      refine T_qg (i_add rfl l_4 (by omega) (by omega)) (by omega) (by omega) ?_
      refine T_eq rfl l_0 (fun c995_ => ?_) (fun c995_ => ?_)
      · refine T_qg (i_add rfl l_5 (by omega) (by omega)) (by omega) (by omega) ?_
        refine T_eq rfl l_0 (fun c996_ => ?_) (fun c996_ => ?_)
        · refine T_qg (i_add rfl l_6 (by omega) (by omega)) (by omega) (by omega) ?_
          refine T_qcE (t_X11_game hn _ _ _ _ _ _ M hG (by decide) (by decide)) ?_
          intro r997_ m998_ e1001_ p1000_
          have g999_ := p1000_.2.1
          have f1002_ : (m998_ 1 1).toInt = (M 1 1).toInt := by rw [p1000_.2.2 1 1 (by decide)]
          have f1003_ : (m998_ 77 8).toInt = (M 77 8).toInt := by rw [p1000_.2.2 77 8 (by decide)]
          have f1004_ : (m998_ 7 8).toInt = (M 7 8).toInt := by rw [p1000_.2.2 7 8 (by decide)]
          have f1005_ : (m998_ 78 312).toInt = (M 78 312).toInt := by rw [p1000_.2.2 78 312 (by decide)]
          have f1006_ : (m998_ 16 8).toInt = (M 16 8).toInt := by rw [p1000_.2.2 16 8 (by decide)]
          have f1007_ : (m998_ 80 312).toInt = (M 80 312).toInt := by rw [p1000_.2.2 80 312 (by decide)]
          have f1008_ : (m998_ 0 12).toInt = (M 0 12).toInt := by rw [p1000_.2.2 0 12 (by decide)]
          have f1009_ : (m998_ 77 67).toInt = (M 77 67).toInt := by rw [p1000_.2.2 77 67 (by decide)]
          have f1010_ : (m998_ 7 9).toInt = (M 7 9).toInt := by rw [p1000_.2.2 7 9 (by decide)]
          have f1011_ : (m998_ 78 313).toInt = (M 78 313).toInt := by rw [p1000_.2.2 78 313 (by decide)]
          have f1012_ : (m998_ 16 9).toInt = (M 16 9).toInt := by rw [p1000_.2.2 16 9 (by decide)]
          have f1013_ : (m998_ 80 313).toInt = (M 80 313).toInt := by rw [p1000_.2.2 80 313 (by decide)]
          have d1014_ : KD m998_ m998_ := KD_S hD (p1000_.2.2) (p1000_.2.2 3 3 (by decide)) (p1000_.2.2 77 6 (by decide)) rfl
          have l1015_ : LR j m998_ m998_ := LR_S hj hL (p1000_.2.2) rfl rfl (p1000_.2.2 77 17 (by decide))
          have tw1016_ : TN 7 78 m998_ m998_ := TN_S hW (p1000_.2.2) rfl rfl
          have tx1017_ : m998_ 0 12 ≠ 0 → TN 16 80 m998_ m998_ := KX_S hX (p1000_.2.2) (p1000_.2.2 0 12 (by decide)) rfl rfl
          refine T_qg (i_add rfl l_1 (by omega) (by omega)) (by omega) (by omega) ?_
          refine T_qg (i_add rfl l_2 (by omega) (by omega)) (by omega) (by omega) ?_
          refine T_qg (i_add rfl l_3 (by omega) (by omega)) (by omega) (by omega) ?_
          refine T_qg (i_add rfl l_4 (by omega) (by omega)) (by omega) (by omega) ?_
          refine T_eq rfl l_0 (fun c1018_ => ?_) (fun c1018_ => ?_)
          · refine T_qg (i_add rfl l_5 (by omega) (by omega)) (by omega) (by omega) ?_
            refine T_eq rfl l_0 (fun c1019_ => ?_) (fun c1019_ => ?_)
            · refine T_qg (i_add rfl l_6 (by omega) (by omega)) (by omega) (by omega) ?_
              refine T_qcE (t_X12_game hn _ _ _ _ _ _ m998_ g999_ (by decide) (by decide)) ?_
              intro r1020_ m1021_ e1024_ p1023_
              have g1022_ := p1023_.2.1
              have f1025_ : (m1021_ 1 1).toInt = (m998_ 1 1).toInt := by rw [p1023_.2.2 1 1 (by decide)]
              have f1026_ : (m1021_ 77 8).toInt = (m998_ 77 8).toInt := by rw [p1023_.2.2 77 8 (by decide)]
              have f1027_ : (m1021_ 7 8).toInt = (m998_ 7 8).toInt := by rw [p1023_.2.2 7 8 (by decide)]
              have f1028_ : (m1021_ 78 312).toInt = (m998_ 78 312).toInt := by rw [p1023_.2.2 78 312 (by decide)]
              have f1029_ : (m1021_ 16 8).toInt = (m998_ 16 8).toInt := by rw [p1023_.2.2 16 8 (by decide)]
              have f1030_ : (m1021_ 80 312).toInt = (m998_ 80 312).toInt := by rw [p1023_.2.2 80 312 (by decide)]
              have f1031_ : (m1021_ 0 12).toInt = (m998_ 0 12).toInt := by rw [p1023_.2.2 0 12 (by decide)]
              have f1032_ : (m1021_ 77 67).toInt = (m998_ 77 67).toInt := by rw [p1023_.2.2 77 67 (by decide)]
              have f1033_ : (m1021_ 7 9).toInt = (m998_ 7 9).toInt := by rw [p1023_.2.2 7 9 (by decide)]
              have f1034_ : (m1021_ 78 313).toInt = (m998_ 78 313).toInt := by rw [p1023_.2.2 78 313 (by decide)]
              have f1035_ : (m1021_ 16 9).toInt = (m998_ 16 9).toInt := by rw [p1023_.2.2 16 9 (by decide)]
              have f1036_ : (m1021_ 80 313).toInt = (m998_ 80 313).toInt := by rw [p1023_.2.2 80 313 (by decide)]
              have d1037_ : KD m1021_ m1021_ := KD_S d1014_ (p1023_.2.2) (p1023_.2.2 3 3 (by decide)) (p1023_.2.2 77 6 (by decide)) rfl
              have l1038_ : LR j m1021_ m1021_ := LR_S hj l1015_ (p1023_.2.2) rfl rfl (p1023_.2.2 77 17 (by decide))
              have tw1039_ : TN 7 78 m1021_ m1021_ := TN_S tw1016_ (p1023_.2.2) rfl rfl
              have tx1040_ : m1021_ 0 12 ≠ 0 → TN 16 80 m1021_ m1021_ := KX_S tx1017_ (p1023_.2.2) (p1023_.2.2 0 12 (by decide)) rfl rfl
              have q1041_ : (m1021_ 1 1).toInt = (m1021_ 77 8).toInt := by omega
              have q1042_ : (m1021_ 7 8).toInt = (m1021_ 78 312).toInt := by omega
              have q1043_ : (m1021_ 16 8).toInt = (m1021_ 80 312).toInt := by omega
              have q1044_ : (m1021_ 0 12).toInt = (m1021_ 77 67).toInt := by omega
              have q1045_ : (m1021_ 7 9).toInt = (m1021_ 78 313).toInt := by omega
              have q1046_ : (m1021_ 16 9).toInt = (m1021_ 80 313).toInt := by omega
              have f1048_ := r_1_1 hG
              have t1047_ : TR m1021_ := TR_le hT (by omega) (funext (fun s_ => by rw [p1023_.2.2 2 s_ (outc rfl), p1000_.2.2 2 s_ (outc rfl)])) (funext (fun s_ => by rw [p1023_.2.2 84 s_ (outc rfl), p1000_.2.2 84 s_ (outc rfl)]))
              refine T_ql (i_add rfl l_7 (by omega) (by omega)) ?_
              intro x1049_ h1050_
              exact ih j r hj hr hjr x1049_ m1021_ (by omega) (by omega) g1022_ q1041_ q1042_ q1043_ q1044_ q1045_ q1046_ t1047_ d1037_ l1038_ tw1039_ tx1040_ (by omega)
            · refine T_qg (i_add rfl l_6 (by omega) (by omega)) (by omega) (by omega) ?_
              refine T_qcE (t_X12_game hn _ _ _ _ _ _ m998_ g999_ (by decide) (by decide)) ?_
              intro r1051_ m1052_ e1055_ p1054_
              have g1053_ := p1054_.2.1
              have f1056_ : (m1052_ 1 1).toInt = (m998_ 1 1).toInt := by rw [p1054_.2.2 1 1 (by decide)]
              have f1057_ : (m1052_ 77 8).toInt = (m998_ 77 8).toInt := by rw [p1054_.2.2 77 8 (by decide)]
              have f1058_ : (m1052_ 7 8).toInt = (m998_ 7 8).toInt := by rw [p1054_.2.2 7 8 (by decide)]
              have f1059_ : (m1052_ 78 312).toInt = (m998_ 78 312).toInt := by rw [p1054_.2.2 78 312 (by decide)]
              have f1060_ : (m1052_ 16 8).toInt = (m998_ 16 8).toInt := by rw [p1054_.2.2 16 8 (by decide)]
              have f1061_ : (m1052_ 80 312).toInt = (m998_ 80 312).toInt := by rw [p1054_.2.2 80 312 (by decide)]
              have f1062_ : (m1052_ 0 12).toInt = (m998_ 0 12).toInt := by rw [p1054_.2.2 0 12 (by decide)]
              have f1063_ : (m1052_ 77 67).toInt = (m998_ 77 67).toInt := by rw [p1054_.2.2 77 67 (by decide)]
              have f1064_ : (m1052_ 7 9).toInt = (m998_ 7 9).toInt := by rw [p1054_.2.2 7 9 (by decide)]
              have f1065_ : (m1052_ 78 313).toInt = (m998_ 78 313).toInt := by rw [p1054_.2.2 78 313 (by decide)]
              have f1066_ : (m1052_ 16 9).toInt = (m998_ 16 9).toInt := by rw [p1054_.2.2 16 9 (by decide)]
              have f1067_ : (m1052_ 80 313).toInt = (m998_ 80 313).toInt := by rw [p1054_.2.2 80 313 (by decide)]
              have d1068_ : KD m1052_ m1052_ := KD_S d1014_ (p1054_.2.2) (p1054_.2.2 3 3 (by decide)) (p1054_.2.2 77 6 (by decide)) rfl
              have l1069_ : LR j m1052_ m1052_ := LR_S hj l1015_ (p1054_.2.2) rfl rfl (p1054_.2.2 77 17 (by decide))
              have tw1070_ : TN 7 78 m1052_ m1052_ := TN_S tw1016_ (p1054_.2.2) rfl rfl
              have tx1071_ : m1052_ 0 12 ≠ 0 → TN 16 80 m1052_ m1052_ := KX_S tx1017_ (p1054_.2.2) (p1054_.2.2 0 12 (by decide)) rfl rfl
              have q1072_ : (m1052_ 1 1).toInt = (m1052_ 77 8).toInt := by omega
              have q1073_ : (m1052_ 7 8).toInt = (m1052_ 78 312).toInt := by omega
              have q1074_ : (m1052_ 16 8).toInt = (m1052_ 80 312).toInt := by omega
              have q1075_ : (m1052_ 0 12).toInt = (m1052_ 77 67).toInt := by omega
              have q1076_ : (m1052_ 7 9).toInt = (m1052_ 78 313).toInt := by omega
              have q1077_ : (m1052_ 16 9).toInt = (m1052_ 80 313).toInt := by omega
              have f1079_ := r_1_1 hG
              have t1078_ : TR m1052_ := TR_le hT (by omega) (funext (fun s_ => by rw [p1054_.2.2 2 s_ (outc rfl), p1000_.2.2 2 s_ (outc rfl)])) (funext (fun s_ => by rw [p1054_.2.2 84 s_ (outc rfl), p1000_.2.2 84 s_ (outc rfl)]))
              refine T_ql (i_add rfl l_7 (by omega) (by omega)) ?_
              intro x1080_ h1081_
              exact ih j r hj hr hjr x1080_ m1052_ (by omega) (by omega) g1053_ q1072_ q1073_ q1074_ q1075_ q1076_ q1077_ t1078_ d1068_ l1069_ tw1070_ tx1071_ (by omega)
          · refine T_qg (i_add rfl l_5 (by omega) (by omega)) (by omega) (by omega) ?_
            refine T_eq rfl l_0 (fun c1082_ => ?_) (fun c1082_ => ?_)
            · refine T_qg (i_add rfl l_6 (by omega) (by omega)) (by omega) (by omega) ?_
              refine T_qcE (t_X12_game hn _ _ _ _ _ _ m998_ g999_ (by decide) (by decide)) ?_
              intro r1083_ m1084_ e1087_ p1086_
              have g1085_ := p1086_.2.1
              have f1088_ : (m1084_ 1 1).toInt = (m998_ 1 1).toInt := by rw [p1086_.2.2 1 1 (by decide)]
              have f1089_ : (m1084_ 77 8).toInt = (m998_ 77 8).toInt := by rw [p1086_.2.2 77 8 (by decide)]
              have f1090_ : (m1084_ 7 8).toInt = (m998_ 7 8).toInt := by rw [p1086_.2.2 7 8 (by decide)]
              have f1091_ : (m1084_ 78 312).toInt = (m998_ 78 312).toInt := by rw [p1086_.2.2 78 312 (by decide)]
              have f1092_ : (m1084_ 16 8).toInt = (m998_ 16 8).toInt := by rw [p1086_.2.2 16 8 (by decide)]
              have f1093_ : (m1084_ 80 312).toInt = (m998_ 80 312).toInt := by rw [p1086_.2.2 80 312 (by decide)]
              have f1094_ : (m1084_ 0 12).toInt = (m998_ 0 12).toInt := by rw [p1086_.2.2 0 12 (by decide)]
              have f1095_ : (m1084_ 77 67).toInt = (m998_ 77 67).toInt := by rw [p1086_.2.2 77 67 (by decide)]
              have f1096_ : (m1084_ 7 9).toInt = (m998_ 7 9).toInt := by rw [p1086_.2.2 7 9 (by decide)]
              have f1097_ : (m1084_ 78 313).toInt = (m998_ 78 313).toInt := by rw [p1086_.2.2 78 313 (by decide)]
              have f1098_ : (m1084_ 16 9).toInt = (m998_ 16 9).toInt := by rw [p1086_.2.2 16 9 (by decide)]
              have f1099_ : (m1084_ 80 313).toInt = (m998_ 80 313).toInt := by rw [p1086_.2.2 80 313 (by decide)]
              have d1100_ : KD m1084_ m1084_ := KD_S d1014_ (p1086_.2.2) (p1086_.2.2 3 3 (by decide)) (p1086_.2.2 77 6 (by decide)) rfl
              have l1101_ : LR j m1084_ m1084_ := LR_S hj l1015_ (p1086_.2.2) rfl rfl (p1086_.2.2 77 17 (by decide))
              have tw1102_ : TN 7 78 m1084_ m1084_ := TN_S tw1016_ (p1086_.2.2) rfl rfl
              have tx1103_ : m1084_ 0 12 ≠ 0 → TN 16 80 m1084_ m1084_ := KX_S tx1017_ (p1086_.2.2) (p1086_.2.2 0 12 (by decide)) rfl rfl
              have q1104_ : (m1084_ 1 1).toInt = (m1084_ 77 8).toInt := by omega
              have q1105_ : (m1084_ 7 8).toInt = (m1084_ 78 312).toInt := by omega
              have q1106_ : (m1084_ 16 8).toInt = (m1084_ 80 312).toInt := by omega
              have q1107_ : (m1084_ 0 12).toInt = (m1084_ 77 67).toInt := by omega
              have q1108_ : (m1084_ 7 9).toInt = (m1084_ 78 313).toInt := by omega
              have q1109_ : (m1084_ 16 9).toInt = (m1084_ 80 313).toInt := by omega
              have f1111_ := r_1_1 hG
              have t1110_ : TR m1084_ := TR_le hT (by omega) (funext (fun s_ => by rw [p1086_.2.2 2 s_ (outc rfl), p1000_.2.2 2 s_ (outc rfl)])) (funext (fun s_ => by rw [p1086_.2.2 84 s_ (outc rfl), p1000_.2.2 84 s_ (outc rfl)]))
              refine T_ql (i_add rfl l_7 (by omega) (by omega)) ?_
              intro x1112_ h1113_
              exact ih j r hj hr hjr x1112_ m1084_ (by omega) (by omega) g1085_ q1104_ q1105_ q1106_ q1107_ q1108_ q1109_ t1110_ d1100_ l1101_ tw1102_ tx1103_ (by omega)
            · refine T_qg (i_add rfl l_6 (by omega) (by omega)) (by omega) (by omega) ?_
              refine T_qcE (t_X12_game hn _ _ _ _ _ _ m998_ g999_ (by decide) (by decide)) ?_
              intro r1114_ m1115_ e1118_ p1117_
              have g1116_ := p1117_.2.1
              have f1119_ : (m1115_ 1 1).toInt = (m998_ 1 1).toInt := by rw [p1117_.2.2 1 1 (by decide)]
              have f1120_ : (m1115_ 77 8).toInt = (m998_ 77 8).toInt := by rw [p1117_.2.2 77 8 (by decide)]
              have f1121_ : (m1115_ 7 8).toInt = (m998_ 7 8).toInt := by rw [p1117_.2.2 7 8 (by decide)]
              have f1122_ : (m1115_ 78 312).toInt = (m998_ 78 312).toInt := by rw [p1117_.2.2 78 312 (by decide)]
              have f1123_ : (m1115_ 16 8).toInt = (m998_ 16 8).toInt := by rw [p1117_.2.2 16 8 (by decide)]
              have f1124_ : (m1115_ 80 312).toInt = (m998_ 80 312).toInt := by rw [p1117_.2.2 80 312 (by decide)]
              have f1125_ : (m1115_ 0 12).toInt = (m998_ 0 12).toInt := by rw [p1117_.2.2 0 12 (by decide)]
              have f1126_ : (m1115_ 77 67).toInt = (m998_ 77 67).toInt := by rw [p1117_.2.2 77 67 (by decide)]
              have f1127_ : (m1115_ 7 9).toInt = (m998_ 7 9).toInt := by rw [p1117_.2.2 7 9 (by decide)]
              have f1128_ : (m1115_ 78 313).toInt = (m998_ 78 313).toInt := by rw [p1117_.2.2 78 313 (by decide)]
              have f1129_ : (m1115_ 16 9).toInt = (m998_ 16 9).toInt := by rw [p1117_.2.2 16 9 (by decide)]
              have f1130_ : (m1115_ 80 313).toInt = (m998_ 80 313).toInt := by rw [p1117_.2.2 80 313 (by decide)]
              have d1131_ : KD m1115_ m1115_ := KD_S d1014_ (p1117_.2.2) (p1117_.2.2 3 3 (by decide)) (p1117_.2.2 77 6 (by decide)) rfl
              have l1132_ : LR j m1115_ m1115_ := LR_S hj l1015_ (p1117_.2.2) rfl rfl (p1117_.2.2 77 17 (by decide))
              have tw1133_ : TN 7 78 m1115_ m1115_ := TN_S tw1016_ (p1117_.2.2) rfl rfl
              have tx1134_ : m1115_ 0 12 ≠ 0 → TN 16 80 m1115_ m1115_ := KX_S tx1017_ (p1117_.2.2) (p1117_.2.2 0 12 (by decide)) rfl rfl
              have q1135_ : (m1115_ 1 1).toInt = (m1115_ 77 8).toInt := by omega
              have q1136_ : (m1115_ 7 8).toInt = (m1115_ 78 312).toInt := by omega
              have q1137_ : (m1115_ 16 8).toInt = (m1115_ 80 312).toInt := by omega
              have q1138_ : (m1115_ 0 12).toInt = (m1115_ 77 67).toInt := by omega
              have q1139_ : (m1115_ 7 9).toInt = (m1115_ 78 313).toInt := by omega
              have q1140_ : (m1115_ 16 9).toInt = (m1115_ 80 313).toInt := by omega
              have f1142_ := r_1_1 hG
              have t1141_ : TR m1115_ := TR_le hT (by omega) (funext (fun s_ => by rw [p1117_.2.2 2 s_ (outc rfl), p1000_.2.2 2 s_ (outc rfl)])) (funext (fun s_ => by rw [p1117_.2.2 84 s_ (outc rfl), p1000_.2.2 84 s_ (outc rfl)]))
              refine T_ql (i_add rfl l_7 (by omega) (by omega)) ?_
              intro x1143_ h1144_
              exact ih j r hj hr hjr x1143_ m1115_ (by omega) (by omega) g1116_ q1135_ q1136_ q1137_ q1138_ q1139_ q1140_ t1141_ d1131_ l1132_ tw1133_ tx1134_ (by omega)
        · refine T_qg (i_add rfl l_6 (by omega) (by omega)) (by omega) (by omega) ?_
          refine T_qcE (t_X11_game hn _ _ _ _ _ _ M hG (by decide) (by decide)) ?_
          intro r1145_ m1146_ e1149_ p1148_
          have g1147_ := p1148_.2.1
          have f1150_ : (m1146_ 1 1).toInt = (M 1 1).toInt := by rw [p1148_.2.2 1 1 (by decide)]
          have f1151_ : (m1146_ 77 8).toInt = (M 77 8).toInt := by rw [p1148_.2.2 77 8 (by decide)]
          have f1152_ : (m1146_ 7 8).toInt = (M 7 8).toInt := by rw [p1148_.2.2 7 8 (by decide)]
          have f1153_ : (m1146_ 78 312).toInt = (M 78 312).toInt := by rw [p1148_.2.2 78 312 (by decide)]
          have f1154_ : (m1146_ 16 8).toInt = (M 16 8).toInt := by rw [p1148_.2.2 16 8 (by decide)]
          have f1155_ : (m1146_ 80 312).toInt = (M 80 312).toInt := by rw [p1148_.2.2 80 312 (by decide)]
          have f1156_ : (m1146_ 0 12).toInt = (M 0 12).toInt := by rw [p1148_.2.2 0 12 (by decide)]
          have f1157_ : (m1146_ 77 67).toInt = (M 77 67).toInt := by rw [p1148_.2.2 77 67 (by decide)]
          have f1158_ : (m1146_ 7 9).toInt = (M 7 9).toInt := by rw [p1148_.2.2 7 9 (by decide)]
          have f1159_ : (m1146_ 78 313).toInt = (M 78 313).toInt := by rw [p1148_.2.2 78 313 (by decide)]
          have f1160_ : (m1146_ 16 9).toInt = (M 16 9).toInt := by rw [p1148_.2.2 16 9 (by decide)]
          have f1161_ : (m1146_ 80 313).toInt = (M 80 313).toInt := by rw [p1148_.2.2 80 313 (by decide)]
          have d1162_ : KD m1146_ m1146_ := KD_S hD (p1148_.2.2) (p1148_.2.2 3 3 (by decide)) (p1148_.2.2 77 6 (by decide)) rfl
          have l1163_ : LR j m1146_ m1146_ := LR_S hj hL (p1148_.2.2) rfl rfl (p1148_.2.2 77 17 (by decide))
          have tw1164_ : TN 7 78 m1146_ m1146_ := TN_S hW (p1148_.2.2) rfl rfl
          have tx1165_ : m1146_ 0 12 ≠ 0 → TN 16 80 m1146_ m1146_ := KX_S hX (p1148_.2.2) (p1148_.2.2 0 12 (by decide)) rfl rfl
          refine T_qg (i_add rfl l_1 (by omega) (by omega)) (by omega) (by omega) ?_
          refine T_qg (i_add rfl l_2 (by omega) (by omega)) (by omega) (by omega) ?_
          refine T_qg (i_add rfl l_3 (by omega) (by omega)) (by omega) (by omega) ?_
          refine T_qg (i_add rfl l_4 (by omega) (by omega)) (by omega) (by omega) ?_
          refine T_eq rfl l_0 (fun c1166_ => ?_) (fun c1166_ => ?_)
          · refine T_qg (i_add rfl l_5 (by omega) (by omega)) (by omega) (by omega) ?_
            refine T_eq rfl l_0 (fun c1167_ => ?_) (fun c1167_ => ?_)
            · refine T_qg (i_add rfl l_6 (by omega) (by omega)) (by omega) (by omega) ?_
              refine T_qcE (t_X12_game hn _ _ _ _ _ _ m1146_ g1147_ (by decide) (by decide)) ?_
              intro r1168_ m1169_ e1172_ p1171_
              have g1170_ := p1171_.2.1
              have f1173_ : (m1169_ 1 1).toInt = (m1146_ 1 1).toInt := by rw [p1171_.2.2 1 1 (by decide)]
              have f1174_ : (m1169_ 77 8).toInt = (m1146_ 77 8).toInt := by rw [p1171_.2.2 77 8 (by decide)]
              have f1175_ : (m1169_ 7 8).toInt = (m1146_ 7 8).toInt := by rw [p1171_.2.2 7 8 (by decide)]
              have f1176_ : (m1169_ 78 312).toInt = (m1146_ 78 312).toInt := by rw [p1171_.2.2 78 312 (by decide)]
              have f1177_ : (m1169_ 16 8).toInt = (m1146_ 16 8).toInt := by rw [p1171_.2.2 16 8 (by decide)]
              have f1178_ : (m1169_ 80 312).toInt = (m1146_ 80 312).toInt := by rw [p1171_.2.2 80 312 (by decide)]
              have f1179_ : (m1169_ 0 12).toInt = (m1146_ 0 12).toInt := by rw [p1171_.2.2 0 12 (by decide)]
              have f1180_ : (m1169_ 77 67).toInt = (m1146_ 77 67).toInt := by rw [p1171_.2.2 77 67 (by decide)]
              have f1181_ : (m1169_ 7 9).toInt = (m1146_ 7 9).toInt := by rw [p1171_.2.2 7 9 (by decide)]
              have f1182_ : (m1169_ 78 313).toInt = (m1146_ 78 313).toInt := by rw [p1171_.2.2 78 313 (by decide)]
              have f1183_ : (m1169_ 16 9).toInt = (m1146_ 16 9).toInt := by rw [p1171_.2.2 16 9 (by decide)]
              have f1184_ : (m1169_ 80 313).toInt = (m1146_ 80 313).toInt := by rw [p1171_.2.2 80 313 (by decide)]
              have d1185_ : KD m1169_ m1169_ := KD_S d1162_ (p1171_.2.2) (p1171_.2.2 3 3 (by decide)) (p1171_.2.2 77 6 (by decide)) rfl
              have l1186_ : LR j m1169_ m1169_ := LR_S hj l1163_ (p1171_.2.2) rfl rfl (p1171_.2.2 77 17 (by decide))
              have tw1187_ : TN 7 78 m1169_ m1169_ := TN_S tw1164_ (p1171_.2.2) rfl rfl
              have tx1188_ : m1169_ 0 12 ≠ 0 → TN 16 80 m1169_ m1169_ := KX_S tx1165_ (p1171_.2.2) (p1171_.2.2 0 12 (by decide)) rfl rfl
              have q1189_ : (m1169_ 1 1).toInt = (m1169_ 77 8).toInt := by omega
              have q1190_ : (m1169_ 7 8).toInt = (m1169_ 78 312).toInt := by omega
              have q1191_ : (m1169_ 16 8).toInt = (m1169_ 80 312).toInt := by omega
              have q1192_ : (m1169_ 0 12).toInt = (m1169_ 77 67).toInt := by omega
              have q1193_ : (m1169_ 7 9).toInt = (m1169_ 78 313).toInt := by omega
              have q1194_ : (m1169_ 16 9).toInt = (m1169_ 80 313).toInt := by omega
              have f1196_ := r_1_1 hG
              have t1195_ : TR m1169_ := TR_le hT (by omega) (funext (fun s_ => by rw [p1171_.2.2 2 s_ (outc rfl), p1148_.2.2 2 s_ (outc rfl)])) (funext (fun s_ => by rw [p1171_.2.2 84 s_ (outc rfl), p1148_.2.2 84 s_ (outc rfl)]))
              refine T_ql (i_add rfl l_7 (by omega) (by omega)) ?_
              intro x1197_ h1198_
              exact ih j r hj hr hjr x1197_ m1169_ (by omega) (by omega) g1170_ q1189_ q1190_ q1191_ q1192_ q1193_ q1194_ t1195_ d1185_ l1186_ tw1187_ tx1188_ (by omega)
            · refine T_qg (i_add rfl l_6 (by omega) (by omega)) (by omega) (by omega) ?_
              refine T_qcE (t_X12_game hn _ _ _ _ _ _ m1146_ g1147_ (by decide) (by decide)) ?_
              intro r1199_ m1200_ e1203_ p1202_
              have g1201_ := p1202_.2.1
              have f1204_ : (m1200_ 1 1).toInt = (m1146_ 1 1).toInt := by rw [p1202_.2.2 1 1 (by decide)]
              have f1205_ : (m1200_ 77 8).toInt = (m1146_ 77 8).toInt := by rw [p1202_.2.2 77 8 (by decide)]
              have f1206_ : (m1200_ 7 8).toInt = (m1146_ 7 8).toInt := by rw [p1202_.2.2 7 8 (by decide)]
              have f1207_ : (m1200_ 78 312).toInt = (m1146_ 78 312).toInt := by rw [p1202_.2.2 78 312 (by decide)]
              have f1208_ : (m1200_ 16 8).toInt = (m1146_ 16 8).toInt := by rw [p1202_.2.2 16 8 (by decide)]
              have f1209_ : (m1200_ 80 312).toInt = (m1146_ 80 312).toInt := by rw [p1202_.2.2 80 312 (by decide)]
              have f1210_ : (m1200_ 0 12).toInt = (m1146_ 0 12).toInt := by rw [p1202_.2.2 0 12 (by decide)]
              have f1211_ : (m1200_ 77 67).toInt = (m1146_ 77 67).toInt := by rw [p1202_.2.2 77 67 (by decide)]
              have f1212_ : (m1200_ 7 9).toInt = (m1146_ 7 9).toInt := by rw [p1202_.2.2 7 9 (by decide)]
              have f1213_ : (m1200_ 78 313).toInt = (m1146_ 78 313).toInt := by rw [p1202_.2.2 78 313 (by decide)]
              have f1214_ : (m1200_ 16 9).toInt = (m1146_ 16 9).toInt := by rw [p1202_.2.2 16 9 (by decide)]
              have f1215_ : (m1200_ 80 313).toInt = (m1146_ 80 313).toInt := by rw [p1202_.2.2 80 313 (by decide)]
              have d1216_ : KD m1200_ m1200_ := KD_S d1162_ (p1202_.2.2) (p1202_.2.2 3 3 (by decide)) (p1202_.2.2 77 6 (by decide)) rfl
              have l1217_ : LR j m1200_ m1200_ := LR_S hj l1163_ (p1202_.2.2) rfl rfl (p1202_.2.2 77 17 (by decide))
              have tw1218_ : TN 7 78 m1200_ m1200_ := TN_S tw1164_ (p1202_.2.2) rfl rfl
              have tx1219_ : m1200_ 0 12 ≠ 0 → TN 16 80 m1200_ m1200_ := KX_S tx1165_ (p1202_.2.2) (p1202_.2.2 0 12 (by decide)) rfl rfl
              have q1220_ : (m1200_ 1 1).toInt = (m1200_ 77 8).toInt := by omega
              have q1221_ : (m1200_ 7 8).toInt = (m1200_ 78 312).toInt := by omega
              have q1222_ : (m1200_ 16 8).toInt = (m1200_ 80 312).toInt := by omega
              have q1223_ : (m1200_ 0 12).toInt = (m1200_ 77 67).toInt := by omega
              have q1224_ : (m1200_ 7 9).toInt = (m1200_ 78 313).toInt := by omega
              have q1225_ : (m1200_ 16 9).toInt = (m1200_ 80 313).toInt := by omega
              have f1227_ := r_1_1 hG
              have t1226_ : TR m1200_ := TR_le hT (by omega) (funext (fun s_ => by rw [p1202_.2.2 2 s_ (outc rfl), p1148_.2.2 2 s_ (outc rfl)])) (funext (fun s_ => by rw [p1202_.2.2 84 s_ (outc rfl), p1148_.2.2 84 s_ (outc rfl)]))
              refine T_ql (i_add rfl l_7 (by omega) (by omega)) ?_
              intro x1228_ h1229_
              exact ih j r hj hr hjr x1228_ m1200_ (by omega) (by omega) g1201_ q1220_ q1221_ q1222_ q1223_ q1224_ q1225_ t1226_ d1216_ l1217_ tw1218_ tx1219_ (by omega)
          · refine T_qg (i_add rfl l_5 (by omega) (by omega)) (by omega) (by omega) ?_
            refine T_eq rfl l_0 (fun c1230_ => ?_) (fun c1230_ => ?_)
            · refine T_qg (i_add rfl l_6 (by omega) (by omega)) (by omega) (by omega) ?_
              refine T_qcE (t_X12_game hn _ _ _ _ _ _ m1146_ g1147_ (by decide) (by decide)) ?_
              intro r1231_ m1232_ e1235_ p1234_
              have g1233_ := p1234_.2.1
              have f1236_ : (m1232_ 1 1).toInt = (m1146_ 1 1).toInt := by rw [p1234_.2.2 1 1 (by decide)]
              have f1237_ : (m1232_ 77 8).toInt = (m1146_ 77 8).toInt := by rw [p1234_.2.2 77 8 (by decide)]
              have f1238_ : (m1232_ 7 8).toInt = (m1146_ 7 8).toInt := by rw [p1234_.2.2 7 8 (by decide)]
              have f1239_ : (m1232_ 78 312).toInt = (m1146_ 78 312).toInt := by rw [p1234_.2.2 78 312 (by decide)]
              have f1240_ : (m1232_ 16 8).toInt = (m1146_ 16 8).toInt := by rw [p1234_.2.2 16 8 (by decide)]
              have f1241_ : (m1232_ 80 312).toInt = (m1146_ 80 312).toInt := by rw [p1234_.2.2 80 312 (by decide)]
              have f1242_ : (m1232_ 0 12).toInt = (m1146_ 0 12).toInt := by rw [p1234_.2.2 0 12 (by decide)]
              have f1243_ : (m1232_ 77 67).toInt = (m1146_ 77 67).toInt := by rw [p1234_.2.2 77 67 (by decide)]
              have f1244_ : (m1232_ 7 9).toInt = (m1146_ 7 9).toInt := by rw [p1234_.2.2 7 9 (by decide)]
              have f1245_ : (m1232_ 78 313).toInt = (m1146_ 78 313).toInt := by rw [p1234_.2.2 78 313 (by decide)]
              have f1246_ : (m1232_ 16 9).toInt = (m1146_ 16 9).toInt := by rw [p1234_.2.2 16 9 (by decide)]
              have f1247_ : (m1232_ 80 313).toInt = (m1146_ 80 313).toInt := by rw [p1234_.2.2 80 313 (by decide)]
              have d1248_ : KD m1232_ m1232_ := KD_S d1162_ (p1234_.2.2) (p1234_.2.2 3 3 (by decide)) (p1234_.2.2 77 6 (by decide)) rfl
              have l1249_ : LR j m1232_ m1232_ := LR_S hj l1163_ (p1234_.2.2) rfl rfl (p1234_.2.2 77 17 (by decide))
              have tw1250_ : TN 7 78 m1232_ m1232_ := TN_S tw1164_ (p1234_.2.2) rfl rfl
              have tx1251_ : m1232_ 0 12 ≠ 0 → TN 16 80 m1232_ m1232_ := KX_S tx1165_ (p1234_.2.2) (p1234_.2.2 0 12 (by decide)) rfl rfl
              have q1252_ : (m1232_ 1 1).toInt = (m1232_ 77 8).toInt := by omega
              have q1253_ : (m1232_ 7 8).toInt = (m1232_ 78 312).toInt := by omega
              have q1254_ : (m1232_ 16 8).toInt = (m1232_ 80 312).toInt := by omega
              have q1255_ : (m1232_ 0 12).toInt = (m1232_ 77 67).toInt := by omega
              have q1256_ : (m1232_ 7 9).toInt = (m1232_ 78 313).toInt := by omega
              have q1257_ : (m1232_ 16 9).toInt = (m1232_ 80 313).toInt := by omega
              have f1259_ := r_1_1 hG
              have t1258_ : TR m1232_ := TR_le hT (by omega) (funext (fun s_ => by rw [p1234_.2.2 2 s_ (outc rfl), p1148_.2.2 2 s_ (outc rfl)])) (funext (fun s_ => by rw [p1234_.2.2 84 s_ (outc rfl), p1148_.2.2 84 s_ (outc rfl)]))
              refine T_ql (i_add rfl l_7 (by omega) (by omega)) ?_
              intro x1260_ h1261_
              exact ih j r hj hr hjr x1260_ m1232_ (by omega) (by omega) g1233_ q1252_ q1253_ q1254_ q1255_ q1256_ q1257_ t1258_ d1248_ l1249_ tw1250_ tx1251_ (by omega)
            · refine T_qg (i_add rfl l_6 (by omega) (by omega)) (by omega) (by omega) ?_
              refine T_qcE (t_X12_game hn _ _ _ _ _ _ m1146_ g1147_ (by decide) (by decide)) ?_
              intro r1262_ m1263_ e1266_ p1265_
              have g1264_ := p1265_.2.1
              have f1267_ : (m1263_ 1 1).toInt = (m1146_ 1 1).toInt := by rw [p1265_.2.2 1 1 (by decide)]
              have f1268_ : (m1263_ 77 8).toInt = (m1146_ 77 8).toInt := by rw [p1265_.2.2 77 8 (by decide)]
              have f1269_ : (m1263_ 7 8).toInt = (m1146_ 7 8).toInt := by rw [p1265_.2.2 7 8 (by decide)]
              have f1270_ : (m1263_ 78 312).toInt = (m1146_ 78 312).toInt := by rw [p1265_.2.2 78 312 (by decide)]
              have f1271_ : (m1263_ 16 8).toInt = (m1146_ 16 8).toInt := by rw [p1265_.2.2 16 8 (by decide)]
              have f1272_ : (m1263_ 80 312).toInt = (m1146_ 80 312).toInt := by rw [p1265_.2.2 80 312 (by decide)]
              have f1273_ : (m1263_ 0 12).toInt = (m1146_ 0 12).toInt := by rw [p1265_.2.2 0 12 (by decide)]
              have f1274_ : (m1263_ 77 67).toInt = (m1146_ 77 67).toInt := by rw [p1265_.2.2 77 67 (by decide)]
              have f1275_ : (m1263_ 7 9).toInt = (m1146_ 7 9).toInt := by rw [p1265_.2.2 7 9 (by decide)]
              have f1276_ : (m1263_ 78 313).toInt = (m1146_ 78 313).toInt := by rw [p1265_.2.2 78 313 (by decide)]
              have f1277_ : (m1263_ 16 9).toInt = (m1146_ 16 9).toInt := by rw [p1265_.2.2 16 9 (by decide)]
              have f1278_ : (m1263_ 80 313).toInt = (m1146_ 80 313).toInt := by rw [p1265_.2.2 80 313 (by decide)]
              have d1279_ : KD m1263_ m1263_ := KD_S d1162_ (p1265_.2.2) (p1265_.2.2 3 3 (by decide)) (p1265_.2.2 77 6 (by decide)) rfl
              have l1280_ : LR j m1263_ m1263_ := LR_S hj l1163_ (p1265_.2.2) rfl rfl (p1265_.2.2 77 17 (by decide))
              have tw1281_ : TN 7 78 m1263_ m1263_ := TN_S tw1164_ (p1265_.2.2) rfl rfl
              have tx1282_ : m1263_ 0 12 ≠ 0 → TN 16 80 m1263_ m1263_ := KX_S tx1165_ (p1265_.2.2) (p1265_.2.2 0 12 (by decide)) rfl rfl
              have q1283_ : (m1263_ 1 1).toInt = (m1263_ 77 8).toInt := by omega
              have q1284_ : (m1263_ 7 8).toInt = (m1263_ 78 312).toInt := by omega
              have q1285_ : (m1263_ 16 8).toInt = (m1263_ 80 312).toInt := by omega
              have q1286_ : (m1263_ 0 12).toInt = (m1263_ 77 67).toInt := by omega
              have q1287_ : (m1263_ 7 9).toInt = (m1263_ 78 313).toInt := by omega
              have q1288_ : (m1263_ 16 9).toInt = (m1263_ 80 313).toInt := by omega
              have f1290_ := r_1_1 hG
              have t1289_ : TR m1263_ := TR_le hT (by omega) (funext (fun s_ => by rw [p1265_.2.2 2 s_ (outc rfl), p1148_.2.2 2 s_ (outc rfl)])) (funext (fun s_ => by rw [p1265_.2.2 84 s_ (outc rfl), p1148_.2.2 84 s_ (outc rfl)]))
              refine T_ql (i_add rfl l_7 (by omega) (by omega)) ?_
              intro x1291_ h1292_
              exact ih j r hj hr hjr x1291_ m1263_ (by omega) (by omega) g1264_ q1283_ q1284_ q1285_ q1286_ q1287_ q1288_ t1289_ d1279_ l1280_ tw1281_ tx1282_ (by omega)
      · refine T_qg (i_add rfl l_5 (by omega) (by omega)) (by omega) (by omega) ?_
        refine T_eq rfl l_0 (fun c1293_ => ?_) (fun c1293_ => ?_)
        · refine T_qg (i_add rfl l_6 (by omega) (by omega)) (by omega) (by omega) ?_
          refine T_qcE (t_X11_game hn _ _ _ _ _ _ M hG (by decide) (by decide)) ?_
          intro r1294_ m1295_ e1298_ p1297_
          have g1296_ := p1297_.2.1
          have f1299_ : (m1295_ 1 1).toInt = (M 1 1).toInt := by rw [p1297_.2.2 1 1 (by decide)]
          have f1300_ : (m1295_ 77 8).toInt = (M 77 8).toInt := by rw [p1297_.2.2 77 8 (by decide)]
          have f1301_ : (m1295_ 7 8).toInt = (M 7 8).toInt := by rw [p1297_.2.2 7 8 (by decide)]
          have f1302_ : (m1295_ 78 312).toInt = (M 78 312).toInt := by rw [p1297_.2.2 78 312 (by decide)]
          have f1303_ : (m1295_ 16 8).toInt = (M 16 8).toInt := by rw [p1297_.2.2 16 8 (by decide)]
          have f1304_ : (m1295_ 80 312).toInt = (M 80 312).toInt := by rw [p1297_.2.2 80 312 (by decide)]
          have f1305_ : (m1295_ 0 12).toInt = (M 0 12).toInt := by rw [p1297_.2.2 0 12 (by decide)]
          have f1306_ : (m1295_ 77 67).toInt = (M 77 67).toInt := by rw [p1297_.2.2 77 67 (by decide)]
          have f1307_ : (m1295_ 7 9).toInt = (M 7 9).toInt := by rw [p1297_.2.2 7 9 (by decide)]
          have f1308_ : (m1295_ 78 313).toInt = (M 78 313).toInt := by rw [p1297_.2.2 78 313 (by decide)]
          have f1309_ : (m1295_ 16 9).toInt = (M 16 9).toInt := by rw [p1297_.2.2 16 9 (by decide)]
          have f1310_ : (m1295_ 80 313).toInt = (M 80 313).toInt := by rw [p1297_.2.2 80 313 (by decide)]
          have d1311_ : KD m1295_ m1295_ := KD_S hD (p1297_.2.2) (p1297_.2.2 3 3 (by decide)) (p1297_.2.2 77 6 (by decide)) rfl
          have l1312_ : LR j m1295_ m1295_ := LR_S hj hL (p1297_.2.2) rfl rfl (p1297_.2.2 77 17 (by decide))
          have tw1313_ : TN 7 78 m1295_ m1295_ := TN_S hW (p1297_.2.2) rfl rfl
          have tx1314_ : m1295_ 0 12 ≠ 0 → TN 16 80 m1295_ m1295_ := KX_S hX (p1297_.2.2) (p1297_.2.2 0 12 (by decide)) rfl rfl
          refine T_qg (i_add rfl l_1 (by omega) (by omega)) (by omega) (by omega) ?_
          refine T_qg (i_add rfl l_2 (by omega) (by omega)) (by omega) (by omega) ?_
          refine T_qg (i_add rfl l_3 (by omega) (by omega)) (by omega) (by omega) ?_
          refine T_qg (i_add rfl l_4 (by omega) (by omega)) (by omega) (by omega) ?_
          refine T_eq rfl l_0 (fun c1315_ => ?_) (fun c1315_ => ?_)
          · refine T_qg (i_add rfl l_5 (by omega) (by omega)) (by omega) (by omega) ?_
            refine T_eq rfl l_0 (fun c1316_ => ?_) (fun c1316_ => ?_)
            · refine T_qg (i_add rfl l_6 (by omega) (by omega)) (by omega) (by omega) ?_
              refine T_qcE (t_X12_game hn _ _ _ _ _ _ m1295_ g1296_ (by decide) (by decide)) ?_
              intro r1317_ m1318_ e1321_ p1320_
              have g1319_ := p1320_.2.1
              have f1322_ : (m1318_ 1 1).toInt = (m1295_ 1 1).toInt := by rw [p1320_.2.2 1 1 (by decide)]
              have f1323_ : (m1318_ 77 8).toInt = (m1295_ 77 8).toInt := by rw [p1320_.2.2 77 8 (by decide)]
              have f1324_ : (m1318_ 7 8).toInt = (m1295_ 7 8).toInt := by rw [p1320_.2.2 7 8 (by decide)]
              have f1325_ : (m1318_ 78 312).toInt = (m1295_ 78 312).toInt := by rw [p1320_.2.2 78 312 (by decide)]
              have f1326_ : (m1318_ 16 8).toInt = (m1295_ 16 8).toInt := by rw [p1320_.2.2 16 8 (by decide)]
              have f1327_ : (m1318_ 80 312).toInt = (m1295_ 80 312).toInt := by rw [p1320_.2.2 80 312 (by decide)]
              have f1328_ : (m1318_ 0 12).toInt = (m1295_ 0 12).toInt := by rw [p1320_.2.2 0 12 (by decide)]
              have f1329_ : (m1318_ 77 67).toInt = (m1295_ 77 67).toInt := by rw [p1320_.2.2 77 67 (by decide)]
              have f1330_ : (m1318_ 7 9).toInt = (m1295_ 7 9).toInt := by rw [p1320_.2.2 7 9 (by decide)]
              have f1331_ : (m1318_ 78 313).toInt = (m1295_ 78 313).toInt := by rw [p1320_.2.2 78 313 (by decide)]
              have f1332_ : (m1318_ 16 9).toInt = (m1295_ 16 9).toInt := by rw [p1320_.2.2 16 9 (by decide)]
              have f1333_ : (m1318_ 80 313).toInt = (m1295_ 80 313).toInt := by rw [p1320_.2.2 80 313 (by decide)]
              have d1334_ : KD m1318_ m1318_ := KD_S d1311_ (p1320_.2.2) (p1320_.2.2 3 3 (by decide)) (p1320_.2.2 77 6 (by decide)) rfl
              have l1335_ : LR j m1318_ m1318_ := LR_S hj l1312_ (p1320_.2.2) rfl rfl (p1320_.2.2 77 17 (by decide))
              have tw1336_ : TN 7 78 m1318_ m1318_ := TN_S tw1313_ (p1320_.2.2) rfl rfl
              have tx1337_ : m1318_ 0 12 ≠ 0 → TN 16 80 m1318_ m1318_ := KX_S tx1314_ (p1320_.2.2) (p1320_.2.2 0 12 (by decide)) rfl rfl
              have q1338_ : (m1318_ 1 1).toInt = (m1318_ 77 8).toInt := by omega
              have q1339_ : (m1318_ 7 8).toInt = (m1318_ 78 312).toInt := by omega
              have q1340_ : (m1318_ 16 8).toInt = (m1318_ 80 312).toInt := by omega
              have q1341_ : (m1318_ 0 12).toInt = (m1318_ 77 67).toInt := by omega
              have q1342_ : (m1318_ 7 9).toInt = (m1318_ 78 313).toInt := by omega
              have q1343_ : (m1318_ 16 9).toInt = (m1318_ 80 313).toInt := by omega
              have f1345_ := r_1_1 hG
              have t1344_ : TR m1318_ := TR_le hT (by omega) (funext (fun s_ => by rw [p1320_.2.2 2 s_ (outc rfl), p1297_.2.2 2 s_ (outc rfl)])) (funext (fun s_ => by rw [p1320_.2.2 84 s_ (outc rfl), p1297_.2.2 84 s_ (outc rfl)]))
              refine T_ql (i_add rfl l_7 (by omega) (by omega)) ?_
              intro x1346_ h1347_
              exact ih j r hj hr hjr x1346_ m1318_ (by omega) (by omega) g1319_ q1338_ q1339_ q1340_ q1341_ q1342_ q1343_ t1344_ d1334_ l1335_ tw1336_ tx1337_ (by omega)
            · refine T_qg (i_add rfl l_6 (by omega) (by omega)) (by omega) (by omega) ?_
              refine T_qcE (t_X12_game hn _ _ _ _ _ _ m1295_ g1296_ (by decide) (by decide)) ?_
              intro r1348_ m1349_ e1352_ p1351_
              have g1350_ := p1351_.2.1
              have f1353_ : (m1349_ 1 1).toInt = (m1295_ 1 1).toInt := by rw [p1351_.2.2 1 1 (by decide)]
              have f1354_ : (m1349_ 77 8).toInt = (m1295_ 77 8).toInt := by rw [p1351_.2.2 77 8 (by decide)]
              have f1355_ : (m1349_ 7 8).toInt = (m1295_ 7 8).toInt := by rw [p1351_.2.2 7 8 (by decide)]
              have f1356_ : (m1349_ 78 312).toInt = (m1295_ 78 312).toInt := by rw [p1351_.2.2 78 312 (by decide)]
              have f1357_ : (m1349_ 16 8).toInt = (m1295_ 16 8).toInt := by rw [p1351_.2.2 16 8 (by decide)]
              have f1358_ : (m1349_ 80 312).toInt = (m1295_ 80 312).toInt := by rw [p1351_.2.2 80 312 (by decide)]
              have f1359_ : (m1349_ 0 12).toInt = (m1295_ 0 12).toInt := by rw [p1351_.2.2 0 12 (by decide)]
              have f1360_ : (m1349_ 77 67).toInt = (m1295_ 77 67).toInt := by rw [p1351_.2.2 77 67 (by decide)]
              have f1361_ : (m1349_ 7 9).toInt = (m1295_ 7 9).toInt := by rw [p1351_.2.2 7 9 (by decide)]
              have f1362_ : (m1349_ 78 313).toInt = (m1295_ 78 313).toInt := by rw [p1351_.2.2 78 313 (by decide)]
              have f1363_ : (m1349_ 16 9).toInt = (m1295_ 16 9).toInt := by rw [p1351_.2.2 16 9 (by decide)]
              have f1364_ : (m1349_ 80 313).toInt = (m1295_ 80 313).toInt := by rw [p1351_.2.2 80 313 (by decide)]
              have d1365_ : KD m1349_ m1349_ := KD_S d1311_ (p1351_.2.2) (p1351_.2.2 3 3 (by decide)) (p1351_.2.2 77 6 (by decide)) rfl
              have l1366_ : LR j m1349_ m1349_ := LR_S hj l1312_ (p1351_.2.2) rfl rfl (p1351_.2.2 77 17 (by decide))
              have tw1367_ : TN 7 78 m1349_ m1349_ := TN_S tw1313_ (p1351_.2.2) rfl rfl
              have tx1368_ : m1349_ 0 12 ≠ 0 → TN 16 80 m1349_ m1349_ := KX_S tx1314_ (p1351_.2.2) (p1351_.2.2 0 12 (by decide)) rfl rfl
              have q1369_ : (m1349_ 1 1).toInt = (m1349_ 77 8).toInt := by omega
              have q1370_ : (m1349_ 7 8).toInt = (m1349_ 78 312).toInt := by omega
              have q1371_ : (m1349_ 16 8).toInt = (m1349_ 80 312).toInt := by omega
              have q1372_ : (m1349_ 0 12).toInt = (m1349_ 77 67).toInt := by omega
              have q1373_ : (m1349_ 7 9).toInt = (m1349_ 78 313).toInt := by omega
              have q1374_ : (m1349_ 16 9).toInt = (m1349_ 80 313).toInt := by omega
              have f1376_ := r_1_1 hG
              have t1375_ : TR m1349_ := TR_le hT (by omega) (funext (fun s_ => by rw [p1351_.2.2 2 s_ (outc rfl), p1297_.2.2 2 s_ (outc rfl)])) (funext (fun s_ => by rw [p1351_.2.2 84 s_ (outc rfl), p1297_.2.2 84 s_ (outc rfl)]))
              refine T_ql (i_add rfl l_7 (by omega) (by omega)) ?_
              intro x1377_ h1378_
              exact ih j r hj hr hjr x1377_ m1349_ (by omega) (by omega) g1350_ q1369_ q1370_ q1371_ q1372_ q1373_ q1374_ t1375_ d1365_ l1366_ tw1367_ tx1368_ (by omega)
          · refine T_qg (i_add rfl l_5 (by omega) (by omega)) (by omega) (by omega) ?_
            refine T_eq rfl l_0 (fun c1379_ => ?_) (fun c1379_ => ?_)
            · refine T_qg (i_add rfl l_6 (by omega) (by omega)) (by omega) (by omega) ?_
              refine T_qcE (t_X12_game hn _ _ _ _ _ _ m1295_ g1296_ (by decide) (by decide)) ?_
              intro r1380_ m1381_ e1384_ p1383_
              have g1382_ := p1383_.2.1
              have f1385_ : (m1381_ 1 1).toInt = (m1295_ 1 1).toInt := by rw [p1383_.2.2 1 1 (by decide)]
              have f1386_ : (m1381_ 77 8).toInt = (m1295_ 77 8).toInt := by rw [p1383_.2.2 77 8 (by decide)]
              have f1387_ : (m1381_ 7 8).toInt = (m1295_ 7 8).toInt := by rw [p1383_.2.2 7 8 (by decide)]
              have f1388_ : (m1381_ 78 312).toInt = (m1295_ 78 312).toInt := by rw [p1383_.2.2 78 312 (by decide)]
              have f1389_ : (m1381_ 16 8).toInt = (m1295_ 16 8).toInt := by rw [p1383_.2.2 16 8 (by decide)]
              have f1390_ : (m1381_ 80 312).toInt = (m1295_ 80 312).toInt := by rw [p1383_.2.2 80 312 (by decide)]
              have f1391_ : (m1381_ 0 12).toInt = (m1295_ 0 12).toInt := by rw [p1383_.2.2 0 12 (by decide)]
              have f1392_ : (m1381_ 77 67).toInt = (m1295_ 77 67).toInt := by rw [p1383_.2.2 77 67 (by decide)]
              have f1393_ : (m1381_ 7 9).toInt = (m1295_ 7 9).toInt := by rw [p1383_.2.2 7 9 (by decide)]
              have f1394_ : (m1381_ 78 313).toInt = (m1295_ 78 313).toInt := by rw [p1383_.2.2 78 313 (by decide)]
              have f1395_ : (m1381_ 16 9).toInt = (m1295_ 16 9).toInt := by rw [p1383_.2.2 16 9 (by decide)]
              have f1396_ : (m1381_ 80 313).toInt = (m1295_ 80 313).toInt := by rw [p1383_.2.2 80 313 (by decide)]
              have d1397_ : KD m1381_ m1381_ := KD_S d1311_ (p1383_.2.2) (p1383_.2.2 3 3 (by decide)) (p1383_.2.2 77 6 (by decide)) rfl
              have l1398_ : LR j m1381_ m1381_ := LR_S hj l1312_ (p1383_.2.2) rfl rfl (p1383_.2.2 77 17 (by decide))
              have tw1399_ : TN 7 78 m1381_ m1381_ := TN_S tw1313_ (p1383_.2.2) rfl rfl
              have tx1400_ : m1381_ 0 12 ≠ 0 → TN 16 80 m1381_ m1381_ := KX_S tx1314_ (p1383_.2.2) (p1383_.2.2 0 12 (by decide)) rfl rfl
              have q1401_ : (m1381_ 1 1).toInt = (m1381_ 77 8).toInt := by omega
              have q1402_ : (m1381_ 7 8).toInt = (m1381_ 78 312).toInt := by omega
              have q1403_ : (m1381_ 16 8).toInt = (m1381_ 80 312).toInt := by omega
              have q1404_ : (m1381_ 0 12).toInt = (m1381_ 77 67).toInt := by omega
              have q1405_ : (m1381_ 7 9).toInt = (m1381_ 78 313).toInt := by omega
              have q1406_ : (m1381_ 16 9).toInt = (m1381_ 80 313).toInt := by omega
              have f1408_ := r_1_1 hG
              have t1407_ : TR m1381_ := TR_le hT (by omega) (funext (fun s_ => by rw [p1383_.2.2 2 s_ (outc rfl), p1297_.2.2 2 s_ (outc rfl)])) (funext (fun s_ => by rw [p1383_.2.2 84 s_ (outc rfl), p1297_.2.2 84 s_ (outc rfl)]))
              refine T_ql (i_add rfl l_7 (by omega) (by omega)) ?_
              intro x1409_ h1410_
              exact ih j r hj hr hjr x1409_ m1381_ (by omega) (by omega) g1382_ q1401_ q1402_ q1403_ q1404_ q1405_ q1406_ t1407_ d1397_ l1398_ tw1399_ tx1400_ (by omega)
            · refine T_qg (i_add rfl l_6 (by omega) (by omega)) (by omega) (by omega) ?_
              refine T_qcE (t_X12_game hn _ _ _ _ _ _ m1295_ g1296_ (by decide) (by decide)) ?_
              intro r1411_ m1412_ e1415_ p1414_
              have g1413_ := p1414_.2.1
              have f1416_ : (m1412_ 1 1).toInt = (m1295_ 1 1).toInt := by rw [p1414_.2.2 1 1 (by decide)]
              have f1417_ : (m1412_ 77 8).toInt = (m1295_ 77 8).toInt := by rw [p1414_.2.2 77 8 (by decide)]
              have f1418_ : (m1412_ 7 8).toInt = (m1295_ 7 8).toInt := by rw [p1414_.2.2 7 8 (by decide)]
              have f1419_ : (m1412_ 78 312).toInt = (m1295_ 78 312).toInt := by rw [p1414_.2.2 78 312 (by decide)]
              have f1420_ : (m1412_ 16 8).toInt = (m1295_ 16 8).toInt := by rw [p1414_.2.2 16 8 (by decide)]
              have f1421_ : (m1412_ 80 312).toInt = (m1295_ 80 312).toInt := by rw [p1414_.2.2 80 312 (by decide)]
              have f1422_ : (m1412_ 0 12).toInt = (m1295_ 0 12).toInt := by rw [p1414_.2.2 0 12 (by decide)]
              have f1423_ : (m1412_ 77 67).toInt = (m1295_ 77 67).toInt := by rw [p1414_.2.2 77 67 (by decide)]
              have f1424_ : (m1412_ 7 9).toInt = (m1295_ 7 9).toInt := by rw [p1414_.2.2 7 9 (by decide)]
              have f1425_ : (m1412_ 78 313).toInt = (m1295_ 78 313).toInt := by rw [p1414_.2.2 78 313 (by decide)]
              have f1426_ : (m1412_ 16 9).toInt = (m1295_ 16 9).toInt := by rw [p1414_.2.2 16 9 (by decide)]
              have f1427_ : (m1412_ 80 313).toInt = (m1295_ 80 313).toInt := by rw [p1414_.2.2 80 313 (by decide)]
              have d1428_ : KD m1412_ m1412_ := KD_S d1311_ (p1414_.2.2) (p1414_.2.2 3 3 (by decide)) (p1414_.2.2 77 6 (by decide)) rfl
              have l1429_ : LR j m1412_ m1412_ := LR_S hj l1312_ (p1414_.2.2) rfl rfl (p1414_.2.2 77 17 (by decide))
              have tw1430_ : TN 7 78 m1412_ m1412_ := TN_S tw1313_ (p1414_.2.2) rfl rfl
              have tx1431_ : m1412_ 0 12 ≠ 0 → TN 16 80 m1412_ m1412_ := KX_S tx1314_ (p1414_.2.2) (p1414_.2.2 0 12 (by decide)) rfl rfl
              have q1432_ : (m1412_ 1 1).toInt = (m1412_ 77 8).toInt := by omega
              have q1433_ : (m1412_ 7 8).toInt = (m1412_ 78 312).toInt := by omega
              have q1434_ : (m1412_ 16 8).toInt = (m1412_ 80 312).toInt := by omega
              have q1435_ : (m1412_ 0 12).toInt = (m1412_ 77 67).toInt := by omega
              have q1436_ : (m1412_ 7 9).toInt = (m1412_ 78 313).toInt := by omega
              have q1437_ : (m1412_ 16 9).toInt = (m1412_ 80 313).toInt := by omega
              have f1439_ := r_1_1 hG
              have t1438_ : TR m1412_ := TR_le hT (by omega) (funext (fun s_ => by rw [p1414_.2.2 2 s_ (outc rfl), p1297_.2.2 2 s_ (outc rfl)])) (funext (fun s_ => by rw [p1414_.2.2 84 s_ (outc rfl), p1297_.2.2 84 s_ (outc rfl)]))
              refine T_ql (i_add rfl l_7 (by omega) (by omega)) ?_
              intro x1440_ h1441_
              exact ih j r hj hr hjr x1440_ m1412_ (by omega) (by omega) g1413_ q1432_ q1433_ q1434_ q1435_ q1436_ q1437_ t1438_ d1428_ l1429_ tw1430_ tx1431_ (by omega)
        · refine T_qg (i_add rfl l_6 (by omega) (by omega)) (by omega) (by omega) ?_
          refine T_qcE (t_X11_game hn _ _ _ _ _ _ M hG (by decide) (by decide)) ?_
          intro r1442_ m1443_ e1446_ p1445_
          have g1444_ := p1445_.2.1
          have f1447_ : (m1443_ 1 1).toInt = (M 1 1).toInt := by rw [p1445_.2.2 1 1 (by decide)]
          have f1448_ : (m1443_ 77 8).toInt = (M 77 8).toInt := by rw [p1445_.2.2 77 8 (by decide)]
          have f1449_ : (m1443_ 7 8).toInt = (M 7 8).toInt := by rw [p1445_.2.2 7 8 (by decide)]
          have f1450_ : (m1443_ 78 312).toInt = (M 78 312).toInt := by rw [p1445_.2.2 78 312 (by decide)]
          have f1451_ : (m1443_ 16 8).toInt = (M 16 8).toInt := by rw [p1445_.2.2 16 8 (by decide)]
          have f1452_ : (m1443_ 80 312).toInt = (M 80 312).toInt := by rw [p1445_.2.2 80 312 (by decide)]
          have f1453_ : (m1443_ 0 12).toInt = (M 0 12).toInt := by rw [p1445_.2.2 0 12 (by decide)]
          have f1454_ : (m1443_ 77 67).toInt = (M 77 67).toInt := by rw [p1445_.2.2 77 67 (by decide)]
          have f1455_ : (m1443_ 7 9).toInt = (M 7 9).toInt := by rw [p1445_.2.2 7 9 (by decide)]
          have f1456_ : (m1443_ 78 313).toInt = (M 78 313).toInt := by rw [p1445_.2.2 78 313 (by decide)]
          have f1457_ : (m1443_ 16 9).toInt = (M 16 9).toInt := by rw [p1445_.2.2 16 9 (by decide)]
          have f1458_ : (m1443_ 80 313).toInt = (M 80 313).toInt := by rw [p1445_.2.2 80 313 (by decide)]
          have d1459_ : KD m1443_ m1443_ := KD_S hD (p1445_.2.2) (p1445_.2.2 3 3 (by decide)) (p1445_.2.2 77 6 (by decide)) rfl
          have l1460_ : LR j m1443_ m1443_ := LR_S hj hL (p1445_.2.2) rfl rfl (p1445_.2.2 77 17 (by decide))
          have tw1461_ : TN 7 78 m1443_ m1443_ := TN_S hW (p1445_.2.2) rfl rfl
          have tx1462_ : m1443_ 0 12 ≠ 0 → TN 16 80 m1443_ m1443_ := KX_S hX (p1445_.2.2) (p1445_.2.2 0 12 (by decide)) rfl rfl
          refine T_qg (i_add rfl l_1 (by omega) (by omega)) (by omega) (by omega) ?_
          refine T_qg (i_add rfl l_2 (by omega) (by omega)) (by omega) (by omega) ?_
          refine T_qg (i_add rfl l_3 (by omega) (by omega)) (by omega) (by omega) ?_
          refine T_qg (i_add rfl l_4 (by omega) (by omega)) (by omega) (by omega) ?_
          refine T_eq rfl l_0 (fun c1463_ => ?_) (fun c1463_ => ?_)
          · refine T_qg (i_add rfl l_5 (by omega) (by omega)) (by omega) (by omega) ?_
            refine T_eq rfl l_0 (fun c1464_ => ?_) (fun c1464_ => ?_)
            · refine T_qg (i_add rfl l_6 (by omega) (by omega)) (by omega) (by omega) ?_
              refine T_qcE (t_X12_game hn _ _ _ _ _ _ m1443_ g1444_ (by decide) (by decide)) ?_
              intro r1465_ m1466_ e1469_ p1468_
              have g1467_ := p1468_.2.1
              have f1470_ : (m1466_ 1 1).toInt = (m1443_ 1 1).toInt := by rw [p1468_.2.2 1 1 (by decide)]
              have f1471_ : (m1466_ 77 8).toInt = (m1443_ 77 8).toInt := by rw [p1468_.2.2 77 8 (by decide)]
              have f1472_ : (m1466_ 7 8).toInt = (m1443_ 7 8).toInt := by rw [p1468_.2.2 7 8 (by decide)]
              have f1473_ : (m1466_ 78 312).toInt = (m1443_ 78 312).toInt := by rw [p1468_.2.2 78 312 (by decide)]
              have f1474_ : (m1466_ 16 8).toInt = (m1443_ 16 8).toInt := by rw [p1468_.2.2 16 8 (by decide)]
              have f1475_ : (m1466_ 80 312).toInt = (m1443_ 80 312).toInt := by rw [p1468_.2.2 80 312 (by decide)]
              have f1476_ : (m1466_ 0 12).toInt = (m1443_ 0 12).toInt := by rw [p1468_.2.2 0 12 (by decide)]
              have f1477_ : (m1466_ 77 67).toInt = (m1443_ 77 67).toInt := by rw [p1468_.2.2 77 67 (by decide)]
              have f1478_ : (m1466_ 7 9).toInt = (m1443_ 7 9).toInt := by rw [p1468_.2.2 7 9 (by decide)]
              have f1479_ : (m1466_ 78 313).toInt = (m1443_ 78 313).toInt := by rw [p1468_.2.2 78 313 (by decide)]
              have f1480_ : (m1466_ 16 9).toInt = (m1443_ 16 9).toInt := by rw [p1468_.2.2 16 9 (by decide)]
              have f1481_ : (m1466_ 80 313).toInt = (m1443_ 80 313).toInt := by rw [p1468_.2.2 80 313 (by decide)]
              have d1482_ : KD m1466_ m1466_ := KD_S d1459_ (p1468_.2.2) (p1468_.2.2 3 3 (by decide)) (p1468_.2.2 77 6 (by decide)) rfl
              have l1483_ : LR j m1466_ m1466_ := LR_S hj l1460_ (p1468_.2.2) rfl rfl (p1468_.2.2 77 17 (by decide))
              have tw1484_ : TN 7 78 m1466_ m1466_ := TN_S tw1461_ (p1468_.2.2) rfl rfl
              have tx1485_ : m1466_ 0 12 ≠ 0 → TN 16 80 m1466_ m1466_ := KX_S tx1462_ (p1468_.2.2) (p1468_.2.2 0 12 (by decide)) rfl rfl
              have q1486_ : (m1466_ 1 1).toInt = (m1466_ 77 8).toInt := by omega
              have q1487_ : (m1466_ 7 8).toInt = (m1466_ 78 312).toInt := by omega
              have q1488_ : (m1466_ 16 8).toInt = (m1466_ 80 312).toInt := by omega
              have q1489_ : (m1466_ 0 12).toInt = (m1466_ 77 67).toInt := by omega
              have q1490_ : (m1466_ 7 9).toInt = (m1466_ 78 313).toInt := by omega
              have q1491_ : (m1466_ 16 9).toInt = (m1466_ 80 313).toInt := by omega
              have f1493_ := r_1_1 hG
              have t1492_ : TR m1466_ := TR_le hT (by omega) (funext (fun s_ => by rw [p1468_.2.2 2 s_ (outc rfl), p1445_.2.2 2 s_ (outc rfl)])) (funext (fun s_ => by rw [p1468_.2.2 84 s_ (outc rfl), p1445_.2.2 84 s_ (outc rfl)]))
              refine T_ql (i_add rfl l_7 (by omega) (by omega)) ?_
              intro x1494_ h1495_
              exact ih j r hj hr hjr x1494_ m1466_ (by omega) (by omega) g1467_ q1486_ q1487_ q1488_ q1489_ q1490_ q1491_ t1492_ d1482_ l1483_ tw1484_ tx1485_ (by omega)
            · refine T_qg (i_add rfl l_6 (by omega) (by omega)) (by omega) (by omega) ?_
              refine T_qcE (t_X12_game hn _ _ _ _ _ _ m1443_ g1444_ (by decide) (by decide)) ?_
              intro r1496_ m1497_ e1500_ p1499_
              have g1498_ := p1499_.2.1
              have f1501_ : (m1497_ 1 1).toInt = (m1443_ 1 1).toInt := by rw [p1499_.2.2 1 1 (by decide)]
              have f1502_ : (m1497_ 77 8).toInt = (m1443_ 77 8).toInt := by rw [p1499_.2.2 77 8 (by decide)]
              have f1503_ : (m1497_ 7 8).toInt = (m1443_ 7 8).toInt := by rw [p1499_.2.2 7 8 (by decide)]
              have f1504_ : (m1497_ 78 312).toInt = (m1443_ 78 312).toInt := by rw [p1499_.2.2 78 312 (by decide)]
              have f1505_ : (m1497_ 16 8).toInt = (m1443_ 16 8).toInt := by rw [p1499_.2.2 16 8 (by decide)]
              have f1506_ : (m1497_ 80 312).toInt = (m1443_ 80 312).toInt := by rw [p1499_.2.2 80 312 (by decide)]
              have f1507_ : (m1497_ 0 12).toInt = (m1443_ 0 12).toInt := by rw [p1499_.2.2 0 12 (by decide)]
              have f1508_ : (m1497_ 77 67).toInt = (m1443_ 77 67).toInt := by rw [p1499_.2.2 77 67 (by decide)]
              have f1509_ : (m1497_ 7 9).toInt = (m1443_ 7 9).toInt := by rw [p1499_.2.2 7 9 (by decide)]
              have f1510_ : (m1497_ 78 313).toInt = (m1443_ 78 313).toInt := by rw [p1499_.2.2 78 313 (by decide)]
              have f1511_ : (m1497_ 16 9).toInt = (m1443_ 16 9).toInt := by rw [p1499_.2.2 16 9 (by decide)]
              have f1512_ : (m1497_ 80 313).toInt = (m1443_ 80 313).toInt := by rw [p1499_.2.2 80 313 (by decide)]
              have d1513_ : KD m1497_ m1497_ := KD_S d1459_ (p1499_.2.2) (p1499_.2.2 3 3 (by decide)) (p1499_.2.2 77 6 (by decide)) rfl
              have l1514_ : LR j m1497_ m1497_ := LR_S hj l1460_ (p1499_.2.2) rfl rfl (p1499_.2.2 77 17 (by decide))
              have tw1515_ : TN 7 78 m1497_ m1497_ := TN_S tw1461_ (p1499_.2.2) rfl rfl
              have tx1516_ : m1497_ 0 12 ≠ 0 → TN 16 80 m1497_ m1497_ := KX_S tx1462_ (p1499_.2.2) (p1499_.2.2 0 12 (by decide)) rfl rfl
              have q1517_ : (m1497_ 1 1).toInt = (m1497_ 77 8).toInt := by omega
              have q1518_ : (m1497_ 7 8).toInt = (m1497_ 78 312).toInt := by omega
              have q1519_ : (m1497_ 16 8).toInt = (m1497_ 80 312).toInt := by omega
              have q1520_ : (m1497_ 0 12).toInt = (m1497_ 77 67).toInt := by omega
              have q1521_ : (m1497_ 7 9).toInt = (m1497_ 78 313).toInt := by omega
              have q1522_ : (m1497_ 16 9).toInt = (m1497_ 80 313).toInt := by omega
              have f1524_ := r_1_1 hG
              have t1523_ : TR m1497_ := TR_le hT (by omega) (funext (fun s_ => by rw [p1499_.2.2 2 s_ (outc rfl), p1445_.2.2 2 s_ (outc rfl)])) (funext (fun s_ => by rw [p1499_.2.2 84 s_ (outc rfl), p1445_.2.2 84 s_ (outc rfl)]))
              refine T_ql (i_add rfl l_7 (by omega) (by omega)) ?_
              intro x1525_ h1526_
              exact ih j r hj hr hjr x1525_ m1497_ (by omega) (by omega) g1498_ q1517_ q1518_ q1519_ q1520_ q1521_ q1522_ t1523_ d1513_ l1514_ tw1515_ tx1516_ (by omega)
          · refine T_qg (i_add rfl l_5 (by omega) (by omega)) (by omega) (by omega) ?_
            refine T_eq rfl l_0 (fun c1527_ => ?_) (fun c1527_ => ?_)
            · refine T_qg (i_add rfl l_6 (by omega) (by omega)) (by omega) (by omega) ?_
              refine T_qcE (t_X12_game hn _ _ _ _ _ _ m1443_ g1444_ (by decide) (by decide)) ?_
              intro r1528_ m1529_ e1532_ p1531_
              have g1530_ := p1531_.2.1
              have f1533_ : (m1529_ 1 1).toInt = (m1443_ 1 1).toInt := by rw [p1531_.2.2 1 1 (by decide)]
              have f1534_ : (m1529_ 77 8).toInt = (m1443_ 77 8).toInt := by rw [p1531_.2.2 77 8 (by decide)]
              have f1535_ : (m1529_ 7 8).toInt = (m1443_ 7 8).toInt := by rw [p1531_.2.2 7 8 (by decide)]
              have f1536_ : (m1529_ 78 312).toInt = (m1443_ 78 312).toInt := by rw [p1531_.2.2 78 312 (by decide)]
              have f1537_ : (m1529_ 16 8).toInt = (m1443_ 16 8).toInt := by rw [p1531_.2.2 16 8 (by decide)]
              have f1538_ : (m1529_ 80 312).toInt = (m1443_ 80 312).toInt := by rw [p1531_.2.2 80 312 (by decide)]
              have f1539_ : (m1529_ 0 12).toInt = (m1443_ 0 12).toInt := by rw [p1531_.2.2 0 12 (by decide)]
              have f1540_ : (m1529_ 77 67).toInt = (m1443_ 77 67).toInt := by rw [p1531_.2.2 77 67 (by decide)]
              have f1541_ : (m1529_ 7 9).toInt = (m1443_ 7 9).toInt := by rw [p1531_.2.2 7 9 (by decide)]
              have f1542_ : (m1529_ 78 313).toInt = (m1443_ 78 313).toInt := by rw [p1531_.2.2 78 313 (by decide)]
              have f1543_ : (m1529_ 16 9).toInt = (m1443_ 16 9).toInt := by rw [p1531_.2.2 16 9 (by decide)]
              have f1544_ : (m1529_ 80 313).toInt = (m1443_ 80 313).toInt := by rw [p1531_.2.2 80 313 (by decide)]
              have d1545_ : KD m1529_ m1529_ := KD_S d1459_ (p1531_.2.2) (p1531_.2.2 3 3 (by decide)) (p1531_.2.2 77 6 (by decide)) rfl
              have l1546_ : LR j m1529_ m1529_ := LR_S hj l1460_ (p1531_.2.2) rfl rfl (p1531_.2.2 77 17 (by decide))
              have tw1547_ : TN 7 78 m1529_ m1529_ := TN_S tw1461_ (p1531_.2.2) rfl rfl
              have tx1548_ : m1529_ 0 12 ≠ 0 → TN 16 80 m1529_ m1529_ := KX_S tx1462_ (p1531_.2.2) (p1531_.2.2 0 12 (by decide)) rfl rfl
              have q1549_ : (m1529_ 1 1).toInt = (m1529_ 77 8).toInt := by omega
              have q1550_ : (m1529_ 7 8).toInt = (m1529_ 78 312).toInt := by omega
              have q1551_ : (m1529_ 16 8).toInt = (m1529_ 80 312).toInt := by omega
              have q1552_ : (m1529_ 0 12).toInt = (m1529_ 77 67).toInt := by omega
              have q1553_ : (m1529_ 7 9).toInt = (m1529_ 78 313).toInt := by omega
              have q1554_ : (m1529_ 16 9).toInt = (m1529_ 80 313).toInt := by omega
              have f1556_ := r_1_1 hG
              have t1555_ : TR m1529_ := TR_le hT (by omega) (funext (fun s_ => by rw [p1531_.2.2 2 s_ (outc rfl), p1445_.2.2 2 s_ (outc rfl)])) (funext (fun s_ => by rw [p1531_.2.2 84 s_ (outc rfl), p1445_.2.2 84 s_ (outc rfl)]))
              refine T_ql (i_add rfl l_7 (by omega) (by omega)) ?_
              intro x1557_ h1558_
              exact ih j r hj hr hjr x1557_ m1529_ (by omega) (by omega) g1530_ q1549_ q1550_ q1551_ q1552_ q1553_ q1554_ t1555_ d1545_ l1546_ tw1547_ tx1548_ (by omega)
            · refine T_qg (i_add rfl l_6 (by omega) (by omega)) (by omega) (by omega) ?_
              refine T_qcE (t_X12_game hn _ _ _ _ _ _ m1443_ g1444_ (by decide) (by decide)) ?_
              intro r1559_ m1560_ e1563_ p1562_
              have g1561_ := p1562_.2.1
              have f1564_ : (m1560_ 1 1).toInt = (m1443_ 1 1).toInt := by rw [p1562_.2.2 1 1 (by decide)]
              have f1565_ : (m1560_ 77 8).toInt = (m1443_ 77 8).toInt := by rw [p1562_.2.2 77 8 (by decide)]
              have f1566_ : (m1560_ 7 8).toInt = (m1443_ 7 8).toInt := by rw [p1562_.2.2 7 8 (by decide)]
              have f1567_ : (m1560_ 78 312).toInt = (m1443_ 78 312).toInt := by rw [p1562_.2.2 78 312 (by decide)]
              have f1568_ : (m1560_ 16 8).toInt = (m1443_ 16 8).toInt := by rw [p1562_.2.2 16 8 (by decide)]
              have f1569_ : (m1560_ 80 312).toInt = (m1443_ 80 312).toInt := by rw [p1562_.2.2 80 312 (by decide)]
              have f1570_ : (m1560_ 0 12).toInt = (m1443_ 0 12).toInt := by rw [p1562_.2.2 0 12 (by decide)]
              have f1571_ : (m1560_ 77 67).toInt = (m1443_ 77 67).toInt := by rw [p1562_.2.2 77 67 (by decide)]
              have f1572_ : (m1560_ 7 9).toInt = (m1443_ 7 9).toInt := by rw [p1562_.2.2 7 9 (by decide)]
              have f1573_ : (m1560_ 78 313).toInt = (m1443_ 78 313).toInt := by rw [p1562_.2.2 78 313 (by decide)]
              have f1574_ : (m1560_ 16 9).toInt = (m1443_ 16 9).toInt := by rw [p1562_.2.2 16 9 (by decide)]
              have f1575_ : (m1560_ 80 313).toInt = (m1443_ 80 313).toInt := by rw [p1562_.2.2 80 313 (by decide)]
              have d1576_ : KD m1560_ m1560_ := KD_S d1459_ (p1562_.2.2) (p1562_.2.2 3 3 (by decide)) (p1562_.2.2 77 6 (by decide)) rfl
              have l1577_ : LR j m1560_ m1560_ := LR_S hj l1460_ (p1562_.2.2) rfl rfl (p1562_.2.2 77 17 (by decide))
              have tw1578_ : TN 7 78 m1560_ m1560_ := TN_S tw1461_ (p1562_.2.2) rfl rfl
              have tx1579_ : m1560_ 0 12 ≠ 0 → TN 16 80 m1560_ m1560_ := KX_S tx1462_ (p1562_.2.2) (p1562_.2.2 0 12 (by decide)) rfl rfl
              have q1580_ : (m1560_ 1 1).toInt = (m1560_ 77 8).toInt := by omega
              have q1581_ : (m1560_ 7 8).toInt = (m1560_ 78 312).toInt := by omega
              have q1582_ : (m1560_ 16 8).toInt = (m1560_ 80 312).toInt := by omega
              have q1583_ : (m1560_ 0 12).toInt = (m1560_ 77 67).toInt := by omega
              have q1584_ : (m1560_ 7 9).toInt = (m1560_ 78 313).toInt := by omega
              have q1585_ : (m1560_ 16 9).toInt = (m1560_ 80 313).toInt := by omega
              have f1587_ := r_1_1 hG
              have t1586_ : TR m1560_ := TR_le hT (by omega) (funext (fun s_ => by rw [p1562_.2.2 2 s_ (outc rfl), p1445_.2.2 2 s_ (outc rfl)])) (funext (fun s_ => by rw [p1562_.2.2 84 s_ (outc rfl), p1445_.2.2 84 s_ (outc rfl)]))
              refine T_ql (i_add rfl l_7 (by omega) (by omega)) ?_
              intro x1588_ h1589_
              exact ih j r hj hr hjr x1588_ m1560_ (by omega) (by omega) g1561_ q1580_ q1581_ q1582_ q1583_ q1584_ q1585_ t1586_ d1576_ l1577_ tw1578_ tx1579_ (by omega)
    refine T_sw rfl l_19 (fun s1590_ => ?_) (fun s1590_ => ?_)
    · refine T_qg (i_add rfl l_1 (by omega) (by omega)) (by omega) (by omega) ?_
      refine T_qg (i_add rfl l_2 (by omega) (by omega)) (by omega) (by omega) ?_
      refine T_qg (i_add rfl l_3 (by omega) (by omega)) (by omega) (by omega) ?_
      refine T_qg (i_add rfl l_4 (by omega) (by omega)) (by omega) (by omega) ?_
      refine T_qg (i_add rfl l_5 (by omega) (by omega)) (by omega) (by omega) ?_
      refine T_qg (i_add rfl l_6 (by omega) (by omega)) (by omega) (by omega) ?_
      refine T_qcE (t_X11_court hn _ _ _ _ _ _ M hG) ?_
      intro r1591_ m1592_ e1595_ p1594_
      have g1593_ := p1594_.2.1
      have f1596_ : (m1592_ 1 1).toInt = (M 1 1).toInt := by rw [p1594_.2.2 1 1 (by decide)]
      have f1597_ : (m1592_ 77 8).toInt = (M 77 8).toInt := by rw [p1594_.2.2 77 8 (by decide)]
      have f1598_ : (m1592_ 7 8).toInt = (M 7 8).toInt := by rw [p1594_.2.2 7 8 (by decide)]
      have f1599_ : (m1592_ 78 312).toInt = (M 78 312).toInt := by rw [p1594_.2.2 78 312 (by decide)]
      have f1600_ : (m1592_ 16 8).toInt = (M 16 8).toInt := by rw [p1594_.2.2 16 8 (by decide)]
      have f1601_ : (m1592_ 80 312).toInt = (M 80 312).toInt := by rw [p1594_.2.2 80 312 (by decide)]
      have f1602_ : (m1592_ 0 12).toInt = (M 0 12).toInt := by rw [p1594_.2.2 0 12 (by decide)]
      have f1603_ : (m1592_ 77 67).toInt = (M 77 67).toInt := by rw [p1594_.2.2 77 67 (by decide)]
      have f1604_ : (m1592_ 7 9).toInt = (M 7 9).toInt := by rw [p1594_.2.2 7 9 (by decide)]
      have f1605_ : (m1592_ 78 313).toInt = (M 78 313).toInt := by rw [p1594_.2.2 78 313 (by decide)]
      have f1606_ : (m1592_ 16 9).toInt = (M 16 9).toInt := by rw [p1594_.2.2 16 9 (by decide)]
      have f1607_ : (m1592_ 80 313).toInt = (M 80 313).toInt := by rw [p1594_.2.2 80 313 (by decide)]
      have d1608_ : KD m1592_ m1592_ := KD_S hD (p1594_.2.2) (p1594_.2.2 3 3 (by decide)) (p1594_.2.2 77 6 (by decide)) rfl
      have l1609_ : LR j m1592_ m1592_ := LR_S hj hL (p1594_.2.2) rfl rfl (p1594_.2.2 77 17 (by decide))
      have tw1610_ : TN 7 78 m1592_ m1592_ := TN_S hW (p1594_.2.2) rfl rfl
      have tx1611_ : m1592_ 0 12 ≠ 0 → TN 16 80 m1592_ m1592_ := KX_S hX (p1594_.2.2) (p1594_.2.2 0 12 (by decide)) rfl rfl
      refine T_qg (i_add rfl l_1 (by omega) (by omega)) (by omega) (by omega) ?_
      refine T_qg (i_add rfl l_2 (by omega) (by omega)) (by omega) (by omega) ?_
      refine T_qg (i_add rfl l_3 (by omega) (by omega)) (by omega) (by omega) ?_
      refine T_qg (i_add rfl l_4 (by omega) (by omega)) (by omega) (by omega) ?_
      refine T_qg (i_add rfl l_5 (by omega) (by omega)) (by omega) (by omega) ?_
      refine T_qg (i_add rfl l_6 (by omega) (by omega)) (by omega) (by omega) ?_
      refine T_qcE (t_X12_court hn _ _ _ _ _ _ m1592_ g1593_) ?_
      intro r1612_ m1613_ e1616_ p1615_
      have g1614_ := p1615_.2.1
      have f1617_ : (m1613_ 1 1).toInt = (m1592_ 1 1).toInt := by rw [p1615_.2.2 1 1 (by decide)]
      have f1618_ : (m1613_ 77 8).toInt = (m1592_ 77 8).toInt := by rw [p1615_.2.2 77 8 (by decide)]
      have f1619_ : (m1613_ 7 8).toInt = (m1592_ 7 8).toInt := by rw [p1615_.2.2 7 8 (by decide)]
      have f1620_ : (m1613_ 78 312).toInt = (m1592_ 78 312).toInt := by rw [p1615_.2.2 78 312 (by decide)]
      have f1621_ : (m1613_ 16 8).toInt = (m1592_ 16 8).toInt := by rw [p1615_.2.2 16 8 (by decide)]
      have f1622_ : (m1613_ 80 312).toInt = (m1592_ 80 312).toInt := by rw [p1615_.2.2 80 312 (by decide)]
      have f1623_ : (m1613_ 0 12).toInt = (m1592_ 0 12).toInt := by rw [p1615_.2.2 0 12 (by decide)]
      have f1624_ : (m1613_ 77 67).toInt = (m1592_ 77 67).toInt := by rw [p1615_.2.2 77 67 (by decide)]
      have f1625_ : (m1613_ 7 9).toInt = (m1592_ 7 9).toInt := by rw [p1615_.2.2 7 9 (by decide)]
      have f1626_ : (m1613_ 78 313).toInt = (m1592_ 78 313).toInt := by rw [p1615_.2.2 78 313 (by decide)]
      have f1627_ : (m1613_ 16 9).toInt = (m1592_ 16 9).toInt := by rw [p1615_.2.2 16 9 (by decide)]
      have f1628_ : (m1613_ 80 313).toInt = (m1592_ 80 313).toInt := by rw [p1615_.2.2 80 313 (by decide)]
      have d1629_ : KD m1613_ m1613_ := KD_S d1608_ (p1615_.2.2) (p1615_.2.2 3 3 (by decide)) (p1615_.2.2 77 6 (by decide)) rfl
      have l1630_ : LR j m1613_ m1613_ := LR_S hj l1609_ (p1615_.2.2) rfl rfl (p1615_.2.2 77 17 (by decide))
      have tw1631_ : TN 7 78 m1613_ m1613_ := TN_S tw1610_ (p1615_.2.2) rfl rfl
      have tx1632_ : m1613_ 0 12 ≠ 0 → TN 16 80 m1613_ m1613_ := KX_S tx1611_ (p1615_.2.2) (p1615_.2.2 0 12 (by decide)) rfl rfl
      have q1633_ : (m1613_ 1 1).toInt = (m1613_ 77 8).toInt := by omega
      have q1634_ : (m1613_ 7 8).toInt = (m1613_ 78 312).toInt := by omega
      have q1635_ : (m1613_ 16 8).toInt = (m1613_ 80 312).toInt := by omega
      have q1636_ : (m1613_ 0 12).toInt = (m1613_ 77 67).toInt := by omega
      have q1637_ : (m1613_ 7 9).toInt = (m1613_ 78 313).toInt := by omega
      have q1638_ : (m1613_ 16 9).toInt = (m1613_ 80 313).toInt := by omega
      have f1640_ := r_1_1 hG
      have t1639_ : TR m1613_ := TR_le hT (by omega) (funext (fun s_ => by rw [p1615_.2.2 2 s_ (outc rfl), p1594_.2.2 2 s_ (outc rfl)])) (funext (fun s_ => by rw [p1615_.2.2 84 s_ (outc rfl), p1594_.2.2 84 s_ (outc rfl)]))
      refine T_ql (i_add rfl l_7 (by omega) (by omega)) ?_
      intro x1641_ h1642_
      exact ih j r hj hr hjr x1641_ m1613_ (by omega) (by omega) g1614_ q1633_ q1634_ q1635_ q1636_ q1637_ q1638_ t1639_ d1629_ l1630_ tw1631_ tx1632_ (by omega)
    refine T_sw rfl l_20 (fun s1643_ => ?_) (fun s1643_ => ?_)
    · refine T_qcE (t_X11_keep hn M hG) ?_
      intro r1644_ m1645_ e1648_ p1647_
      have g1646_ := p1647_.2.1
      have f1649_ : (m1645_ 1 1).toInt = (M 1 1).toInt := by rw [p1647_.2.2 1 1 (by decide)]
      have f1650_ : (m1645_ 77 8).toInt = (M 77 8).toInt := by rw [p1647_.2.2 77 8 (by decide)]
      have f1651_ : (m1645_ 7 8).toInt = (M 7 8).toInt := by rw [p1647_.2.2 7 8 (by decide)]
      have f1652_ : (m1645_ 78 312).toInt = (M 78 312).toInt := by rw [p1647_.2.2 78 312 (by decide)]
      have f1653_ : (m1645_ 80 312).toInt = (M 80 312).toInt := by rw [p1647_.2.2 80 312 (by decide)]
      have f1654_ : (m1645_ 77 67).toInt = (M 77 67).toInt := by rw [p1647_.2.2 77 67 (by decide)]
      have f1655_ : (m1645_ 7 9).toInt = (M 7 9).toInt := by rw [p1647_.2.2 7 9 (by decide)]
      have f1656_ : (m1645_ 78 313).toInt = (M 78 313).toInt := by rw [p1647_.2.2 78 313 (by decide)]
      have f1657_ : (m1645_ 80 313).toInt = (M 80 313).toInt := by rw [p1647_.2.2 80 313 (by decide)]
      have w1658_ := p1647_.1
      have d1659_ : KD m1645_ m1645_ := KD_S hD (p1647_.2.2) (p1647_.2.2 3 3 (by decide)) (p1647_.2.2 77 6 (by decide)) rfl
      have l1660_ : LR j m1645_ m1645_ := LR_S hj hL (p1647_.2.2) rfl rfl (p1647_.2.2 77 17 (by decide))
      refine T_qcE (t_X12_keep hn m1645_ g1646_) ?_
      intro r1661_ m1662_ e1665_ p1664_
      have g1663_ := p1664_.2.1
      have f1666_ : (m1662_ 1 1).toInt = (m1645_ 1 1).toInt := by rw [p1664_.2.2 1 1 (by decide)]
      have f1667_ : (m1662_ 77 8).toInt = (m1645_ 77 8).toInt := by rw [p1664_.2.2 77 8 (by decide)]
      have f1668_ : (m1662_ 7 8).toInt = (m1645_ 7 8).toInt := by rw [p1664_.2.2 7 8 (by decide)]
      have f1669_ : (m1662_ 78 312).toInt = (m1645_ 78 312).toInt := by rw [p1664_.2.2 78 312 (by decide)]
      have f1670_ : (m1662_ 16 8).toInt = (m1645_ 16 8).toInt := by rw [p1664_.2.2 16 8 (by decide)]
      have f1671_ : (m1662_ 0 12).toInt = (m1645_ 0 12).toInt := by rw [p1664_.2.2 0 12 (by decide)]
      have f1672_ : (m1662_ 7 9).toInt = (m1645_ 7 9).toInt := by rw [p1664_.2.2 7 9 (by decide)]
      have f1673_ : (m1662_ 78 313).toInt = (m1645_ 78 313).toInt := by rw [p1664_.2.2 78 313 (by decide)]
      have f1674_ : (m1662_ 16 9).toInt = (m1645_ 16 9).toInt := by rw [p1664_.2.2 16 9 (by decide)]
      have w1675_ := p1664_.1
      have d1676_ : KD m1662_ m1662_ := KD_S d1659_ (p1664_.2.2) (p1664_.2.2 3 3 (by decide)) (p1664_.2.2 77 6 (by decide)) rfl
      have l1677_ : LR j m1662_ m1662_ := LR_S hj l1660_ (p1664_.2.2) rfl rfl (p1664_.2.2 77 17 (by decide))
      have q1678_ : (m1662_ 1 1).toInt = (m1662_ 77 8).toInt := by omega
      have q1679_ : (m1662_ 7 8).toInt = (m1662_ 78 312).toInt := by omega
      have q1680_ : (m1662_ 16 8).toInt = (m1662_ 80 312).toInt := by omega
      have q1681_ : (m1662_ 0 12).toInt = (m1662_ 77 67).toInt := by omega
      have q1682_ : (m1662_ 7 9).toInt = (m1662_ 78 313).toInt := by omega
      have q1683_ : (m1662_ 16 9).toInt = (m1662_ 80 313).toInt := by omega
      have f1685_ := r_1_1 hG
      have t1684_ : TR m1662_ := TR_le hT (by omega) (funext (fun s_ => by rw [p1664_.2.2 2 s_ (outc rfl), p1647_.2.2 2 s_ (outc rfl)])) (funext (fun s_ => by rw [p1664_.2.2 84 s_ (outc rfl), p1647_.2.2 84 s_ (outc rfl)]))
      have wk1686_ := keep_st hW (fun c_ hc_ => funext (fun s_ => p1647_.2.2 c_ s_ (out77 hc_ rfl))) e1648_ e1665_
      have tw1687_ := wk1686_.2.1
      have tx1688_ : m1662_ 0 12 ≠ 0 → TN 16 80 m1662_ m1662_ := fun _ => wk1686_.2.2
      refine T_ql (i_add rfl l_7 (by omega) (by omega)) ?_
      intro x1689_ h1690_
      exact ih j r hj hr hjr x1689_ m1662_ (by omega) (by omega) g1663_ q1678_ q1679_ q1680_ q1681_ q1682_ q1683_ t1684_ d1676_ l1677_ tw1687_ tx1688_ (by omega)
    refine T_sw rfl l_21 (fun s1691_ => ?_) (fun s1691_ => ?_)
    · refine T_qcE (t_X11_undo hn M hG) ?_
      intro r1692_ m1693_ e1696_ p1695_
      have g1694_ := p1695_.2.2.1
      have f1697_ : (m1693_ 1 1).toInt = (M 1 1).toInt := by rw [p1695_.2.2.2 1 1 (by decide)]
      have f1698_ : (m1693_ 77 8).toInt = (M 77 8).toInt := by rw [p1695_.2.2.2 77 8 (by decide)]
      have f1699_ : (m1693_ 78 312).toInt = (M 78 312).toInt := by rw [p1695_.2.2.2 78 312 (by decide)]
      have f1700_ : (m1693_ 16 8).toInt = (M 16 8).toInt := by rw [p1695_.2.2.2 16 8 (by decide)]
      have f1701_ : (m1693_ 80 312).toInt = (M 80 312).toInt := by rw [p1695_.2.2.2 80 312 (by decide)]
      have f1702_ : (m1693_ 0 12).toInt = (M 0 12).toInt := by rw [p1695_.2.2.2 0 12 (by decide)]
      have f1703_ : (m1693_ 77 67).toInt = (M 77 67).toInt := by rw [p1695_.2.2.2 77 67 (by decide)]
      have f1704_ : (m1693_ 78 313).toInt = (M 78 313).toInt := by rw [p1695_.2.2.2 78 313 (by decide)]
      have f1705_ : (m1693_ 16 9).toInt = (M 16 9).toInt := by rw [p1695_.2.2.2 16 9 (by decide)]
      have f1706_ : (m1693_ 80 313).toInt = (M 80 313).toInt := by rw [p1695_.2.2.2 80 313 (by decide)]
      have w1707_ := p1695_.2.1
      have d1708_ : KD m1693_ m1693_ := KD_S hD (p1695_.2.2.2) (p1695_.2.2.2 3 3 (by decide)) (p1695_.2.2.2 77 6 (by decide)) rfl
      have l1709_ : LR j m1693_ m1693_ := LR_S hj hL (p1695_.2.2.2) rfl rfl (p1695_.2.2.2 77 17 (by decide))
      have tx1710_ : m1693_ 0 12 ≠ 0 → TN 16 80 m1693_ m1693_ := KX_S hX (p1695_.2.2.2) (p1695_.2.2.2 0 12 (by decide)) rfl rfl
      refine T_qcE (t_X12_undo hn m1693_ g1694_) ?_
      intro r1711_ m1712_ e1715_ p1714_
      have g1713_ := p1714_.2.2.1
      have f1716_ : (m1712_ 1 1).toInt = (m1693_ 1 1).toInt := by rw [p1714_.2.2.2 1 1 (by decide)]
      have f1717_ : (m1712_ 77 8).toInt = (m1693_ 77 8).toInt := by rw [p1714_.2.2.2 77 8 (by decide)]
      have f1718_ : (m1712_ 7 8).toInt = (m1693_ 7 8).toInt := by rw [p1714_.2.2.2 7 8 (by decide)]
      have f1719_ : (m1712_ 16 8).toInt = (m1693_ 16 8).toInt := by rw [p1714_.2.2.2 16 8 (by decide)]
      have f1720_ : (m1712_ 80 312).toInt = (m1693_ 80 312).toInt := by rw [p1714_.2.2.2 80 312 (by decide)]
      have f1721_ : (m1712_ 0 12).toInt = (m1693_ 0 12).toInt := by rw [p1714_.2.2.2 0 12 (by decide)]
      have f1722_ : (m1712_ 77 67).toInt = (m1693_ 77 67).toInt := by rw [p1714_.2.2.2 77 67 (by decide)]
      have f1723_ : (m1712_ 7 9).toInt = (m1693_ 7 9).toInt := by rw [p1714_.2.2.2 7 9 (by decide)]
      have f1724_ : (m1712_ 16 9).toInt = (m1693_ 16 9).toInt := by rw [p1714_.2.2.2 16 9 (by decide)]
      have f1725_ : (m1712_ 80 313).toInt = (m1693_ 80 313).toInt := by rw [p1714_.2.2.2 80 313 (by decide)]
      have w1726_ := p1714_.2.1
      have d1727_ : KD m1712_ m1712_ := KD_S d1708_ (p1714_.2.2.2) (p1714_.2.2.2 3 3 (by decide)) (p1714_.2.2.2 77 6 (by decide)) rfl
      have l1728_ : LR j m1712_ m1712_ := LR_S hj l1709_ (p1714_.2.2.2) rfl rfl (p1714_.2.2.2 77 17 (by decide))
      have tx1729_ : m1712_ 0 12 ≠ 0 → TN 16 80 m1712_ m1712_ := KX_S tx1710_ (p1714_.2.2.2) (p1714_.2.2.2 0 12 (by decide)) rfl rfl
      have q1730_ : (m1712_ 1 1).toInt = (m1712_ 77 8).toInt := by omega
      have q1731_ : (m1712_ 7 8).toInt = (m1712_ 78 312).toInt := by omega
      have q1732_ : (m1712_ 16 8).toInt = (m1712_ 80 312).toInt := by omega
      have q1733_ : (m1712_ 0 12).toInt = (m1712_ 77 67).toInt := by omega
      have q1734_ : (m1712_ 7 9).toInt = (m1712_ 78 313).toInt := by omega
      have q1735_ : (m1712_ 16 9).toInt = (m1712_ 80 313).toInt := by omega
      have f1737_ := r_1_1 hG
      have t1736_ : TR m1712_ := TR_le hT (by omega) (funext (fun s_ => by rw [p1714_.2.2.2 2 s_ (outc rfl), p1695_.2.2.2 2 s_ (outc rfl)])) (funext (fun s_ => by rw [p1714_.2.2.2 84 s_ (outc rfl), p1695_.2.2.2 84 s_ (outc rfl)]))
      have wk1738_ := undo_st hW (Int32.toInt_inj.mp hR3) hX (fun c_ hc_ => funext (fun s_ => p1695_.2.2.2 c_ s_ (out77 hc_ rfl))) e1696_ e1715_
      have tw1739_ := wk1738_.2
      refine T_ql (i_add rfl l_7 (by omega) (by omega)) ?_
      intro x1740_ h1741_
      exact ih j r hj hr hjr x1740_ m1712_ (by omega) (by omega) g1713_ q1730_ q1731_ q1732_ q1733_ q1734_ q1735_ t1736_ d1727_ l1728_ tw1739_ tx1729_ (by omega)
    refine T_sw rfl l_22 (fun s1742_ => ?_) (fun s1742_ => ?_)
    · refine T_qg (i_add rfl l_1 (by omega) (by omega)) (by omega) (by omega) ?_
      refine T_qg (i_add rfl l_2 (by omega) (by omega)) (by omega) (by omega) ?_
      refine T_qcE (t_X11_check hn _ _ M hG) ?_
      intro r1743_ m1744_ e1747_ p1746_
      have g1745_ := p1746_.2.2.1
      have f1748_ : (m1744_ 77 8).toInt = (M 77 8).toInt := by rw [p1746_.2.2.2 77 8 (by decide)]
      have f1749_ : (m1744_ 7 8).toInt = (M 7 8).toInt := by rw [p1746_.2.2.2 7 8 (by decide)]
      have f1750_ : (m1744_ 78 312).toInt = (M 78 312).toInt := by rw [p1746_.2.2.2 78 312 (by decide)]
      have f1751_ : (m1744_ 16 8).toInt = (M 16 8).toInt := by rw [p1746_.2.2.2 16 8 (by decide)]
      have f1752_ : (m1744_ 80 312).toInt = (M 80 312).toInt := by rw [p1746_.2.2.2 80 312 (by decide)]
      have f1753_ : (m1744_ 0 12).toInt = (M 0 12).toInt := by rw [p1746_.2.2.2 0 12 (by decide)]
      have f1754_ : (m1744_ 77 67).toInt = (M 77 67).toInt := by rw [p1746_.2.2.2 77 67 (by decide)]
      have f1755_ : (m1744_ 7 9).toInt = (M 7 9).toInt := by rw [p1746_.2.2.2 7 9 (by decide)]
      have f1756_ : (m1744_ 78 313).toInt = (M 78 313).toInt := by rw [p1746_.2.2.2 78 313 (by decide)]
      have f1757_ : (m1744_ 16 9).toInt = (M 16 9).toInt := by rw [p1746_.2.2.2 16 9 (by decide)]
      have f1758_ : (m1744_ 80 313).toInt = (M 80 313).toInt := by rw [p1746_.2.2.2 80 313 (by decide)]
      have w1759_ := p1746_.2.1
      have d1760_ : KD m1744_ m1744_ := KD_S hD (p1746_.2.2.2) (p1746_.2.2.2 3 3 (by decide)) (p1746_.2.2.2 77 6 (by decide)) rfl
      have l1761_ : LR j m1744_ m1744_ := LR_S hj hL (p1746_.2.2.2) rfl rfl (p1746_.2.2.2 77 17 (by decide))
      have tw1762_ : TN 7 78 m1744_ m1744_ := TN_S hW (p1746_.2.2.2) rfl rfl
      have tx1763_ : m1744_ 0 12 ≠ 0 → TN 16 80 m1744_ m1744_ := KX_S hX (p1746_.2.2.2) (p1746_.2.2.2 0 12 (by decide)) rfl rfl
      refine T_qg (i_add rfl l_1 (by omega) (by omega)) (by omega) (by omega) ?_
      refine T_qg (i_add rfl l_2 (by omega) (by omega)) (by omega) (by omega) ?_
      refine T_qcE (t_X12_check hn _ _ m1744_ g1745_) ?_
      intro r1764_ m1765_ e1768_ p1767_
      have g1766_ := p1767_.2.2.1
      have f1769_ : (m1765_ 1 1).toInt = (m1744_ 1 1).toInt := by rw [p1767_.2.2.2 1 1 (by decide)]
      have f1770_ : (m1765_ 7 8).toInt = (m1744_ 7 8).toInt := by rw [p1767_.2.2.2 7 8 (by decide)]
      have f1771_ : (m1765_ 78 312).toInt = (m1744_ 78 312).toInt := by rw [p1767_.2.2.2 78 312 (by decide)]
      have f1772_ : (m1765_ 16 8).toInt = (m1744_ 16 8).toInt := by rw [p1767_.2.2.2 16 8 (by decide)]
      have f1773_ : (m1765_ 80 312).toInt = (m1744_ 80 312).toInt := by rw [p1767_.2.2.2 80 312 (by decide)]
      have f1774_ : (m1765_ 0 12).toInt = (m1744_ 0 12).toInt := by rw [p1767_.2.2.2 0 12 (by decide)]
      have f1775_ : (m1765_ 77 67).toInt = (m1744_ 77 67).toInt := by rw [p1767_.2.2.2 77 67 (by decide)]
      have f1776_ : (m1765_ 7 9).toInt = (m1744_ 7 9).toInt := by rw [p1767_.2.2.2 7 9 (by decide)]
      have f1777_ : (m1765_ 78 313).toInt = (m1744_ 78 313).toInt := by rw [p1767_.2.2.2 78 313 (by decide)]
      have f1778_ : (m1765_ 16 9).toInt = (m1744_ 16 9).toInt := by rw [p1767_.2.2.2 16 9 (by decide)]
      have f1779_ : (m1765_ 80 313).toInt = (m1744_ 80 313).toInt := by rw [p1767_.2.2.2 80 313 (by decide)]
      have w1780_ := p1767_.2.1
      have d1781_ : KD m1765_ m1765_ := KD_S d1760_ (p1767_.2.2.2) (p1767_.2.2.2 3 3 (by decide)) (p1767_.2.2.2 77 6 (by decide)) rfl
      have l1782_ : LR j m1765_ m1765_ := LR_S hj l1761_ (p1767_.2.2.2) rfl rfl (p1767_.2.2.2 77 17 (by decide))
      have tw1783_ : TN 7 78 m1765_ m1765_ := TN_S tw1762_ (p1767_.2.2.2) rfl rfl
      have tx1784_ : m1765_ 0 12 ≠ 0 → TN 16 80 m1765_ m1765_ := KX_S tx1763_ (p1767_.2.2.2) (p1767_.2.2.2 0 12 (by decide)) rfl rfl
      have b1785_ : m1744_ 78 312 = M 7 8 := Int32.toInt_inj.mp (by omega)
      rw [b1785_] at w1780_
      have q1786_ : (m1765_ 1 1).toInt = (m1765_ 77 8).toInt := by omega
      have q1787_ : (m1765_ 7 8).toInt = (m1765_ 78 312).toInt := by omega
      have q1788_ : (m1765_ 16 8).toInt = (m1765_ 80 312).toInt := by omega
      have q1789_ : (m1765_ 0 12).toInt = (m1765_ 77 67).toInt := by omega
      have q1790_ : (m1765_ 7 9).toInt = (m1765_ 78 313).toInt := by omega
      have q1791_ : (m1765_ 16 9).toInt = (m1765_ 80 313).toInt := by omega
      have f1793_ := r_1_1 hG
      have t1792_ : TR m1765_ := TR_le hT (by omega) (funext (fun s_ => by rw [p1767_.2.2.2 2 s_ (outc rfl), p1746_.2.2.2 2 s_ (outc rfl)])) (funext (fun s_ => by rw [p1767_.2.2.2 84 s_ (outc rfl), p1746_.2.2.2 84 s_ (outc rfl)]))
      refine T_ql (i_add rfl l_7 (by omega) (by omega)) ?_
      intro x1794_ h1795_
      exact ih j r hj hr hjr x1794_ m1765_ (by omega) (by omega) g1766_ q1786_ q1787_ q1788_ q1789_ q1790_ q1791_ t1792_ d1781_ l1782_ tw1783_ tx1784_ (by omega)
    refine T_sw rfl l_23 (fun s1796_ => ?_) (fun s1796_ => ?_)
    · refine T_qg (i_add rfl l_1 (by omega) (by omega)) (by omega) (by omega) ?_
      refine T_qcE (t_X11_count hn hj _ M hG) ?_
      intro r1797_ m1798_ e1801_ p1800_
      have g1799_ := p1800_.1
      have f1802_ : (m1798_ 1 1).toInt = (M 1 1).toInt := by rw [p1800_.2 1 1 (by decide)]
      have f1803_ : (m1798_ 77 8).toInt = (M 77 8).toInt := by rw [p1800_.2 77 8 (by decide)]
      have f1804_ : (m1798_ 7 8).toInt = (M 7 8).toInt := by rw [p1800_.2 7 8 (by decide)]
      have f1805_ : (m1798_ 78 312).toInt = (M 78 312).toInt := by rw [p1800_.2 78 312 (by decide)]
      have f1806_ : (m1798_ 16 8).toInt = (M 16 8).toInt := by rw [p1800_.2 16 8 (by decide)]
      have f1807_ : (m1798_ 80 312).toInt = (M 80 312).toInt := by rw [p1800_.2 80 312 (by decide)]
      have f1808_ : (m1798_ 0 12).toInt = (M 0 12).toInt := by rw [p1800_.2 0 12 (by decide)]
      have f1809_ : (m1798_ 77 67).toInt = (M 77 67).toInt := by rw [p1800_.2 77 67 (by decide)]
      have f1810_ : (m1798_ 7 9).toInt = (M 7 9).toInt := by rw [p1800_.2 7 9 (by decide)]
      have f1811_ : (m1798_ 78 313).toInt = (M 78 313).toInt := by rw [p1800_.2 78 313 (by decide)]
      have f1812_ : (m1798_ 16 9).toInt = (M 16 9).toInt := by rw [p1800_.2 16 9 (by decide)]
      have f1813_ : (m1798_ 80 313).toInt = (M 80 313).toInt := by rw [p1800_.2 80 313 (by decide)]
      have d1814_ : KD m1798_ m1798_ := KD_S hD (p1800_.2) (p1800_.2 3 3 (by decide)) (p1800_.2 77 6 (by decide)) rfl
      have l1815_ : LR j m1798_ m1798_ := LR_S hj hL (p1800_.2) rfl rfl (p1800_.2 77 17 (by decide))
      have tw1816_ : TN 7 78 m1798_ m1798_ := TN_S hW (p1800_.2) rfl rfl
      have tx1817_ : m1798_ 0 12 ≠ 0 → TN 16 80 m1798_ m1798_ := KX_S hX (p1800_.2) (p1800_.2 0 12 (by decide)) rfl rfl
      refine T_qg (i_add rfl l_1 (by omega) (by omega)) (by omega) (by omega) ?_
      refine T_qcE (t_X12_count hn _ m1798_ g1799_) ?_
      intro r1818_ m1819_ e1822_ p1821_
      have g1820_ := p1821_.1
      have f1823_ : (m1819_ 1 1).toInt = (m1798_ 1 1).toInt := by rw [p1821_.2 1 1 (by decide)]
      have f1824_ : (m1819_ 77 8).toInt = (m1798_ 77 8).toInt := by rw [p1821_.2 77 8 (by decide)]
      have f1825_ : (m1819_ 7 8).toInt = (m1798_ 7 8).toInt := by rw [p1821_.2 7 8 (by decide)]
      have f1826_ : (m1819_ 78 312).toInt = (m1798_ 78 312).toInt := by rw [p1821_.2 78 312 (by decide)]
      have f1827_ : (m1819_ 16 8).toInt = (m1798_ 16 8).toInt := by rw [p1821_.2 16 8 (by decide)]
      have f1828_ : (m1819_ 80 312).toInt = (m1798_ 80 312).toInt := by rw [p1821_.2 80 312 (by decide)]
      have f1829_ : (m1819_ 0 12).toInt = (m1798_ 0 12).toInt := by rw [p1821_.2 0 12 (by decide)]
      have f1830_ : (m1819_ 77 67).toInt = (m1798_ 77 67).toInt := by rw [p1821_.2 77 67 (by decide)]
      have f1831_ : (m1819_ 7 9).toInt = (m1798_ 7 9).toInt := by rw [p1821_.2 7 9 (by decide)]
      have f1832_ : (m1819_ 78 313).toInt = (m1798_ 78 313).toInt := by rw [p1821_.2 78 313 (by decide)]
      have f1833_ : (m1819_ 16 9).toInt = (m1798_ 16 9).toInt := by rw [p1821_.2 16 9 (by decide)]
      have f1834_ : (m1819_ 80 313).toInt = (m1798_ 80 313).toInt := by rw [p1821_.2 80 313 (by decide)]
      have d1835_ : KD m1819_ m1819_ := KD_S d1814_ (p1821_.2) (p1821_.2 3 3 (by decide)) (p1821_.2 77 6 (by decide)) rfl
      have l1836_ : LR j m1819_ m1819_ := LR_S hj l1815_ (p1821_.2) rfl rfl (p1821_.2 77 17 (by decide))
      have tw1837_ : TN 7 78 m1819_ m1819_ := TN_S tw1816_ (p1821_.2) rfl rfl
      have tx1838_ : m1819_ 0 12 ≠ 0 → TN 16 80 m1819_ m1819_ := KX_S tx1817_ (p1821_.2) (p1821_.2 0 12 (by decide)) rfl rfl
      have q1839_ : (m1819_ 1 1).toInt = (m1819_ 77 8).toInt := by omega
      have q1840_ : (m1819_ 7 8).toInt = (m1819_ 78 312).toInt := by omega
      have q1841_ : (m1819_ 16 8).toInt = (m1819_ 80 312).toInt := by omega
      have q1842_ : (m1819_ 0 12).toInt = (m1819_ 77 67).toInt := by omega
      have q1843_ : (m1819_ 7 9).toInt = (m1819_ 78 313).toInt := by omega
      have q1844_ : (m1819_ 16 9).toInt = (m1819_ 80 313).toInt := by omega
      have f1846_ := r_1_1 hG
      have t1845_ : TR m1819_ := TR_le hT (by omega) (funext (fun s_ => by rw [p1821_.2 2 s_ (outc rfl), p1800_.2 2 s_ (outc rfl)])) (funext (fun s_ => by rw [p1821_.2 84 s_ (outc rfl), p1800_.2 84 s_ (outc rfl)]))
      refine T_ql (i_add rfl l_7 (by omega) (by omega)) ?_
      intro x1847_ h1848_
      exact ih j r hj hr hjr x1847_ m1819_ (by omega) (by omega) g1820_ q1839_ q1840_ q1841_ q1842_ q1843_ q1844_ t1845_ d1835_ l1836_ tw1837_ tx1838_ (by omega)
    refine T_sw0 ?_
    refine T_ql (i_add rfl l_7 (by omega) (by omega)) ?_
    intro x1849_ h1850_
    exact ih j r hj hr hjr x1849_ M (by omega) (by omega) hG hR0 hR1 hR2 hR3 hR4 hR5 hT hD hL hW hX (by omega)
theorem pure_all : qPure := by
  intro g hN
  obtain ⟨M0, e, hF, hG⟩ := freshG
  obtain ⟨v, M', e2, hv⟩ := L_go (n := 200000) (Nat.le_refl _) g hN 4000 37 46 (Or.inl rfl) (Or.inr rfl) (by decide) 0 M0 (by decide) (by decide) hG (by rw [hF.1 1 1 (by decide), hF.1 77 8 (by decide)]) (by rw [hF.1 7 8 (by decide), hF.2.1 312 (by decide)]) (by rw [hF.1 16 8 (by decide), hF.2.2 80 312 (by decide) (by decide) (by decide) (by decide)]) (by rw [hF.1 0 12 (by decide), hF.1 77 67 (by decide)]) (by rw [hF.1 7 9 (by decide), hF.2.1 313 (by decide)]) (by rw [hF.1 16 9 (by decide), hF.2.2 80 313 (by decide) (by decide) (by decide) (by decide)]) (fun i hi => absurd hi (by rw [hF.1 1 1 (by decide)]; have z : ((0 : Int32).toInt : Int) = 0 := rfl; omega)) (KD_0 hF) (LR_0 hF) (TN_0 (by decide) hF (fresh2 e)) (fun z => absurd (hF.1 0 12 (by decide)) z) (by have z : ((0 : Int32).toInt : Int) = 0 := rfl; omega)
  subst hv
  exact ⟨200000, 4000, M0, M', e, e2⟩
