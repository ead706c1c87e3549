theorem T_qcE {F : qR} {f : Int32 → qM → qR} {P Q : Int32 → qM → Prop} (h : qT F Q) (k : ∀ v m, F = some (v, m) → Q v m → qT (f v m) P) : qT (qc F f) P := by
  obtain ⟨v, M, e, p⟩ := h
  have := k v M e p
  rw [e, qc_v]
  exact this
abbrev l_law : List Bx := [(1, 2, 1, 5), (37, 53, 0, 0)]
abbrev LQ (a1 : Int32) (M m : qM) : Prop := G m ∧ Sm l_law M m ∧ (((1 ≤ a1.toInt ∧ a1.toInt ≤ 240 ∧ a1.toInt ≤ (M 1 1).toInt) ∧ (m 1 1).toInt = 0) ∨ (¬ (1 ≤ a1.toInt ∧ a1.toInt ≤ 240 ∧ a1.toInt ≤ (M 1 1).toInt) ∧ (m 1 1).toInt = (M 1 1).toInt))
theorem T_qc2s {a1 : Int32} {M : qM} {F1 F2 : qR} {E1 E2 : Int32 → qM → qR} {P : Int32 → qM → Prop} (h : (∃ v m, F1 = some (v, m) ∧ LQ a1 M m) ∨ (F1 = none ∧ ∃ v m, F2 = some (v, m) ∧ LQ a1 M m)) (h1 : ∀ v m, F1 = some (v, m) → LQ a1 M m → qT (E1 v m) P) (h2 : ∀ v m, F2 = some (v, m) → LQ a1 M m → qT (E2 v m) P) : qT (qc2 F1 F2 E1 E2) P := by
  rcases h with ⟨v, m, e, g⟩ | ⟨e, v, m, e2, g⟩
  · have := h1 v m e g
    rw [e]; exact this
  · have := h2 v m e2 g
    rw [e, e2]; exact this
theorem law_tots {n : Nat} (hn : 200000 ≤ n) {j r : Nat} (hr : q_isLaw r) (a1 : Int32) (M : qM) (hG : G M) : (∃ v m, f_X11_law n j r a1 M = some (v, m) ∧ LQ a1 M m) ∨ (f_X11_law n j r a1 M = none ∧ ∃ v m, f_X11_lawS n j r a1 M = some (v, m) ∧ LQ a1 M m) := by
  unfold f_X11_law f_X11_lawS
  by_cases c1 : a1 < (1 : Int32)
  · rw [if_pos c1]; rw [Int32.lt_iff_toInt_lt] at c1; have z1 : (1 : Int32).toInt = 1 := rfl; exact Or.inl ⟨_, _, rfl, hG, Sm.rf, Or.inr ⟨by omega, rfl⟩⟩
  · rw [if_neg c1, if_neg c1]
    by_cases c2 : (240 : Int32) < a1
    · rw [if_pos c2]; rw [Int32.lt_iff_toInt_lt] at c2; have z1 : (240 : Int32).toInt = 240 := rfl; exact Or.inl ⟨_, _, rfl, hG, Sm.rf, Or.inr ⟨by omega, rfl⟩⟩
    · rw [if_neg c2, if_neg c2]
      by_cases c3 : a1 ≤ M 1 1
      · rw [if_pos c3, if_pos c3]
        rw [Int32.lt_iff_toInt_lt] at c1 c2
        rw [Int32.le_iff_toInt_le] at c3
        have z1 : (1 : Int32).toInt = 1 := rfl
        have z2 : (240 : Int32).toInt = 240 := rfl
        obtain ⟨v, m2, e, p⟩ := t_X4_read hn hr a1 M hG (by omega)
        obtain ⟨v3, m3, e3, p3⟩ := t_X9_clear hn m2 (p.1)
        have hs : Sm l_law M m3 := (Sm.mono (p.2) rfl).tr (Sm.mono (p3.2.2.2) rfl)
        have hz := p3.2.1
        rw [e, qc_v, qc_v, e3, qc_v, qc_v]
        by_cases c4 : v ≤ (0 : Int32)
        · rw [if_pos c4]; exact Or.inl ⟨_, _, rfl, p3.2.2.1, hs, Or.inl ⟨by omega, hz⟩⟩
        · rw [if_neg c4, if_neg c4]; exact Or.inr ⟨rfl, _, _, rfl, p3.2.2.1, hs, Or.inl ⟨by omega, hz⟩⟩
      · rw [if_neg c3]; rw [Int32.le_iff_toInt_le] at c3; exact Or.inl ⟨_, _, rfl, hG, Sm.rf, Or.inr ⟨by omega, rfl⟩⟩
theorem ofN {k : Nat} (h : k ≤ 3584) : (Int32.ofNat k).toInt = (k : Int) := nI_toInt (by omega)
set_option maxRecDepth 8000 in
set_option maxHeartbeats 4000000 in
theorem L_go {n : Nat} (hn : 200000 ≤ n) (g : qG) (hN : g.2.2.2.2.2.1 ≤ 3584) : ∀ (m j r : Nat), q_isLaw j → q_isLaw r → j ≠ r → ∀ (a3 : Int32) (M : qM), 0 ≤ a3.toInt → a3.toInt ≤ 3600 → G M → (M 1 1).toInt = (M 77 8).toInt → (M 7 8).toInt = (M 78 312).toInt → (M 16 8).toInt = (M 80 312).toInt → (M 0 12).toInt = (M 77 67).toInt → (M 7 9).toInt = (M 78 313).toInt → (M 16 9).toInt = (M 80 313).toInt → TR M → KD M M → LR j M M → TN 7 78 M M → (M 0 12 ≠ 0 → TN 16 80 M M) → 3700 - a3.toInt < (m : Int) → qT (f_L_law g n m j r a3 M) (fun v _ => v = 1) := by
  intro m
  induction m with
  | zero => intro j r _ _ _ a3 M _ _ _ _ _ _ _ _ _ _ _ _ _ _ h; exfalso; omega
  | succ m ih =>
    intro j r hj hr hjr a3 M h0 h1 hG hR0 hR1 hR2 hR3 hR4 hR5 hT hD hL hW hX hm
    show qT (b_L_law g n j r (f_L_law g n m j r) (f_L_law g n m r j) a3 M) _
    unfold b_L_law
    refine T_lt (i_sub (ofN hN) l_7 (by omega) (by omega)) rfl (fun c => T_ret rfl) (fun c => ?_)
    refine T_qg rfl (by omega) (by omega) ?_
    refine T_sw rfl l_0 (fun s1_ => ?_) (fun s1_ => ?_)
    · refine T_qg (i_add rfl l_1 (by omega) (by omega)) (by omega) (by omega) ?_
      refine T_qg (i_add rfl l_2 (by omega) (by omega)) (by omega) (by omega) ?_
      refine T_qg (i_add rfl l_3 (by omega) (by omega)) (by omega) (by omega) ?_
      refine T_qg (i_add rfl l_4 (by omega) (by omega)) (by omega) (by omega) ?_
      refine T_qcE (t_X11_kind hn _ _ _ _ M hG) ?_
      intro r2_ m3_ e6_ p5_
      have g4_ := p5_.2.1
      have f7_ : (m3_ 1 1).toInt = (M 1 1).toInt := by rw [p5_.2.2 1 1 (by decide)]
      have f8_ : (m3_ 77 8).toInt = (M 77 8).toInt := by rw [p5_.2.2 77 8 (by decide)]
      have f9_ : (m3_ 7 8).toInt = (M 7 8).toInt := by rw [p5_.2.2 7 8 (by decide)]
      have f10_ : (m3_ 78 312).toInt = (M 78 312).toInt := by rw [p5_.2.2 78 312 (by decide)]
      have f11_ : (m3_ 16 8).toInt = (M 16 8).toInt := by rw [p5_.2.2 16 8 (by decide)]
      have f12_ : (m3_ 80 312).toInt = (M 80 312).toInt := by rw [p5_.2.2 80 312 (by decide)]
      have f13_ : (m3_ 0 12).toInt = (M 0 12).toInt := by rw [p5_.2.2 0 12 (by decide)]
      have f14_ : (m3_ 77 67).toInt = (M 77 67).toInt := by rw [p5_.2.2 77 67 (by decide)]
      have f15_ : (m3_ 7 9).toInt = (M 7 9).toInt := by rw [p5_.2.2 7 9 (by decide)]
      have f16_ : (m3_ 78 313).toInt = (M 78 313).toInt := by rw [p5_.2.2 78 313 (by decide)]
      have f17_ : (m3_ 16 9).toInt = (M 16 9).toInt := by rw [p5_.2.2 16 9 (by decide)]
      have f18_ : (m3_ 80 313).toInt = (M 80 313).toInt := by rw [p5_.2.2 80 313 (by decide)]
      have l19_ : LR j m3_ m3_ := LR_S hj hL (p5_.2.2) rfl rfl (p5_.2.2 77 17 (by decide))
      have tw20_ : TN 7 78 m3_ m3_ := TN_S hW (p5_.2.2) rfl rfl
      have tx21_ : m3_ 0 12 ≠ 0 → TN 16 80 m3_ m3_ := KX_S hX (p5_.2.2) (p5_.2.2 0 12 (by decide)) rfl rfl
      refine T_qg (i_add rfl l_1 (by omega) (by omega)) (by omega) (by omega) ?_
      refine T_qg (i_add rfl l_2 (by omega) (by omega)) (by omega) (by omega) ?_
      refine T_qg (i_add rfl l_3 (by omega) (by omega)) (by omega) (by omega) ?_
      refine T_qg (i_add rfl l_4 (by omega) (by omega)) (by omega) (by omega) ?_
      refine T_qcE (t_X12_kind hn _ _ _ _ m3_ g4_) ?_
      intro r22_ m23_ e26_ p25_
      have g24_ := p25_.2.1
      have f27_ : (m23_ 1 1).toInt = (m3_ 1 1).toInt := by rw [p25_.2.2 1 1 (by decide)]
      have f28_ : (m23_ 77 8).toInt = (m3_ 77 8).toInt := by rw [p25_.2.2 77 8 (by decide)]
      have f29_ : (m23_ 7 8).toInt = (m3_ 7 8).toInt := by rw [p25_.2.2 7 8 (by decide)]
      have f30_ : (m23_ 78 312).toInt = (m3_ 78 312).toInt := by rw [p25_.2.2 78 312 (by decide)]
      have f31_ : (m23_ 16 8).toInt = (m3_ 16 8).toInt := by rw [p25_.2.2 16 8 (by decide)]
      have f32_ : (m23_ 80 312).toInt = (m3_ 80 312).toInt := by rw [p25_.2.2 80 312 (by decide)]
      have f33_ : (m23_ 0 12).toInt = (m3_ 0 12).toInt := by rw [p25_.2.2 0 12 (by decide)]
      have f34_ : (m23_ 77 67).toInt = (m3_ 77 67).toInt := by rw [p25_.2.2 77 67 (by decide)]
      have f35_ : (m23_ 7 9).toInt = (m3_ 7 9).toInt := by rw [p25_.2.2 7 9 (by decide)]
      have f36_ : (m23_ 78 313).toInt = (m3_ 78 313).toInt := by rw [p25_.2.2 78 313 (by decide)]
      have f37_ : (m23_ 16 9).toInt = (m3_ 16 9).toInt := by rw [p25_.2.2 16 9 (by decide)]
      have f38_ : (m23_ 80 313).toInt = (m3_ 80 313).toInt := by rw [p25_.2.2 80 313 (by decide)]
      have l39_ : LR j m23_ m23_ := LR_S hj l19_ (p25_.2.2) rfl rfl (p25_.2.2 77 17 (by decide))
      have tw40_ : TN 7 78 m23_ m23_ := TN_S tw20_ (p25_.2.2) rfl rfl
      have tx41_ : m23_ 0 12 ≠ 0 → TN 16 80 m23_ m23_ := KX_S tx21_ (p25_.2.2) (p25_.2.2 0 12 (by decide)) rfl rfl
      have d42_ : KD m23_ m23_ := (kind_st hD e6_ e26_).2
      have q43_ : (m23_ 1 1).toInt = (m23_ 77 8).toInt := by omega
      have q44_ : (m23_ 7 8).toInt = (m23_ 78 312).toInt := by omega
      have q45_ : (m23_ 16 8).toInt = (m23_ 80 312).toInt := by omega
      have q46_ : (m23_ 0 12).toInt = (m23_ 77 67).toInt := by omega
      have q47_ : (m23_ 7 9).toInt = (m23_ 78 313).toInt := by omega
      have q48_ : (m23_ 16 9).toInt = (m23_ 80 313).toInt := by omega
      have f50_ := r_1_1 hG
      have t49_ : TR m23_ := TR_le hT (by omega) (funext (fun s_ => by rw [p25_.2.2 2 s_ (outc rfl), p5_.2.2 2 s_ (outc rfl)])) (funext (fun s_ => by rw [p25_.2.2 84 s_ (outc rfl), p5_.2.2 84 s_ (outc rfl)]))
      refine T_ql (i_add rfl l_7 (by omega) (by omega)) ?_
      intro x51_ h52_
      exact ih j r hj hr hjr x51_ m23_ (by omega) (by omega) g24_ q43_ q44_ q45_ q46_ q47_ q48_ t49_ d42_ l39_ tw40_ tx41_ (by omega)
    refine T_sw rfl l_1 (fun s53_ => ?_) (fun s53_ => ?_)
    · refine T_qg (i_add rfl l_1 (by omega) (by omega)) (by omega) (by omega) ?_
      refine T_qg (i_add rfl l_2 (by omega) (by omega)) (by omega) (by omega) ?_
      refine T_qcE (t_X11_person hn _ _ M hG) ?_
      intro r54_ m55_ e58_ p57_
      have g56_ := p57_.2.2.1
      have f59_ : (m55_ 1 1).toInt = (M 1 1).toInt := by rw [p57_.2.2.2 1 1 (by decide)]
      have f60_ : (m55_ 77 8).toInt = (M 77 8).toInt := by rw [p57_.2.2.2 77 8 (by decide)]
      have f61_ : (m55_ 78 312).toInt = (M 78 312).toInt := by rw [p57_.2.2.2 78 312 (by decide)]
      have f62_ : (m55_ 16 8).toInt = (M 16 8).toInt := by rw [p57_.2.2.2 16 8 (by decide)]
      have f63_ : (m55_ 80 312).toInt = (M 80 312).toInt := by rw [p57_.2.2.2 80 312 (by decide)]
      have f64_ : (m55_ 0 12).toInt = (M 0 12).toInt := by rw [p57_.2.2.2 0 12 (by decide)]
      have f65_ : (m55_ 77 67).toInt = (M 77 67).toInt := by rw [p57_.2.2.2 77 67 (by decide)]
      have f66_ : (m55_ 7 9).toInt = (M 7 9).toInt := by rw [p57_.2.2.2 7 9 (by decide)]
      have f67_ : (m55_ 78 313).toInt = (M 78 313).toInt := by rw [p57_.2.2.2 78 313 (by decide)]
      have f68_ : (m55_ 16 9).toInt = (M 16 9).toInt := by rw [p57_.2.2.2 16 9 (by decide)]
      have f69_ : (m55_ 80 313).toInt = (M 80 313).toInt := by rw [p57_.2.2.2 80 313 (by decide)]
      have w70_ := p57_.2.1
      have d71_ : KD m55_ m55_ := KD_S hD (p57_.2.2.2) (p57_.2.2.2 3 3 (by decide)) (p57_.2.2.2 77 6 (by decide)) rfl
      have l72_ : LR j m55_ m55_ := LR_S hj hL (p57_.2.2.2) rfl rfl (p57_.2.2.2 77 17 (by decide))
      have tx73_ : m55_ 0 12 ≠ 0 → TN 16 80 m55_ m55_ := KX_S hX (p57_.2.2.2) (p57_.2.2.2 0 12 (by decide)) rfl rfl
      refine T_qg (i_add rfl l_1 (by omega) (by omega)) (by omega) (by omega) ?_
      refine T_qg (i_add rfl l_2 (by omega) (by omega)) (by omega) (by omega) ?_
      refine T_qcE (t_X12_person hn _ _ m55_ g56_) ?_
      intro r74_ m75_ e78_ p77_
      have g76_ := p77_.2.2.1
      have f79_ : (m75_ 1 1).toInt = (m55_ 1 1).toInt := by rw [p77_.2.2.2 1 1 (by decide)]
      have f80_ : (m75_ 77 8).toInt = (m55_ 77 8).toInt := by rw [p77_.2.2.2 77 8 (by decide)]
      have f81_ : (m75_ 7 8).toInt = (m55_ 7 8).toInt := by rw [p77_.2.2.2 7 8 (by decide)]
      have f82_ : (m75_ 16 8).toInt = (m55_ 16 8).toInt := by rw [p77_.2.2.2 16 8 (by decide)]
      have f83_ : (m75_ 80 312).toInt = (m55_ 80 312).toInt := by rw [p77_.2.2.2 80 312 (by decide)]
      have f84_ : (m75_ 0 12).toInt = (m55_ 0 12).toInt := by rw [p77_.2.2.2 0 12 (by decide)]
      have f85_ : (m75_ 77 67).toInt = (m55_ 77 67).toInt := by rw [p77_.2.2.2 77 67 (by decide)]
      have f86_ : (m75_ 7 9).toInt = (m55_ 7 9).toInt := by rw [p77_.2.2.2 7 9 (by decide)]
      have f87_ : (m75_ 78 313).toInt = (m55_ 78 313).toInt := by rw [p77_.2.2.2 78 313 (by decide)]
      have f88_ : (m75_ 16 9).toInt = (m55_ 16 9).toInt := by rw [p77_.2.2.2 16 9 (by decide)]
      have f89_ : (m75_ 80 313).toInt = (m55_ 80 313).toInt := by rw [p77_.2.2.2 80 313 (by decide)]
      have w90_ := p77_.2.1
      have d91_ : KD m75_ m75_ := KD_S d71_ (p77_.2.2.2) (p77_.2.2.2 3 3 (by decide)) (p77_.2.2.2 77 6 (by decide)) rfl
      have l92_ : LR j m75_ m75_ := LR_S hj l72_ (p77_.2.2.2) rfl rfl (p77_.2.2.2 77 17 (by decide))
      have tx93_ : m75_ 0 12 ≠ 0 → TN 16 80 m75_ m75_ := KX_S tx73_ (p77_.2.2.2) (p77_.2.2.2 0 12 (by decide)) rfl rfl
      have b94_ : m55_ 78 312 = M 7 8 := Int32.toInt_inj.mp (by omega)
      rw [b94_] at w90_
      have q95_ : (m75_ 1 1).toInt = (m75_ 77 8).toInt := by omega
      have q96_ : (m75_ 7 8).toInt = (m75_ 78 312).toInt := by omega
      have q97_ : (m75_ 16 8).toInt = (m75_ 80 312).toInt := by omega
      have q98_ : (m75_ 0 12).toInt = (m75_ 77 67).toInt := by omega
      have q99_ : (m75_ 7 9).toInt = (m75_ 78 313).toInt := by omega
      have q100_ : (m75_ 16 9).toInt = (m75_ 80 313).toInt := by omega
      have f102_ := r_1_1 hG
      have t101_ : TR m75_ := TR_le hT (by omega) (funext (fun s_ => by rw [p77_.2.2.2 2 s_ (outc rfl), p57_.2.2.2 2 s_ (outc rfl)])) (funext (fun s_ => by rw [p77_.2.2.2 84 s_ (outc rfl), p57_.2.2.2 84 s_ (outc rfl)]))
      have wk103_ := person_st hW (fun c_ hc_ => funext (fun s_ => p57_.2.2.2 c_ s_ (out77 hc_ rfl))) e58_ e78_
      have tw104_ : TN 7 78 m75_ m75_ := TN_fr wk103_.2 (fun x_ h1_ h2_ => funext (fun s_ => p77_.2.2.2 x_ s_ (out715 h1_ h2_ rfl))) (fun _ _ => rfl)
      refine T_ql (i_add rfl l_7 (by omega) (by omega)) ?_
      intro x105_ h106_
      exact ih j r hj hr hjr x105_ m75_ (by omega) (by omega) g76_ q95_ q96_ q97_ q98_ q99_ q100_ t101_ d91_ l92_ tw104_ tx93_ (by omega)
    refine T_sw rfl l_2 (fun s107_ => ?_) (fun s107_ => ?_)
    · refine T_qg (i_add rfl l_1 (by omega) (by omega)) (by omega) (by omega) ?_
      refine T_qg (i_add rfl l_2 (by omega) (by omega)) (by omega) (by omega) ?_
      refine T_qg (i_add rfl l_3 (by omega) (by omega)) (by omega) (by omega) ?_
      refine T_qg (i_add rfl l_4 (by omega) (by omega)) (by omega) (by omega) ?_
      refine T_qg (i_add rfl l_5 (by omega) (by omega)) (by omega) (by omega) ?_
      refine T_qcE (t_X11_feed hn _ _ _ _ _ M hG) ?_
      intro r108_ m109_ e112_ p111_
      have g110_ := p111_.2.2.1
      have f113_ : (m109_ 77 8).toInt = (M 77 8).toInt := by rw [p111_.2.2.2 77 8 (by decide)]
      have f114_ : (m109_ 7 8).toInt = (M 7 8).toInt := by rw [p111_.2.2.2 7 8 (by decide)]
      have f115_ : (m109_ 78 312).toInt = (M 78 312).toInt := by rw [p111_.2.2.2 78 312 (by decide)]
      have f116_ : (m109_ 16 8).toInt = (M 16 8).toInt := by rw [p111_.2.2.2 16 8 (by decide)]
      have f117_ : (m109_ 80 312).toInt = (M 80 312).toInt := by rw [p111_.2.2.2 80 312 (by decide)]
      have f118_ : (m109_ 0 12).toInt = (M 0 12).toInt := by rw [p111_.2.2.2 0 12 (by decide)]
      have f119_ : (m109_ 77 67).toInt = (M 77 67).toInt := by rw [p111_.2.2.2 77 67 (by decide)]
      have f120_ : (m109_ 7 9).toInt = (M 7 9).toInt := by rw [p111_.2.2.2 7 9 (by decide)]
      have f121_ : (m109_ 78 313).toInt = (M 78 313).toInt := by rw [p111_.2.2.2 78 313 (by decide)]
      have f122_ : (m109_ 16 9).toInt = (M 16 9).toInt := by rw [p111_.2.2.2 16 9 (by decide)]
      have f123_ : (m109_ 80 313).toInt = (M 80 313).toInt := by rw [p111_.2.2.2 80 313 (by decide)]
      have w124_ := p111_.2.1
      have d125_ : KD m109_ m109_ := KD_S hD (p111_.2.2.2) (p111_.2.2.2 3 3 (by decide)) (p111_.2.2.2 77 6 (by decide)) rfl
      have l126_ : LR j m109_ m109_ := LR_S hj hL (p111_.2.2.2) rfl rfl (p111_.2.2.2 77 17 (by decide))
      have tw127_ : TN 7 78 m109_ m109_ := TN_S hW (p111_.2.2.2) rfl rfl
      have tx128_ : m109_ 0 12 ≠ 0 → TN 16 80 m109_ m109_ := KX_S hX (p111_.2.2.2) (p111_.2.2.2 0 12 (by decide)) rfl rfl
      refine T_qg (i_add rfl l_1 (by omega) (by omega)) (by omega) (by omega) ?_
      refine T_qg (i_add rfl l_2 (by omega) (by omega)) (by omega) (by omega) ?_
      refine T_qg (i_add rfl l_3 (by omega) (by omega)) (by omega) (by omega) ?_
      refine T_qg (i_add rfl l_4 (by omega) (by omega)) (by omega) (by omega) ?_
      refine T_qg (i_add rfl l_5 (by omega) (by omega)) (by omega) (by omega) ?_
      refine T_qcE (t_X12_feed hn _ _ _ _ _ m109_ g110_) ?_
      intro r129_ m130_ e133_ p132_
      have g131_ := p132_.2.2.1
      have f134_ : (m130_ 1 1).toInt = (m109_ 1 1).toInt := by rw [p132_.2.2.2 1 1 (by decide)]
      have f135_ : (m130_ 7 8).toInt = (m109_ 7 8).toInt := by rw [p132_.2.2.2 7 8 (by decide)]
      have f136_ : (m130_ 78 312).toInt = (m109_ 78 312).toInt := by rw [p132_.2.2.2 78 312 (by decide)]
      have f137_ : (m130_ 16 8).toInt = (m109_ 16 8).toInt := by rw [p132_.2.2.2 16 8 (by decide)]
      have f138_ : (m130_ 80 312).toInt = (m109_ 80 312).toInt := by rw [p132_.2.2.2 80 312 (by decide)]
      have f139_ : (m130_ 0 12).toInt = (m109_ 0 12).toInt := by rw [p132_.2.2.2 0 12 (by decide)]
      have f140_ : (m130_ 77 67).toInt = (m109_ 77 67).toInt := by rw [p132_.2.2.2 77 67 (by decide)]
      have f141_ : (m130_ 7 9).toInt = (m109_ 7 9).toInt := by rw [p132_.2.2.2 7 9 (by decide)]
      have f142_ : (m130_ 78 313).toInt = (m109_ 78 313).toInt := by rw [p132_.2.2.2 78 313 (by decide)]
      have f143_ : (m130_ 16 9).toInt = (m109_ 16 9).toInt := by rw [p132_.2.2.2 16 9 (by decide)]
      have f144_ : (m130_ 80 313).toInt = (m109_ 80 313).toInt := by rw [p132_.2.2.2 80 313 (by decide)]
      have w145_ := p132_.2.1
      have d146_ : KD m130_ m130_ := KD_S d125_ (p132_.2.2.2) (p132_.2.2.2 3 3 (by decide)) (p132_.2.2.2 77 6 (by decide)) rfl
      have l147_ : LR j m130_ m130_ := LR_S hj l126_ (p132_.2.2.2) rfl rfl (p132_.2.2.2 77 17 (by decide))
      have tw148_ : TN 7 78 m130_ m130_ := TN_S tw127_ (p132_.2.2.2) rfl rfl
      have tx149_ : m130_ 0 12 ≠ 0 → TN 16 80 m130_ m130_ := KX_S tx128_ (p132_.2.2.2) (p132_.2.2.2 0 12 (by decide)) rfl rfl
      have q150_ : (m130_ 1 1).toInt = (m130_ 77 8).toInt := by omega
      have q151_ : (m130_ 7 8).toInt = (m130_ 78 312).toInt := by omega
      have q152_ : (m130_ 16 8).toInt = (m130_ 80 312).toInt := by omega
      have q153_ : (m130_ 0 12).toInt = (m130_ 77 67).toInt := by omega
      have q154_ : (m130_ 7 9).toInt = (m130_ 78 313).toInt := by omega
      have q155_ : (m130_ 16 9).toInt = (m130_ 80 313).toInt := by omega
      have t156_ : TR m130_ := feed_TR hn hG hT hR0 e112_ e133_
      refine T_ql (i_add rfl l_7 (by omega) (by omega)) ?_
      intro x157_ h158_
      exact ih j r hj hr hjr x157_ m130_ (by omega) (by omega) g131_ q150_ q151_ q152_ q153_ q154_ q155_ t156_ d146_ l147_ tw148_ tx149_ (by omega)
    refine T_sw rfl l_3 (fun s159_ => ?_) (fun s159_ => ?_)
    · refine T_qg (i_add rfl l_1 (by omega) (by omega)) (by omega) (by omega) ?_
      refine T_qc2s (law_tots hn hr _ M hG) (fun v_ m_ ee_ p_ => ?_) (fun v_ m_ ee_ p_ => ?_)
      · have f160_ : (m_ 77 8).toInt = (M 77 8).toInt := by rw [p_.2.1 77 8 (by decide)]
        have f161_ : (m_ 7 8).toInt = (M 7 8).toInt := by rw [p_.2.1 7 8 (by decide)]
        have f162_ : (m_ 78 312).toInt = (M 78 312).toInt := by rw [p_.2.1 78 312 (by decide)]
        have f163_ : (m_ 16 8).toInt = (M 16 8).toInt := by rw [p_.2.1 16 8 (by decide)]
        have f164_ : (m_ 80 312).toInt = (M 80 312).toInt := by rw [p_.2.1 80 312 (by decide)]
        have f165_ : (m_ 0 12).toInt = (M 0 12).toInt := by rw [p_.2.1 0 12 (by decide)]
        have f166_ : (m_ 77 67).toInt = (M 77 67).toInt := by rw [p_.2.1 77 67 (by decide)]
        have f167_ : (m_ 7 9).toInt = (M 7 9).toInt := by rw [p_.2.1 7 9 (by decide)]
        have f168_ : (m_ 78 313).toInt = (M 78 313).toInt := by rw [p_.2.1 78 313 (by decide)]
        have f169_ : (m_ 16 9).toInt = (M 16 9).toInt := by rw [p_.2.1 16 9 (by decide)]
        have f170_ : (m_ 80 313).toInt = (M 80 313).toInt := by rw [p_.2.1 80 313 (by decide)]
        have w171_ := p_.2.2
        have d172_ : KD m_ m_ := KD_S hD (p_.2.1) (p_.2.1 3 3 (by decide)) (p_.2.1 77 6 (by decide)) rfl
        have tw173_ : TN 7 78 m_ m_ := TN_S hW (p_.2.1) rfl rfl
        have tx174_ : m_ 0 12 ≠ 0 → TN 16 80 m_ m_ := KX_S hX (p_.2.1) (p_.2.1 0 12 (by decide)) rfl rfl
        refine T_qg (i_add rfl l_1 (by omega) (by omega)) (by omega) (by omega) ?_
        refine T_qcE (t_X12_law hn _ m_ p_.1) ?_
        intro r175_ m176_ e179_ p178_
        have g177_ := p178_.1
        have f180_ : (m176_ 1 1).toInt = (m_ 1 1).toInt := by rw [show m176_ 1 1 = m_ 1 1 from congrFun (p178_.2.1.2 1 (by decide) (by decide)) 1]
        have f181_ : (m176_ 7 8).toInt = (m_ 7 8).toInt := by rw [show m176_ 7 8 = m_ 7 8 from congrFun (p178_.2.1.2 7 (by decide) (by decide)) 8]
        have f182_ : (m176_ 78 312).toInt = (m_ 78 312).toInt := by rw [show m176_ 78 312 = m_ 78 312 from congrFun (p178_.2.1.2 78 (by decide) (by decide)) 312]
        have f183_ : (m176_ 16 8).toInt = (m_ 16 8).toInt := by rw [show m176_ 16 8 = m_ 16 8 from congrFun (p178_.2.1.2 16 (by decide) (by decide)) 8]
        have f184_ : (m176_ 80 312).toInt = (m_ 80 312).toInt := by rw [show m176_ 80 312 = m_ 80 312 from congrFun (p178_.2.1.2 80 (by decide) (by decide)) 312]
        have f185_ : (m176_ 0 12).toInt = (m_ 0 12).toInt := by rw [show m176_ 0 12 = m_ 0 12 from congrFun (p178_.2.1.2 0 (by decide) (by decide)) 12]
        have f186_ : (m176_ 77 67).toInt = (m_ 77 67).toInt := by rw [show m176_ 77 67 = m_ 77 67 from p178_.2.1.1 67 (by decide)]
        have f187_ : (m176_ 7 9).toInt = (m_ 7 9).toInt := by rw [show m176_ 7 9 = m_ 7 9 from congrFun (p178_.2.1.2 7 (by decide) (by decide)) 9]
        have f188_ : (m176_ 78 313).toInt = (m_ 78 313).toInt := by rw [show m176_ 78 313 = m_ 78 313 from congrFun (p178_.2.1.2 78 (by decide) (by decide)) 313]
        have f189_ : (m176_ 16 9).toInt = (m_ 16 9).toInt := by rw [show m176_ 16 9 = m_ 16 9 from congrFun (p178_.2.1.2 16 (by decide) (by decide)) 9]
        have f190_ : (m176_ 80 313).toInt = (m_ 80 313).toInt := by rw [show m176_ 80 313 = m_ 80 313 from congrFun (p178_.2.1.2 80 (by decide) (by decide)) 313]
        have w191_ := p178_.2.2
        have q192_ : (m176_ 1 1).toInt = (m176_ 77 8).toInt := by omega
        have q193_ : (m176_ 7 8).toInt = (m176_ 78 312).toInt := by omega
        have q194_ : (m176_ 16 8).toInt = (m176_ 80 312).toInt := by omega
        have q195_ : (m176_ 0 12).toInt = (m176_ 77 67).toInt := by omega
        have q196_ : (m176_ 7 9).toInt = (m176_ 78 313).toInt := by omega
        have q197_ : (m176_ 16 9).toInt = (m176_ 80 313).toInt := by omega
        have f199_ := r_1_1 hG
        have t198_ : TR m176_ := TR_le hT (by omega) (by rw [p178_.2.1.2 2 (by decide) (by decide)]; exact funext (fun s_ => p_.2.1 2 s_ (outc rfl))) (by rw [p178_.2.1.2 84 (by decide) (by decide)]; exact funext (fun s_ => p_.2.1 84 s_ (outc rfl)))
        have d200_ : KD m176_ m176_ := KD_cg d172_ (by rw [p178_.2.1.2 3 (by decide) (by decide)]) (by rw [p178_.2.1.1 6 (by decide)]) (fun q_ _ => by rw [p178_.2.1.2 4 (by decide) (by decide)]) (fun q_ _ => by rw [p178_.2.1.2 5 (by decide) (by decide)]) (fun q_ _ => by rw [p178_.2.1.2 6 (by decide) (by decide)]) (fun q_ _ => by rw [p178_.2.1.2 81 (by decide) (by decide)]) (fun q_ _ => by rw [p178_.2.1.2 82 (by decide) (by decide)]) (fun q_ _ => by rw [p178_.2.1.2 83 (by decide) (by decide)])
        have l201_ : LR j m176_ m176_ := by
          have l_ := ((law_st hn hj hr hjr hG p_.1 hT (by omega) (funext (fun s_ => p_.2.1 84 s_ (outc rfl))) (fun c_ h1_ h2_ => funext (fun s_ => p_.2.1 c_ s_ (out77 (by omega) rfl))) (p_.2.1 77 17 (by decide)) hL e179_).1 ee_).2
          exact LR_cg l_ (fun k_ hk_ => p178_.2.1.2 _ (by rcases hj with rfl | rfl <;> rcases hr with rfl | rfl <;> omega) (by rcases hj with rfl | rfl <;> rcases hr with rfl | rfl <;> omega)) (fun _ _ _ => rfl) rfl
        have tw202_ : TN 7 78 m176_ m176_ := TN_fr tw173_ (fun x_ h1_ h2_ => p178_.2.1.2 x_ (by omega) (by omega)) (fun i_ _ => by rw [p178_.2.1.2 78 (by decide) (by decide)])
        have tx203_ : m176_ 0 12 ≠ 0 → TN 16 80 m176_ m176_ := fun q_ => TN_fr (tx174_ (fun z_ => q_ (by rw [p178_.2.1.2 0 (by decide) (by decide)]; exact z_))) (fun x_ h1_ h2_ => p178_.2.1.2 x_ (by omega) (by omega)) (fun i_ _ => by rw [p178_.2.1.2 80 (by decide) (by decide)])
        refine T_ql (i_add rfl l_7 (by omega) (by omega)) ?_
        intro x204_ h205_
        exact ih j r hj hr hjr x204_ m176_ (by omega) (by omega) g177_ q192_ q193_ q194_ q195_ q196_ q197_ t198_ d200_ l201_ tw202_ tx203_ (by omega)
      · have f206_ : (m_ 77 8).toInt = (M 77 8).toInt := by rw [p_.2.1 77 8 (by decide)]
        have f207_ : (m_ 7 8).toInt = (M 7 8).toInt := by rw [p_.2.1 7 8 (by decide)]
        have f208_ : (m_ 78 312).toInt = (M 78 312).toInt := by rw [p_.2.1 78 312 (by decide)]
        have f209_ : (m_ 16 8).toInt = (M 16 8).toInt := by rw [p_.2.1 16 8 (by decide)]
        have f210_ : (m_ 80 312).toInt = (M 80 312).toInt := by rw [p_.2.1 80 312 (by decide)]
        have f211_ : (m_ 0 12).toInt = (M 0 12).toInt := by rw [p_.2.1 0 12 (by decide)]
        have f212_ : (m_ 77 67).toInt = (M 77 67).toInt := by rw [p_.2.1 77 67 (by decide)]
        have f213_ : (m_ 7 9).toInt = (M 7 9).toInt := by rw [p_.2.1 7 9 (by decide)]
        have f214_ : (m_ 78 313).toInt = (M 78 313).toInt := by rw [p_.2.1 78 313 (by decide)]
        have f215_ : (m_ 16 9).toInt = (M 16 9).toInt := by rw [p_.2.1 16 9 (by decide)]
        have f216_ : (m_ 80 313).toInt = (M 80 313).toInt := by rw [p_.2.1 80 313 (by decide)]
        have w217_ := p_.2.2
        have d218_ : KD m_ m_ := KD_S hD (p_.2.1) (p_.2.1 3 3 (by decide)) (p_.2.1 77 6 (by decide)) rfl
        have tw219_ : TN 7 78 m_ m_ := TN_S hW (p_.2.1) rfl rfl
        have tx220_ : m_ 0 12 ≠ 0 → TN 16 80 m_ m_ := KX_S hX (p_.2.1) (p_.2.1 0 12 (by decide)) rfl rfl
        refine T_qg (i_add rfl l_1 (by omega) (by omega)) (by omega) (by omega) ?_
        refine T_qcE (t_X12_law hn _ m_ p_.1) ?_
        intro r221_ m222_ e225_ p224_
        have g223_ := p224_.1
        have f226_ : (m222_ 1 1).toInt = (m_ 1 1).toInt := by rw [show m222_ 1 1 = m_ 1 1 from congrFun (p224_.2.1.2 1 (by decide) (by decide)) 1]
        have f227_ : (m222_ 7 8).toInt = (m_ 7 8).toInt := by rw [show m222_ 7 8 = m_ 7 8 from congrFun (p224_.2.1.2 7 (by decide) (by decide)) 8]
        have f228_ : (m222_ 78 312).toInt = (m_ 78 312).toInt := by rw [show m222_ 78 312 = m_ 78 312 from congrFun (p224_.2.1.2 78 (by decide) (by decide)) 312]
        have f229_ : (m222_ 16 8).toInt = (m_ 16 8).toInt := by rw [show m222_ 16 8 = m_ 16 8 from congrFun (p224_.2.1.2 16 (by decide) (by decide)) 8]
        have f230_ : (m222_ 80 312).toInt = (m_ 80 312).toInt := by rw [show m222_ 80 312 = m_ 80 312 from congrFun (p224_.2.1.2 80 (by decide) (by decide)) 312]
        have f231_ : (m222_ 0 12).toInt = (m_ 0 12).toInt := by rw [show m222_ 0 12 = m_ 0 12 from congrFun (p224_.2.1.2 0 (by decide) (by decide)) 12]
        have f232_ : (m222_ 77 67).toInt = (m_ 77 67).toInt := by rw [show m222_ 77 67 = m_ 77 67 from p224_.2.1.1 67 (by decide)]
        have f233_ : (m222_ 7 9).toInt = (m_ 7 9).toInt := by rw [show m222_ 7 9 = m_ 7 9 from congrFun (p224_.2.1.2 7 (by decide) (by decide)) 9]
        have f234_ : (m222_ 78 313).toInt = (m_ 78 313).toInt := by rw [show m222_ 78 313 = m_ 78 313 from congrFun (p224_.2.1.2 78 (by decide) (by decide)) 313]
        have f235_ : (m222_ 16 9).toInt = (m_ 16 9).toInt := by rw [show m222_ 16 9 = m_ 16 9 from congrFun (p224_.2.1.2 16 (by decide) (by decide)) 9]
        have f236_ : (m222_ 80 313).toInt = (m_ 80 313).toInt := by rw [show m222_ 80 313 = m_ 80 313 from congrFun (p224_.2.1.2 80 (by decide) (by decide)) 313]
        have w237_ := p224_.2.2
        have q238_ : (m222_ 1 1).toInt = (m222_ 77 8).toInt := by omega
        have q239_ : (m222_ 7 8).toInt = (m222_ 78 312).toInt := by omega
        have q240_ : (m222_ 16 8).toInt = (m222_ 80 312).toInt := by omega
        have q241_ : (m222_ 0 12).toInt = (m222_ 77 67).toInt := by omega
        have q242_ : (m222_ 7 9).toInt = (m222_ 78 313).toInt := by omega
        have q243_ : (m222_ 16 9).toInt = (m222_ 80 313).toInt := by omega
        have f245_ := r_1_1 hG
        have t244_ : TR m222_ := TR_le hT (by omega) (by rw [p224_.2.1.2 2 (by decide) (by decide)]; exact funext (fun s_ => p_.2.1 2 s_ (outc rfl))) (by rw [p224_.2.1.2 84 (by decide) (by decide)]; exact funext (fun s_ => p_.2.1 84 s_ (outc rfl)))
        have d246_ : KD m222_ m222_ := KD_cg d218_ (by rw [p224_.2.1.2 3 (by decide) (by decide)]) (by rw [p224_.2.1.1 6 (by decide)]) (fun q_ _ => by rw [p224_.2.1.2 4 (by decide) (by decide)]) (fun q_ _ => by rw [p224_.2.1.2 5 (by decide) (by decide)]) (fun q_ _ => by rw [p224_.2.1.2 6 (by decide) (by decide)]) (fun q_ _ => by rw [p224_.2.1.2 81 (by decide) (by decide)]) (fun q_ _ => by rw [p224_.2.1.2 82 (by decide) (by decide)]) (fun q_ _ => by rw [p224_.2.1.2 83 (by decide) (by decide)])
        have l247_ : LR r m222_ m222_ := by
          have l_ := ((law_st hn hj hr hjr hG p_.1 hT (by omega) (funext (fun s_ => p_.2.1 84 s_ (outc rfl))) (fun c_ h1_ h2_ => funext (fun s_ => p_.2.1 c_ s_ (out77 (by omega) rfl))) (p_.2.1 77 17 (by decide)) hL e225_).2 ee_).2
          exact LR_cg l_ (fun k_ hk_ => p224_.2.1.2 _ (by rcases hj with rfl | rfl <;> rcases hr with rfl | rfl <;> omega) (by rcases hj with rfl | rfl <;> rcases hr with rfl | rfl <;> omega)) (fun _ _ _ => rfl) rfl
        have tw248_ : TN 7 78 m222_ m222_ := TN_fr tw219_ (fun x_ h1_ h2_ => p224_.2.1.2 x_ (by omega) (by omega)) (fun i_ _ => by rw [p224_.2.1.2 78 (by decide) (by decide)])
        have tx249_ : m222_ 0 12 ≠ 0 → TN 16 80 m222_ m222_ := fun q_ => TN_fr (tx220_ (fun z_ => q_ (by rw [p224_.2.1.2 0 (by decide) (by decide)]; exact z_))) (fun x_ h1_ h2_ => p224_.2.1.2 x_ (by omega) (by omega)) (fun i_ _ => by rw [p224_.2.1.2 80 (by decide) (by decide)])
        refine T_ql (i_add rfl l_7 (by omega) (by omega)) ?_
        intro x250_ h251_
        exact ih r j hr hj (fun e_ => hjr e_.symm) x250_ m222_ (by omega) (by omega) g223_ q238_ q239_ q240_ q241_ q242_ q243_ t244_ d246_ l247_ tw248_ tx249_ (by omega)
    refine T_sw rfl l_4 (fun s252_ => ?_) (fun s252_ => ?_)
    · refine T_qg (i_add rfl l_1 (by omega) (by omega)) (by omega) (by omega) ?_
      refine T_qg (i_add rfl l_2 (by omega) (by omega)) (by omega) (by omega) ?_
      refine T_qcE (t_X11_plan hn _ _ M hG) ?_
      intro r253_ m254_ e257_ p256_
      have g255_ := p256_.2.1
      have f258_ : (m254_ 77 8).toInt = (M 77 8).toInt := by rw [p256_.2.2 77 8 (by decide)]
      have f259_ : (m254_ 7 8).toInt = (M 7 8).toInt := by rw [p256_.2.2 7 8 (by decide)]
      have f260_ : (m254_ 78 312).toInt = (M 78 312).toInt := by rw [p256_.2.2 78 312 (by decide)]
      have f261_ : (m254_ 16 8).toInt = (M 16 8).toInt := by rw [p256_.2.2 16 8 (by decide)]
      have f262_ : (m254_ 80 312).toInt = (M 80 312).toInt := by rw [p256_.2.2 80 312 (by decide)]
      have f263_ : (m254_ 0 12).toInt = (M 0 12).toInt := by rw [p256_.2.2 0 12 (by decide)]
      have f264_ : (m254_ 77 67).toInt = (M 77 67).toInt := by rw [p256_.2.2 77 67 (by decide)]
      have f265_ : (m254_ 7 9).toInt = (M 7 9).toInt := by rw [p256_.2.2 7 9 (by decide)]
      have f266_ : (m254_ 78 313).toInt = (M 78 313).toInt := by rw [p256_.2.2 78 313 (by decide)]
      have f267_ : (m254_ 16 9).toInt = (M 16 9).toInt := by rw [p256_.2.2 16 9 (by decide)]
      have f268_ : (m254_ 80 313).toInt = (M 80 313).toInt := by rw [p256_.2.2 80 313 (by decide)]
      have w269_ := p256_.1
      have d270_ : KD m254_ m254_ := KD_S hD (p256_.2.2) (p256_.2.2 3 3 (by decide)) (p256_.2.2 77 6 (by decide)) rfl
      have l271_ : LR j m254_ m254_ := LR_S hj hL (p256_.2.2) rfl rfl (p256_.2.2 77 17 (by decide))
      have tx272_ : m254_ 0 12 ≠ 0 → TN 16 80 m254_ m254_ := KX_S hX (p256_.2.2) (p256_.2.2 0 12 (by decide)) rfl rfl
      refine T_qg (i_add rfl l_1 (by omega) (by omega)) (by omega) (by omega) ?_
      refine T_qg (i_add rfl l_2 (by omega) (by omega)) (by omega) (by omega) ?_
      refine T_qcE (t_X12_plan hn _ _ m254_ g255_) ?_
      intro r273_ m274_ e277_ p276_
      have g275_ := p276_.2.1
      have f278_ : (m274_ 1 1).toInt = (m254_ 1 1).toInt := by rw [p276_.2.2 1 1 (by decide)]
      have f279_ : (m274_ 7 8).toInt = (m254_ 7 8).toInt := by rw [p276_.2.2 7 8 (by decide)]
      have f280_ : (m274_ 78 312).toInt = (m254_ 78 312).toInt := by rw [p276_.2.2 78 312 (by decide)]
      have f281_ : (m274_ 16 8).toInt = (m254_ 16 8).toInt := by rw [p276_.2.2 16 8 (by decide)]
      have f282_ : (m274_ 80 312).toInt = (m254_ 80 312).toInt := by rw [p276_.2.2 80 312 (by decide)]
      have f283_ : (m274_ 0 12).toInt = (m254_ 0 12).toInt := by rw [p276_.2.2 0 12 (by decide)]
      have f284_ : (m274_ 77 67).toInt = (m254_ 77 67).toInt := by rw [p276_.2.2 77 67 (by decide)]
      have f285_ : (m274_ 7 9).toInt = (m254_ 7 9).toInt := by rw [p276_.2.2 7 9 (by decide)]
      have f286_ : (m274_ 78 313).toInt = (m254_ 78 313).toInt := by rw [p276_.2.2 78 313 (by decide)]
      have f287_ : (m274_ 16 9).toInt = (m254_ 16 9).toInt := by rw [p276_.2.2 16 9 (by decide)]
      have f288_ : (m274_ 80 313).toInt = (m254_ 80 313).toInt := by rw [p276_.2.2 80 313 (by decide)]
      have w289_ := p276_.1
      have d290_ : KD m274_ m274_ := KD_S d270_ (p276_.2.2) (p276_.2.2 3 3 (by decide)) (p276_.2.2 77 6 (by decide)) rfl
      have l291_ : LR j m274_ m274_ := LR_S hj l271_ (p276_.2.2) rfl rfl (p276_.2.2 77 17 (by decide))
      have tx292_ : m274_ 0 12 ≠ 0 → TN 16 80 m274_ m274_ := KX_S tx272_ (p276_.2.2) (p276_.2.2 0 12 (by decide)) rfl rfl
      have b293_ : m254_ 78 312 = M 7 8 := Int32.toInt_inj.mp (by omega)
      rw [b293_] at w289_
      have q294_ : (m274_ 1 1).toInt = (m274_ 77 8).toInt := by omega
      have q295_ : (m274_ 7 8).toInt = (m274_ 78 312).toInt := by omega
      have q296_ : (m274_ 16 8).toInt = (m274_ 80 312).toInt := by omega
      have q297_ : (m274_ 0 12).toInt = (m274_ 77 67).toInt := by omega
      have q298_ : (m274_ 7 9).toInt = (m274_ 78 313).toInt := by omega
      have q299_ : (m274_ 16 9).toInt = (m274_ 80 313).toInt := by omega
      have f301_ := r_1_1 hG
      have t300_ : TR m274_ := TR_le hT (by omega) (funext (fun s_ => by rw [p276_.2.2 2 s_ (outc rfl), p256_.2.2 2 s_ (outc rfl)])) (funext (fun s_ => by rw [p276_.2.2 84 s_ (outc rfl), p256_.2.2 84 s_ (outc rfl)]))
      have wk302_ := plan_st hn hG g255_ hT (by omega) (funext (fun s_ => p256_.2.2 84 s_ (outc rfl))) (TN_fr hW (fun _ _ _ => rfl) (fun i_ _ => by rw [(fun c_ hc_ => funext (fun s_ => p256_.2.2 c_ s_ (out77 hc_ rfl))) 78 (by decide)])) e257_ e277_
      have tw303_ : TN 7 78 m274_ m274_ := TN_fr wk302_ (fun x_ h1_ h2_ => funext (fun s_ => p276_.2.2 x_ s_ (out715 h1_ h2_ rfl))) (fun _ _ => rfl)
      refine T_ql (i_add rfl l_7 (by omega) (by omega)) ?_
      intro x304_ h305_
      exact ih j r hj hr hjr x304_ m274_ (by omega) (by omega) g275_ q294_ q295_ q296_ q297_ q298_ q299_ t300_ d290_ l291_ tw303_ tx292_ (by omega)
    refine T_sw rfl l_5 (fun s306_ => ?_) (fun s306_ => ?_)
    · refine T_qg (i_add rfl l_1 (by omega) (by omega)) (by omega) (by omega) ?_
      refine T_qg (i_add rfl l_2 (by omega) (by omega)) (by omega) (by omega) ?_
      refine T_qg (i_add rfl l_3 (by omega) (by omega)) (by omega) (by omega) ?_
      refine T_qcE (t_X11_tries hn hj _ _ _ M hG) ?_
      intro r307_ m308_ e311_ p310_
      have g309_ := p310_.2.1
      have f312_ : (m308_ 1 1).toInt = (M 1 1).toInt := by rw [p310_.2.2 1 1 (by decide)]
      have f313_ : (m308_ 77 8).toInt = (M 77 8).toInt := by rw [p310_.2.2 77 8 (by decide)]
      have f314_ : (m308_ 7 8).toInt = (M 7 8).toInt := by rw [p310_.2.2 7 8 (by decide)]
      have f315_ : (m308_ 78 312).toInt = (M 78 312).toInt := by rw [p310_.2.2 78 312 (by decide)]
      have f316_ : (m308_ 16 8).toInt = (M 16 8).toInt := by rw [p310_.2.2 16 8 (by decide)]
      have f317_ : (m308_ 80 312).toInt = (M 80 312).toInt := by rw [p310_.2.2 80 312 (by decide)]
      have f318_ : (m308_ 0 12).toInt = (M 0 12).toInt := by rw [p310_.2.2 0 12 (by decide)]
      have f319_ : (m308_ 77 67).toInt = (M 77 67).toInt := by rw [p310_.2.2 77 67 (by decide)]
      have f320_ : (m308_ 7 9).toInt = (M 7 9).toInt := by rw [p310_.2.2 7 9 (by decide)]
      have f321_ : (m308_ 78 313).toInt = (M 78 313).toInt := by rw [p310_.2.2 78 313 (by decide)]
      have f322_ : (m308_ 16 9).toInt = (M 16 9).toInt := by rw [p310_.2.2 16 9 (by decide)]
      have f323_ : (m308_ 80 313).toInt = (M 80 313).toInt := by rw [p310_.2.2 80 313 (by decide)]
      have d324_ : KD m308_ m308_ := KD_S hD (p310_.2.2) (p310_.2.2 3 3 (by decide)) (p310_.2.2 77 6 (by decide)) rfl
      have l325_ : LR j m308_ m308_ := LR_S hj hL (p310_.2.2) rfl rfl (p310_.2.2 77 17 (by decide))
      have tx326_ : m308_ 0 12 ≠ 0 → TN 16 80 m308_ m308_ := KX_S hX (p310_.2.2) (p310_.2.2 0 12 (by decide)) rfl rfl
      refine T_qg (i_add rfl l_1 (by omega) (by omega)) (by omega) (by omega) ?_
      refine T_qg (i_add rfl l_2 (by omega) (by omega)) (by omega) (by omega) ?_
      refine T_qg (i_add rfl l_3 (by omega) (by omega)) (by omega) (by omega) ?_
      refine T_qcE (t_X12_tries hn _ _ _ m308_ g309_) ?_
      intro r327_ m328_ e331_ p330_
      have g329_ := p330_.2.1
      have f332_ : (m328_ 1 1).toInt = (m308_ 1 1).toInt := by rw [p330_.2.2 1 1 (by decide)]
      have f333_ : (m328_ 77 8).toInt = (m308_ 77 8).toInt := by rw [p330_.2.2 77 8 (by decide)]
      have f334_ : (m328_ 7 8).toInt = (m308_ 7 8).toInt := by rw [p330_.2.2 7 8 (by decide)]
      have f335_ : (m328_ 78 312).toInt = (m308_ 78 312).toInt := by rw [p330_.2.2 78 312 (by decide)]
      have f336_ : (m328_ 16 8).toInt = (m308_ 16 8).toInt := by rw [p330_.2.2 16 8 (by decide)]
      have f337_ : (m328_ 80 312).toInt = (m308_ 80 312).toInt := by rw [p330_.2.2 80 312 (by decide)]
      have f338_ : (m328_ 0 12).toInt = (m308_ 0 12).toInt := by rw [p330_.2.2 0 12 (by decide)]
      have f339_ : (m328_ 77 67).toInt = (m308_ 77 67).toInt := by rw [p330_.2.2 77 67 (by decide)]
      have f340_ : (m328_ 7 9).toInt = (m308_ 7 9).toInt := by rw [p330_.2.2 7 9 (by decide)]
      have f341_ : (m328_ 78 313).toInt = (m308_ 78 313).toInt := by rw [p330_.2.2 78 313 (by decide)]
      have f342_ : (m328_ 16 9).toInt = (m308_ 16 9).toInt := by rw [p330_.2.2 16 9 (by decide)]
      have f343_ : (m328_ 80 313).toInt = (m308_ 80 313).toInt := by rw [p330_.2.2 80 313 (by decide)]
      have d344_ : KD m328_ m328_ := KD_S d324_ (p330_.2.2) (p330_.2.2 3 3 (by decide)) (p330_.2.2 77 6 (by decide)) rfl
      have l345_ : LR j m328_ m328_ := LR_S hj l325_ (p330_.2.2) rfl rfl (p330_.2.2 77 17 (by decide))
      have tx346_ : m328_ 0 12 ≠ 0 → TN 16 80 m328_ m328_ := KX_S tx326_ (p330_.2.2) (p330_.2.2 0 12 (by decide)) rfl rfl
      have q347_ : (m328_ 1 1).toInt = (m328_ 77 8).toInt := by omega
      have q348_ : (m328_ 7 8).toInt = (m328_ 78 312).toInt := by omega
      have q349_ : (m328_ 16 8).toInt = (m328_ 80 312).toInt := by omega
      have q350_ : (m328_ 0 12).toInt = (m328_ 77 67).toInt := by omega
      have q351_ : (m328_ 7 9).toInt = (m328_ 78 313).toInt := by omega
      have q352_ : (m328_ 16 9).toInt = (m328_ 80 313).toInt := by omega
      have f354_ := r_1_1 hG
      have t353_ : TR m328_ := TR_le hT (by omega) (funext (fun s_ => by rw [p330_.2.2 2 s_ (outc rfl), p310_.2.2 2 s_ (outc rfl)])) (funext (fun s_ => by rw [p330_.2.2 84 s_ (outc rfl), p310_.2.2 84 s_ (outc rfl)]))
      have wk355_ := tries_st hn hj hG g309_ hD hL hW (fun c_ hc_ => funext (fun s_ => p310_.2.2 c_ s_ (out77 hc_ rfl))) e311_ e331_
      have tw356_ : TN 7 78 m328_ m328_ := TN_fr wk355_.2 (fun x_ h1_ h2_ => funext (fun s_ => p330_.2.2 x_ s_ (out715 h1_ h2_ rfl))) (fun _ _ => rfl)
      refine T_ql (i_add rfl l_7 (by omega) (by omega)) ?_
      intro x357_ h358_
      exact ih j r hj hr hjr x357_ m328_ (by omega) (by omega) g329_ q347_ q348_ q349_ q350_ q351_ q352_ t353_ d344_ l345_ tw356_ tx346_ (by omega)
    refine T_sw rfl l_6 (fun s359_ => ?_) (fun s359_ => ?_)
    · refine T_qg (i_add rfl l_1 (by omega) (by omega)) (by omega) (by omega) ?_
      refine T_qg (i_add rfl l_2 (by omega) (by omega)) (by omega) (by omega) ?_
      refine T_qg (i_add rfl l_3 (by omega) (by omega)) (by omega) (by omega) ?_
      refine T_qcE (t_X11_buys hn hj _ _ _ M hG) ?_
      intro r360_ m361_ e364_ p363_
      have g362_ := p363_.2.1
      have f365_ : (m361_ 1 1).toInt = (M 1 1).toInt := by rw [p363_.2.2 1 1 (by decide)]
      have f366_ : (m361_ 77 8).toInt = (M 77 8).toInt := by rw [p363_.2.2 77 8 (by decide)]
      have f367_ : (m361_ 7 8).toInt = (M 7 8).toInt := by rw [p363_.2.2 7 8 (by decide)]
      have f368_ : (m361_ 78 312).toInt = (M 78 312).toInt := by rw [p363_.2.2 78 312 (by decide)]
      have f369_ : (m361_ 16 8).toInt = (M 16 8).toInt := by rw [p363_.2.2 16 8 (by decide)]
      have f370_ : (m361_ 80 312).toInt = (M 80 312).toInt := by rw [p363_.2.2 80 312 (by decide)]
      have f371_ : (m361_ 0 12).toInt = (M 0 12).toInt := by rw [p363_.2.2 0 12 (by decide)]
      have f372_ : (m361_ 77 67).toInt = (M 77 67).toInt := by rw [p363_.2.2 77 67 (by decide)]
      have f373_ : (m361_ 7 9).toInt = (M 7 9).toInt := by rw [p363_.2.2 7 9 (by decide)]
      have f374_ : (m361_ 78 313).toInt = (M 78 313).toInt := by rw [p363_.2.2 78 313 (by decide)]
      have f375_ : (m361_ 16 9).toInt = (M 16 9).toInt := by rw [p363_.2.2 16 9 (by decide)]
      have f376_ : (m361_ 80 313).toInt = (M 80 313).toInt := by rw [p363_.2.2 80 313 (by decide)]
      have d377_ : KD m361_ m361_ := KD_S hD (p363_.2.2) (p363_.2.2 3 3 (by decide)) (p363_.2.2 77 6 (by decide)) rfl
      have l378_ : LR j m361_ m361_ := LR_S hj hL (p363_.2.2) rfl rfl (p363_.2.2 77 17 (by decide))
      have tx379_ : m361_ 0 12 ≠ 0 → TN 16 80 m361_ m361_ := KX_S hX (p363_.2.2) (p363_.2.2 0 12 (by decide)) rfl rfl
      refine T_qg (i_add rfl l_1 (by omega) (by omega)) (by omega) (by omega) ?_
      refine T_qg (i_add rfl l_2 (by omega) (by omega)) (by omega) (by omega) ?_
      refine T_qg (i_add rfl l_3 (by omega) (by omega)) (by omega) (by omega) ?_
      refine T_qcE (t_X12_buys hn _ _ _ m361_ g362_) ?_
      intro r380_ m381_ e384_ p383_
      have g382_ := p383_.2.1
      have f385_ : (m381_ 1 1).toInt = (m361_ 1 1).toInt := by rw [p383_.2.2 1 1 (by decide)]
      have f386_ : (m381_ 77 8).toInt = (m361_ 77 8).toInt := by rw [p383_.2.2 77 8 (by decide)]
      have f387_ : (m381_ 7 8).toInt = (m361_ 7 8).toInt := by rw [p383_.2.2 7 8 (by decide)]
      have f388_ : (m381_ 78 312).toInt = (m361_ 78 312).toInt := by rw [p383_.2.2 78 312 (by decide)]
      have f389_ : (m381_ 16 8).toInt = (m361_ 16 8).toInt := by rw [p383_.2.2 16 8 (by decide)]
      have f390_ : (m381_ 80 312).toInt = (m361_ 80 312).toInt := by rw [p383_.2.2 80 312 (by decide)]
      have f391_ : (m381_ 0 12).toInt = (m361_ 0 12).toInt := by rw [p383_.2.2 0 12 (by decide)]
      have f392_ : (m381_ 77 67).toInt = (m361_ 77 67).toInt := by rw [p383_.2.2 77 67 (by decide)]
      have f393_ : (m381_ 7 9).toInt = (m361_ 7 9).toInt := by rw [p383_.2.2 7 9 (by decide)]
      have f394_ : (m381_ 78 313).toInt = (m361_ 78 313).toInt := by rw [p383_.2.2 78 313 (by decide)]
      have f395_ : (m381_ 16 9).toInt = (m361_ 16 9).toInt := by rw [p383_.2.2 16 9 (by decide)]
      have f396_ : (m381_ 80 313).toInt = (m361_ 80 313).toInt := by rw [p383_.2.2 80 313 (by decide)]
      have d397_ : KD m381_ m381_ := KD_S d377_ (p383_.2.2) (p383_.2.2 3 3 (by decide)) (p383_.2.2 77 6 (by decide)) rfl
      have l398_ : LR j m381_ m381_ := LR_S hj l378_ (p383_.2.2) rfl rfl (p383_.2.2 77 17 (by decide))
      have tx399_ : m381_ 0 12 ≠ 0 → TN 16 80 m381_ m381_ := KX_S tx379_ (p383_.2.2) (p383_.2.2 0 12 (by decide)) rfl rfl
      have q400_ : (m381_ 1 1).toInt = (m381_ 77 8).toInt := by omega
      have q401_ : (m381_ 7 8).toInt = (m381_ 78 312).toInt := by omega
      have q402_ : (m381_ 16 8).toInt = (m381_ 80 312).toInt := by omega
      have q403_ : (m381_ 0 12).toInt = (m381_ 77 67).toInt := by omega
      have q404_ : (m381_ 7 9).toInt = (m381_ 78 313).toInt := by omega
      have q405_ : (m381_ 16 9).toInt = (m381_ 80 313).toInt := by omega
      have f407_ := r_1_1 hG
      have t406_ : TR m381_ := TR_le hT (by omega) (funext (fun s_ => by rw [p383_.2.2 2 s_ (outc rfl), p363_.2.2 2 s_ (outc rfl)])) (funext (fun s_ => by rw [p383_.2.2 84 s_ (outc rfl), p363_.2.2 84 s_ (outc rfl)]))
      have wk408_ := buys_st hn hj hG g362_ hD hL hW (fun c_ hc_ => funext (fun s_ => p363_.2.2 c_ s_ (out77 hc_ rfl))) e364_ e384_
      have tw409_ : TN 7 78 m381_ m381_ := TN_fr wk408_.2 (fun x_ h1_ h2_ => funext (fun s_ => p383_.2.2 x_ s_ (out715 h1_ h2_ rfl))) (fun _ _ => rfl)
      refine T_ql (i_add rfl l_7 (by omega) (by omega)) ?_
      intro x410_ h411_
      exact ih j r hj hr hjr x410_ m381_ (by omega) (by omega) g382_ q400_ q401_ q402_ q403_ q404_ q405_ t406_ d397_ l398_ tw409_ tx399_ (by omega)
    refine T_sw rfl l_7 (fun s412_ => ?_) (fun s412_ => ?_)
    · refine T_qg (i_add rfl l_1 (by omega) (by omega)) (by omega) (by omega) ?_
      refine T_qcE (t_X11_days hn hj _ M hG) ?_
      intro r413_ m414_ e417_ p416_
      have g415_ := p416_.2.1
      have f418_ : (m414_ 1 1).toInt = (M 1 1).toInt := by rw [p416_.2.2 1 1 (by decide)]
      have f419_ : (m414_ 77 8).toInt = (M 77 8).toInt := by rw [p416_.2.2 77 8 (by decide)]
      have f420_ : (m414_ 7 8).toInt = (M 7 8).toInt := by rw [p416_.2.2 7 8 (by decide)]
      have f421_ : (m414_ 78 312).toInt = (M 78 312).toInt := by rw [p416_.2.2 78 312 (by decide)]
      have f422_ : (m414_ 16 8).toInt = (M 16 8).toInt := by rw [p416_.2.2 16 8 (by decide)]
      have f423_ : (m414_ 80 312).toInt = (M 80 312).toInt := by rw [p416_.2.2 80 312 (by decide)]
      have f424_ : (m414_ 0 12).toInt = (M 0 12).toInt := by rw [p416_.2.2 0 12 (by decide)]
      have f425_ : (m414_ 77 67).toInt = (M 77 67).toInt := by rw [p416_.2.2 77 67 (by decide)]
      have f426_ : (m414_ 78 313).toInt = (M 78 313).toInt := by rw [p416_.2.2 78 313 (by decide)]
      have f427_ : (m414_ 16 9).toInt = (M 16 9).toInt := by rw [p416_.2.2 16 9 (by decide)]
      have f428_ : (m414_ 80 313).toInt = (M 80 313).toInt := by rw [p416_.2.2 80 313 (by decide)]
      have w429_ := p416_.1
      have d430_ : KD m414_ m414_ := KD_S hD (p416_.2.2) (p416_.2.2 3 3 (by decide)) (p416_.2.2 77 6 (by decide)) rfl
      have l431_ : LR j m414_ m414_ := LR_S hj hL (p416_.2.2) rfl rfl (p416_.2.2 77 17 (by decide))
      have tx432_ : m414_ 0 12 ≠ 0 → TN 16 80 m414_ m414_ := KX_S hX (p416_.2.2) (p416_.2.2 0 12 (by decide)) rfl rfl
      refine T_qg (i_add rfl l_1 (by omega) (by omega)) (by omega) (by omega) ?_
      refine T_qcE (t_X12_days hn _ m414_ g415_) ?_
      intro r433_ m434_ e437_ p436_
      have g435_ := p436_.2.1
      have f438_ : (m434_ 1 1).toInt = (m414_ 1 1).toInt := by rw [p436_.2.2 1 1 (by decide)]
      have f439_ : (m434_ 77 8).toInt = (m414_ 77 8).toInt := by rw [p436_.2.2 77 8 (by decide)]
      have f440_ : (m434_ 7 8).toInt = (m414_ 7 8).toInt := by rw [p436_.2.2 7 8 (by decide)]
      have f441_ : (m434_ 78 312).toInt = (m414_ 78 312).toInt := by rw [p436_.2.2 78 312 (by decide)]
      have f442_ : (m434_ 16 8).toInt = (m414_ 16 8).toInt := by rw [p436_.2.2 16 8 (by decide)]
      have f443_ : (m434_ 80 312).toInt = (m414_ 80 312).toInt := by rw [p436_.2.2 80 312 (by decide)]
      have f444_ : (m434_ 0 12).toInt = (m414_ 0 12).toInt := by rw [p436_.2.2 0 12 (by decide)]
      have f445_ : (m434_ 77 67).toInt = (m414_ 77 67).toInt := by rw [p436_.2.2 77 67 (by decide)]
      have f446_ : (m434_ 7 9).toInt = (m414_ 7 9).toInt := by rw [p436_.2.2 7 9 (by decide)]
      have f447_ : (m434_ 16 9).toInt = (m414_ 16 9).toInt := by rw [p436_.2.2 16 9 (by decide)]
      have f448_ : (m434_ 80 313).toInt = (m414_ 80 313).toInt := by rw [p436_.2.2 80 313 (by decide)]
      have w449_ := p436_.1
      have d450_ : KD m434_ m434_ := KD_S d430_ (p436_.2.2) (p436_.2.2 3 3 (by decide)) (p436_.2.2 77 6 (by decide)) rfl
      have l451_ : LR j m434_ m434_ := LR_S hj l431_ (p436_.2.2) rfl rfl (p436_.2.2 77 17 (by decide))
      have tx452_ : m434_ 0 12 ≠ 0 → TN 16 80 m434_ m434_ := KX_S tx432_ (p436_.2.2) (p436_.2.2 0 12 (by decide)) rfl rfl
      have q453_ : (m434_ 1 1).toInt = (m434_ 77 8).toInt := by omega
      have q454_ : (m434_ 7 8).toInt = (m434_ 78 312).toInt := by omega
      have q455_ : (m434_ 16 8).toInt = (m434_ 80 312).toInt := by omega
      have q456_ : (m434_ 0 12).toInt = (m434_ 77 67).toInt := by omega
      have q457_ : (m434_ 7 9).toInt = (m434_ 78 313).toInt := by omega
      have q458_ : (m434_ 16 9).toInt = (m434_ 80 313).toInt := by omega
      have f460_ := r_1_1 hG
      have t459_ : TR m434_ := TR_le hT (by omega) (funext (fun s_ => by rw [p436_.2.2 2 s_ (outc rfl), p416_.2.2 2 s_ (outc rfl)])) (funext (fun s_ => by rw [p436_.2.2 84 s_ (outc rfl), p416_.2.2 84 s_ (outc rfl)]))
      have wk461_ := days_st hn hj hG g415_ hD hL hW (fun c_ hc_ => funext (fun s_ => p416_.2.2 c_ s_ (out77 hc_ rfl))) e417_ e437_
      have tw462_ : TN 7 78 m434_ m434_ := TN_fr wk461_.2 (fun x_ h1_ h2_ => funext (fun s_ => p436_.2.2 x_ s_ (out715 h1_ h2_ rfl))) (fun _ _ => rfl)
      refine T_ql (i_add rfl l_7 (by omega) (by omega)) ?_
      intro x463_ h464_
      exact ih j r hj hr hjr x463_ m434_ (by omega) (by omega) g435_ q453_ q454_ q455_ q456_ q457_ q458_ t459_ d450_ l451_ tw462_ tx452_ (by omega)
    refine T_sw rfl l_8 (fun s465_ => ?_) (fun s465_ => ?_)
    · refine T_qg (i_add rfl l_1 (by omega) (by omega)) (by omega) (by omega) ?_
      refine T_qg (i_add rfl l_2 (by omega) (by omega)) (by omega) (by omega) ?_
      refine T_qcE (t_X11_tried hn hj _ _ M hG) ?_
      intro r466_ m467_ e470_ p469_
      have g468_ := p469_.1
      have f471_ : (m467_ 1 1).toInt = (M 1 1).toInt := by rw [p469_.2 1 1 (by decide)]
      have f472_ : (m467_ 77 8).toInt = (M 77 8).toInt := by rw [p469_.2 77 8 (by decide)]
      have f473_ : (m467_ 7 8).toInt = (M 7 8).toInt := by rw [p469_.2 7 8 (by decide)]
      have f474_ : (m467_ 78 312).toInt = (M 78 312).toInt := by rw [p469_.2 78 312 (by decide)]
      have f475_ : (m467_ 16 8).toInt = (M 16 8).toInt := by rw [p469_.2 16 8 (by decide)]
      have f476_ : (m467_ 80 312).toInt = (M 80 312).toInt := by rw [p469_.2 80 312 (by decide)]
      have f477_ : (m467_ 0 12).toInt = (M 0 12).toInt := by rw [p469_.2 0 12 (by decide)]
      have f478_ : (m467_ 77 67).toInt = (M 77 67).toInt := by rw [p469_.2 77 67 (by decide)]
      have f479_ : (m467_ 7 9).toInt = (M 7 9).toInt := by rw [p469_.2 7 9 (by decide)]
      have f480_ : (m467_ 78 313).toInt = (M 78 313).toInt := by rw [p469_.2 78 313 (by decide)]
      have f481_ : (m467_ 16 9).toInt = (M 16 9).toInt := by rw [p469_.2 16 9 (by decide)]
      have f482_ : (m467_ 80 313).toInt = (M 80 313).toInt := by rw [p469_.2 80 313 (by decide)]
      have d483_ : KD m467_ m467_ := KD_S hD (p469_.2) (p469_.2 3 3 (by decide)) (p469_.2 77 6 (by decide)) rfl
      have l484_ : LR j m467_ m467_ := LR_S hj hL (p469_.2) rfl rfl (p469_.2 77 17 (by decide))
      have tx485_ : m467_ 0 12 ≠ 0 → TN 16 80 m467_ m467_ := KX_S hX (p469_.2) (p469_.2 0 12 (by decide)) rfl rfl
      refine T_qg (i_add rfl l_1 (by omega) (by omega)) (by omega) (by omega) ?_
      refine T_qg (i_add rfl l_2 (by omega) (by omega)) (by omega) (by omega) ?_
      refine T_qcE (t_X12_tried hn _ _ m467_ g468_) ?_
      intro r486_ m487_ e490_ p489_
      have g488_ := p489_.2.1
      have f491_ : (m487_ 1 1).toInt = (m467_ 1 1).toInt := by rw [p489_.2.2 1 1 (by decide)]
      have f492_ : (m487_ 77 8).toInt = (m467_ 77 8).toInt := by rw [p489_.2.2 77 8 (by decide)]
      have f493_ : (m487_ 7 8).toInt = (m467_ 7 8).toInt := by rw [p489_.2.2 7 8 (by decide)]
      have f494_ : (m487_ 16 8).toInt = (m467_ 16 8).toInt := by rw [p489_.2.2 16 8 (by decide)]
      have f495_ : (m487_ 80 312).toInt = (m467_ 80 312).toInt := by rw [p489_.2.2 80 312 (by decide)]
      have f496_ : (m487_ 0 12).toInt = (m467_ 0 12).toInt := by rw [p489_.2.2 0 12 (by decide)]
      have f497_ : (m487_ 77 67).toInt = (m467_ 77 67).toInt := by rw [p489_.2.2 77 67 (by decide)]
      have f498_ : (m487_ 7 9).toInt = (m467_ 7 9).toInt := by rw [p489_.2.2 7 9 (by decide)]
      have f499_ : (m487_ 16 9).toInt = (m467_ 16 9).toInt := by rw [p489_.2.2 16 9 (by decide)]
      have f500_ : (m487_ 80 313).toInt = (m467_ 80 313).toInt := by rw [p489_.2.2 80 313 (by decide)]
      have w501_ := p489_.1
      have d502_ : KD m487_ m487_ := KD_S d483_ (p489_.2.2) (p489_.2.2 3 3 (by decide)) (p489_.2.2 77 6 (by decide)) rfl
      have l503_ : LR j m487_ m487_ := LR_S hj l484_ (p489_.2.2) rfl rfl (p489_.2.2 77 17 (by decide))
      have tx504_ : m487_ 0 12 ≠ 0 → TN 16 80 m487_ m487_ := KX_S tx485_ (p489_.2.2) (p489_.2.2 0 12 (by decide)) rfl rfl
      have q505_ : (m487_ 1 1).toInt = (m487_ 77 8).toInt := by omega
      have q506_ : (m487_ 7 8).toInt = (m487_ 78 312).toInt := by omega
      have q507_ : (m487_ 16 8).toInt = (m487_ 80 312).toInt := by omega
      have q508_ : (m487_ 0 12).toInt = (m487_ 77 67).toInt := by omega
      have q509_ : (m487_ 7 9).toInt = (m487_ 78 313).toInt := by omega
      have q510_ : (m487_ 16 9).toInt = (m487_ 80 313).toInt := by omega
      have f512_ := r_1_1 hG
      have t511_ : TR m487_ := TR_le hT (by omega) (funext (fun s_ => by rw [p489_.2.2 2 s_ (outc rfl), p469_.2 2 s_ (outc rfl)])) (funext (fun s_ => by rw [p489_.2.2 84 s_ (outc rfl), p469_.2 84 s_ (outc rfl)]))
      have wk513_ := tried_st hn hj hG g468_ hD hL hW (fun c_ hc_ => funext (fun s_ => p469_.2 c_ s_ (out77 hc_ rfl))) e470_ e490_
      have tw514_ : TN 7 78 m487_ m487_ := TN_fr hW (fun x_ h1_ h2_ => funext (fun s_ => (p489_.2.2 x_ s_ (out715 h1_ h2_ rfl)).trans (p469_.2 x_ s_ (out715 h1_ h2_ rfl)))) (fun i_ hi_ => (wk513_.2 i_ hi_).trans (by rw [(fun c_ hc_ => funext (fun s_ => p469_.2 c_ s_ (out77 hc_ rfl))) 78 (by decide)]))
      refine T_ql (i_add rfl l_7 (by omega) (by omega)) ?_
      intro x515_ h516_
      exact ih j r hj hr hjr x515_ m487_ (by omega) (by omega) g488_ q505_ q506_ q507_ q508_ q509_ q510_ t511_ d502_ l503_ tw514_ tx504_ (by omega)
    refine T_sw rfl l_9 (fun s517_ => ?_) (fun s517_ => ?_)
    · refine T_qg (i_add rfl l_1 (by omega) (by omega)) (by omega) (by omega) ?_
      refine T_qg (i_add rfl l_2 (by omega) (by omega)) (by omega) (by omega) ?_
      refine T_qg (i_add rfl l_3 (by omega) (by omega)) (by omega) (by omega) ?_
      refine T_qcE (t_X11_has hn hj _ _ _ M hG) ?_
      intro r518_ m519_ e522_ p521_
      have g520_ := p521_.1
      have f523_ : (m519_ 1 1).toInt = (M 1 1).toInt := by rw [p521_.2 1 1 (by decide)]
      have f524_ : (m519_ 77 8).toInt = (M 77 8).toInt := by rw [p521_.2 77 8 (by decide)]
      have f525_ : (m519_ 7 8).toInt = (M 7 8).toInt := by rw [p521_.2 7 8 (by decide)]
      have f526_ : (m519_ 78 312).toInt = (M 78 312).toInt := by rw [p521_.2 78 312 (by decide)]
      have f527_ : (m519_ 16 8).toInt = (M 16 8).toInt := by rw [p521_.2 16 8 (by decide)]
      have f528_ : (m519_ 80 312).toInt = (M 80 312).toInt := by rw [p521_.2 80 312 (by decide)]
      have f529_ : (m519_ 0 12).toInt = (M 0 12).toInt := by rw [p521_.2 0 12 (by decide)]
      have f530_ : (m519_ 77 67).toInt = (M 77 67).toInt := by rw [p521_.2 77 67 (by decide)]
      have f531_ : (m519_ 7 9).toInt = (M 7 9).toInt := by rw [p521_.2 7 9 (by decide)]
      have f532_ : (m519_ 78 313).toInt = (M 78 313).toInt := by rw [p521_.2 78 313 (by decide)]
      have f533_ : (m519_ 16 9).toInt = (M 16 9).toInt := by rw [p521_.2 16 9 (by decide)]
      have f534_ : (m519_ 80 313).toInt = (M 80 313).toInt := by rw [p521_.2 80 313 (by decide)]
      have d535_ : KD m519_ m519_ := KD_S hD (p521_.2) (p521_.2 3 3 (by decide)) (p521_.2 77 6 (by decide)) rfl
      have l536_ : LR j m519_ m519_ := LR_S hj hL (p521_.2) rfl rfl (p521_.2 77 17 (by decide))
      have tx537_ : m519_ 0 12 ≠ 0 → TN 16 80 m519_ m519_ := KX_S hX (p521_.2) (p521_.2 0 12 (by decide)) rfl rfl
      refine T_qg (i_add rfl l_1 (by omega) (by omega)) (by omega) (by omega) ?_
      refine T_qg (i_add rfl l_2 (by omega) (by omega)) (by omega) (by omega) ?_
      refine T_qg (i_add rfl l_3 (by omega) (by omega)) (by omega) (by omega) ?_
      refine T_qcE (t_X12_has hn _ _ _ m519_ g520_) ?_
      intro r538_ m539_ e542_ p541_
      have g540_ := p541_.2.1
      have f543_ : (m539_ 1 1).toInt = (m519_ 1 1).toInt := by rw [p541_.2.2 1 1 (by decide)]
      have f544_ : (m539_ 77 8).toInt = (m519_ 77 8).toInt := by rw [p541_.2.2 77 8 (by decide)]
      have f545_ : (m539_ 7 8).toInt = (m519_ 7 8).toInt := by rw [p541_.2.2 7 8 (by decide)]
      have f546_ : (m539_ 16 8).toInt = (m519_ 16 8).toInt := by rw [p541_.2.2 16 8 (by decide)]
      have f547_ : (m539_ 80 312).toInt = (m519_ 80 312).toInt := by rw [p541_.2.2 80 312 (by decide)]
      have f548_ : (m539_ 0 12).toInt = (m519_ 0 12).toInt := by rw [p541_.2.2 0 12 (by decide)]
      have f549_ : (m539_ 77 67).toInt = (m519_ 77 67).toInt := by rw [p541_.2.2 77 67 (by decide)]
      have f550_ : (m539_ 7 9).toInt = (m519_ 7 9).toInt := by rw [p541_.2.2 7 9 (by decide)]
      have f551_ : (m539_ 16 9).toInt = (m519_ 16 9).toInt := by rw [p541_.2.2 16 9 (by decide)]
      have f552_ : (m539_ 80 313).toInt = (m519_ 80 313).toInt := by rw [p541_.2.2 80 313 (by decide)]
      have w553_ := p541_.1
      have d554_ : KD m539_ m539_ := KD_S d535_ (p541_.2.2) (p541_.2.2 3 3 (by decide)) (p541_.2.2 77 6 (by decide)) rfl
      have l555_ : LR j m539_ m539_ := LR_S hj l536_ (p541_.2.2) rfl rfl (p541_.2.2 77 17 (by decide))
      have tx556_ : m539_ 0 12 ≠ 0 → TN 16 80 m539_ m539_ := KX_S tx537_ (p541_.2.2) (p541_.2.2 0 12 (by decide)) rfl rfl
      have q557_ : (m539_ 1 1).toInt = (m539_ 77 8).toInt := by omega
      have q558_ : (m539_ 7 8).toInt = (m539_ 78 312).toInt := by omega
      have q559_ : (m539_ 16 8).toInt = (m539_ 80 312).toInt := by omega
      have q560_ : (m539_ 0 12).toInt = (m539_ 77 67).toInt := by omega
      have q561_ : (m539_ 7 9).toInt = (m539_ 78 313).toInt := by omega
      have q562_ : (m539_ 16 9).toInt = (m539_ 80 313).toInt := by omega
      have f564_ := r_1_1 hG
      have t563_ : TR m539_ := TR_le hT (by omega) (funext (fun s_ => by rw [p541_.2.2 2 s_ (outc rfl), p521_.2 2 s_ (outc rfl)])) (funext (fun s_ => by rw [p541_.2.2 84 s_ (outc rfl), p521_.2 84 s_ (outc rfl)]))
      have wk565_ := has_st hn hj hG g520_ hD hL hW (fun c_ hc_ => funext (fun s_ => p521_.2 c_ s_ (out77 hc_ rfl))) e522_ e542_
      have tw566_ : TN 7 78 m539_ m539_ := TN_fr hW (fun x_ h1_ h2_ => funext (fun s_ => (p541_.2.2 x_ s_ (out715 h1_ h2_ rfl)).trans (p521_.2 x_ s_ (out715 h1_ h2_ rfl)))) (fun i_ hi_ => (wk565_.2 i_ hi_).trans (by rw [(fun c_ hc_ => funext (fun s_ => p521_.2 c_ s_ (out77 hc_ rfl))) 78 (by decide)]))
      refine T_ql (i_add rfl l_7 (by omega) (by omega)) ?_
      intro x567_ h568_
      exact ih j r hj hr hjr x567_ m539_ (by omega) (by omega) g540_ q557_ q558_ q559_ q560_ q561_ q562_ t563_ d554_ l555_ tw566_ tx556_ (by omega)
    refine T_sw rfl l_10 (fun s569_ => ?_) (fun s569_ => ?_)
    · refine T_qg (i_add rfl l_1 (by omega) (by omega)) (by omega) (by omega) ?_
      refine T_qg (i_add rfl l_2 (by omega) (by omega)) (by omega) (by omega) ?_
      refine T_qcE (t_X11_alike hn hj _ _ M hG) ?_
      intro r570_ m571_ e574_ p573_
      have g572_ := p573_.2.1
      have f575_ : (m571_ 1 1).toInt = (M 1 1).toInt := by rw [p573_.2.2 1 1 (by decide)]
      have f576_ : (m571_ 77 8).toInt = (M 77 8).toInt := by rw [p573_.2.2 77 8 (by decide)]
      have f577_ : (m571_ 7 8).toInt = (M 7 8).toInt := by rw [p573_.2.2 7 8 (by decide)]
      have f578_ : (m571_ 78 312).toInt = (M 78 312).toInt := by rw [p573_.2.2 78 312 (by decide)]
      have f579_ : (m571_ 16 8).toInt = (M 16 8).toInt := by rw [p573_.2.2 16 8 (by decide)]
      have f580_ : (m571_ 80 312).toInt = (M 80 312).toInt := by rw [p573_.2.2 80 312 (by decide)]
      have f581_ : (m571_ 0 12).toInt = (M 0 12).toInt := by rw [p573_.2.2 0 12 (by decide)]
      have f582_ : (m571_ 77 67).toInt = (M 77 67).toInt := by rw [p573_.2.2 77 67 (by decide)]
      have f583_ : (m571_ 7 9).toInt = (M 7 9).toInt := by rw [p573_.2.2 7 9 (by decide)]
      have f584_ : (m571_ 78 313).toInt = (M 78 313).toInt := by rw [p573_.2.2 78 313 (by decide)]
      have f585_ : (m571_ 16 9).toInt = (M 16 9).toInt := by rw [p573_.2.2 16 9 (by decide)]
      have f586_ : (m571_ 80 313).toInt = (M 80 313).toInt := by rw [p573_.2.2 80 313 (by decide)]
      have d587_ : KD m571_ m571_ := KD_S hD (p573_.2.2) (p573_.2.2 3 3 (by decide)) (p573_.2.2 77 6 (by decide)) rfl
      have l588_ : LR j m571_ m571_ := LR_S hj hL (p573_.2.2) rfl rfl (p573_.2.2 77 17 (by decide))
      have tw589_ : TN 7 78 m571_ m571_ := TN_S hW (p573_.2.2) rfl rfl
      have tx590_ : m571_ 0 12 ≠ 0 → TN 16 80 m571_ m571_ := KX_S hX (p573_.2.2) (p573_.2.2 0 12 (by decide)) rfl rfl
      refine T_qg (i_add rfl l_1 (by omega) (by omega)) (by omega) (by omega) ?_
      refine T_qg (i_add rfl l_2 (by omega) (by omega)) (by omega) (by omega) ?_
      refine T_qcE (t_X12_alike hn _ _ m571_ g572_) ?_
      intro r591_ m592_ e595_ p594_
      have g593_ := p594_.2.1
      have f596_ : (m592_ 1 1).toInt = (m571_ 1 1).toInt := by rw [p594_.2.2 1 1 (by decide)]
      have f597_ : (m592_ 77 8).toInt = (m571_ 77 8).toInt := by rw [p594_.2.2 77 8 (by decide)]
      have f598_ : (m592_ 7 8).toInt = (m571_ 7 8).toInt := by rw [p594_.2.2 7 8 (by decide)]
      have f599_ : (m592_ 78 312).toInt = (m571_ 78 312).toInt := by rw [p594_.2.2 78 312 (by decide)]
      have f600_ : (m592_ 16 8).toInt = (m571_ 16 8).toInt := by rw [p594_.2.2 16 8 (by decide)]
      have f601_ : (m592_ 80 312).toInt = (m571_ 80 312).toInt := by rw [p594_.2.2 80 312 (by decide)]
      have f602_ : (m592_ 0 12).toInt = (m571_ 0 12).toInt := by rw [p594_.2.2 0 12 (by decide)]
      have f603_ : (m592_ 77 67).toInt = (m571_ 77 67).toInt := by rw [p594_.2.2 77 67 (by decide)]
      have f604_ : (m592_ 7 9).toInt = (m571_ 7 9).toInt := by rw [p594_.2.2 7 9 (by decide)]
      have f605_ : (m592_ 78 313).toInt = (m571_ 78 313).toInt := by rw [p594_.2.2 78 313 (by decide)]
      have f606_ : (m592_ 16 9).toInt = (m571_ 16 9).toInt := by rw [p594_.2.2 16 9 (by decide)]
      have f607_ : (m592_ 80 313).toInt = (m571_ 80 313).toInt := by rw [p594_.2.2 80 313 (by decide)]
      have d608_ : KD m592_ m592_ := KD_S d587_ (p594_.2.2) (p594_.2.2 3 3 (by decide)) (p594_.2.2 77 6 (by decide)) rfl
      have l609_ : LR j m592_ m592_ := LR_S hj l588_ (p594_.2.2) rfl rfl (p594_.2.2 77 17 (by decide))
      have tw610_ : TN 7 78 m592_ m592_ := TN_S tw589_ (p594_.2.2) rfl rfl
      have tx611_ : m592_ 0 12 ≠ 0 → TN 16 80 m592_ m592_ := KX_S tx590_ (p594_.2.2) (p594_.2.2 0 12 (by decide)) rfl rfl
      have q612_ : (m592_ 1 1).toInt = (m592_ 77 8).toInt := by omega
      have q613_ : (m592_ 7 8).toInt = (m592_ 78 312).toInt := by omega
      have q614_ : (m592_ 16 8).toInt = (m592_ 80 312).toInt := by omega
      have q615_ : (m592_ 0 12).toInt = (m592_ 77 67).toInt := by omega
      have q616_ : (m592_ 7 9).toInt = (m592_ 78 313).toInt := by omega
      have q617_ : (m592_ 16 9).toInt = (m592_ 80 313).toInt := by omega
      have f619_ := r_1_1 hG
      have t618_ : TR m592_ := TR_le hT (by omega) (funext (fun s_ => by rw [p594_.2.2 2 s_ (outc rfl), p573_.2.2 2 s_ (outc rfl)])) (funext (fun s_ => by rw [p594_.2.2 84 s_ (outc rfl), p573_.2.2 84 s_ (outc rfl)]))
      refine T_ql (i_add rfl l_7 (by omega) (by omega)) ?_
      intro x620_ h621_
      exact ih j r hj hr hjr x620_ m592_ (by omega) (by omega) g593_ q612_ q613_ q614_ q615_ q616_ q617_ t618_ d608_ l609_ tw610_ tx611_ (by omega)
    refine T_sw rfl l_11 (fun s622_ => ?_) (fun s622_ => ?_)
    · refine T_qg (i_add rfl l_1 (by omega) (by omega)) (by omega) (by omega) ?_
      refine T_qg (i_add rfl l_2 (by omega) (by omega)) (by omega) (by omega) ?_
      refine T_qg (i_add rfl l_3 (by omega) (by omega)) (by omega) (by omega) ?_
      refine T_qcE (t_X11_cost hn hj _ _ _ M hG) ?_
      intro r623_ m624_ e627_ p626_
      have g625_ := p626_.2.1
      have f628_ : (m624_ 1 1).toInt = (M 1 1).toInt := by rw [p626_.2.2 1 1 (by decide)]
      have f629_ : (m624_ 77 8).toInt = (M 77 8).toInt := by rw [p626_.2.2 77 8 (by decide)]
      have f630_ : (m624_ 7 8).toInt = (M 7 8).toInt := by rw [p626_.2.2 7 8 (by decide)]
      have f631_ : (m624_ 78 312).toInt = (M 78 312).toInt := by rw [p626_.2.2 78 312 (by decide)]
      have f632_ : (m624_ 16 8).toInt = (M 16 8).toInt := by rw [p626_.2.2 16 8 (by decide)]
      have f633_ : (m624_ 80 312).toInt = (M 80 312).toInt := by rw [p626_.2.2 80 312 (by decide)]
      have f634_ : (m624_ 0 12).toInt = (M 0 12).toInt := by rw [p626_.2.2 0 12 (by decide)]
      have f635_ : (m624_ 77 67).toInt = (M 77 67).toInt := by rw [p626_.2.2 77 67 (by decide)]
      have f636_ : (m624_ 7 9).toInt = (M 7 9).toInt := by rw [p626_.2.2 7 9 (by decide)]
      have f637_ : (m624_ 78 313).toInt = (M 78 313).toInt := by rw [p626_.2.2 78 313 (by decide)]
      have f638_ : (m624_ 16 9).toInt = (M 16 9).toInt := by rw [p626_.2.2 16 9 (by decide)]
      have f639_ : (m624_ 80 313).toInt = (M 80 313).toInt := by rw [p626_.2.2 80 313 (by decide)]
      have d640_ : KD m624_ m624_ := KD_S hD (p626_.2.2) (p626_.2.2 3 3 (by decide)) (p626_.2.2 77 6 (by decide)) rfl
      have l641_ : LR j m624_ m624_ := LR_S hj hL (p626_.2.2) rfl rfl (p626_.2.2 77 17 (by decide))
      have tw642_ : TN 7 78 m624_ m624_ := TN_S hW (p626_.2.2) rfl rfl
      have tx643_ : m624_ 0 12 ≠ 0 → TN 16 80 m624_ m624_ := KX_S hX (p626_.2.2) (p626_.2.2 0 12 (by decide)) rfl rfl
      refine T_qg (i_add rfl l_1 (by omega) (by omega)) (by omega) (by omega) ?_
      refine T_qg (i_add rfl l_2 (by omega) (by omega)) (by omega) (by omega) ?_
      refine T_qg (i_add rfl l_3 (by omega) (by omega)) (by omega) (by omega) ?_
      refine T_qcE (t_X12_cost hn _ _ _ m624_ g625_) ?_
      intro r644_ m645_ e648_ p647_
      have g646_ := p647_.2.1
      have f649_ : (m645_ 1 1).toInt = (m624_ 1 1).toInt := by rw [p647_.2.2 1 1 (by decide)]
      have f650_ : (m645_ 77 8).toInt = (m624_ 77 8).toInt := by rw [p647_.2.2 77 8 (by decide)]
      have f651_ : (m645_ 7 8).toInt = (m624_ 7 8).toInt := by rw [p647_.2.2 7 8 (by decide)]
      have f652_ : (m645_ 78 312).toInt = (m624_ 78 312).toInt := by rw [p647_.2.2 78 312 (by decide)]
      have f653_ : (m645_ 16 8).toInt = (m624_ 16 8).toInt := by rw [p647_.2.2 16 8 (by decide)]
      have f654_ : (m645_ 80 312).toInt = (m624_ 80 312).toInt := by rw [p647_.2.2 80 312 (by decide)]
      have f655_ : (m645_ 0 12).toInt = (m624_ 0 12).toInt := by rw [p647_.2.2 0 12 (by decide)]
      have f656_ : (m645_ 77 67).toInt = (m624_ 77 67).toInt := by rw [p647_.2.2 77 67 (by decide)]
      have f657_ : (m645_ 7 9).toInt = (m624_ 7 9).toInt := by rw [p647_.2.2 7 9 (by decide)]
      have f658_ : (m645_ 78 313).toInt = (m624_ 78 313).toInt := by rw [p647_.2.2 78 313 (by decide)]
      have f659_ : (m645_ 16 9).toInt = (m624_ 16 9).toInt := by rw [p647_.2.2 16 9 (by decide)]
      have f660_ : (m645_ 80 313).toInt = (m624_ 80 313).toInt := by rw [p647_.2.2 80 313 (by decide)]
      have d661_ : KD m645_ m645_ := KD_S d640_ (p647_.2.2) (p647_.2.2 3 3 (by decide)) (p647_.2.2 77 6 (by decide)) rfl
      have l662_ : LR j m645_ m645_ := LR_S hj l641_ (p647_.2.2) rfl rfl (p647_.2.2 77 17 (by decide))
      have tw663_ : TN 7 78 m645_ m645_ := TN_S tw642_ (p647_.2.2) rfl rfl
      have tx664_ : m645_ 0 12 ≠ 0 → TN 16 80 m645_ m645_ := KX_S tx643_ (p647_.2.2) (p647_.2.2 0 12 (by decide)) rfl rfl
      have q665_ : (m645_ 1 1).toInt = (m645_ 77 8).toInt := by omega
      have q666_ : (m645_ 7 8).toInt = (m645_ 78 312).toInt := by omega
      have q667_ : (m645_ 16 8).toInt = (m645_ 80 312).toInt := by omega
      have q668_ : (m645_ 0 12).toInt = (m645_ 77 67).toInt := by omega
      have q669_ : (m645_ 7 9).toInt = (m645_ 78 313).toInt := by omega
      have q670_ : (m645_ 16 9).toInt = (m645_ 80 313).toInt := by omega
      have f672_ := r_1_1 hG
      have t671_ : TR m645_ := TR_le hT (by omega) (funext (fun s_ => by rw [p647_.2.2 2 s_ (outc rfl), p626_.2.2 2 s_ (outc rfl)])) (funext (fun s_ => by rw [p647_.2.2 84 s_ (outc rfl), p626_.2.2 84 s_ (outc rfl)]))
      refine T_ql (i_add rfl l_7 (by omega) (by omega)) ?_
      intro x673_ h674_
      exact ih j r hj hr hjr x673_ m645_ (by omega) (by omega) g646_ q665_ q666_ q667_ q668_ q669_ q670_ t671_ d661_ l662_ tw663_ tx664_ (by omega)
    refine T_sw rfl l_12 (fun s675_ => ?_) (fun s675_ => ?_)
    · refine T_qg (i_add rfl l_1 (by omega) (by omega)) (by omega) (by omega) ?_
      refine T_qg (i_add rfl l_2 (by omega) (by omega)) (by omega) (by omega) ?_
      refine T_qg (i_add rfl l_3 (by omega) (by omega)) (by omega) (by omega) ?_
      refine T_qg (i_add rfl l_4 (by omega) (by omega)) (by omega) (by omega) ?_
      refine T_qg (i_add rfl l_5 (by omega) (by omega)) (by omega) (by omega) ?_
      refine T_qcE (t_X11_soonest hn hj _ _ _ _ _ M hG) ?_
      intro r676_ m677_ e680_ p679_
      have g678_ := p679_.1
      have f681_ : (m677_ 1 1).toInt = (M 1 1).toInt := by rw [p679_.2 1 1 (by decide)]
      have f682_ : (m677_ 77 8).toInt = (M 77 8).toInt := by rw [p679_.2 77 8 (by decide)]
      have f683_ : (m677_ 7 8).toInt = (M 7 8).toInt := by rw [p679_.2 7 8 (by decide)]
      have f684_ : (m677_ 78 312).toInt = (M 78 312).toInt := by rw [p679_.2 78 312 (by decide)]
      have f685_ : (m677_ 16 8).toInt = (M 16 8).toInt := by rw [p679_.2 16 8 (by decide)]
      have f686_ : (m677_ 80 312).toInt = (M 80 312).toInt := by rw [p679_.2 80 312 (by decide)]
      have f687_ : (m677_ 0 12).toInt = (M 0 12).toInt := by rw [p679_.2 0 12 (by decide)]
      have f688_ : (m677_ 77 67).toInt = (M 77 67).toInt := by rw [p679_.2 77 67 (by decide)]
      have f689_ : (m677_ 7 9).toInt = (M 7 9).toInt := by rw [p679_.2 7 9 (by decide)]
      have f690_ : (m677_ 78 313).toInt = (M 78 313).toInt := by rw [p679_.2 78 313 (by decide)]
      have f691_ : (m677_ 16 9).toInt = (M 16 9).toInt := by rw [p679_.2 16 9 (by decide)]
      have f692_ : (m677_ 80 313).toInt = (M 80 313).toInt := by rw [p679_.2 80 313 (by decide)]
      have d693_ : KD m677_ m677_ := KD_S hD (p679_.2) (p679_.2 3 3 (by decide)) (p679_.2 77 6 (by decide)) rfl
      have l694_ : LR j m677_ m677_ := LR_S hj hL (p679_.2) rfl rfl (p679_.2 77 17 (by decide))
      have tw695_ : TN 7 78 m677_ m677_ := TN_S hW (p679_.2) rfl rfl
      have tx696_ : m677_ 0 12 ≠ 0 → TN 16 80 m677_ m677_ := KX_S hX (p679_.2) (p679_.2 0 12 (by decide)) rfl rfl
      refine T_qg (i_add rfl l_1 (by omega) (by omega)) (by omega) (by omega) ?_
      refine T_qg (i_add rfl l_2 (by omega) (by omega)) (by omega) (by omega) ?_
      refine T_qg (i_add rfl l_3 (by omega) (by omega)) (by omega) (by omega) ?_
      refine T_qg (i_add rfl l_4 (by omega) (by omega)) (by omega) (by omega) ?_
      refine T_qg (i_add rfl l_5 (by omega) (by omega)) (by omega) (by omega) ?_
      refine T_qcE (t_X12_soonest hn _ _ _ _ _ m677_ g678_) ?_
      intro r697_ m698_ e701_ p700_
      have g699_ := p700_.1
      have f702_ : (m698_ 1 1).toInt = (m677_ 1 1).toInt := by rw [p700_.2 1 1 (by decide)]
      have f703_ : (m698_ 77 8).toInt = (m677_ 77 8).toInt := by rw [p700_.2 77 8 (by decide)]
      have f704_ : (m698_ 7 8).toInt = (m677_ 7 8).toInt := by rw [p700_.2 7 8 (by decide)]
      have f705_ : (m698_ 78 312).toInt = (m677_ 78 312).toInt := by rw [p700_.2 78 312 (by decide)]
      have f706_ : (m698_ 16 8).toInt = (m677_ 16 8).toInt := by rw [p700_.2 16 8 (by decide)]
      have f707_ : (m698_ 80 312).toInt = (m677_ 80 312).toInt := by rw [p700_.2 80 312 (by decide)]
      have f708_ : (m698_ 0 12).toInt = (m677_ 0 12).toInt := by rw [p700_.2 0 12 (by decide)]
      have f709_ : (m698_ 77 67).toInt = (m677_ 77 67).toInt := by rw [p700_.2 77 67 (by decide)]
      have f710_ : (m698_ 7 9).toInt = (m677_ 7 9).toInt := by rw [p700_.2 7 9 (by decide)]
      have f711_ : (m698_ 78 313).toInt = (m677_ 78 313).toInt := by rw [p700_.2 78 313 (by decide)]
      have f712_ : (m698_ 16 9).toInt = (m677_ 16 9).toInt := by rw [p700_.2 16 9 (by decide)]
      have f713_ : (m698_ 80 313).toInt = (m677_ 80 313).toInt := by rw [p700_.2 80 313 (by decide)]
      have d714_ : KD m698_ m698_ := KD_S d693_ (p700_.2) (p700_.2 3 3 (by decide)) (p700_.2 77 6 (by decide)) rfl
      have l715_ : LR j m698_ m698_ := LR_S hj l694_ (p700_.2) rfl rfl (p700_.2 77 17 (by decide))
      have tw716_ : TN 7 78 m698_ m698_ := TN_S tw695_ (p700_.2) rfl rfl
      have tx717_ : m698_ 0 12 ≠ 0 → TN 16 80 m698_ m698_ := KX_S tx696_ (p700_.2) (p700_.2 0 12 (by decide)) rfl rfl
      have q718_ : (m698_ 1 1).toInt = (m698_ 77 8).toInt := by omega
      have q719_ : (m698_ 7 8).toInt = (m698_ 78 312).toInt := by omega
      have q720_ : (m698_ 16 8).toInt = (m698_ 80 312).toInt := by omega
      have q721_ : (m698_ 0 12).toInt = (m698_ 77 67).toInt := by omega
      have q722_ : (m698_ 7 9).toInt = (m698_ 78 313).toInt := by omega
      have q723_ : (m698_ 16 9).toInt = (m698_ 80 313).toInt := by omega
      have f725_ := r_1_1 hG
      have t724_ : TR m698_ := TR_le hT (by omega) (funext (fun s_ => by rw [p700_.2 2 s_ (outc rfl), p679_.2 2 s_ (outc rfl)])) (funext (fun s_ => by rw [p700_.2 84 s_ (outc rfl), p679_.2 84 s_ (outc rfl)]))
      refine T_ql (i_add rfl l_7 (by omega) (by omega)) ?_
      intro x726_ h727_
      exact ih j r hj hr hjr x726_ m698_ (by omega) (by omega) g699_ q718_ q719_ q720_ q721_ q722_ q723_ t724_ d714_ l715_ tw716_ tx717_ (by omega)
    refine T_sw rfl l_13 (fun s728_ => ?_) (fun s728_ => ?_)
    · refine T_qg (i_add rfl l_1 (by omega) (by omega)) (by omega) (by omega) ?_
      refine T_qg (i_add rfl l_2 (by omega) (by omega)) (by omega) (by omega) ?_
      refine T_qg (i_add rfl l_3 (by omega) (by omega)) (by omega) (by omega) ?_
      refine T_qg (i_add rfl l_4 (by omega) (by omega)) (by omega) (by omega) ?_
      refine T_qg (i_add rfl l_5 (by omega) (by omega)) (by omega) (by omega) ?_
      refine T_qcE (t_X11_cheapest hn hj _ _ _ _ _ M hG) ?_
      intro r729_ m730_ e733_ p732_
      have g731_ := p732_.1
      have f734_ : (m730_ 1 1).toInt = (M 1 1).toInt := by rw [p732_.2 1 1 (by decide)]
      have f735_ : (m730_ 77 8).toInt = (M 77 8).toInt := by rw [p732_.2 77 8 (by decide)]
      have f736_ : (m730_ 7 8).toInt = (M 7 8).toInt := by rw [p732_.2 7 8 (by decide)]
      have f737_ : (m730_ 78 312).toInt = (M 78 312).toInt := by rw [p732_.2 78 312 (by decide)]
      have f738_ : (m730_ 16 8).toInt = (M 16 8).toInt := by rw [p732_.2 16 8 (by decide)]
      have f739_ : (m730_ 80 312).toInt = (M 80 312).toInt := by rw [p732_.2 80 312 (by decide)]
      have f740_ : (m730_ 0 12).toInt = (M 0 12).toInt := by rw [p732_.2 0 12 (by decide)]
      have f741_ : (m730_ 77 67).toInt = (M 77 67).toInt := by rw [p732_.2 77 67 (by decide)]
      have f742_ : (m730_ 7 9).toInt = (M 7 9).toInt := by rw [p732_.2 7 9 (by decide)]
      have f743_ : (m730_ 78 313).toInt = (M 78 313).toInt := by rw [p732_.2 78 313 (by decide)]
      have f744_ : (m730_ 16 9).toInt = (M 16 9).toInt := by rw [p732_.2 16 9 (by decide)]
      have f745_ : (m730_ 80 313).toInt = (M 80 313).toInt := by rw [p732_.2 80 313 (by decide)]
      have d746_ : KD m730_ m730_ := KD_S hD (p732_.2) (p732_.2 3 3 (by decide)) (p732_.2 77 6 (by decide)) rfl
      have l747_ : LR j m730_ m730_ := LR_S hj hL (p732_.2) rfl rfl (p732_.2 77 17 (by decide))
      have tw748_ : TN 7 78 m730_ m730_ := TN_S hW (p732_.2) rfl rfl
      have tx749_ : m730_ 0 12 ≠ 0 → TN 16 80 m730_ m730_ := KX_S hX (p732_.2) (p732_.2 0 12 (by decide)) rfl rfl
      refine T_qg (i_add rfl l_1 (by omega) (by omega)) (by omega) (by omega) ?_
      refine T_qg (i_add rfl l_2 (by omega) (by omega)) (by omega) (by omega) ?_
      refine T_qg (i_add rfl l_3 (by omega) (by omega)) (by omega) (by omega) ?_
      refine T_qg (i_add rfl l_4 (by omega) (by omega)) (by omega) (by omega) ?_
      refine T_qg (i_add rfl l_5 (by omega) (by omega)) (by omega) (by omega) ?_
      refine T_qcE (t_X12_cheapest hn _ _ _ _ _ m730_ g731_) ?_
      intro r750_ m751_ e754_ p753_
      have g752_ := p753_.1
      have f755_ : (m751_ 1 1).toInt = (m730_ 1 1).toInt := by rw [p753_.2 1 1 (by decide)]
      have f756_ : (m751_ 77 8).toInt = (m730_ 77 8).toInt := by rw [p753_.2 77 8 (by decide)]
      have f757_ : (m751_ 7 8).toInt = (m730_ 7 8).toInt := by rw [p753_.2 7 8 (by decide)]
      have f758_ : (m751_ 78 312).toInt = (m730_ 78 312).toInt := by rw [p753_.2 78 312 (by decide)]
      have f759_ : (m751_ 16 8).toInt = (m730_ 16 8).toInt := by rw [p753_.2 16 8 (by decide)]
      have f760_ : (m751_ 80 312).toInt = (m730_ 80 312).toInt := by rw [p753_.2 80 312 (by decide)]
      have f761_ : (m751_ 0 12).toInt = (m730_ 0 12).toInt := by rw [p753_.2 0 12 (by decide)]
      have f762_ : (m751_ 77 67).toInt = (m730_ 77 67).toInt := by rw [p753_.2 77 67 (by decide)]
      have f763_ : (m751_ 7 9).toInt = (m730_ 7 9).toInt := by rw [p753_.2 7 9 (by decide)]
      have f764_ : (m751_ 78 313).toInt = (m730_ 78 313).toInt := by rw [p753_.2 78 313 (by decide)]
      have f765_ : (m751_ 16 9).toInt = (m730_ 16 9).toInt := by rw [p753_.2 16 9 (by decide)]
      have f766_ : (m751_ 80 313).toInt = (m730_ 80 313).toInt := by rw [p753_.2 80 313 (by decide)]
      have d767_ : KD m751_ m751_ := KD_S d746_ (p753_.2) (p753_.2 3 3 (by decide)) (p753_.2 77 6 (by decide)) rfl
      have l768_ : LR j m751_ m751_ := LR_S hj l747_ (p753_.2) rfl rfl (p753_.2 77 17 (by decide))
      have tw769_ : TN 7 78 m751_ m751_ := TN_S tw748_ (p753_.2) rfl rfl
      have tx770_ : m751_ 0 12 ≠ 0 → TN 16 80 m751_ m751_ := KX_S tx749_ (p753_.2) (p753_.2 0 12 (by decide)) rfl rfl
      have q771_ : (m751_ 1 1).toInt = (m751_ 77 8).toInt := by omega
      have q772_ : (m751_ 7 8).toInt = (m751_ 78 312).toInt := by omega
      have q773_ : (m751_ 16 8).toInt = (m751_ 80 312).toInt := by omega
      have q774_ : (m751_ 0 12).toInt = (m751_ 77 67).toInt := by omega
      have q775_ : (m751_ 7 9).toInt = (m751_ 78 313).toInt := by omega
      have q776_ : (m751_ 16 9).toInt = (m751_ 80 313).toInt := by omega
      have f778_ := r_1_1 hG
      have t777_ : TR m751_ := TR_le hT (by omega) (funext (fun s_ => by rw [p753_.2 2 s_ (outc rfl), p732_.2 2 s_ (outc rfl)])) (funext (fun s_ => by rw [p753_.2 84 s_ (outc rfl), p732_.2 84 s_ (outc rfl)]))
      refine T_ql (i_add rfl l_7 (by omega) (by omega)) ?_
      intro x779_ h780_
      exact ih j r hj hr hjr x779_ m751_ (by omega) (by omega) g752_ q771_ q772_ q773_ q774_ q775_ q776_ t777_ d767_ l768_ tw769_ tx770_ (by omega)
    refine T_sw rfl l_14 (fun s781_ => ?_) (fun s781_ => ?_)
    · refine T_qg (i_add rfl l_1 (by omega) (by omega)) (by omega) (by omega) ?_
      refine T_qg (i_add rfl l_2 (by omega) (by omega)) (by omega) (by omega) ?_
      refine T_qg (i_add rfl l_3 (by omega) (by omega)) (by omega) (by omega) ?_
      refine T_qcE (t_X11_loophole hn hj _ _ _ M hG) ?_
      intro r782_ m783_ e786_ p785_
      have g784_ := p785_.1
      have f787_ : (m783_ 1 1).toInt = (M 1 1).toInt := by rw [p785_.2 1 1 (by decide)]
      have f788_ : (m783_ 77 8).toInt = (M 77 8).toInt := by rw [p785_.2 77 8 (by decide)]
      have f789_ : (m783_ 7 8).toInt = (M 7 8).toInt := by rw [p785_.2 7 8 (by decide)]
      have f790_ : (m783_ 78 312).toInt = (M 78 312).toInt := by rw [p785_.2 78 312 (by decide)]
      have f791_ : (m783_ 16 8).toInt = (M 16 8).toInt := by rw [p785_.2 16 8 (by decide)]
      have f792_ : (m783_ 80 312).toInt = (M 80 312).toInt := by rw [p785_.2 80 312 (by decide)]
      have f793_ : (m783_ 0 12).toInt = (M 0 12).toInt := by rw [p785_.2 0 12 (by decide)]
      have f794_ : (m783_ 77 67).toInt = (M 77 67).toInt := by rw [p785_.2 77 67 (by decide)]
      have f795_ : (m783_ 7 9).toInt = (M 7 9).toInt := by rw [p785_.2 7 9 (by decide)]
      have f796_ : (m783_ 78 313).toInt = (M 78 313).toInt := by rw [p785_.2 78 313 (by decide)]
      have f797_ : (m783_ 16 9).toInt = (M 16 9).toInt := by rw [p785_.2 16 9 (by decide)]
      have f798_ : (m783_ 80 313).toInt = (M 80 313).toInt := by rw [p785_.2 80 313 (by decide)]
      have d799_ : KD m783_ m783_ := KD_S hD (p785_.2) (p785_.2 3 3 (by decide)) (p785_.2 77 6 (by decide)) rfl
      have l800_ : LR j m783_ m783_ := LR_S hj hL (p785_.2) rfl rfl (p785_.2 77 17 (by decide))
      have tw801_ : TN 7 78 m783_ m783_ := TN_S hW (p785_.2) rfl rfl
      have tx802_ : m783_ 0 12 ≠ 0 → TN 16 80 m783_ m783_ := KX_S hX (p785_.2) (p785_.2 0 12 (by decide)) rfl rfl
      refine T_qg (i_add rfl l_1 (by omega) (by omega)) (by omega) (by omega) ?_
      refine T_qg (i_add rfl l_2 (by omega) (by omega)) (by omega) (by omega) ?_
      refine T_qg (i_add rfl l_3 (by omega) (by omega)) (by omega) (by omega) ?_
      refine T_qcE (t_X12_loophole hn _ _ _ m783_ g784_) ?_
      intro r803_ m804_ e807_ p806_
      have g805_ := p806_.1
      have f808_ : (m804_ 1 1).toInt = (m783_ 1 1).toInt := by rw [p806_.2 1 1 (by decide)]
      have f809_ : (m804_ 77 8).toInt = (m783_ 77 8).toInt := by rw [p806_.2 77 8 (by decide)]
      have f810_ : (m804_ 7 8).toInt = (m783_ 7 8).toInt := by rw [p806_.2 7 8 (by decide)]
      have f811_ : (m804_ 78 312).toInt = (m783_ 78 312).toInt := by rw [p806_.2 78 312 (by decide)]
      have f812_ : (m804_ 16 8).toInt = (m783_ 16 8).toInt := by rw [p806_.2 16 8 (by decide)]
      have f813_ : (m804_ 80 312).toInt = (m783_ 80 312).toInt := by rw [p806_.2 80 312 (by decide)]
      have f814_ : (m804_ 0 12).toInt = (m783_ 0 12).toInt := by rw [p806_.2 0 12 (by decide)]
      have f815_ : (m804_ 77 67).toInt = (m783_ 77 67).toInt := by rw [p806_.2 77 67 (by decide)]
      have f816_ : (m804_ 7 9).toInt = (m783_ 7 9).toInt := by rw [p806_.2 7 9 (by decide)]
      have f817_ : (m804_ 78 313).toInt = (m783_ 78 313).toInt := by rw [p806_.2 78 313 (by decide)]
      have f818_ : (m804_ 16 9).toInt = (m783_ 16 9).toInt := by rw [p806_.2 16 9 (by decide)]
      have f819_ : (m804_ 80 313).toInt = (m783_ 80 313).toInt := by rw [p806_.2 80 313 (by decide)]
      have d820_ : KD m804_ m804_ := KD_S d799_ (p806_.2) (p806_.2 3 3 (by decide)) (p806_.2 77 6 (by decide)) rfl
      have l821_ : LR j m804_ m804_ := LR_S hj l800_ (p806_.2) rfl rfl (p806_.2 77 17 (by decide))
      have tw822_ : TN 7 78 m804_ m804_ := TN_S tw801_ (p806_.2) rfl rfl
      have tx823_ : m804_ 0 12 ≠ 0 → TN 16 80 m804_ m804_ := KX_S tx802_ (p806_.2) (p806_.2 0 12 (by decide)) rfl rfl
      have q824_ : (m804_ 1 1).toInt = (m804_ 77 8).toInt := by omega
      have q825_ : (m804_ 7 8).toInt = (m804_ 78 312).toInt := by omega
      have q826_ : (m804_ 16 8).toInt = (m804_ 80 312).toInt := by omega
      have q827_ : (m804_ 0 12).toInt = (m804_ 77 67).toInt := by omega
      have q828_ : (m804_ 7 9).toInt = (m804_ 78 313).toInt := by omega
      have q829_ : (m804_ 16 9).toInt = (m804_ 80 313).toInt := by omega
      have f831_ := r_1_1 hG
      have t830_ : TR m804_ := TR_le hT (by omega) (funext (fun s_ => by rw [p806_.2 2 s_ (outc rfl), p785_.2 2 s_ (outc rfl)])) (funext (fun s_ => by rw [p806_.2 84 s_ (outc rfl), p785_.2 84 s_ (outc rfl)]))
      refine T_ql (i_add rfl l_7 (by omega) (by omega)) ?_
      intro x832_ h833_
      exact ih j r hj hr hjr x832_ m804_ (by omega) (by omega) g805_ q824_ q825_ q826_ q827_ q828_ q829_ t830_ d820_ l821_ tw822_ tx823_ (by omega)
    refine T_sw rfl l_15 (fun s834_ => ?_) (fun s834_ => ?_)
    · refine T_qg (i_add rfl l_1 (by omega) (by omega)) (by omega) (by omega) ?_
      refine T_qg (i_add rfl l_2 (by omega) (by omega)) (by omega) (by omega) ?_
      refine T_qg (i_add rfl l_3 (by omega) (by omega)) (by omega) (by omega) ?_
      refine T_qcE (t_X11_jobs hn hj _ _ _ M hG) ?_
      intro r835_ m836_ e839_ p838_
      have g837_ := p838_.2.2.1
      have f840_ : (m836_ 77 8).toInt = (M 77 8).toInt := by rw [p838_.2.2.2 77 8 (by decide)]
      have f841_ : (m836_ 7 8).toInt = (M 7 8).toInt := by rw [p838_.2.2.2 7 8 (by decide)]
      have f842_ : (m836_ 78 312).toInt = (M 78 312).toInt := by rw [p838_.2.2.2 78 312 (by decide)]
      have f843_ : (m836_ 16 8).toInt = (M 16 8).toInt := by rw [p838_.2.2.2 16 8 (by decide)]
      have f844_ : (m836_ 80 312).toInt = (M 80 312).toInt := by rw [p838_.2.2.2 80 312 (by decide)]
      have f845_ : (m836_ 0 12).toInt = (M 0 12).toInt := by rw [p838_.2.2.2 0 12 (by decide)]
      have f846_ : (m836_ 77 67).toInt = (M 77 67).toInt := by rw [p838_.2.2.2 77 67 (by decide)]
      have f847_ : (m836_ 7 9).toInt = (M 7 9).toInt := by rw [p838_.2.2.2 7 9 (by decide)]
      have f848_ : (m836_ 78 313).toInt = (M 78 313).toInt := by rw [p838_.2.2.2 78 313 (by decide)]
      have f849_ : (m836_ 16 9).toInt = (M 16 9).toInt := by rw [p838_.2.2.2 16 9 (by decide)]
      have f850_ : (m836_ 80 313).toInt = (M 80 313).toInt := by rw [p838_.2.2.2 80 313 (by decide)]
      have w851_ := p838_.2.1
      have d852_ : KD m836_ m836_ := KD_S hD (p838_.2.2.2) (p838_.2.2.2 3 3 (by decide)) (p838_.2.2.2 77 6 (by decide)) rfl
      have l853_ : LR j m836_ m836_ := LR_S hj hL (p838_.2.2.2) rfl rfl (p838_.2.2.2 77 17 (by decide))
      have tw854_ : TN 7 78 m836_ m836_ := TN_S hW (p838_.2.2.2) rfl rfl
      have tx855_ : m836_ 0 12 ≠ 0 → TN 16 80 m836_ m836_ := KX_S hX (p838_.2.2.2) (p838_.2.2.2 0 12 (by decide)) rfl rfl
      refine T_qg (i_add rfl l_1 (by omega) (by omega)) (by omega) (by omega) ?_
      refine T_qg (i_add rfl l_2 (by omega) (by omega)) (by omega) (by omega) ?_
      refine T_qg (i_add rfl l_3 (by omega) (by omega)) (by omega) (by omega) ?_
      refine T_qcE (t_X12_jobs hn _ _ _ m836_ g837_) ?_
      intro r856_ m857_ e860_ p859_
      have g858_ := p859_.2.1
      have f861_ : (m857_ 1 1).toInt = (m836_ 1 1).toInt := by rw [p859_.2.2 1 1 (by decide)]
      have f862_ : (m857_ 7 8).toInt = (m836_ 7 8).toInt := by rw [p859_.2.2 7 8 (by decide)]
      have f863_ : (m857_ 78 312).toInt = (m836_ 78 312).toInt := by rw [p859_.2.2 78 312 (by decide)]
      have f864_ : (m857_ 16 8).toInt = (m836_ 16 8).toInt := by rw [p859_.2.2 16 8 (by decide)]
      have f865_ : (m857_ 80 312).toInt = (m836_ 80 312).toInt := by rw [p859_.2.2 80 312 (by decide)]
      have f866_ : (m857_ 0 12).toInt = (m836_ 0 12).toInt := by rw [p859_.2.2 0 12 (by decide)]
      have f867_ : (m857_ 77 67).toInt = (m836_ 77 67).toInt := by rw [p859_.2.2 77 67 (by decide)]
      have f868_ : (m857_ 7 9).toInt = (m836_ 7 9).toInt := by rw [p859_.2.2 7 9 (by decide)]
      have f869_ : (m857_ 78 313).toInt = (m836_ 78 313).toInt := by rw [p859_.2.2 78 313 (by decide)]
      have f870_ : (m857_ 16 9).toInt = (m836_ 16 9).toInt := by rw [p859_.2.2 16 9 (by decide)]
      have f871_ : (m857_ 80 313).toInt = (m836_ 80 313).toInt := by rw [p859_.2.2 80 313 (by decide)]
      have w872_ := p859_.1
      have d873_ : KD m857_ m857_ := KD_S d852_ (p859_.2.2) (p859_.2.2 3 3 (by decide)) (p859_.2.2 77 6 (by decide)) rfl
      have l874_ : LR j m857_ m857_ := LR_S hj l853_ (p859_.2.2) rfl rfl (p859_.2.2 77 17 (by decide))
      have tw875_ : TN 7 78 m857_ m857_ := TN_S tw854_ (p859_.2.2) rfl rfl
      have tx876_ : m857_ 0 12 ≠ 0 → TN 16 80 m857_ m857_ := KX_S tx855_ (p859_.2.2) (p859_.2.2 0 12 (by decide)) rfl rfl
      have q877_ : (m857_ 1 1).toInt = (m857_ 77 8).toInt := by omega
      have q878_ : (m857_ 7 8).toInt = (m857_ 78 312).toInt := by omega
      have q879_ : (m857_ 16 8).toInt = (m857_ 80 312).toInt := by omega
      have q880_ : (m857_ 0 12).toInt = (m857_ 77 67).toInt := by omega
      have q881_ : (m857_ 7 9).toInt = (m857_ 78 313).toInt := by omega
      have q882_ : (m857_ 16 9).toInt = (m857_ 80 313).toInt := by omega
      have f884_ := r_1_1 hG
      have t883_ : TR m857_ := TR_le hT (by omega) (funext (fun s_ => by rw [p859_.2.2 2 s_ (outc rfl), p838_.2.2.2 2 s_ (outc rfl)])) (funext (fun s_ => by rw [p859_.2.2 84 s_ (outc rfl), p838_.2.2.2 84 s_ (outc rfl)]))
      refine T_ql (i_add rfl l_7 (by omega) (by omega)) ?_
      intro x885_ h886_
      exact ih j r hj hr hjr x885_ m857_ (by omega) (by omega) g858_ q877_ q878_ q879_ q880_ q881_ q882_ t883_ d873_ l874_ tw875_ tx876_ (by omega)
    refine T_sw rfl l_16 (fun s887_ => ?_) (fun s887_ => ?_)
    · refine T_qg (i_add rfl l_1 (by omega) (by omega)) (by omega) (by omega) ?_
      refine T_qg (i_add rfl l_2 (by omega) (by omega)) (by omega) (by omega) ?_
      refine T_qg (i_add rfl l_3 (by omega) (by omega)) (by omega) (by omega) ?_
      refine T_qcE (t_X11_rivals hn _ _ _ M hG) ?_
      intro r888_ m889_ e892_ p891_
      have g890_ := p891_.1
      have f893_ : (m889_ 1 1).toInt = (M 1 1).toInt := by rw [p891_.2 1 1 (by decide)]
      have f894_ : (m889_ 77 8).toInt = (M 77 8).toInt := by rw [p891_.2 77 8 (by decide)]
      have f895_ : (m889_ 7 8).toInt = (M 7 8).toInt := by rw [p891_.2 7 8 (by decide)]
      have f896_ : (m889_ 78 312).toInt = (M 78 312).toInt := by rw [p891_.2 78 312 (by decide)]
      have f897_ : (m889_ 16 8).toInt = (M 16 8).toInt := by rw [p891_.2 16 8 (by decide)]
      have f898_ : (m889_ 80 312).toInt = (M 80 312).toInt := by rw [p891_.2 80 312 (by decide)]
      have f899_ : (m889_ 0 12).toInt = (M 0 12).toInt := by rw [p891_.2 0 12 (by decide)]
      have f900_ : (m889_ 77 67).toInt = (M 77 67).toInt := by rw [p891_.2 77 67 (by decide)]
      have f901_ : (m889_ 7 9).toInt = (M 7 9).toInt := by rw [p891_.2 7 9 (by decide)]
      have f902_ : (m889_ 78 313).toInt = (M 78 313).toInt := by rw [p891_.2 78 313 (by decide)]
      have f903_ : (m889_ 16 9).toInt = (M 16 9).toInt := by rw [p891_.2 16 9 (by decide)]
      have f904_ : (m889_ 80 313).toInt = (M 80 313).toInt := by rw [p891_.2 80 313 (by decide)]
      have d905_ : KD m889_ m889_ := KD_S hD (p891_.2) (p891_.2 3 3 (by decide)) (p891_.2 77 6 (by decide)) rfl
      have l906_ : LR j m889_ m889_ := LR_S hj hL (p891_.2) rfl rfl (p891_.2 77 17 (by decide))
      have tw907_ : TN 7 78 m889_ m889_ := TN_S hW (p891_.2) rfl rfl
      have tx908_ : m889_ 0 12 ≠ 0 → TN 16 80 m889_ m889_ := KX_S hX (p891_.2) (p891_.2 0 12 (by decide)) rfl rfl
      refine T_qg (i_add rfl l_1 (by omega) (by omega)) (by omega) (by omega) ?_
      refine T_qg (i_add rfl l_2 (by omega) (by omega)) (by omega) (by omega) ?_
      refine T_qg (i_add rfl l_3 (by omega) (by omega)) (by omega) (by omega) ?_
      refine T_qcE (t_X12_rivals hn _ _ _ m889_ g890_) ?_
      intro r909_ m910_ e913_ p912_
      have g911_ := p912_.1
      have f914_ : (m910_ 1 1).toInt = (m889_ 1 1).toInt := by rw [p912_.2 1 1 (by decide)]
      have f915_ : (m910_ 77 8).toInt = (m889_ 77 8).toInt := by rw [p912_.2 77 8 (by decide)]
      have f916_ : (m910_ 7 8).toInt = (m889_ 7 8).toInt := by rw [p912_.2 7 8 (by decide)]
      have f917_ : (m910_ 78 312).toInt = (m889_ 78 312).toInt := by rw [p912_.2 78 312 (by decide)]
      have f918_ : (m910_ 16 8).toInt = (m889_ 16 8).toInt := by rw [p912_.2 16 8 (by decide)]
      have f919_ : (m910_ 80 312).toInt = (m889_ 80 312).toInt := by rw [p912_.2 80 312 (by decide)]
      have f920_ : (m910_ 0 12).toInt = (m889_ 0 12).toInt := by rw [p912_.2 0 12 (by decide)]
      have f921_ : (m910_ 77 67).toInt = (m889_ 77 67).toInt := by rw [p912_.2 77 67 (by decide)]
      have f922_ : (m910_ 7 9).toInt = (m889_ 7 9).toInt := by rw [p912_.2 7 9 (by decide)]
      have f923_ : (m910_ 78 313).toInt = (m889_ 78 313).toInt := by rw [p912_.2 78 313 (by decide)]
      have f924_ : (m910_ 16 9).toInt = (m889_ 16 9).toInt := by rw [p912_.2 16 9 (by decide)]
      have f925_ : (m910_ 80 313).toInt = (m889_ 80 313).toInt := by rw [p912_.2 80 313 (by decide)]
      have d926_ : KD m910_ m910_ := KD_S d905_ (p912_.2) (p912_.2 3 3 (by decide)) (p912_.2 77 6 (by decide)) rfl
      have l927_ : LR j m910_ m910_ := LR_S hj l906_ (p912_.2) rfl rfl (p912_.2 77 17 (by decide))
      have tw928_ : TN 7 78 m910_ m910_ := TN_S tw907_ (p912_.2) rfl rfl
      have tx929_ : m910_ 0 12 ≠ 0 → TN 16 80 m910_ m910_ := KX_S tx908_ (p912_.2) (p912_.2 0 12 (by decide)) rfl rfl
      have q930_ : (m910_ 1 1).toInt = (m910_ 77 8).toInt := by omega
      have q931_ : (m910_ 7 8).toInt = (m910_ 78 312).toInt := by omega
      have q932_ : (m910_ 16 8).toInt = (m910_ 80 312).toInt := by omega
      have q933_ : (m910_ 0 12).toInt = (m910_ 77 67).toInt := by omega
      have q934_ : (m910_ 7 9).toInt = (m910_ 78 313).toInt := by omega
      have q935_ : (m910_ 16 9).toInt = (m910_ 80 313).toInt := by omega
      have f937_ := r_1_1 hG
      have t936_ : TR m910_ := TR_le hT (by omega) (funext (fun s_ => by rw [p912_.2 2 s_ (outc rfl), p891_.2 2 s_ (outc rfl)])) (funext (fun s_ => by rw [p912_.2 84 s_ (outc rfl), p891_.2 84 s_ (outc rfl)]))
      refine T_ql (i_add rfl l_7 (by omega) (by omega)) ?_
      intro x938_ h939_
      exact ih j r hj hr hjr x938_ m910_ (by omega) (by omega) g911_ q930_ q931_ q932_ q933_ q934_ q935_ t936_ d926_ l927_ tw928_ tx929_ (by omega)
    refine T_sw rfl l_17 (fun s940_ => ?_) (fun s940_ => ?_)
    · refine T_qg (i_add rfl l_1 (by omega) (by omega)) (by omega) (by omega) ?_
      refine T_qg (i_add rfl l_2 (by omega) (by omega)) (by omega) (by omega) ?_
      refine T_qg (i_add rfl l_3 (by omega) (by omega)) (by omega) (by omega) ?_
      refine T_qg (i_add rfl l_4 (by omega) (by omega)) (by omega) (by omega) ?_
      refine T_qcE (t_X11_histories hn hj _ _ _ _ M hG) ?_
      intro r941_ m942_ e945_ p944_
      have g943_ := p944_.2.1
      have f946_ : (m942_ 77 8).toInt = (M 77 8).toInt := by rw [p944_.2.2 77 8 (by decide)]
      have f947_ : (m942_ 7 8).toInt = (M 7 8).toInt := by rw [p944_.2.2 7 8 (by decide)]
      have f948_ : (m942_ 78 312).toInt = (M 78 312).toInt := by rw [p944_.2.2 78 312 (by decide)]
      have f949_ : (m942_ 16 8).toInt = (M 16 8).toInt := by rw [p944_.2.2 16 8 (by decide)]
      have f950_ : (m942_ 80 312).toInt = (M 80 312).toInt := by rw [p944_.2.2 80 312 (by decide)]
      have f951_ : (m942_ 0 12).toInt = (M 0 12).toInt := by rw [p944_.2.2 0 12 (by decide)]
      have f952_ : (m942_ 77 67).toInt = (M 77 67).toInt := by rw [p944_.2.2 77 67 (by decide)]
      have f953_ : (m942_ 7 9).toInt = (M 7 9).toInt := by rw [p944_.2.2 7 9 (by decide)]
      have f954_ : (m942_ 78 313).toInt = (M 78 313).toInt := by rw [p944_.2.2 78 313 (by decide)]
      have f955_ : (m942_ 16 9).toInt = (M 16 9).toInt := by rw [p944_.2.2 16 9 (by decide)]
      have f956_ : (m942_ 80 313).toInt = (M 80 313).toInt := by rw [p944_.2.2 80 313 (by decide)]
      have w957_ := p944_.1
      have d958_ : KD m942_ m942_ := KD_S hD (p944_.2.2) (p944_.2.2 3 3 (by decide)) (p944_.2.2 77 6 (by decide)) rfl
      have l959_ : LR j m942_ m942_ := LR_S hj hL (p944_.2.2) rfl rfl (p944_.2.2 77 17 (by decide))
      have tw960_ : TN 7 78 m942_ m942_ := TN_S hW (p944_.2.2) rfl rfl
      have tx961_ : m942_ 0 12 ≠ 0 → TN 16 80 m942_ m942_ := KX_S hX (p944_.2.2) (p944_.2.2 0 12 (by decide)) rfl rfl
      refine T_qg (i_add rfl l_1 (by omega) (by omega)) (by omega) (by omega) ?_
      refine T_qg (i_add rfl l_2 (by omega) (by omega)) (by omega) (by omega) ?_
      refine T_qg (i_add rfl l_3 (by omega) (by omega)) (by omega) (by omega) ?_
      refine T_qg (i_add rfl l_4 (by omega) (by omega)) (by omega) (by omega) ?_
      refine T_qcE (t_X12_histories hn _ _ _ _ m942_ g943_) ?_
      intro r962_ m963_ e966_ p965_
      have g964_ := p965_.2.1
      have f967_ : (m963_ 1 1).toInt = (m942_ 1 1).toInt := by rw [p965_.2.2 1 1 (by decide)]
      have f968_ : (m963_ 7 8).toInt = (m942_ 7 8).toInt := by rw [p965_.2.2 7 8 (by decide)]
      have f969_ : (m963_ 78 312).toInt = (m942_ 78 312).toInt := by rw [p965_.2.2 78 312 (by decide)]
      have f970_ : (m963_ 16 8).toInt = (m942_ 16 8).toInt := by rw [p965_.2.2 16 8 (by decide)]
      have f971_ : (m963_ 80 312).toInt = (m942_ 80 312).toInt := by rw [p965_.2.2 80 312 (by decide)]
      have f972_ : (m963_ 0 12).toInt = (m942_ 0 12).toInt := by rw [p965_.2.2 0 12 (by decide)]
      have f973_ : (m963_ 77 67).toInt = (m942_ 77 67).toInt := by rw [p965_.2.2 77 67 (by decide)]
      have f974_ : (m963_ 7 9).toInt = (m942_ 7 9).toInt := by rw [p965_.2.2 7 9 (by decide)]
      have f975_ : (m963_ 78 313).toInt = (m942_ 78 313).toInt := by rw [p965_.2.2 78 313 (by decide)]
      have f976_ : (m963_ 16 9).toInt = (m942_ 16 9).toInt := by rw [p965_.2.2 16 9 (by decide)]
      have f977_ : (m963_ 80 313).toInt = (m942_ 80 313).toInt := by rw [p965_.2.2 80 313 (by decide)]
      have w978_ := p965_.1
      have d979_ : KD m963_ m963_ := KD_S d958_ (p965_.2.2) (p965_.2.2 3 3 (by decide)) (p965_.2.2 77 6 (by decide)) rfl
      have l980_ : LR j m963_ m963_ := LR_S hj l959_ (p965_.2.2) rfl rfl (p965_.2.2 77 17 (by decide))
      have tw981_ : TN 7 78 m963_ m963_ := TN_S tw960_ (p965_.2.2) rfl rfl
      have tx982_ : m963_ 0 12 ≠ 0 → TN 16 80 m963_ m963_ := KX_S tx961_ (p965_.2.2) (p965_.2.2 0 12 (by decide)) rfl rfl
      have q983_ : (m963_ 1 1).toInt = (m963_ 77 8).toInt := by omega
      have q984_ : (m963_ 7 8).toInt = (m963_ 78 312).toInt := by omega
      have q985_ : (m963_ 16 8).toInt = (m963_ 80 312).toInt := by omega
      have q986_ : (m963_ 0 12).toInt = (m963_ 77 67).toInt := by omega
      have q987_ : (m963_ 7 9).toInt = (m963_ 78 313).toInt := by omega
      have q988_ : (m963_ 16 9).toInt = (m963_ 80 313).toInt := by omega
      have f990_ := r_1_1 hG
      have t989_ : TR m963_ := TR_le hT (by omega) (funext (fun s_ => by rw [p965_.2.2 2 s_ (outc rfl), p944_.2.2 2 s_ (outc rfl)])) (funext (fun s_ => by rw [p965_.2.2 84 s_ (outc rfl), p944_.2.2 84 s_ (outc rfl)]))
      refine T_ql (i_add rfl l_7 (by omega) (by omega)) ?_
      intro x991_ h992_
      exact ih j r hj hr hjr x991_ m963_ (by omega) (by omega) g964_ q983_ q984_ q985_ q986_ q987_ q988_ t989_ d979_ l980_ tw981_ tx982_ (by omega)
    refine T_sw rfl l_18 (fun s993_ => ?_) (fun s993_ => ?_)
    · refine T_qg (i_add rfl l_1 (by omega) (by omega)) (by omega) (by omega) ?_
      refine T_qg (i_add rfl l_2 (by omega) (by omega)) (by omega) (by omega) ?_
      refine T_qg (i_add rfl l_3 (by omega) (by omega)) (by omega) (by omega) ?_
      refine T_qg (i_add rfl l_4 (by omega) (by omega)) (by omega) (by omega) ?_
      refine T_eq rfl l_0 (fun c994_ => ?_) (fun c994_ => ?_)
      · refine T_qg (i_add rfl l_5 (by omega) (by omega)) (by omega) (by omega) ?_
        refine T_eq rfl l_0 (fun c995_ => ?_) (fun c995_ => ?_)
        · refine T_qg (i_add rfl l_6 (by omega) (by omega)) (by omega) (by omega) ?_
          refine T_qcE (t_X11_game hn _ _ _ _ _ _ M hG (by decide) (by decide)) ?_
          intro r996_ m997_ e1000_ p999_
          have g998_ := p999_.2.1
          have f1001_ : (m997_ 1 1).toInt = (M 1 1).toInt := by rw [p999_.2.2 1 1 (by decide)]
          have f1002_ : (m997_ 77 8).toInt = (M 77 8).toInt := by rw [p999_.2.2 77 8 (by decide)]
          have f1003_ : (m997_ 7 8).toInt = (M 7 8).toInt := by rw [p999_.2.2 7 8 (by decide)]
          have f1004_ : (m997_ 78 312).toInt = (M 78 312).toInt := by rw [p999_.2.2 78 312 (by decide)]
          have f1005_ : (m997_ 16 8).toInt = (M 16 8).toInt := by rw [p999_.2.2 16 8 (by decide)]
          have f1006_ : (m997_ 80 312).toInt = (M 80 312).toInt := by rw [p999_.2.2 80 312 (by decide)]
          have f1007_ : (m997_ 0 12).toInt = (M 0 12).toInt := by rw [p999_.2.2 0 12 (by decide)]
          have f1008_ : (m997_ 77 67).toInt = (M 77 67).toInt := by rw [p999_.2.2 77 67 (by decide)]
          have f1009_ : (m997_ 7 9).toInt = (M 7 9).toInt := by rw [p999_.2.2 7 9 (by decide)]
          have f1010_ : (m997_ 78 313).toInt = (M 78 313).toInt := by rw [p999_.2.2 78 313 (by decide)]
          have f1011_ : (m997_ 16 9).toInt = (M 16 9).toInt := by rw [p999_.2.2 16 9 (by decide)]
          have f1012_ : (m997_ 80 313).toInt = (M 80 313).toInt := by rw [p999_.2.2 80 313 (by decide)]
          have d1013_ : KD m997_ m997_ := KD_S hD (p999_.2.2) (p999_.2.2 3 3 (by decide)) (p999_.2.2 77 6 (by decide)) rfl
          have l1014_ : LR j m997_ m997_ := LR_S hj hL (p999_.2.2) rfl rfl (p999_.2.2 77 17 (by decide))
          have tw1015_ : TN 7 78 m997_ m997_ := TN_S hW (p999_.2.2) rfl rfl
          have tx1016_ : m997_ 0 12 ≠ 0 → TN 16 80 m997_ m997_ := KX_S hX (p999_.2.2) (p999_.2.2 0 12 (by decide)) rfl rfl
          refine T_qg (i_add rfl l_1 (by omega) (by omega)) (by omega) (by omega) ?_
          refine T_qg (i_add rfl l_2 (by omega) (by omega)) (by omega) (by omega) ?_
          refine T_qg (i_add rfl l_3 (by omega) (by omega)) (by omega) (by omega) ?_
          refine T_qg (i_add rfl l_4 (by omega) (by omega)) (by omega) (by omega) ?_
          refine T_eq rfl l_0 (fun c1017_ => ?_) (fun c1017_ => ?_)
          · refine T_qg (i_add rfl l_5 (by omega) (by omega)) (by omega) (by omega) ?_
            refine T_eq rfl l_0 (fun c1018_ => ?_) (fun c1018_ => ?_)
            · refine T_qg (i_add rfl l_6 (by omega) (by omega)) (by omega) (by omega) ?_
              refine T_qcE (t_X12_game hn _ _ _ _ _ _ m997_ g998_ (by decide) (by decide)) ?_
              intro r1019_ m1020_ e1023_ p1022_
              have g1021_ := p1022_.2.1
              have f1024_ : (m1020_ 1 1).toInt = (m997_ 1 1).toInt := by rw [p1022_.2.2 1 1 (by decide)]
              have f1025_ : (m1020_ 77 8).toInt = (m997_ 77 8).toInt := by rw [p1022_.2.2 77 8 (by decide)]
              have f1026_ : (m1020_ 7 8).toInt = (m997_ 7 8).toInt := by rw [p1022_.2.2 7 8 (by decide)]
              have f1027_ : (m1020_ 78 312).toInt = (m997_ 78 312).toInt := by rw [p1022_.2.2 78 312 (by decide)]
              have f1028_ : (m1020_ 16 8).toInt = (m997_ 16 8).toInt := by rw [p1022_.2.2 16 8 (by decide)]
              have f1029_ : (m1020_ 80 312).toInt = (m997_ 80 312).toInt := by rw [p1022_.2.2 80 312 (by decide)]
              have f1030_ : (m1020_ 0 12).toInt = (m997_ 0 12).toInt := by rw [p1022_.2.2 0 12 (by decide)]
              have f1031_ : (m1020_ 77 67).toInt = (m997_ 77 67).toInt := by rw [p1022_.2.2 77 67 (by decide)]
              have f1032_ : (m1020_ 7 9).toInt = (m997_ 7 9).toInt := by rw [p1022_.2.2 7 9 (by decide)]
              have f1033_ : (m1020_ 78 313).toInt = (m997_ 78 313).toInt := by rw [p1022_.2.2 78 313 (by decide)]
              have f1034_ : (m1020_ 16 9).toInt = (m997_ 16 9).toInt := by rw [p1022_.2.2 16 9 (by decide)]
              have f1035_ : (m1020_ 80 313).toInt = (m997_ 80 313).toInt := by rw [p1022_.2.2 80 313 (by decide)]
              have d1036_ : KD m1020_ m1020_ := KD_S d1013_ (p1022_.2.2) (p1022_.2.2 3 3 (by decide)) (p1022_.2.2 77 6 (by decide)) rfl
              have l1037_ : LR j m1020_ m1020_ := LR_S hj l1014_ (p1022_.2.2) rfl rfl (p1022_.2.2 77 17 (by decide))
              have tw1038_ : TN 7 78 m1020_ m1020_ := TN_S tw1015_ (p1022_.2.2) rfl rfl
              have tx1039_ : m1020_ 0 12 ≠ 0 → TN 16 80 m1020_ m1020_ := KX_S tx1016_ (p1022_.2.2) (p1022_.2.2 0 12 (by decide)) rfl rfl
              have q1040_ : (m1020_ 1 1).toInt = (m1020_ 77 8).toInt := by omega
              have q1041_ : (m1020_ 7 8).toInt = (m1020_ 78 312).toInt := by omega
              have q1042_ : (m1020_ 16 8).toInt = (m1020_ 80 312).toInt := by omega
              have q1043_ : (m1020_ 0 12).toInt = (m1020_ 77 67).toInt := by omega
              have q1044_ : (m1020_ 7 9).toInt = (m1020_ 78 313).toInt := by omega
              have q1045_ : (m1020_ 16 9).toInt = (m1020_ 80 313).toInt := by omega
              have f1047_ := r_1_1 hG
              have t1046_ : TR m1020_ := TR_le hT (by omega) (funext (fun s_ => by rw [p1022_.2.2 2 s_ (outc rfl), p999_.2.2 2 s_ (outc rfl)])) (funext (fun s_ => by rw [p1022_.2.2 84 s_ (outc rfl), p999_.2.2 84 s_ (outc rfl)]))
              refine T_ql (i_add rfl l_7 (by omega) (by omega)) ?_
              intro x1048_ h1049_
              exact ih j r hj hr hjr x1048_ m1020_ (by omega) (by omega) g1021_ q1040_ q1041_ q1042_ q1043_ q1044_ q1045_ t1046_ d1036_ l1037_ tw1038_ tx1039_ (by omega)
            · refine T_qg (i_add rfl l_6 (by omega) (by omega)) (by omega) (by omega) ?_
              refine T_qcE (t_X12_game hn _ _ _ _ _ _ m997_ g998_ (by decide) (by decide)) ?_
              intro r1050_ m1051_ e1054_ p1053_
              have g1052_ := p1053_.2.1
              have f1055_ : (m1051_ 1 1).toInt = (m997_ 1 1).toInt := by rw [p1053_.2.2 1 1 (by decide)]
              have f1056_ : (m1051_ 77 8).toInt = (m997_ 77 8).toInt := by rw [p1053_.2.2 77 8 (by decide)]
              have f1057_ : (m1051_ 7 8).toInt = (m997_ 7 8).toInt := by rw [p1053_.2.2 7 8 (by decide)]
              have f1058_ : (m1051_ 78 312).toInt = (m997_ 78 312).toInt := by rw [p1053_.2.2 78 312 (by decide)]
              have f1059_ : (m1051_ 16 8).toInt = (m997_ 16 8).toInt := by rw [p1053_.2.2 16 8 (by decide)]
              have f1060_ : (m1051_ 80 312).toInt = (m997_ 80 312).toInt := by rw [p1053_.2.2 80 312 (by decide)]
              have f1061_ : (m1051_ 0 12).toInt = (m997_ 0 12).toInt := by rw [p1053_.2.2 0 12 (by decide)]
              have f1062_ : (m1051_ 77 67).toInt = (m997_ 77 67).toInt := by rw [p1053_.2.2 77 67 (by decide)]
              have f1063_ : (m1051_ 7 9).toInt = (m997_ 7 9).toInt := by rw [p1053_.2.2 7 9 (by decide)]
              have f1064_ : (m1051_ 78 313).toInt = (m997_ 78 313).toInt := by rw [p1053_.2.2 78 313 (by decide)]
              have f1065_ : (m1051_ 16 9).toInt = (m997_ 16 9).toInt := by rw [p1053_.2.2 16 9 (by decide)]
              have f1066_ : (m1051_ 80 313).toInt = (m997_ 80 313).toInt := by rw [p1053_.2.2 80 313 (by decide)]
              have d1067_ : KD m1051_ m1051_ := KD_S d1013_ (p1053_.2.2) (p1053_.2.2 3 3 (by decide)) (p1053_.2.2 77 6 (by decide)) rfl
              have l1068_ : LR j m1051_ m1051_ := LR_S hj l1014_ (p1053_.2.2) rfl rfl (p1053_.2.2 77 17 (by decide))
              have tw1069_ : TN 7 78 m1051_ m1051_ := TN_S tw1015_ (p1053_.2.2) rfl rfl
              have tx1070_ : m1051_ 0 12 ≠ 0 → TN 16 80 m1051_ m1051_ := KX_S tx1016_ (p1053_.2.2) (p1053_.2.2 0 12 (by decide)) rfl rfl
              have q1071_ : (m1051_ 1 1).toInt = (m1051_ 77 8).toInt := by omega
              have q1072_ : (m1051_ 7 8).toInt = (m1051_ 78 312).toInt := by omega
              have q1073_ : (m1051_ 16 8).toInt = (m1051_ 80 312).toInt := by omega
              have q1074_ : (m1051_ 0 12).toInt = (m1051_ 77 67).toInt := by omega
              have q1075_ : (m1051_ 7 9).toInt = (m1051_ 78 313).toInt := by omega
              have q1076_ : (m1051_ 16 9).toInt = (m1051_ 80 313).toInt := by omega
              have f1078_ := r_1_1 hG
              have t1077_ : TR m1051_ := TR_le hT (by omega) (funext (fun s_ => by rw [p1053_.2.2 2 s_ (outc rfl), p999_.2.2 2 s_ (outc rfl)])) (funext (fun s_ => by rw [p1053_.2.2 84 s_ (outc rfl), p999_.2.2 84 s_ (outc rfl)]))
              refine T_ql (i_add rfl l_7 (by omega) (by omega)) ?_
              intro x1079_ h1080_
              exact ih j r hj hr hjr x1079_ m1051_ (by omega) (by omega) g1052_ q1071_ q1072_ q1073_ q1074_ q1075_ q1076_ t1077_ d1067_ l1068_ tw1069_ tx1070_ (by omega)
          · refine T_qg (i_add rfl l_5 (by omega) (by omega)) (by omega) (by omega) ?_
            refine T_eq rfl l_0 (fun c1081_ => ?_) (fun c1081_ => ?_)
            · refine T_qg (i_add rfl l_6 (by omega) (by omega)) (by omega) (by omega) ?_
              refine T_qcE (t_X12_game hn _ _ _ _ _ _ m997_ g998_ (by decide) (by decide)) ?_
              intro r1082_ m1083_ e1086_ p1085_
              have g1084_ := p1085_.2.1
              have f1087_ : (m1083_ 1 1).toInt = (m997_ 1 1).toInt := by rw [p1085_.2.2 1 1 (by decide)]
              have f1088_ : (m1083_ 77 8).toInt = (m997_ 77 8).toInt := by rw [p1085_.2.2 77 8 (by decide)]
              have f1089_ : (m1083_ 7 8).toInt = (m997_ 7 8).toInt := by rw [p1085_.2.2 7 8 (by decide)]
              have f1090_ : (m1083_ 78 312).toInt = (m997_ 78 312).toInt := by rw [p1085_.2.2 78 312 (by decide)]
              have f1091_ : (m1083_ 16 8).toInt = (m997_ 16 8).toInt := by rw [p1085_.2.2 16 8 (by decide)]
              have f1092_ : (m1083_ 80 312).toInt = (m997_ 80 312).toInt := by rw [p1085_.2.2 80 312 (by decide)]
              have f1093_ : (m1083_ 0 12).toInt = (m997_ 0 12).toInt := by rw [p1085_.2.2 0 12 (by decide)]
              have f1094_ : (m1083_ 77 67).toInt = (m997_ 77 67).toInt := by rw [p1085_.2.2 77 67 (by decide)]
              have f1095_ : (m1083_ 7 9).toInt = (m997_ 7 9).toInt := by rw [p1085_.2.2 7 9 (by decide)]
              have f1096_ : (m1083_ 78 313).toInt = (m997_ 78 313).toInt := by rw [p1085_.2.2 78 313 (by decide)]
              have f1097_ : (m1083_ 16 9).toInt = (m997_ 16 9).toInt := by rw [p1085_.2.2 16 9 (by decide)]
              have f1098_ : (m1083_ 80 313).toInt = (m997_ 80 313).toInt := by rw [p1085_.2.2 80 313 (by decide)]
              have d1099_ : KD m1083_ m1083_ := KD_S d1013_ (p1085_.2.2) (p1085_.2.2 3 3 (by decide)) (p1085_.2.2 77 6 (by decide)) rfl
              have l1100_ : LR j m1083_ m1083_ := LR_S hj l1014_ (p1085_.2.2) rfl rfl (p1085_.2.2 77 17 (by decide))
              have tw1101_ : TN 7 78 m1083_ m1083_ := TN_S tw1015_ (p1085_.2.2) rfl rfl
              have tx1102_ : m1083_ 0 12 ≠ 0 → TN 16 80 m1083_ m1083_ := KX_S tx1016_ (p1085_.2.2) (p1085_.2.2 0 12 (by decide)) rfl rfl
              have q1103_ : (m1083_ 1 1).toInt = (m1083_ 77 8).toInt := by omega
              have q1104_ : (m1083_ 7 8).toInt = (m1083_ 78 312).toInt := by omega
              have q1105_ : (m1083_ 16 8).toInt = (m1083_ 80 312).toInt := by omega
              have q1106_ : (m1083_ 0 12).toInt = (m1083_ 77 67).toInt := by omega
              have q1107_ : (m1083_ 7 9).toInt = (m1083_ 78 313).toInt := by omega
              have q1108_ : (m1083_ 16 9).toInt = (m1083_ 80 313).toInt := by omega
              have f1110_ := r_1_1 hG
              have t1109_ : TR m1083_ := TR_le hT (by omega) (funext (fun s_ => by rw [p1085_.2.2 2 s_ (outc rfl), p999_.2.2 2 s_ (outc rfl)])) (funext (fun s_ => by rw [p1085_.2.2 84 s_ (outc rfl), p999_.2.2 84 s_ (outc rfl)]))
              refine T_ql (i_add rfl l_7 (by omega) (by omega)) ?_
              intro x1111_ h1112_
              exact ih j r hj hr hjr x1111_ m1083_ (by omega) (by omega) g1084_ q1103_ q1104_ q1105_ q1106_ q1107_ q1108_ t1109_ d1099_ l1100_ tw1101_ tx1102_ (by omega)
            · refine T_qg (i_add rfl l_6 (by omega) (by omega)) (by omega) (by omega) ?_
              refine T_qcE (t_X12_game hn _ _ _ _ _ _ m997_ g998_ (by decide) (by decide)) ?_
              intro r1113_ m1114_ e1117_ p1116_
              have g1115_ := p1116_.2.1
              have f1118_ : (m1114_ 1 1).toInt = (m997_ 1 1).toInt := by rw [p1116_.2.2 1 1 (by decide)]
              have f1119_ : (m1114_ 77 8).toInt = (m997_ 77 8).toInt := by rw [p1116_.2.2 77 8 (by decide)]
              have f1120_ : (m1114_ 7 8).toInt = (m997_ 7 8).toInt := by rw [p1116_.2.2 7 8 (by decide)]
              have f1121_ : (m1114_ 78 312).toInt = (m997_ 78 312).toInt := by rw [p1116_.2.2 78 312 (by decide)]
              have f1122_ : (m1114_ 16 8).toInt = (m997_ 16 8).toInt := by rw [p1116_.2.2 16 8 (by decide)]
              have f1123_ : (m1114_ 80 312).toInt = (m997_ 80 312).toInt := by rw [p1116_.2.2 80 312 (by decide)]
              have f1124_ : (m1114_ 0 12).toInt = (m997_ 0 12).toInt := by rw [p1116_.2.2 0 12 (by decide)]
              have f1125_ : (m1114_ 77 67).toInt = (m997_ 77 67).toInt := by rw [p1116_.2.2 77 67 (by decide)]
              have f1126_ : (m1114_ 7 9).toInt = (m997_ 7 9).toInt := by rw [p1116_.2.2 7 9 (by decide)]
              have f1127_ : (m1114_ 78 313).toInt = (m997_ 78 313).toInt := by rw [p1116_.2.2 78 313 (by decide)]
              have f1128_ : (m1114_ 16 9).toInt = (m997_ 16 9).toInt := by rw [p1116_.2.2 16 9 (by decide)]
              have f1129_ : (m1114_ 80 313).toInt = (m997_ 80 313).toInt := by rw [p1116_.2.2 80 313 (by decide)]
              have d1130_ : KD m1114_ m1114_ := KD_S d1013_ (p1116_.2.2) (p1116_.2.2 3 3 (by decide)) (p1116_.2.2 77 6 (by decide)) rfl
              have l1131_ : LR j m1114_ m1114_ := LR_S hj l1014_ (p1116_.2.2) rfl rfl (p1116_.2.2 77 17 (by decide))
              have tw1132_ : TN 7 78 m1114_ m1114_ := TN_S tw1015_ (p1116_.2.2) rfl rfl
              have tx1133_ : m1114_ 0 12 ≠ 0 → TN 16 80 m1114_ m1114_ := KX_S tx1016_ (p1116_.2.2) (p1116_.2.2 0 12 (by decide)) rfl rfl
              have q1134_ : (m1114_ 1 1).toInt = (m1114_ 77 8).toInt := by omega
              have q1135_ : (m1114_ 7 8).toInt = (m1114_ 78 312).toInt := by omega
              have q1136_ : (m1114_ 16 8).toInt = (m1114_ 80 312).toInt := by omega
              have q1137_ : (m1114_ 0 12).toInt = (m1114_ 77 67).toInt := by omega
              have q1138_ : (m1114_ 7 9).toInt = (m1114_ 78 313).toInt := by omega
              have q1139_ : (m1114_ 16 9).toInt = (m1114_ 80 313).toInt := by omega
              have f1141_ := r_1_1 hG
              have t1140_ : TR m1114_ := TR_le hT (by omega) (funext (fun s_ => by rw [p1116_.2.2 2 s_ (outc rfl), p999_.2.2 2 s_ (outc rfl)])) (funext (fun s_ => by rw [p1116_.2.2 84 s_ (outc rfl), p999_.2.2 84 s_ (outc rfl)]))
              refine T_ql (i_add rfl l_7 (by omega) (by omega)) ?_
              intro x1142_ h1143_
              exact ih j r hj hr hjr x1142_ m1114_ (by omega) (by omega) g1115_ q1134_ q1135_ q1136_ q1137_ q1138_ q1139_ t1140_ d1130_ l1131_ tw1132_ tx1133_ (by omega)
        · refine T_qg (i_add rfl l_6 (by omega) (by omega)) (by omega) (by omega) ?_
          refine T_qcE (t_X11_game hn _ _ _ _ _ _ M hG (by decide) (by decide)) ?_
          intro r1144_ m1145_ e1148_ p1147_
          have g1146_ := p1147_.2.1
          have f1149_ : (m1145_ 1 1).toInt = (M 1 1).toInt := by rw [p1147_.2.2 1 1 (by decide)]
          have f1150_ : (m1145_ 77 8).toInt = (M 77 8).toInt := by rw [p1147_.2.2 77 8 (by decide)]
          have f1151_ : (m1145_ 7 8).toInt = (M 7 8).toInt := by rw [p1147_.2.2 7 8 (by decide)]
          have f1152_ : (m1145_ 78 312).toInt = (M 78 312).toInt := by rw [p1147_.2.2 78 312 (by decide)]
          have f1153_ : (m1145_ 16 8).toInt = (M 16 8).toInt := by rw [p1147_.2.2 16 8 (by decide)]
          have f1154_ : (m1145_ 80 312).toInt = (M 80 312).toInt := by rw [p1147_.2.2 80 312 (by decide)]
          have f1155_ : (m1145_ 0 12).toInt = (M 0 12).toInt := by rw [p1147_.2.2 0 12 (by decide)]
          have f1156_ : (m1145_ 77 67).toInt = (M 77 67).toInt := by rw [p1147_.2.2 77 67 (by decide)]
          have f1157_ : (m1145_ 7 9).toInt = (M 7 9).toInt := by rw [p1147_.2.2 7 9 (by decide)]
          have f1158_ : (m1145_ 78 313).toInt = (M 78 313).toInt := by rw [p1147_.2.2 78 313 (by decide)]
          have f1159_ : (m1145_ 16 9).toInt = (M 16 9).toInt := by rw [p1147_.2.2 16 9 (by decide)]
          have f1160_ : (m1145_ 80 313).toInt = (M 80 313).toInt := by rw [p1147_.2.2 80 313 (by decide)]
          have d1161_ : KD m1145_ m1145_ := KD_S hD (p1147_.2.2) (p1147_.2.2 3 3 (by decide)) (p1147_.2.2 77 6 (by decide)) rfl
          have l1162_ : LR j m1145_ m1145_ := LR_S hj hL (p1147_.2.2) rfl rfl (p1147_.2.2 77 17 (by decide))
          have tw1163_ : TN 7 78 m1145_ m1145_ := TN_S hW (p1147_.2.2) rfl rfl
          have tx1164_ : m1145_ 0 12 ≠ 0 → TN 16 80 m1145_ m1145_ := KX_S hX (p1147_.2.2) (p1147_.2.2 0 12 (by decide)) rfl rfl
          refine T_qg (i_add rfl l_1 (by omega) (by omega)) (by omega) (by omega) ?_
          refine T_qg (i_add rfl l_2 (by omega) (by omega)) (by omega) (by omega) ?_
          refine T_qg (i_add rfl l_3 (by omega) (by omega)) (by omega) (by omega) ?_
          refine T_qg (i_add rfl l_4 (by omega) (by omega)) (by omega) (by omega) ?_
          refine T_eq rfl l_0 (fun c1165_ => ?_) (fun c1165_ => ?_)
          · refine T_qg (i_add rfl l_5 (by omega) (by omega)) (by omega) (by omega) ?_
            refine T_eq rfl l_0 (fun c1166_ => ?_) (fun c1166_ => ?_)
            · refine T_qg (i_add rfl l_6 (by omega) (by omega)) (by omega) (by omega) ?_
              refine T_qcE (t_X12_game hn _ _ _ _ _ _ m1145_ g1146_ (by decide) (by decide)) ?_
              intro r1167_ m1168_ e1171_ p1170_
              have g1169_ := p1170_.2.1
              have f1172_ : (m1168_ 1 1).toInt = (m1145_ 1 1).toInt := by rw [p1170_.2.2 1 1 (by decide)]
              have f1173_ : (m1168_ 77 8).toInt = (m1145_ 77 8).toInt := by rw [p1170_.2.2 77 8 (by decide)]
              have f1174_ : (m1168_ 7 8).toInt = (m1145_ 7 8).toInt := by rw [p1170_.2.2 7 8 (by decide)]
              have f1175_ : (m1168_ 78 312).toInt = (m1145_ 78 312).toInt := by rw [p1170_.2.2 78 312 (by decide)]
              have f1176_ : (m1168_ 16 8).toInt = (m1145_ 16 8).toInt := by rw [p1170_.2.2 16 8 (by decide)]
              have f1177_ : (m1168_ 80 312).toInt = (m1145_ 80 312).toInt := by rw [p1170_.2.2 80 312 (by decide)]
              have f1178_ : (m1168_ 0 12).toInt = (m1145_ 0 12).toInt := by rw [p1170_.2.2 0 12 (by decide)]
              have f1179_ : (m1168_ 77 67).toInt = (m1145_ 77 67).toInt := by rw [p1170_.2.2 77 67 (by decide)]
              have f1180_ : (m1168_ 7 9).toInt = (m1145_ 7 9).toInt := by rw [p1170_.2.2 7 9 (by decide)]
              have f1181_ : (m1168_ 78 313).toInt = (m1145_ 78 313).toInt := by rw [p1170_.2.2 78 313 (by decide)]
              have f1182_ : (m1168_ 16 9).toInt = (m1145_ 16 9).toInt := by rw [p1170_.2.2 16 9 (by decide)]
              have f1183_ : (m1168_ 80 313).toInt = (m1145_ 80 313).toInt := by rw [p1170_.2.2 80 313 (by decide)]
              have d1184_ : KD m1168_ m1168_ := KD_S d1161_ (p1170_.2.2) (p1170_.2.2 3 3 (by decide)) (p1170_.2.2 77 6 (by decide)) rfl
              have l1185_ : LR j m1168_ m1168_ := LR_S hj l1162_ (p1170_.2.2) rfl rfl (p1170_.2.2 77 17 (by decide))
              have tw1186_ : TN 7 78 m1168_ m1168_ := TN_S tw1163_ (p1170_.2.2) rfl rfl
              have tx1187_ : m1168_ 0 12 ≠ 0 → TN 16 80 m1168_ m1168_ := KX_S tx1164_ (p1170_.2.2) (p1170_.2.2 0 12 (by decide)) rfl rfl
              have q1188_ : (m1168_ 1 1).toInt = (m1168_ 77 8).toInt := by omega
              have q1189_ : (m1168_ 7 8).toInt = (m1168_ 78 312).toInt := by omega
              have q1190_ : (m1168_ 16 8).toInt = (m1168_ 80 312).toInt := by omega
              have q1191_ : (m1168_ 0 12).toInt = (m1168_ 77 67).toInt := by omega
              have q1192_ : (m1168_ 7 9).toInt = (m1168_ 78 313).toInt := by omega
              have q1193_ : (m1168_ 16 9).toInt = (m1168_ 80 313).toInt := by omega
              have f1195_ := r_1_1 hG
              have t1194_ : TR m1168_ := TR_le hT (by omega) (funext (fun s_ => by rw [p1170_.2.2 2 s_ (outc rfl), p1147_.2.2 2 s_ (outc rfl)])) (funext (fun s_ => by rw [p1170_.2.2 84 s_ (outc rfl), p1147_.2.2 84 s_ (outc rfl)]))
              refine T_ql (i_add rfl l_7 (by omega) (by omega)) ?_
              intro x1196_ h1197_
              exact ih j r hj hr hjr x1196_ m1168_ (by omega) (by omega) g1169_ q1188_ q1189_ q1190_ q1191_ q1192_ q1193_ t1194_ d1184_ l1185_ tw1186_ tx1187_ (by omega)
            · refine T_qg (i_add rfl l_6 (by omega) (by omega)) (by omega) (by omega) ?_
              refine T_qcE (t_X12_game hn _ _ _ _ _ _ m1145_ g1146_ (by decide) (by decide)) ?_
              intro r1198_ m1199_ e1202_ p1201_
              have g1200_ := p1201_.2.1
              have f1203_ : (m1199_ 1 1).toInt = (m1145_ 1 1).toInt := by rw [p1201_.2.2 1 1 (by decide)]
              have f1204_ : (m1199_ 77 8).toInt = (m1145_ 77 8).toInt := by rw [p1201_.2.2 77 8 (by decide)]
              have f1205_ : (m1199_ 7 8).toInt = (m1145_ 7 8).toInt := by rw [p1201_.2.2 7 8 (by decide)]
              have f1206_ : (m1199_ 78 312).toInt = (m1145_ 78 312).toInt := by rw [p1201_.2.2 78 312 (by decide)]
              have f1207_ : (m1199_ 16 8).toInt = (m1145_ 16 8).toInt := by rw [p1201_.2.2 16 8 (by decide)]
              have f1208_ : (m1199_ 80 312).toInt = (m1145_ 80 312).toInt := by rw [p1201_.2.2 80 312 (by decide)]
              have f1209_ : (m1199_ 0 12).toInt = (m1145_ 0 12).toInt := by rw [p1201_.2.2 0 12 (by decide)]
              have f1210_ : (m1199_ 77 67).toInt = (m1145_ 77 67).toInt := by rw [p1201_.2.2 77 67 (by decide)]
              have f1211_ : (m1199_ 7 9).toInt = (m1145_ 7 9).toInt := by rw [p1201_.2.2 7 9 (by decide)]
              have f1212_ : (m1199_ 78 313).toInt = (m1145_ 78 313).toInt := by rw [p1201_.2.2 78 313 (by decide)]
              have f1213_ : (m1199_ 16 9).toInt = (m1145_ 16 9).toInt := by rw [p1201_.2.2 16 9 (by decide)]
              have f1214_ : (m1199_ 80 313).toInt = (m1145_ 80 313).toInt := by rw [p1201_.2.2 80 313 (by decide)]
              have d1215_ : KD m1199_ m1199_ := KD_S d1161_ (p1201_.2.2) (p1201_.2.2 3 3 (by decide)) (p1201_.2.2 77 6 (by decide)) rfl
              have l1216_ : LR j m1199_ m1199_ := LR_S hj l1162_ (p1201_.2.2) rfl rfl (p1201_.2.2 77 17 (by decide))
              have tw1217_ : TN 7 78 m1199_ m1199_ := TN_S tw1163_ (p1201_.2.2) rfl rfl
              have tx1218_ : m1199_ 0 12 ≠ 0 → TN 16 80 m1199_ m1199_ := KX_S tx1164_ (p1201_.2.2) (p1201_.2.2 0 12 (by decide)) rfl rfl
              have q1219_ : (m1199_ 1 1).toInt = (m1199_ 77 8).toInt := by omega
              have q1220_ : (m1199_ 7 8).toInt = (m1199_ 78 312).toInt := by omega
              have q1221_ : (m1199_ 16 8).toInt = (m1199_ 80 312).toInt := by omega
              have q1222_ : (m1199_ 0 12).toInt = (m1199_ 77 67).toInt := by omega
              have q1223_ : (m1199_ 7 9).toInt = (m1199_ 78 313).toInt := by omega
              have q1224_ : (m1199_ 16 9).toInt = (m1199_ 80 313).toInt := by omega
              have f1226_ := r_1_1 hG
              have t1225_ : TR m1199_ := TR_le hT (by omega) (funext (fun s_ => by rw [p1201_.2.2 2 s_ (outc rfl), p1147_.2.2 2 s_ (outc rfl)])) (funext (fun s_ => by rw [p1201_.2.2 84 s_ (outc rfl), p1147_.2.2 84 s_ (outc rfl)]))
              refine T_ql (i_add rfl l_7 (by omega) (by omega)) ?_
              intro x1227_ h1228_
              exact ih j r hj hr hjr x1227_ m1199_ (by omega) (by omega) g1200_ q1219_ q1220_ q1221_ q1222_ q1223_ q1224_ t1225_ d1215_ l1216_ tw1217_ tx1218_ (by omega)
          · refine T_qg (i_add rfl l_5 (by omega) (by omega)) (by omega) (by omega) ?_
            refine T_eq rfl l_0 (fun c1229_ => ?_) (fun c1229_ => ?_)
            · refine T_qg (i_add rfl l_6 (by omega) (by omega)) (by omega) (by omega) ?_
              refine T_qcE (t_X12_game hn _ _ _ _ _ _ m1145_ g1146_ (by decide) (by decide)) ?_
              intro r1230_ m1231_ e1234_ p1233_
              have g1232_ := p1233_.2.1
              have f1235_ : (m1231_ 1 1).toInt = (m1145_ 1 1).toInt := by rw [p1233_.2.2 1 1 (by decide)]
              have f1236_ : (m1231_ 77 8).toInt = (m1145_ 77 8).toInt := by rw [p1233_.2.2 77 8 (by decide)]
              have f1237_ : (m1231_ 7 8).toInt = (m1145_ 7 8).toInt := by rw [p1233_.2.2 7 8 (by decide)]
              have f1238_ : (m1231_ 78 312).toInt = (m1145_ 78 312).toInt := by rw [p1233_.2.2 78 312 (by decide)]
              have f1239_ : (m1231_ 16 8).toInt = (m1145_ 16 8).toInt := by rw [p1233_.2.2 16 8 (by decide)]
              have f1240_ : (m1231_ 80 312).toInt = (m1145_ 80 312).toInt := by rw [p1233_.2.2 80 312 (by decide)]
              have f1241_ : (m1231_ 0 12).toInt = (m1145_ 0 12).toInt := by rw [p1233_.2.2 0 12 (by decide)]
              have f1242_ : (m1231_ 77 67).toInt = (m1145_ 77 67).toInt := by rw [p1233_.2.2 77 67 (by decide)]
              have f1243_ : (m1231_ 7 9).toInt = (m1145_ 7 9).toInt := by rw [p1233_.2.2 7 9 (by decide)]
              have f1244_ : (m1231_ 78 313).toInt = (m1145_ 78 313).toInt := by rw [p1233_.2.2 78 313 (by decide)]
              have f1245_ : (m1231_ 16 9).toInt = (m1145_ 16 9).toInt := by rw [p1233_.2.2 16 9 (by decide)]
              have f1246_ : (m1231_ 80 313).toInt = (m1145_ 80 313).toInt := by rw [p1233_.2.2 80 313 (by decide)]
              have d1247_ : KD m1231_ m1231_ := KD_S d1161_ (p1233_.2.2) (p1233_.2.2 3 3 (by decide)) (p1233_.2.2 77 6 (by decide)) rfl
              have l1248_ : LR j m1231_ m1231_ := LR_S hj l1162_ (p1233_.2.2) rfl rfl (p1233_.2.2 77 17 (by decide))
              have tw1249_ : TN 7 78 m1231_ m1231_ := TN_S tw1163_ (p1233_.2.2) rfl rfl
              have tx1250_ : m1231_ 0 12 ≠ 0 → TN 16 80 m1231_ m1231_ := KX_S tx1164_ (p1233_.2.2) (p1233_.2.2 0 12 (by decide)) rfl rfl
              have q1251_ : (m1231_ 1 1).toInt = (m1231_ 77 8).toInt := by omega
              have q1252_ : (m1231_ 7 8).toInt = (m1231_ 78 312).toInt := by omega
              have q1253_ : (m1231_ 16 8).toInt = (m1231_ 80 312).toInt := by omega
              have q1254_ : (m1231_ 0 12).toInt = (m1231_ 77 67).toInt := by omega
              have q1255_ : (m1231_ 7 9).toInt = (m1231_ 78 313).toInt := by omega
              have q1256_ : (m1231_ 16 9).toInt = (m1231_ 80 313).toInt := by omega
              have f1258_ := r_1_1 hG
              have t1257_ : TR m1231_ := TR_le hT (by omega) (funext (fun s_ => by rw [p1233_.2.2 2 s_ (outc rfl), p1147_.2.2 2 s_ (outc rfl)])) (funext (fun s_ => by rw [p1233_.2.2 84 s_ (outc rfl), p1147_.2.2 84 s_ (outc rfl)]))
              refine T_ql (i_add rfl l_7 (by omega) (by omega)) ?_
              intro x1259_ h1260_
              exact ih j r hj hr hjr x1259_ m1231_ (by omega) (by omega) g1232_ q1251_ q1252_ q1253_ q1254_ q1255_ q1256_ t1257_ d1247_ l1248_ tw1249_ tx1250_ (by omega)
            · refine T_qg (i_add rfl l_6 (by omega) (by omega)) (by omega) (by omega) ?_
              refine T_qcE (t_X12_game hn _ _ _ _ _ _ m1145_ g1146_ (by decide) (by decide)) ?_
              intro r1261_ m1262_ e1265_ p1264_
              have g1263_ := p1264_.2.1
              have f1266_ : (m1262_ 1 1).toInt = (m1145_ 1 1).toInt := by rw [p1264_.2.2 1 1 (by decide)]
              have f1267_ : (m1262_ 77 8).toInt = (m1145_ 77 8).toInt := by rw [p1264_.2.2 77 8 (by decide)]
              have f1268_ : (m1262_ 7 8).toInt = (m1145_ 7 8).toInt := by rw [p1264_.2.2 7 8 (by decide)]
              have f1269_ : (m1262_ 78 312).toInt = (m1145_ 78 312).toInt := by rw [p1264_.2.2 78 312 (by decide)]
              have f1270_ : (m1262_ 16 8).toInt = (m1145_ 16 8).toInt := by rw [p1264_.2.2 16 8 (by decide)]
              have f1271_ : (m1262_ 80 312).toInt = (m1145_ 80 312).toInt := by rw [p1264_.2.2 80 312 (by decide)]
              have f1272_ : (m1262_ 0 12).toInt = (m1145_ 0 12).toInt := by rw [p1264_.2.2 0 12 (by decide)]
              have f1273_ : (m1262_ 77 67).toInt = (m1145_ 77 67).toInt := by rw [p1264_.2.2 77 67 (by decide)]
              have f1274_ : (m1262_ 7 9).toInt = (m1145_ 7 9).toInt := by rw [p1264_.2.2 7 9 (by decide)]
              have f1275_ : (m1262_ 78 313).toInt = (m1145_ 78 313).toInt := by rw [p1264_.2.2 78 313 (by decide)]
              have f1276_ : (m1262_ 16 9).toInt = (m1145_ 16 9).toInt := by rw [p1264_.2.2 16 9 (by decide)]
              have f1277_ : (m1262_ 80 313).toInt = (m1145_ 80 313).toInt := by rw [p1264_.2.2 80 313 (by decide)]
              have d1278_ : KD m1262_ m1262_ := KD_S d1161_ (p1264_.2.2) (p1264_.2.2 3 3 (by decide)) (p1264_.2.2 77 6 (by decide)) rfl
              have l1279_ : LR j m1262_ m1262_ := LR_S hj l1162_ (p1264_.2.2) rfl rfl (p1264_.2.2 77 17 (by decide))
              have tw1280_ : TN 7 78 m1262_ m1262_ := TN_S tw1163_ (p1264_.2.2) rfl rfl
              have tx1281_ : m1262_ 0 12 ≠ 0 → TN 16 80 m1262_ m1262_ := KX_S tx1164_ (p1264_.2.2) (p1264_.2.2 0 12 (by decide)) rfl rfl
              have q1282_ : (m1262_ 1 1).toInt = (m1262_ 77 8).toInt := by omega
              have q1283_ : (m1262_ 7 8).toInt = (m1262_ 78 312).toInt := by omega
              have q1284_ : (m1262_ 16 8).toInt = (m1262_ 80 312).toInt := by omega
              have q1285_ : (m1262_ 0 12).toInt = (m1262_ 77 67).toInt := by omega
              have q1286_ : (m1262_ 7 9).toInt = (m1262_ 78 313).toInt := by omega
              have q1287_ : (m1262_ 16 9).toInt = (m1262_ 80 313).toInt := by omega
              have f1289_ := r_1_1 hG
              have t1288_ : TR m1262_ := TR_le hT (by omega) (funext (fun s_ => by rw [p1264_.2.2 2 s_ (outc rfl), p1147_.2.2 2 s_ (outc rfl)])) (funext (fun s_ => by rw [p1264_.2.2 84 s_ (outc rfl), p1147_.2.2 84 s_ (outc rfl)]))
              refine T_ql (i_add rfl l_7 (by omega) (by omega)) ?_
              intro x1290_ h1291_
              exact ih j r hj hr hjr x1290_ m1262_ (by omega) (by omega) g1263_ q1282_ q1283_ q1284_ q1285_ q1286_ q1287_ t1288_ d1278_ l1279_ tw1280_ tx1281_ (by omega)
      · refine T_qg (i_add rfl l_5 (by omega) (by omega)) (by omega) (by omega) ?_
        refine T_eq rfl l_0 (fun c1292_ => ?_) (fun c1292_ => ?_)
        · refine T_qg (i_add rfl l_6 (by omega) (by omega)) (by omega) (by omega) ?_
          refine T_qcE (t_X11_game hn _ _ _ _ _ _ M hG (by decide) (by decide)) ?_
          intro r1293_ m1294_ e1297_ p1296_
          have g1295_ := p1296_.2.1
          have f1298_ : (m1294_ 1 1).toInt = (M 1 1).toInt := by rw [p1296_.2.2 1 1 (by decide)]
          have f1299_ : (m1294_ 77 8).toInt = (M 77 8).toInt := by rw [p1296_.2.2 77 8 (by decide)]
          have f1300_ : (m1294_ 7 8).toInt = (M 7 8).toInt := by rw [p1296_.2.2 7 8 (by decide)]
          have f1301_ : (m1294_ 78 312).toInt = (M 78 312).toInt := by rw [p1296_.2.2 78 312 (by decide)]
          have f1302_ : (m1294_ 16 8).toInt = (M 16 8).toInt := by rw [p1296_.2.2 16 8 (by decide)]
          have f1303_ : (m1294_ 80 312).toInt = (M 80 312).toInt := by rw [p1296_.2.2 80 312 (by decide)]
          have f1304_ : (m1294_ 0 12).toInt = (M 0 12).toInt := by rw [p1296_.2.2 0 12 (by decide)]
          have f1305_ : (m1294_ 77 67).toInt = (M 77 67).toInt := by rw [p1296_.2.2 77 67 (by decide)]
          have f1306_ : (m1294_ 7 9).toInt = (M 7 9).toInt := by rw [p1296_.2.2 7 9 (by decide)]
          have f1307_ : (m1294_ 78 313).toInt = (M 78 313).toInt := by rw [p1296_.2.2 78 313 (by decide)]
          have f1308_ : (m1294_ 16 9).toInt = (M 16 9).toInt := by rw [p1296_.2.2 16 9 (by decide)]
          have f1309_ : (m1294_ 80 313).toInt = (M 80 313).toInt := by rw [p1296_.2.2 80 313 (by decide)]
          have d1310_ : KD m1294_ m1294_ := KD_S hD (p1296_.2.2) (p1296_.2.2 3 3 (by decide)) (p1296_.2.2 77 6 (by decide)) rfl
          have l1311_ : LR j m1294_ m1294_ := LR_S hj hL (p1296_.2.2) rfl rfl (p1296_.2.2 77 17 (by decide))
          have tw1312_ : TN 7 78 m1294_ m1294_ := TN_S hW (p1296_.2.2) rfl rfl
          have tx1313_ : m1294_ 0 12 ≠ 0 → TN 16 80 m1294_ m1294_ := KX_S hX (p1296_.2.2) (p1296_.2.2 0 12 (by decide)) rfl rfl
          refine T_qg (i_add rfl l_1 (by omega) (by omega)) (by omega) (by omega) ?_
          refine T_qg (i_add rfl l_2 (by omega) (by omega)) (by omega) (by omega) ?_
          refine T_qg (i_add rfl l_3 (by omega) (by omega)) (by omega) (by omega) ?_
          refine T_qg (i_add rfl l_4 (by omega) (by omega)) (by omega) (by omega) ?_
          refine T_eq rfl l_0 (fun c1314_ => ?_) (fun c1314_ => ?_)
          · refine T_qg (i_add rfl l_5 (by omega) (by omega)) (by omega) (by omega) ?_
            refine T_eq rfl l_0 (fun c1315_ => ?_) (fun c1315_ => ?_)
            · refine T_qg (i_add rfl l_6 (by omega) (by omega)) (by omega) (by omega) ?_
              refine T_qcE (t_X12_game hn _ _ _ _ _ _ m1294_ g1295_ (by decide) (by decide)) ?_
              intro r1316_ m1317_ e1320_ p1319_
              have g1318_ := p1319_.2.1
              have f1321_ : (m1317_ 1 1).toInt = (m1294_ 1 1).toInt := by rw [p1319_.2.2 1 1 (by decide)]
              have f1322_ : (m1317_ 77 8).toInt = (m1294_ 77 8).toInt := by rw [p1319_.2.2 77 8 (by decide)]
              have f1323_ : (m1317_ 7 8).toInt = (m1294_ 7 8).toInt := by rw [p1319_.2.2 7 8 (by decide)]
              have f1324_ : (m1317_ 78 312).toInt = (m1294_ 78 312).toInt := by rw [p1319_.2.2 78 312 (by decide)]
              have f1325_ : (m1317_ 16 8).toInt = (m1294_ 16 8).toInt := by rw [p1319_.2.2 16 8 (by decide)]
              have f1326_ : (m1317_ 80 312).toInt = (m1294_ 80 312).toInt := by rw [p1319_.2.2 80 312 (by decide)]
              have f1327_ : (m1317_ 0 12).toInt = (m1294_ 0 12).toInt := by rw [p1319_.2.2 0 12 (by decide)]
              have f1328_ : (m1317_ 77 67).toInt = (m1294_ 77 67).toInt := by rw [p1319_.2.2 77 67 (by decide)]
              have f1329_ : (m1317_ 7 9).toInt = (m1294_ 7 9).toInt := by rw [p1319_.2.2 7 9 (by decide)]
              have f1330_ : (m1317_ 78 313).toInt = (m1294_ 78 313).toInt := by rw [p1319_.2.2 78 313 (by decide)]
              have f1331_ : (m1317_ 16 9).toInt = (m1294_ 16 9).toInt := by rw [p1319_.2.2 16 9 (by decide)]
              have f1332_ : (m1317_ 80 313).toInt = (m1294_ 80 313).toInt := by rw [p1319_.2.2 80 313 (by decide)]
              have d1333_ : KD m1317_ m1317_ := KD_S d1310_ (p1319_.2.2) (p1319_.2.2 3 3 (by decide)) (p1319_.2.2 77 6 (by decide)) rfl
              have l1334_ : LR j m1317_ m1317_ := LR_S hj l1311_ (p1319_.2.2) rfl rfl (p1319_.2.2 77 17 (by decide))
              have tw1335_ : TN 7 78 m1317_ m1317_ := TN_S tw1312_ (p1319_.2.2) rfl rfl
              have tx1336_ : m1317_ 0 12 ≠ 0 → TN 16 80 m1317_ m1317_ := KX_S tx1313_ (p1319_.2.2) (p1319_.2.2 0 12 (by decide)) rfl rfl
              have q1337_ : (m1317_ 1 1).toInt = (m1317_ 77 8).toInt := by omega
              have q1338_ : (m1317_ 7 8).toInt = (m1317_ 78 312).toInt := by omega
              have q1339_ : (m1317_ 16 8).toInt = (m1317_ 80 312).toInt := by omega
              have q1340_ : (m1317_ 0 12).toInt = (m1317_ 77 67).toInt := by omega
              have q1341_ : (m1317_ 7 9).toInt = (m1317_ 78 313).toInt := by omega
              have q1342_ : (m1317_ 16 9).toInt = (m1317_ 80 313).toInt := by omega
              have f1344_ := r_1_1 hG
              have t1343_ : TR m1317_ := TR_le hT (by omega) (funext (fun s_ => by rw [p1319_.2.2 2 s_ (outc rfl), p1296_.2.2 2 s_ (outc rfl)])) (funext (fun s_ => by rw [p1319_.2.2 84 s_ (outc rfl), p1296_.2.2 84 s_ (outc rfl)]))
              refine T_ql (i_add rfl l_7 (by omega) (by omega)) ?_
              intro x1345_ h1346_
              exact ih j r hj hr hjr x1345_ m1317_ (by omega) (by omega) g1318_ q1337_ q1338_ q1339_ q1340_ q1341_ q1342_ t1343_ d1333_ l1334_ tw1335_ tx1336_ (by omega)
            · refine T_qg (i_add rfl l_6 (by omega) (by omega)) (by omega) (by omega) ?_
              refine T_qcE (t_X12_game hn _ _ _ _ _ _ m1294_ g1295_ (by decide) (by decide)) ?_
              intro r1347_ m1348_ e1351_ p1350_
              have g1349_ := p1350_.2.1
              have f1352_ : (m1348_ 1 1).toInt = (m1294_ 1 1).toInt := by rw [p1350_.2.2 1 1 (by decide)]
              have f1353_ : (m1348_ 77 8).toInt = (m1294_ 77 8).toInt := by rw [p1350_.2.2 77 8 (by decide)]
              have f1354_ : (m1348_ 7 8).toInt = (m1294_ 7 8).toInt := by rw [p1350_.2.2 7 8 (by decide)]
              have f1355_ : (m1348_ 78 312).toInt = (m1294_ 78 312).toInt := by rw [p1350_.2.2 78 312 (by decide)]
              have f1356_ : (m1348_ 16 8).toInt = (m1294_ 16 8).toInt := by rw [p1350_.2.2 16 8 (by decide)]
              have f1357_ : (m1348_ 80 312).toInt = (m1294_ 80 312).toInt := by rw [p1350_.2.2 80 312 (by decide)]
              have f1358_ : (m1348_ 0 12).toInt = (m1294_ 0 12).toInt := by rw [p1350_.2.2 0 12 (by decide)]
              have f1359_ : (m1348_ 77 67).toInt = (m1294_ 77 67).toInt := by rw [p1350_.2.2 77 67 (by decide)]
              have f1360_ : (m1348_ 7 9).toInt = (m1294_ 7 9).toInt := by rw [p1350_.2.2 7 9 (by decide)]
              have f1361_ : (m1348_ 78 313).toInt = (m1294_ 78 313).toInt := by rw [p1350_.2.2 78 313 (by decide)]
              have f1362_ : (m1348_ 16 9).toInt = (m1294_ 16 9).toInt := by rw [p1350_.2.2 16 9 (by decide)]
              have f1363_ : (m1348_ 80 313).toInt = (m1294_ 80 313).toInt := by rw [p1350_.2.2 80 313 (by decide)]
              have d1364_ : KD m1348_ m1348_ := KD_S d1310_ (p1350_.2.2) (p1350_.2.2 3 3 (by decide)) (p1350_.2.2 77 6 (by decide)) rfl
              have l1365_ : LR j m1348_ m1348_ := LR_S hj l1311_ (p1350_.2.2) rfl rfl (p1350_.2.2 77 17 (by decide))
              have tw1366_ : TN 7 78 m1348_ m1348_ := TN_S tw1312_ (p1350_.2.2) rfl rfl
              have tx1367_ : m1348_ 0 12 ≠ 0 → TN 16 80 m1348_ m1348_ := KX_S tx1313_ (p1350_.2.2) (p1350_.2.2 0 12 (by decide)) rfl rfl
              have q1368_ : (m1348_ 1 1).toInt = (m1348_ 77 8).toInt := by omega
              have q1369_ : (m1348_ 7 8).toInt = (m1348_ 78 312).toInt := by omega
              have q1370_ : (m1348_ 16 8).toInt = (m1348_ 80 312).toInt := by omega
              have q1371_ : (m1348_ 0 12).toInt = (m1348_ 77 67).toInt := by omega
              have q1372_ : (m1348_ 7 9).toInt = (m1348_ 78 313).toInt := by omega
              have q1373_ : (m1348_ 16 9).toInt = (m1348_ 80 313).toInt := by omega
              have f1375_ := r_1_1 hG
              have t1374_ : TR m1348_ := TR_le hT (by omega) (funext (fun s_ => by rw [p1350_.2.2 2 s_ (outc rfl), p1296_.2.2 2 s_ (outc rfl)])) (funext (fun s_ => by rw [p1350_.2.2 84 s_ (outc rfl), p1296_.2.2 84 s_ (outc rfl)]))
              refine T_ql (i_add rfl l_7 (by omega) (by omega)) ?_
              intro x1376_ h1377_
              exact ih j r hj hr hjr x1376_ m1348_ (by omega) (by omega) g1349_ q1368_ q1369_ q1370_ q1371_ q1372_ q1373_ t1374_ d1364_ l1365_ tw1366_ tx1367_ (by omega)
          · refine T_qg (i_add rfl l_5 (by omega) (by omega)) (by omega) (by omega) ?_
            refine T_eq rfl l_0 (fun c1378_ => ?_) (fun c1378_ => ?_)
            · refine T_qg (i_add rfl l_6 (by omega) (by omega)) (by omega) (by omega) ?_
              refine T_qcE (t_X12_game hn _ _ _ _ _ _ m1294_ g1295_ (by decide) (by decide)) ?_
              intro r1379_ m1380_ e1383_ p1382_
              have g1381_ := p1382_.2.1
              have f1384_ : (m1380_ 1 1).toInt = (m1294_ 1 1).toInt := by rw [p1382_.2.2 1 1 (by decide)]
              have f1385_ : (m1380_ 77 8).toInt = (m1294_ 77 8).toInt := by rw [p1382_.2.2 77 8 (by decide)]
              have f1386_ : (m1380_ 7 8).toInt = (m1294_ 7 8).toInt := by rw [p1382_.2.2 7 8 (by decide)]
              have f1387_ : (m1380_ 78 312).toInt = (m1294_ 78 312).toInt := by rw [p1382_.2.2 78 312 (by decide)]
              have f1388_ : (m1380_ 16 8).toInt = (m1294_ 16 8).toInt := by rw [p1382_.2.2 16 8 (by decide)]
              have f1389_ : (m1380_ 80 312).toInt = (m1294_ 80 312).toInt := by rw [p1382_.2.2 80 312 (by decide)]
              have f1390_ : (m1380_ 0 12).toInt = (m1294_ 0 12).toInt := by rw [p1382_.2.2 0 12 (by decide)]
              have f1391_ : (m1380_ 77 67).toInt = (m1294_ 77 67).toInt := by rw [p1382_.2.2 77 67 (by decide)]
              have f1392_ : (m1380_ 7 9).toInt = (m1294_ 7 9).toInt := by rw [p1382_.2.2 7 9 (by decide)]
              have f1393_ : (m1380_ 78 313).toInt = (m1294_ 78 313).toInt := by rw [p1382_.2.2 78 313 (by decide)]
              have f1394_ : (m1380_ 16 9).toInt = (m1294_ 16 9).toInt := by rw [p1382_.2.2 16 9 (by decide)]
              have f1395_ : (m1380_ 80 313).toInt = (m1294_ 80 313).toInt := by rw [p1382_.2.2 80 313 (by decide)]
              have d1396_ : KD m1380_ m1380_ := KD_S d1310_ (p1382_.2.2) (p1382_.2.2 3 3 (by decide)) (p1382_.2.2 77 6 (by decide)) rfl
              have l1397_ : LR j m1380_ m1380_ := LR_S hj l1311_ (p1382_.2.2) rfl rfl (p1382_.2.2 77 17 (by decide))
              have tw1398_ : TN 7 78 m1380_ m1380_ := TN_S tw1312_ (p1382_.2.2) rfl rfl
              have tx1399_ : m1380_ 0 12 ≠ 0 → TN 16 80 m1380_ m1380_ := KX_S tx1313_ (p1382_.2.2) (p1382_.2.2 0 12 (by decide)) rfl rfl
              have q1400_ : (m1380_ 1 1).toInt = (m1380_ 77 8).toInt := by omega
              have q1401_ : (m1380_ 7 8).toInt = (m1380_ 78 312).toInt := by omega
              have q1402_ : (m1380_ 16 8).toInt = (m1380_ 80 312).toInt := by omega
              have q1403_ : (m1380_ 0 12).toInt = (m1380_ 77 67).toInt := by omega
              have q1404_ : (m1380_ 7 9).toInt = (m1380_ 78 313).toInt := by omega
              have q1405_ : (m1380_ 16 9).toInt = (m1380_ 80 313).toInt := by omega
              have f1407_ := r_1_1 hG
              have t1406_ : TR m1380_ := TR_le hT (by omega) (funext (fun s_ => by rw [p1382_.2.2 2 s_ (outc rfl), p1296_.2.2 2 s_ (outc rfl)])) (funext (fun s_ => by rw [p1382_.2.2 84 s_ (outc rfl), p1296_.2.2 84 s_ (outc rfl)]))
              refine T_ql (i_add rfl l_7 (by omega) (by omega)) ?_
              intro x1408_ h1409_
              exact ih j r hj hr hjr x1408_ m1380_ (by omega) (by omega) g1381_ q1400_ q1401_ q1402_ q1403_ q1404_ q1405_ t1406_ d1396_ l1397_ tw1398_ tx1399_ (by omega)
            · refine T_qg (i_add rfl l_6 (by omega) (by omega)) (by omega) (by omega) ?_
              refine T_qcE (t_X12_game hn _ _ _ _ _ _ m1294_ g1295_ (by decide) (by decide)) ?_
              intro r1410_ m1411_ e1414_ p1413_
              have g1412_ := p1413_.2.1
              have f1415_ : (m1411_ 1 1).toInt = (m1294_ 1 1).toInt := by rw [p1413_.2.2 1 1 (by decide)]
              have f1416_ : (m1411_ 77 8).toInt = (m1294_ 77 8).toInt := by rw [p1413_.2.2 77 8 (by decide)]
              have f1417_ : (m1411_ 7 8).toInt = (m1294_ 7 8).toInt := by rw [p1413_.2.2 7 8 (by decide)]
              have f1418_ : (m1411_ 78 312).toInt = (m1294_ 78 312).toInt := by rw [p1413_.2.2 78 312 (by decide)]
              have f1419_ : (m1411_ 16 8).toInt = (m1294_ 16 8).toInt := by rw [p1413_.2.2 16 8 (by decide)]
              have f1420_ : (m1411_ 80 312).toInt = (m1294_ 80 312).toInt := by rw [p1413_.2.2 80 312 (by decide)]
              have f1421_ : (m1411_ 0 12).toInt = (m1294_ 0 12).toInt := by rw [p1413_.2.2 0 12 (by decide)]
              have f1422_ : (m1411_ 77 67).toInt = (m1294_ 77 67).toInt := by rw [p1413_.2.2 77 67 (by decide)]
              have f1423_ : (m1411_ 7 9).toInt = (m1294_ 7 9).toInt := by rw [p1413_.2.2 7 9 (by decide)]
              have f1424_ : (m1411_ 78 313).toInt = (m1294_ 78 313).toInt := by rw [p1413_.2.2 78 313 (by decide)]
              have f1425_ : (m1411_ 16 9).toInt = (m1294_ 16 9).toInt := by rw [p1413_.2.2 16 9 (by decide)]
              have f1426_ : (m1411_ 80 313).toInt = (m1294_ 80 313).toInt := by rw [p1413_.2.2 80 313 (by decide)]
              have d1427_ : KD m1411_ m1411_ := KD_S d1310_ (p1413_.2.2) (p1413_.2.2 3 3 (by decide)) (p1413_.2.2 77 6 (by decide)) rfl
              have l1428_ : LR j m1411_ m1411_ := LR_S hj l1311_ (p1413_.2.2) rfl rfl (p1413_.2.2 77 17 (by decide))
              have tw1429_ : TN 7 78 m1411_ m1411_ := TN_S tw1312_ (p1413_.2.2) rfl rfl
              have tx1430_ : m1411_ 0 12 ≠ 0 → TN 16 80 m1411_ m1411_ := KX_S tx1313_ (p1413_.2.2) (p1413_.2.2 0 12 (by decide)) rfl rfl
              have q1431_ : (m1411_ 1 1).toInt = (m1411_ 77 8).toInt := by omega
              have q1432_ : (m1411_ 7 8).toInt = (m1411_ 78 312).toInt := by omega
              have q1433_ : (m1411_ 16 8).toInt = (m1411_ 80 312).toInt := by omega
              have q1434_ : (m1411_ 0 12).toInt = (m1411_ 77 67).toInt := by omega
              have q1435_ : (m1411_ 7 9).toInt = (m1411_ 78 313).toInt := by omega
              have q1436_ : (m1411_ 16 9).toInt = (m1411_ 80 313).toInt := by omega
              have f1438_ := r_1_1 hG
              have t1437_ : TR m1411_ := TR_le hT (by omega) (funext (fun s_ => by rw [p1413_.2.2 2 s_ (outc rfl), p1296_.2.2 2 s_ (outc rfl)])) (funext (fun s_ => by rw [p1413_.2.2 84 s_ (outc rfl), p1296_.2.2 84 s_ (outc rfl)]))
              refine T_ql (i_add rfl l_7 (by omega) (by omega)) ?_
              intro x1439_ h1440_
              exact ih j r hj hr hjr x1439_ m1411_ (by omega) (by omega) g1412_ q1431_ q1432_ q1433_ q1434_ q1435_ q1436_ t1437_ d1427_ l1428_ tw1429_ tx1430_ (by omega)
        · refine T_qg (i_add rfl l_6 (by omega) (by omega)) (by omega) (by omega) ?_
          refine T_qcE (t_X11_game hn _ _ _ _ _ _ M hG (by decide) (by decide)) ?_
          intro r1441_ m1442_ e1445_ p1444_
          have g1443_ := p1444_.2.1
          have f1446_ : (m1442_ 1 1).toInt = (M 1 1).toInt := by rw [p1444_.2.2 1 1 (by decide)]
          have f1447_ : (m1442_ 77 8).toInt = (M 77 8).toInt := by rw [p1444_.2.2 77 8 (by decide)]
          have f1448_ : (m1442_ 7 8).toInt = (M 7 8).toInt := by rw [p1444_.2.2 7 8 (by decide)]
          have f1449_ : (m1442_ 78 312).toInt = (M 78 312).toInt := by rw [p1444_.2.2 78 312 (by decide)]
          have f1450_ : (m1442_ 16 8).toInt = (M 16 8).toInt := by rw [p1444_.2.2 16 8 (by decide)]
          have f1451_ : (m1442_ 80 312).toInt = (M 80 312).toInt := by rw [p1444_.2.2 80 312 (by decide)]
          have f1452_ : (m1442_ 0 12).toInt = (M 0 12).toInt := by rw [p1444_.2.2 0 12 (by decide)]
          have f1453_ : (m1442_ 77 67).toInt = (M 77 67).toInt := by rw [p1444_.2.2 77 67 (by decide)]
          have f1454_ : (m1442_ 7 9).toInt = (M 7 9).toInt := by rw [p1444_.2.2 7 9 (by decide)]
          have f1455_ : (m1442_ 78 313).toInt = (M 78 313).toInt := by rw [p1444_.2.2 78 313 (by decide)]
          have f1456_ : (m1442_ 16 9).toInt = (M 16 9).toInt := by rw [p1444_.2.2 16 9 (by decide)]
          have f1457_ : (m1442_ 80 313).toInt = (M 80 313).toInt := by rw [p1444_.2.2 80 313 (by decide)]
          have d1458_ : KD m1442_ m1442_ := KD_S hD (p1444_.2.2) (p1444_.2.2 3 3 (by decide)) (p1444_.2.2 77 6 (by decide)) rfl
          have l1459_ : LR j m1442_ m1442_ := LR_S hj hL (p1444_.2.2) rfl rfl (p1444_.2.2 77 17 (by decide))
          have tw1460_ : TN 7 78 m1442_ m1442_ := TN_S hW (p1444_.2.2) rfl rfl
          have tx1461_ : m1442_ 0 12 ≠ 0 → TN 16 80 m1442_ m1442_ := KX_S hX (p1444_.2.2) (p1444_.2.2 0 12 (by decide)) rfl rfl
          refine T_qg (i_add rfl l_1 (by omega) (by omega)) (by omega) (by omega) ?_
          refine T_qg (i_add rfl l_2 (by omega) (by omega)) (by omega) (by omega) ?_
          refine T_qg (i_add rfl l_3 (by omega) (by omega)) (by omega) (by omega) ?_
          refine T_qg (i_add rfl l_4 (by omega) (by omega)) (by omega) (by omega) ?_
          refine T_eq rfl l_0 (fun c1462_ => ?_) (fun c1462_ => ?_)
          · refine T_qg (i_add rfl l_5 (by omega) (by omega)) (by omega) (by omega) ?_
            refine T_eq rfl l_0 (fun c1463_ => ?_) (fun c1463_ => ?_)
            · refine T_qg (i_add rfl l_6 (by omega) (by omega)) (by omega) (by omega) ?_
              refine T_qcE (t_X12_game hn _ _ _ _ _ _ m1442_ g1443_ (by decide) (by decide)) ?_
              intro r1464_ m1465_ e1468_ p1467_
              have g1466_ := p1467_.2.1
              have f1469_ : (m1465_ 1 1).toInt = (m1442_ 1 1).toInt := by rw [p1467_.2.2 1 1 (by decide)]
              have f1470_ : (m1465_ 77 8).toInt = (m1442_ 77 8).toInt := by rw [p1467_.2.2 77 8 (by decide)]
              have f1471_ : (m1465_ 7 8).toInt = (m1442_ 7 8).toInt := by rw [p1467_.2.2 7 8 (by decide)]
              have f1472_ : (m1465_ 78 312).toInt = (m1442_ 78 312).toInt := by rw [p1467_.2.2 78 312 (by decide)]
              have f1473_ : (m1465_ 16 8).toInt = (m1442_ 16 8).toInt := by rw [p1467_.2.2 16 8 (by decide)]
              have f1474_ : (m1465_ 80 312).toInt = (m1442_ 80 312).toInt := by rw [p1467_.2.2 80 312 (by decide)]
              have f1475_ : (m1465_ 0 12).toInt = (m1442_ 0 12).toInt := by rw [p1467_.2.2 0 12 (by decide)]
              have f1476_ : (m1465_ 77 67).toInt = (m1442_ 77 67).toInt := by rw [p1467_.2.2 77 67 (by decide)]
              have f1477_ : (m1465_ 7 9).toInt = (m1442_ 7 9).toInt := by rw [p1467_.2.2 7 9 (by decide)]
              have f1478_ : (m1465_ 78 313).toInt = (m1442_ 78 313).toInt := by rw [p1467_.2.2 78 313 (by decide)]
              have f1479_ : (m1465_ 16 9).toInt = (m1442_ 16 9).toInt := by rw [p1467_.2.2 16 9 (by decide)]
              have f1480_ : (m1465_ 80 313).toInt = (m1442_ 80 313).toInt := by rw [p1467_.2.2 80 313 (by decide)]
              have d1481_ : KD m1465_ m1465_ := KD_S d1458_ (p1467_.2.2) (p1467_.2.2 3 3 (by decide)) (p1467_.2.2 77 6 (by decide)) rfl
              have l1482_ : LR j m1465_ m1465_ := LR_S hj l1459_ (p1467_.2.2) rfl rfl (p1467_.2.2 77 17 (by decide))
              have tw1483_ : TN 7 78 m1465_ m1465_ := TN_S tw1460_ (p1467_.2.2) rfl rfl
              have tx1484_ : m1465_ 0 12 ≠ 0 → TN 16 80 m1465_ m1465_ := KX_S tx1461_ (p1467_.2.2) (p1467_.2.2 0 12 (by decide)) rfl rfl
              have q1485_ : (m1465_ 1 1).toInt = (m1465_ 77 8).toInt := by omega
              have q1486_ : (m1465_ 7 8).toInt = (m1465_ 78 312).toInt := by omega
              have q1487_ : (m1465_ 16 8).toInt = (m1465_ 80 312).toInt := by omega
              have q1488_ : (m1465_ 0 12).toInt = (m1465_ 77 67).toInt := by omega
              have q1489_ : (m1465_ 7 9).toInt = (m1465_ 78 313).toInt := by omega
              have q1490_ : (m1465_ 16 9).toInt = (m1465_ 80 313).toInt := by omega
              have f1492_ := r_1_1 hG
              have t1491_ : TR m1465_ := TR_le hT (by omega) (funext (fun s_ => by rw [p1467_.2.2 2 s_ (outc rfl), p1444_.2.2 2 s_ (outc rfl)])) (funext (fun s_ => by rw [p1467_.2.2 84 s_ (outc rfl), p1444_.2.2 84 s_ (outc rfl)]))
              refine T_ql (i_add rfl l_7 (by omega) (by omega)) ?_
              intro x1493_ h1494_
              exact ih j r hj hr hjr x1493_ m1465_ (by omega) (by omega) g1466_ q1485_ q1486_ q1487_ q1488_ q1489_ q1490_ t1491_ d1481_ l1482_ tw1483_ tx1484_ (by omega)
            · refine T_qg (i_add rfl l_6 (by omega) (by omega)) (by omega) (by omega) ?_
              refine T_qcE (t_X12_game hn _ _ _ _ _ _ m1442_ g1443_ (by decide) (by decide)) ?_
              intro r1495_ m1496_ e1499_ p1498_
              have g1497_ := p1498_.2.1
              have f1500_ : (m1496_ 1 1).toInt = (m1442_ 1 1).toInt := by rw [p1498_.2.2 1 1 (by decide)]
              have f1501_ : (m1496_ 77 8).toInt = (m1442_ 77 8).toInt := by rw [p1498_.2.2 77 8 (by decide)]
              have f1502_ : (m1496_ 7 8).toInt = (m1442_ 7 8).toInt := by rw [p1498_.2.2 7 8 (by decide)]
              have f1503_ : (m1496_ 78 312).toInt = (m1442_ 78 312).toInt := by rw [p1498_.2.2 78 312 (by decide)]
              have f1504_ : (m1496_ 16 8).toInt = (m1442_ 16 8).toInt := by rw [p1498_.2.2 16 8 (by decide)]
              have f1505_ : (m1496_ 80 312).toInt = (m1442_ 80 312).toInt := by rw [p1498_.2.2 80 312 (by decide)]
              have f1506_ : (m1496_ 0 12).toInt = (m1442_ 0 12).toInt := by rw [p1498_.2.2 0 12 (by decide)]
              have f1507_ : (m1496_ 77 67).toInt = (m1442_ 77 67).toInt := by rw [p1498_.2.2 77 67 (by decide)]
              have f1508_ : (m1496_ 7 9).toInt = (m1442_ 7 9).toInt := by rw [p1498_.2.2 7 9 (by decide)]
              have f1509_ : (m1496_ 78 313).toInt = (m1442_ 78 313).toInt := by rw [p1498_.2.2 78 313 (by decide)]
              have f1510_ : (m1496_ 16 9).toInt = (m1442_ 16 9).toInt := by rw [p1498_.2.2 16 9 (by decide)]
              have f1511_ : (m1496_ 80 313).toInt = (m1442_ 80 313).toInt := by rw [p1498_.2.2 80 313 (by decide)]
              have d1512_ : KD m1496_ m1496_ := KD_S d1458_ (p1498_.2.2) (p1498_.2.2 3 3 (by decide)) (p1498_.2.2 77 6 (by decide)) rfl
              have l1513_ : LR j m1496_ m1496_ := LR_S hj l1459_ (p1498_.2.2) rfl rfl (p1498_.2.2 77 17 (by decide))
              have tw1514_ : TN 7 78 m1496_ m1496_ := TN_S tw1460_ (p1498_.2.2) rfl rfl
              have tx1515_ : m1496_ 0 12 ≠ 0 → TN 16 80 m1496_ m1496_ := KX_S tx1461_ (p1498_.2.2) (p1498_.2.2 0 12 (by decide)) rfl rfl
              have q1516_ : (m1496_ 1 1).toInt = (m1496_ 77 8).toInt := by omega
              have q1517_ : (m1496_ 7 8).toInt = (m1496_ 78 312).toInt := by omega
              have q1518_ : (m1496_ 16 8).toInt = (m1496_ 80 312).toInt := by omega
              have q1519_ : (m1496_ 0 12).toInt = (m1496_ 77 67).toInt := by omega
              have q1520_ : (m1496_ 7 9).toInt = (m1496_ 78 313).toInt := by omega
              have q1521_ : (m1496_ 16 9).toInt = (m1496_ 80 313).toInt := by omega
              have f1523_ := r_1_1 hG
              have t1522_ : TR m1496_ := TR_le hT (by omega) (funext (fun s_ => by rw [p1498_.2.2 2 s_ (outc rfl), p1444_.2.2 2 s_ (outc rfl)])) (funext (fun s_ => by rw [p1498_.2.2 84 s_ (outc rfl), p1444_.2.2 84 s_ (outc rfl)]))
              refine T_ql (i_add rfl l_7 (by omega) (by omega)) ?_
              intro x1524_ h1525_
              exact ih j r hj hr hjr x1524_ m1496_ (by omega) (by omega) g1497_ q1516_ q1517_ q1518_ q1519_ q1520_ q1521_ t1522_ d1512_ l1513_ tw1514_ tx1515_ (by omega)
          · refine T_qg (i_add rfl l_5 (by omega) (by omega)) (by omega) (by omega) ?_
            refine T_eq rfl l_0 (fun c1526_ => ?_) (fun c1526_ => ?_)
            · refine T_qg (i_add rfl l_6 (by omega) (by omega)) (by omega) (by omega) ?_
              refine T_qcE (t_X12_game hn _ _ _ _ _ _ m1442_ g1443_ (by decide) (by decide)) ?_
              intro r1527_ m1528_ e1531_ p1530_
              have g1529_ := p1530_.2.1
              have f1532_ : (m1528_ 1 1).toInt = (m1442_ 1 1).toInt := by rw [p1530_.2.2 1 1 (by decide)]
              have f1533_ : (m1528_ 77 8).toInt = (m1442_ 77 8).toInt := by rw [p1530_.2.2 77 8 (by decide)]
              have f1534_ : (m1528_ 7 8).toInt = (m1442_ 7 8).toInt := by rw [p1530_.2.2 7 8 (by decide)]
              have f1535_ : (m1528_ 78 312).toInt = (m1442_ 78 312).toInt := by rw [p1530_.2.2 78 312 (by decide)]
              have f1536_ : (m1528_ 16 8).toInt = (m1442_ 16 8).toInt := by rw [p1530_.2.2 16 8 (by decide)]
              have f1537_ : (m1528_ 80 312).toInt = (m1442_ 80 312).toInt := by rw [p1530_.2.2 80 312 (by decide)]
              have f1538_ : (m1528_ 0 12).toInt = (m1442_ 0 12).toInt := by rw [p1530_.2.2 0 12 (by decide)]
              have f1539_ : (m1528_ 77 67).toInt = (m1442_ 77 67).toInt := by rw [p1530_.2.2 77 67 (by decide)]
              have f1540_ : (m1528_ 7 9).toInt = (m1442_ 7 9).toInt := by rw [p1530_.2.2 7 9 (by decide)]
              have f1541_ : (m1528_ 78 313).toInt = (m1442_ 78 313).toInt := by rw [p1530_.2.2 78 313 (by decide)]
              have f1542_ : (m1528_ 16 9).toInt = (m1442_ 16 9).toInt := by rw [p1530_.2.2 16 9 (by decide)]
              have f1543_ : (m1528_ 80 313).toInt = (m1442_ 80 313).toInt := by rw [p1530_.2.2 80 313 (by decide)]
              have d1544_ : KD m1528_ m1528_ := KD_S d1458_ (p1530_.2.2) (p1530_.2.2 3 3 (by decide)) (p1530_.2.2 77 6 (by decide)) rfl
              have l1545_ : LR j m1528_ m1528_ := LR_S hj l1459_ (p1530_.2.2) rfl rfl (p1530_.2.2 77 17 (by decide))
              have tw1546_ : TN 7 78 m1528_ m1528_ := TN_S tw1460_ (p1530_.2.2) rfl rfl
              have tx1547_ : m1528_ 0 12 ≠ 0 → TN 16 80 m1528_ m1528_ := KX_S tx1461_ (p1530_.2.2) (p1530_.2.2 0 12 (by decide)) rfl rfl
              have q1548_ : (m1528_ 1 1).toInt = (m1528_ 77 8).toInt := by omega
              have q1549_ : (m1528_ 7 8).toInt = (m1528_ 78 312).toInt := by omega
              have q1550_ : (m1528_ 16 8).toInt = (m1528_ 80 312).toInt := by omega
              have q1551_ : (m1528_ 0 12).toInt = (m1528_ 77 67).toInt := by omega
              have q1552_ : (m1528_ 7 9).toInt = (m1528_ 78 313).toInt := by omega
              have q1553_ : (m1528_ 16 9).toInt = (m1528_ 80 313).toInt := by omega
              have f1555_ := r_1_1 hG
              have t1554_ : TR m1528_ := TR_le hT (by omega) (funext (fun s_ => by rw [p1530_.2.2 2 s_ (outc rfl), p1444_.2.2 2 s_ (outc rfl)])) (funext (fun s_ => by rw [p1530_.2.2 84 s_ (outc rfl), p1444_.2.2 84 s_ (outc rfl)]))
              refine T_ql (i_add rfl l_7 (by omega) (by omega)) ?_
              intro x1556_ h1557_
              exact ih j r hj hr hjr x1556_ m1528_ (by omega) (by omega) g1529_ q1548_ q1549_ q1550_ q1551_ q1552_ q1553_ t1554_ d1544_ l1545_ tw1546_ tx1547_ (by omega)
            · refine T_qg (i_add rfl l_6 (by omega) (by omega)) (by omega) (by omega) ?_
              refine T_qcE (t_X12_game hn _ _ _ _ _ _ m1442_ g1443_ (by decide) (by decide)) ?_
              intro r1558_ m1559_ e1562_ p1561_
              have g1560_ := p1561_.2.1
              have f1563_ : (m1559_ 1 1).toInt = (m1442_ 1 1).toInt := by rw [p1561_.2.2 1 1 (by decide)]
              have f1564_ : (m1559_ 77 8).toInt = (m1442_ 77 8).toInt := by rw [p1561_.2.2 77 8 (by decide)]
              have f1565_ : (m1559_ 7 8).toInt = (m1442_ 7 8).toInt := by rw [p1561_.2.2 7 8 (by decide)]
              have f1566_ : (m1559_ 78 312).toInt = (m1442_ 78 312).toInt := by rw [p1561_.2.2 78 312 (by decide)]
              have f1567_ : (m1559_ 16 8).toInt = (m1442_ 16 8).toInt := by rw [p1561_.2.2 16 8 (by decide)]
              have f1568_ : (m1559_ 80 312).toInt = (m1442_ 80 312).toInt := by rw [p1561_.2.2 80 312 (by decide)]
              have f1569_ : (m1559_ 0 12).toInt = (m1442_ 0 12).toInt := by rw [p1561_.2.2 0 12 (by decide)]
              have f1570_ : (m1559_ 77 67).toInt = (m1442_ 77 67).toInt := by rw [p1561_.2.2 77 67 (by decide)]
              have f1571_ : (m1559_ 7 9).toInt = (m1442_ 7 9).toInt := by rw [p1561_.2.2 7 9 (by decide)]
              have f1572_ : (m1559_ 78 313).toInt = (m1442_ 78 313).toInt := by rw [p1561_.2.2 78 313 (by decide)]
              have f1573_ : (m1559_ 16 9).toInt = (m1442_ 16 9).toInt := by rw [p1561_.2.2 16 9 (by decide)]
              have f1574_ : (m1559_ 80 313).toInt = (m1442_ 80 313).toInt := by rw [p1561_.2.2 80 313 (by decide)]
              have d1575_ : KD m1559_ m1559_ := KD_S d1458_ (p1561_.2.2) (p1561_.2.2 3 3 (by decide)) (p1561_.2.2 77 6 (by decide)) rfl
              have l1576_ : LR j m1559_ m1559_ := LR_S hj l1459_ (p1561_.2.2) rfl rfl (p1561_.2.2 77 17 (by decide))
              have tw1577_ : TN 7 78 m1559_ m1559_ := TN_S tw1460_ (p1561_.2.2) rfl rfl
              have tx1578_ : m1559_ 0 12 ≠ 0 → TN 16 80 m1559_ m1559_ := KX_S tx1461_ (p1561_.2.2) (p1561_.2.2 0 12 (by decide)) rfl rfl
              have q1579_ : (m1559_ 1 1).toInt = (m1559_ 77 8).toInt := by omega
              have q1580_ : (m1559_ 7 8).toInt = (m1559_ 78 312).toInt := by omega
              have q1581_ : (m1559_ 16 8).toInt = (m1559_ 80 312).toInt := by omega
              have q1582_ : (m1559_ 0 12).toInt = (m1559_ 77 67).toInt := by omega
              have q1583_ : (m1559_ 7 9).toInt = (m1559_ 78 313).toInt := by omega
              have q1584_ : (m1559_ 16 9).toInt = (m1559_ 80 313).toInt := by omega
              have f1586_ := r_1_1 hG
              have t1585_ : TR m1559_ := TR_le hT (by omega) (funext (fun s_ => by rw [p1561_.2.2 2 s_ (outc rfl), p1444_.2.2 2 s_ (outc rfl)])) (funext (fun s_ => by rw [p1561_.2.2 84 s_ (outc rfl), p1444_.2.2 84 s_ (outc rfl)]))
              refine T_ql (i_add rfl l_7 (by omega) (by omega)) ?_
              intro x1587_ h1588_
              exact ih j r hj hr hjr x1587_ m1559_ (by omega) (by omega) g1560_ q1579_ q1580_ q1581_ q1582_ q1583_ q1584_ t1585_ d1575_ l1576_ tw1577_ tx1578_ (by omega)
    refine T_sw rfl l_19 (fun s1589_ => ?_) (fun s1589_ => ?_)
    · refine T_qg (i_add rfl l_1 (by omega) (by omega)) (by omega) (by omega) ?_
      refine T_qg (i_add rfl l_2 (by omega) (by omega)) (by omega) (by omega) ?_
      refine T_qg (i_add rfl l_3 (by omega) (by omega)) (by omega) (by omega) ?_
      refine T_qg (i_add rfl l_4 (by omega) (by omega)) (by omega) (by omega) ?_
      refine T_qg (i_add rfl l_5 (by omega) (by omega)) (by omega) (by omega) ?_
      refine T_qg (i_add rfl l_6 (by omega) (by omega)) (by omega) (by omega) ?_
      refine T_qcE (t_X11_court hn _ _ _ _ _ _ M hG) ?_
      intro r1590_ m1591_ e1594_ p1593_
      have g1592_ := p1593_.2.1
      have f1595_ : (m1591_ 1 1).toInt = (M 1 1).toInt := by rw [p1593_.2.2 1 1 (by decide)]
      have f1596_ : (m1591_ 77 8).toInt = (M 77 8).toInt := by rw [p1593_.2.2 77 8 (by decide)]
      have f1597_ : (m1591_ 7 8).toInt = (M 7 8).toInt := by rw [p1593_.2.2 7 8 (by decide)]
      have f1598_ : (m1591_ 78 312).toInt = (M 78 312).toInt := by rw [p1593_.2.2 78 312 (by decide)]
      have f1599_ : (m1591_ 16 8).toInt = (M 16 8).toInt := by rw [p1593_.2.2 16 8 (by decide)]
      have f1600_ : (m1591_ 80 312).toInt = (M 80 312).toInt := by rw [p1593_.2.2 80 312 (by decide)]
      have f1601_ : (m1591_ 0 12).toInt = (M 0 12).toInt := by rw [p1593_.2.2 0 12 (by decide)]
      have f1602_ : (m1591_ 77 67).toInt = (M 77 67).toInt := by rw [p1593_.2.2 77 67 (by decide)]
      have f1603_ : (m1591_ 7 9).toInt = (M 7 9).toInt := by rw [p1593_.2.2 7 9 (by decide)]
      have f1604_ : (m1591_ 78 313).toInt = (M 78 313).toInt := by rw [p1593_.2.2 78 313 (by decide)]
      have f1605_ : (m1591_ 16 9).toInt = (M 16 9).toInt := by rw [p1593_.2.2 16 9 (by decide)]
      have f1606_ : (m1591_ 80 313).toInt = (M 80 313).toInt := by rw [p1593_.2.2 80 313 (by decide)]
      have d1607_ : KD m1591_ m1591_ := KD_S hD (p1593_.2.2) (p1593_.2.2 3 3 (by decide)) (p1593_.2.2 77 6 (by decide)) rfl
      have l1608_ : LR j m1591_ m1591_ := LR_S hj hL (p1593_.2.2) rfl rfl (p1593_.2.2 77 17 (by decide))
      have tw1609_ : TN 7 78 m1591_ m1591_ := TN_S hW (p1593_.2.2) rfl rfl
      have tx1610_ : m1591_ 0 12 ≠ 0 → TN 16 80 m1591_ m1591_ := KX_S hX (p1593_.2.2) (p1593_.2.2 0 12 (by decide)) rfl rfl
      refine T_qg (i_add rfl l_1 (by omega) (by omega)) (by omega) (by omega) ?_
      refine T_qg (i_add rfl l_2 (by omega) (by omega)) (by omega) (by omega) ?_
      refine T_qg (i_add rfl l_3 (by omega) (by omega)) (by omega) (by omega) ?_
      refine T_qg (i_add rfl l_4 (by omega) (by omega)) (by omega) (by omega) ?_
      refine T_qg (i_add rfl l_5 (by omega) (by omega)) (by omega) (by omega) ?_
      refine T_qg (i_add rfl l_6 (by omega) (by omega)) (by omega) (by omega) ?_
      refine T_qcE (t_X12_court hn _ _ _ _ _ _ m1591_ g1592_) ?_
      intro r1611_ m1612_ e1615_ p1614_
      have g1613_ := p1614_.2.1
      have f1616_ : (m1612_ 1 1).toInt = (m1591_ 1 1).toInt := by rw [p1614_.2.2 1 1 (by decide)]
      have f1617_ : (m1612_ 77 8).toInt = (m1591_ 77 8).toInt := by rw [p1614_.2.2 77 8 (by decide)]
      have f1618_ : (m1612_ 7 8).toInt = (m1591_ 7 8).toInt := by rw [p1614_.2.2 7 8 (by decide)]
      have f1619_ : (m1612_ 78 312).toInt = (m1591_ 78 312).toInt := by rw [p1614_.2.2 78 312 (by decide)]
      have f1620_ : (m1612_ 16 8).toInt = (m1591_ 16 8).toInt := by rw [p1614_.2.2 16 8 (by decide)]
      have f1621_ : (m1612_ 80 312).toInt = (m1591_ 80 312).toInt := by rw [p1614_.2.2 80 312 (by decide)]
      have f1622_ : (m1612_ 0 12).toInt = (m1591_ 0 12).toInt := by rw [p1614_.2.2 0 12 (by decide)]
      have f1623_ : (m1612_ 77 67).toInt = (m1591_ 77 67).toInt := by rw [p1614_.2.2 77 67 (by decide)]
      have f1624_ : (m1612_ 7 9).toInt = (m1591_ 7 9).toInt := by rw [p1614_.2.2 7 9 (by decide)]
      have f1625_ : (m1612_ 78 313).toInt = (m1591_ 78 313).toInt := by rw [p1614_.2.2 78 313 (by decide)]
      have f1626_ : (m1612_ 16 9).toInt = (m1591_ 16 9).toInt := by rw [p1614_.2.2 16 9 (by decide)]
      have f1627_ : (m1612_ 80 313).toInt = (m1591_ 80 313).toInt := by rw [p1614_.2.2 80 313 (by decide)]
      have d1628_ : KD m1612_ m1612_ := KD_S d1607_ (p1614_.2.2) (p1614_.2.2 3 3 (by decide)) (p1614_.2.2 77 6 (by decide)) rfl
      have l1629_ : LR j m1612_ m1612_ := LR_S hj l1608_ (p1614_.2.2) rfl rfl (p1614_.2.2 77 17 (by decide))
      have tw1630_ : TN 7 78 m1612_ m1612_ := TN_S tw1609_ (p1614_.2.2) rfl rfl
      have tx1631_ : m1612_ 0 12 ≠ 0 → TN 16 80 m1612_ m1612_ := KX_S tx1610_ (p1614_.2.2) (p1614_.2.2 0 12 (by decide)) rfl rfl
      have q1632_ : (m1612_ 1 1).toInt = (m1612_ 77 8).toInt := by omega
      have q1633_ : (m1612_ 7 8).toInt = (m1612_ 78 312).toInt := by omega
      have q1634_ : (m1612_ 16 8).toInt = (m1612_ 80 312).toInt := by omega
      have q1635_ : (m1612_ 0 12).toInt = (m1612_ 77 67).toInt := by omega
      have q1636_ : (m1612_ 7 9).toInt = (m1612_ 78 313).toInt := by omega
      have q1637_ : (m1612_ 16 9).toInt = (m1612_ 80 313).toInt := by omega
      have f1639_ := r_1_1 hG
      have t1638_ : TR m1612_ := TR_le hT (by omega) (funext (fun s_ => by rw [p1614_.2.2 2 s_ (outc rfl), p1593_.2.2 2 s_ (outc rfl)])) (funext (fun s_ => by rw [p1614_.2.2 84 s_ (outc rfl), p1593_.2.2 84 s_ (outc rfl)]))
      refine T_ql (i_add rfl l_7 (by omega) (by omega)) ?_
      intro x1640_ h1641_
      exact ih j r hj hr hjr x1640_ m1612_ (by omega) (by omega) g1613_ q1632_ q1633_ q1634_ q1635_ q1636_ q1637_ t1638_ d1628_ l1629_ tw1630_ tx1631_ (by omega)
    refine T_sw rfl l_20 (fun s1642_ => ?_) (fun s1642_ => ?_)
    · refine T_qcE (t_X11_keep hn M hG) ?_
      intro r1643_ m1644_ e1647_ p1646_
      have g1645_ := p1646_.2.1
      have f1648_ : (m1644_ 1 1).toInt = (M 1 1).toInt := by rw [p1646_.2.2 1 1 (by decide)]
      have f1649_ : (m1644_ 77 8).toInt = (M 77 8).toInt := by rw [p1646_.2.2 77 8 (by decide)]
      have f1650_ : (m1644_ 7 8).toInt = (M 7 8).toInt := by rw [p1646_.2.2 7 8 (by decide)]
      have f1651_ : (m1644_ 78 312).toInt = (M 78 312).toInt := by rw [p1646_.2.2 78 312 (by decide)]
      have f1652_ : (m1644_ 80 312).toInt = (M 80 312).toInt := by rw [p1646_.2.2 80 312 (by decide)]
      have f1653_ : (m1644_ 77 67).toInt = (M 77 67).toInt := by rw [p1646_.2.2 77 67 (by decide)]
      have f1654_ : (m1644_ 7 9).toInt = (M 7 9).toInt := by rw [p1646_.2.2 7 9 (by decide)]
      have f1655_ : (m1644_ 78 313).toInt = (M 78 313).toInt := by rw [p1646_.2.2 78 313 (by decide)]
      have f1656_ : (m1644_ 80 313).toInt = (M 80 313).toInt := by rw [p1646_.2.2 80 313 (by decide)]
      have w1657_ := p1646_.1
      have d1658_ : KD m1644_ m1644_ := KD_S hD (p1646_.2.2) (p1646_.2.2 3 3 (by decide)) (p1646_.2.2 77 6 (by decide)) rfl
      have l1659_ : LR j m1644_ m1644_ := LR_S hj hL (p1646_.2.2) rfl rfl (p1646_.2.2 77 17 (by decide))
      refine T_qcE (t_X12_keep hn m1644_ g1645_) ?_
      intro r1660_ m1661_ e1664_ p1663_
      have g1662_ := p1663_.2.1
      have f1665_ : (m1661_ 1 1).toInt = (m1644_ 1 1).toInt := by rw [p1663_.2.2 1 1 (by decide)]
      have f1666_ : (m1661_ 77 8).toInt = (m1644_ 77 8).toInt := by rw [p1663_.2.2 77 8 (by decide)]
      have f1667_ : (m1661_ 7 8).toInt = (m1644_ 7 8).toInt := by rw [p1663_.2.2 7 8 (by decide)]
      have f1668_ : (m1661_ 78 312).toInt = (m1644_ 78 312).toInt := by rw [p1663_.2.2 78 312 (by decide)]
      have f1669_ : (m1661_ 16 8).toInt = (m1644_ 16 8).toInt := by rw [p1663_.2.2 16 8 (by decide)]
      have f1670_ : (m1661_ 0 12).toInt = (m1644_ 0 12).toInt := by rw [p1663_.2.2 0 12 (by decide)]
      have f1671_ : (m1661_ 7 9).toInt = (m1644_ 7 9).toInt := by rw [p1663_.2.2 7 9 (by decide)]
      have f1672_ : (m1661_ 78 313).toInt = (m1644_ 78 313).toInt := by rw [p1663_.2.2 78 313 (by decide)]
      have f1673_ : (m1661_ 16 9).toInt = (m1644_ 16 9).toInt := by rw [p1663_.2.2 16 9 (by decide)]
      have w1674_ := p1663_.1
      have d1675_ : KD m1661_ m1661_ := KD_S d1658_ (p1663_.2.2) (p1663_.2.2 3 3 (by decide)) (p1663_.2.2 77 6 (by decide)) rfl
      have l1676_ : LR j m1661_ m1661_ := LR_S hj l1659_ (p1663_.2.2) rfl rfl (p1663_.2.2 77 17 (by decide))
      have q1677_ : (m1661_ 1 1).toInt = (m1661_ 77 8).toInt := by omega
      have q1678_ : (m1661_ 7 8).toInt = (m1661_ 78 312).toInt := by omega
      have q1679_ : (m1661_ 16 8).toInt = (m1661_ 80 312).toInt := by omega
      have q1680_ : (m1661_ 0 12).toInt = (m1661_ 77 67).toInt := by omega
      have q1681_ : (m1661_ 7 9).toInt = (m1661_ 78 313).toInt := by omega
      have q1682_ : (m1661_ 16 9).toInt = (m1661_ 80 313).toInt := by omega
      have f1684_ := r_1_1 hG
      have t1683_ : TR m1661_ := TR_le hT (by omega) (funext (fun s_ => by rw [p1663_.2.2 2 s_ (outc rfl), p1646_.2.2 2 s_ (outc rfl)])) (funext (fun s_ => by rw [p1663_.2.2 84 s_ (outc rfl), p1646_.2.2 84 s_ (outc rfl)]))
      have wk1685_ := keep_st hW (fun c_ hc_ => funext (fun s_ => p1646_.2.2 c_ s_ (out77 hc_ rfl))) e1647_ e1664_
      have tw1686_ := wk1685_.2.1
      have tx1687_ : m1661_ 0 12 ≠ 0 → TN 16 80 m1661_ m1661_ := fun _ => wk1685_.2.2
      refine T_ql (i_add rfl l_7 (by omega) (by omega)) ?_
      intro x1688_ h1689_
      exact ih j r hj hr hjr x1688_ m1661_ (by omega) (by omega) g1662_ q1677_ q1678_ q1679_ q1680_ q1681_ q1682_ t1683_ d1675_ l1676_ tw1686_ tx1687_ (by omega)
    refine T_sw rfl l_21 (fun s1690_ => ?_) (fun s1690_ => ?_)
    · refine T_qcE (t_X11_undo hn M hG) ?_
      intro r1691_ m1692_ e1695_ p1694_
      have g1693_ := p1694_.2.2.1
      have f1696_ : (m1692_ 1 1).toInt = (M 1 1).toInt := by rw [p1694_.2.2.2 1 1 (by decide)]
      have f1697_ : (m1692_ 77 8).toInt = (M 77 8).toInt := by rw [p1694_.2.2.2 77 8 (by decide)]
      have f1698_ : (m1692_ 78 312).toInt = (M 78 312).toInt := by rw [p1694_.2.2.2 78 312 (by decide)]
      have f1699_ : (m1692_ 16 8).toInt = (M 16 8).toInt := by rw [p1694_.2.2.2 16 8 (by decide)]
      have f1700_ : (m1692_ 80 312).toInt = (M 80 312).toInt := by rw [p1694_.2.2.2 80 312 (by decide)]
      have f1701_ : (m1692_ 0 12).toInt = (M 0 12).toInt := by rw [p1694_.2.2.2 0 12 (by decide)]
      have f1702_ : (m1692_ 77 67).toInt = (M 77 67).toInt := by rw [p1694_.2.2.2 77 67 (by decide)]
      have f1703_ : (m1692_ 78 313).toInt = (M 78 313).toInt := by rw [p1694_.2.2.2 78 313 (by decide)]
      have f1704_ : (m1692_ 16 9).toInt = (M 16 9).toInt := by rw [p1694_.2.2.2 16 9 (by decide)]
      have f1705_ : (m1692_ 80 313).toInt = (M 80 313).toInt := by rw [p1694_.2.2.2 80 313 (by decide)]
      have w1706_ := p1694_.2.1
      have d1707_ : KD m1692_ m1692_ := KD_S hD (p1694_.2.2.2) (p1694_.2.2.2 3 3 (by decide)) (p1694_.2.2.2 77 6 (by decide)) rfl
      have l1708_ : LR j m1692_ m1692_ := LR_S hj hL (p1694_.2.2.2) rfl rfl (p1694_.2.2.2 77 17 (by decide))
      have tx1709_ : m1692_ 0 12 ≠ 0 → TN 16 80 m1692_ m1692_ := KX_S hX (p1694_.2.2.2) (p1694_.2.2.2 0 12 (by decide)) rfl rfl
      refine T_qcE (t_X12_undo hn m1692_ g1693_) ?_
      intro r1710_ m1711_ e1714_ p1713_
      have g1712_ := p1713_.2.2.1
      have f1715_ : (m1711_ 1 1).toInt = (m1692_ 1 1).toInt := by rw [p1713_.2.2.2 1 1 (by decide)]
      have f1716_ : (m1711_ 77 8).toInt = (m1692_ 77 8).toInt := by rw [p1713_.2.2.2 77 8 (by decide)]
      have f1717_ : (m1711_ 7 8).toInt = (m1692_ 7 8).toInt := by rw [p1713_.2.2.2 7 8 (by decide)]
      have f1718_ : (m1711_ 16 8).toInt = (m1692_ 16 8).toInt := by rw [p1713_.2.2.2 16 8 (by decide)]
      have f1719_ : (m1711_ 80 312).toInt = (m1692_ 80 312).toInt := by rw [p1713_.2.2.2 80 312 (by decide)]
      have f1720_ : (m1711_ 0 12).toInt = (m1692_ 0 12).toInt := by rw [p1713_.2.2.2 0 12 (by decide)]
      have f1721_ : (m1711_ 77 67).toInt = (m1692_ 77 67).toInt := by rw [p1713_.2.2.2 77 67 (by decide)]
      have f1722_ : (m1711_ 7 9).toInt = (m1692_ 7 9).toInt := by rw [p1713_.2.2.2 7 9 (by decide)]
      have f1723_ : (m1711_ 16 9).toInt = (m1692_ 16 9).toInt := by rw [p1713_.2.2.2 16 9 (by decide)]
      have f1724_ : (m1711_ 80 313).toInt = (m1692_ 80 313).toInt := by rw [p1713_.2.2.2 80 313 (by decide)]
      have w1725_ := p1713_.2.1
      have d1726_ : KD m1711_ m1711_ := KD_S d1707_ (p1713_.2.2.2) (p1713_.2.2.2 3 3 (by decide)) (p1713_.2.2.2 77 6 (by decide)) rfl
      have l1727_ : LR j m1711_ m1711_ := LR_S hj l1708_ (p1713_.2.2.2) rfl rfl (p1713_.2.2.2 77 17 (by decide))
      have tx1728_ : m1711_ 0 12 ≠ 0 → TN 16 80 m1711_ m1711_ := KX_S tx1709_ (p1713_.2.2.2) (p1713_.2.2.2 0 12 (by decide)) rfl rfl
      have q1729_ : (m1711_ 1 1).toInt = (m1711_ 77 8).toInt := by omega
      have q1730_ : (m1711_ 7 8).toInt = (m1711_ 78 312).toInt := by omega
      have q1731_ : (m1711_ 16 8).toInt = (m1711_ 80 312).toInt := by omega
      have q1732_ : (m1711_ 0 12).toInt = (m1711_ 77 67).toInt := by omega
      have q1733_ : (m1711_ 7 9).toInt = (m1711_ 78 313).toInt := by omega
      have q1734_ : (m1711_ 16 9).toInt = (m1711_ 80 313).toInt := by omega
      have f1736_ := r_1_1 hG
      have t1735_ : TR m1711_ := TR_le hT (by omega) (funext (fun s_ => by rw [p1713_.2.2.2 2 s_ (outc rfl), p1694_.2.2.2 2 s_ (outc rfl)])) (funext (fun s_ => by rw [p1713_.2.2.2 84 s_ (outc rfl), p1694_.2.2.2 84 s_ (outc rfl)]))
      have wk1737_ := undo_st hW (Int32.toInt_inj.mp hR3) hX (fun c_ hc_ => funext (fun s_ => p1694_.2.2.2 c_ s_ (out77 hc_ rfl))) e1695_ e1714_
      have tw1738_ := wk1737_.2
      refine T_ql (i_add rfl l_7 (by omega) (by omega)) ?_
      intro x1739_ h1740_
      exact ih j r hj hr hjr x1739_ m1711_ (by omega) (by omega) g1712_ q1729_ q1730_ q1731_ q1732_ q1733_ q1734_ t1735_ d1726_ l1727_ tw1738_ tx1728_ (by omega)
    refine T_sw rfl l_22 (fun s1741_ => ?_) (fun s1741_ => ?_)
    · refine T_qg (i_add rfl l_1 (by omega) (by omega)) (by omega) (by omega) ?_
      refine T_qg (i_add rfl l_2 (by omega) (by omega)) (by omega) (by omega) ?_
      refine T_qcE (t_X11_check hn _ _ M hG) ?_
      intro r1742_ m1743_ e1746_ p1745_
      have g1744_ := p1745_.2.2.1
      have f1747_ : (m1743_ 77 8).toInt = (M 77 8).toInt := by rw [p1745_.2.2.2 77 8 (by decide)]
      have f1748_ : (m1743_ 7 8).toInt = (M 7 8).toInt := by rw [p1745_.2.2.2 7 8 (by decide)]
      have f1749_ : (m1743_ 78 312).toInt = (M 78 312).toInt := by rw [p1745_.2.2.2 78 312 (by decide)]
      have f1750_ : (m1743_ 16 8).toInt = (M 16 8).toInt := by rw [p1745_.2.2.2 16 8 (by decide)]
      have f1751_ : (m1743_ 80 312).toInt = (M 80 312).toInt := by rw [p1745_.2.2.2 80 312 (by decide)]
      have f1752_ : (m1743_ 0 12).toInt = (M 0 12).toInt := by rw [p1745_.2.2.2 0 12 (by decide)]
      have f1753_ : (m1743_ 77 67).toInt = (M 77 67).toInt := by rw [p1745_.2.2.2 77 67 (by decide)]
      have f1754_ : (m1743_ 7 9).toInt = (M 7 9).toInt := by rw [p1745_.2.2.2 7 9 (by decide)]
      have f1755_ : (m1743_ 78 313).toInt = (M 78 313).toInt := by rw [p1745_.2.2.2 78 313 (by decide)]
      have f1756_ : (m1743_ 16 9).toInt = (M 16 9).toInt := by rw [p1745_.2.2.2 16 9 (by decide)]
      have f1757_ : (m1743_ 80 313).toInt = (M 80 313).toInt := by rw [p1745_.2.2.2 80 313 (by decide)]
      have w1758_ := p1745_.2.1
      have d1759_ : KD m1743_ m1743_ := KD_S hD (p1745_.2.2.2) (p1745_.2.2.2 3 3 (by decide)) (p1745_.2.2.2 77 6 (by decide)) rfl
      have l1760_ : LR j m1743_ m1743_ := LR_S hj hL (p1745_.2.2.2) rfl rfl (p1745_.2.2.2 77 17 (by decide))
      have tw1761_ : TN 7 78 m1743_ m1743_ := TN_S hW (p1745_.2.2.2) rfl rfl
      have tx1762_ : m1743_ 0 12 ≠ 0 → TN 16 80 m1743_ m1743_ := KX_S hX (p1745_.2.2.2) (p1745_.2.2.2 0 12 (by decide)) rfl rfl
      refine T_qg (i_add rfl l_1 (by omega) (by omega)) (by omega) (by omega) ?_
      refine T_qg (i_add rfl l_2 (by omega) (by omega)) (by omega) (by omega) ?_
      refine T_qcE (t_X12_check hn _ _ m1743_ g1744_) ?_
      intro r1763_ m1764_ e1767_ p1766_
      have g1765_ := p1766_.2.2.1
      have f1768_ : (m1764_ 1 1).toInt = (m1743_ 1 1).toInt := by rw [p1766_.2.2.2 1 1 (by decide)]
      have f1769_ : (m1764_ 7 8).toInt = (m1743_ 7 8).toInt := by rw [p1766_.2.2.2 7 8 (by decide)]
      have f1770_ : (m1764_ 78 312).toInt = (m1743_ 78 312).toInt := by rw [p1766_.2.2.2 78 312 (by decide)]
      have f1771_ : (m1764_ 16 8).toInt = (m1743_ 16 8).toInt := by rw [p1766_.2.2.2 16 8 (by decide)]
      have f1772_ : (m1764_ 80 312).toInt = (m1743_ 80 312).toInt := by rw [p1766_.2.2.2 80 312 (by decide)]
      have f1773_ : (m1764_ 0 12).toInt = (m1743_ 0 12).toInt := by rw [p1766_.2.2.2 0 12 (by decide)]
      have f1774_ : (m1764_ 77 67).toInt = (m1743_ 77 67).toInt := by rw [p1766_.2.2.2 77 67 (by decide)]
      have f1775_ : (m1764_ 7 9).toInt = (m1743_ 7 9).toInt := by rw [p1766_.2.2.2 7 9 (by decide)]
      have f1776_ : (m1764_ 78 313).toInt = (m1743_ 78 313).toInt := by rw [p1766_.2.2.2 78 313 (by decide)]
      have f1777_ : (m1764_ 16 9).toInt = (m1743_ 16 9).toInt := by rw [p1766_.2.2.2 16 9 (by decide)]
      have f1778_ : (m1764_ 80 313).toInt = (m1743_ 80 313).toInt := by rw [p1766_.2.2.2 80 313 (by decide)]
      have w1779_ := p1766_.2.1
      have d1780_ : KD m1764_ m1764_ := KD_S d1759_ (p1766_.2.2.2) (p1766_.2.2.2 3 3 (by decide)) (p1766_.2.2.2 77 6 (by decide)) rfl
      have l1781_ : LR j m1764_ m1764_ := LR_S hj l1760_ (p1766_.2.2.2) rfl rfl (p1766_.2.2.2 77 17 (by decide))
      have tw1782_ : TN 7 78 m1764_ m1764_ := TN_S tw1761_ (p1766_.2.2.2) rfl rfl
      have tx1783_ : m1764_ 0 12 ≠ 0 → TN 16 80 m1764_ m1764_ := KX_S tx1762_ (p1766_.2.2.2) (p1766_.2.2.2 0 12 (by decide)) rfl rfl
      have b1784_ : m1743_ 78 312 = M 7 8 := Int32.toInt_inj.mp (by omega)
      rw [b1784_] at w1779_
      have q1785_ : (m1764_ 1 1).toInt = (m1764_ 77 8).toInt := by omega
      have q1786_ : (m1764_ 7 8).toInt = (m1764_ 78 312).toInt := by omega
      have q1787_ : (m1764_ 16 8).toInt = (m1764_ 80 312).toInt := by omega
      have q1788_ : (m1764_ 0 12).toInt = (m1764_ 77 67).toInt := by omega
      have q1789_ : (m1764_ 7 9).toInt = (m1764_ 78 313).toInt := by omega
      have q1790_ : (m1764_ 16 9).toInt = (m1764_ 80 313).toInt := by omega
      have f1792_ := r_1_1 hG
      have t1791_ : TR m1764_ := TR_le hT (by omega) (funext (fun s_ => by rw [p1766_.2.2.2 2 s_ (outc rfl), p1745_.2.2.2 2 s_ (outc rfl)])) (funext (fun s_ => by rw [p1766_.2.2.2 84 s_ (outc rfl), p1745_.2.2.2 84 s_ (outc rfl)]))
      refine T_ql (i_add rfl l_7 (by omega) (by omega)) ?_
      intro x1793_ h1794_
      exact ih j r hj hr hjr x1793_ m1764_ (by omega) (by omega) g1765_ q1785_ q1786_ q1787_ q1788_ q1789_ q1790_ t1791_ d1780_ l1781_ tw1782_ tx1783_ (by omega)
    refine T_sw rfl l_23 (fun s1795_ => ?_) (fun s1795_ => ?_)
    · refine T_qg (i_add rfl l_1 (by omega) (by omega)) (by omega) (by omega) ?_
      refine T_qcE (t_X11_count hn hj _ M hG) ?_
      intro r1796_ m1797_ e1800_ p1799_
      have g1798_ := p1799_.1
      have f1801_ : (m1797_ 1 1).toInt = (M 1 1).toInt := by rw [p1799_.2 1 1 (by decide)]
      have f1802_ : (m1797_ 77 8).toInt = (M 77 8).toInt := by rw [p1799_.2 77 8 (by decide)]
      have f1803_ : (m1797_ 7 8).toInt = (M 7 8).toInt := by rw [p1799_.2 7 8 (by decide)]
      have f1804_ : (m1797_ 78 312).toInt = (M 78 312).toInt := by rw [p1799_.2 78 312 (by decide)]
      have f1805_ : (m1797_ 16 8).toInt = (M 16 8).toInt := by rw [p1799_.2 16 8 (by decide)]
      have f1806_ : (m1797_ 80 312).toInt = (M 80 312).toInt := by rw [p1799_.2 80 312 (by decide)]
      have f1807_ : (m1797_ 0 12).toInt = (M 0 12).toInt := by rw [p1799_.2 0 12 (by decide)]
      have f1808_ : (m1797_ 77 67).toInt = (M 77 67).toInt := by rw [p1799_.2 77 67 (by decide)]
      have f1809_ : (m1797_ 7 9).toInt = (M 7 9).toInt := by rw [p1799_.2 7 9 (by decide)]
      have f1810_ : (m1797_ 78 313).toInt = (M 78 313).toInt := by rw [p1799_.2 78 313 (by decide)]
      have f1811_ : (m1797_ 16 9).toInt = (M 16 9).toInt := by rw [p1799_.2 16 9 (by decide)]
      have f1812_ : (m1797_ 80 313).toInt = (M 80 313).toInt := by rw [p1799_.2 80 313 (by decide)]
      have d1813_ : KD m1797_ m1797_ := KD_S hD (p1799_.2) (p1799_.2 3 3 (by decide)) (p1799_.2 77 6 (by decide)) rfl
      have l1814_ : LR j m1797_ m1797_ := LR_S hj hL (p1799_.2) rfl rfl (p1799_.2 77 17 (by decide))
      have tw1815_ : TN 7 78 m1797_ m1797_ := TN_S hW (p1799_.2) rfl rfl
      have tx1816_ : m1797_ 0 12 ≠ 0 → TN 16 80 m1797_ m1797_ := KX_S hX (p1799_.2) (p1799_.2 0 12 (by decide)) rfl rfl
      refine T_qg (i_add rfl l_1 (by omega) (by omega)) (by omega) (by omega) ?_
      refine T_qcE (t_X12_count hn _ m1797_ g1798_) ?_
      intro r1817_ m1818_ e1821_ p1820_
      have g1819_ := p1820_.1
      have f1822_ : (m1818_ 1 1).toInt = (m1797_ 1 1).toInt := by rw [p1820_.2 1 1 (by decide)]
      have f1823_ : (m1818_ 77 8).toInt = (m1797_ 77 8).toInt := by rw [p1820_.2 77 8 (by decide)]
      have f1824_ : (m1818_ 7 8).toInt = (m1797_ 7 8).toInt := by rw [p1820_.2 7 8 (by decide)]
      have f1825_ : (m1818_ 78 312).toInt = (m1797_ 78 312).toInt := by rw [p1820_.2 78 312 (by decide)]
      have f1826_ : (m1818_ 16 8).toInt = (m1797_ 16 8).toInt := by rw [p1820_.2 16 8 (by decide)]
      have f1827_ : (m1818_ 80 312).toInt = (m1797_ 80 312).toInt := by rw [p1820_.2 80 312 (by decide)]
      have f1828_ : (m1818_ 0 12).toInt = (m1797_ 0 12).toInt := by rw [p1820_.2 0 12 (by decide)]
      have f1829_ : (m1818_ 77 67).toInt = (m1797_ 77 67).toInt := by rw [p1820_.2 77 67 (by decide)]
      have f1830_ : (m1818_ 7 9).toInt = (m1797_ 7 9).toInt := by rw [p1820_.2 7 9 (by decide)]
      have f1831_ : (m1818_ 78 313).toInt = (m1797_ 78 313).toInt := by rw [p1820_.2 78 313 (by decide)]
      have f1832_ : (m1818_ 16 9).toInt = (m1797_ 16 9).toInt := by rw [p1820_.2 16 9 (by decide)]
      have f1833_ : (m1818_ 80 313).toInt = (m1797_ 80 313).toInt := by rw [p1820_.2 80 313 (by decide)]
      have d1834_ : KD m1818_ m1818_ := KD_S d1813_ (p1820_.2) (p1820_.2 3 3 (by decide)) (p1820_.2 77 6 (by decide)) rfl
      have l1835_ : LR j m1818_ m1818_ := LR_S hj l1814_ (p1820_.2) rfl rfl (p1820_.2 77 17 (by decide))
      have tw1836_ : TN 7 78 m1818_ m1818_ := TN_S tw1815_ (p1820_.2) rfl rfl
      have tx1837_ : m1818_ 0 12 ≠ 0 → TN 16 80 m1818_ m1818_ := KX_S tx1816_ (p1820_.2) (p1820_.2 0 12 (by decide)) rfl rfl
      have q1838_ : (m1818_ 1 1).toInt = (m1818_ 77 8).toInt := by omega
      have q1839_ : (m1818_ 7 8).toInt = (m1818_ 78 312).toInt := by omega
      have q1840_ : (m1818_ 16 8).toInt = (m1818_ 80 312).toInt := by omega
      have q1841_ : (m1818_ 0 12).toInt = (m1818_ 77 67).toInt := by omega
      have q1842_ : (m1818_ 7 9).toInt = (m1818_ 78 313).toInt := by omega
      have q1843_ : (m1818_ 16 9).toInt = (m1818_ 80 313).toInt := by omega
      have f1845_ := r_1_1 hG
      have t1844_ : TR m1818_ := TR_le hT (by omega) (funext (fun s_ => by rw [p1820_.2 2 s_ (outc rfl), p1799_.2 2 s_ (outc rfl)])) (funext (fun s_ => by rw [p1820_.2 84 s_ (outc rfl), p1799_.2 84 s_ (outc rfl)]))
      have w1846_ : r1796_ = r1817_ := count_st hG g1798_ hD hL hW (fun c_ hc_ => funext (fun s_ => p1799_.2 c_ s_ (out77 hc_ rfl))) (Int32.toInt_inj.mp hR0) e1800_ e1821_
      rw [if_pos w1846_]
      refine T_ql (i_add rfl l_7 (by omega) (by omega)) ?_
      intro x1847_ h1848_
      exact ih j r hj hr hjr x1847_ m1818_ (by omega) (by omega) g1819_ q1838_ q1839_ q1840_ q1841_ q1842_ q1843_ t1844_ d1834_ l1835_ tw1836_ tx1837_ (by omega)
    refine T_sw0 ?_
    refine T_ql (i_add rfl l_7 (by omega) (by omega)) ?_
    intro x1849_ h1850_
    exact ih j r hj hr hjr x1849_ M (by omega) (by omega) hG hR0 hR1 hR2 hR3 hR4 hR5 hT hD hL hW hX (by omega)
theorem pure_all : qPure := by
  intro g hN
  obtain ⟨M0, e, hF, hG⟩ := freshG
  obtain ⟨v, M', e2, hv⟩ := L_go (n := 200000) (Nat.le_refl _) g hN 4000 37 46 (Or.inl rfl) (Or.inr rfl) (by decide) 0 M0 (by decide) (by decide) hG (by rw [hF.1 1 1 (by decide), hF.1 77 8 (by decide)]) (by rw [hF.1 7 8 (by decide), hF.2.1 312 (by decide)]) (by rw [hF.1 16 8 (by decide), hF.2.2 80 312 (by decide) (by decide) (by decide) (by decide)]) (by rw [hF.1 0 12 (by decide), hF.1 77 67 (by decide)]) (by rw [hF.1 7 9 (by decide), hF.2.1 313 (by decide)]) (by rw [hF.1 16 9 (by decide), hF.2.2 80 313 (by decide) (by decide) (by decide) (by decide)]) (fun i hi => absurd hi (by rw [hF.1 1 1 (by decide)]; have z : ((0 : Int32).toInt : Int) = 0 := rfl; omega)) (KD_0 hF) (LR_0 hF) (TN_0 (by decide) hF (fresh2 e)) (fun z => absurd (hF.1 0 12 (by decide)) z) (by have z : ((0 : Int32).toInt : Int) = 0 := rfl; omega)
  subst hv
  exact ⟨200000, 4000, M0, M', e, e2⟩
