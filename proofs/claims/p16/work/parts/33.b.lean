theorem T_qcE {F : qR} {f : Int32 → qM → qR} {P Q : Int32 → qM → Prop} (h : qT F Q) (k : ∀ v m, F = some (v, m) → Q v m → qT (f v m) P) : qT (qc F f) P := by
  obtain ⟨v, M, e, p⟩ := h
  have := k v M e p
  rw [e, qc_v]
  exact this
abbrev l_law : List Bx := [(1, 2, 1, 5), (37, 53, 0, 0)]
abbrev LQ (a1 : Int32) (M m : qM) : Prop := G m ∧ Sm l_law M m ∧ (((1 ≤ a1.toInt ∧ a1.toInt ≤ 240 ∧ a1.toInt ≤ (M 1 1).toInt) ∧ (m 1 1).toInt = 0) ∨ (¬ (1 ≤ a1.toInt ∧ a1.toInt ≤ 240 ∧ a1.toInt ≤ (M 1 1).toInt) ∧ (m 1 1).toInt = (M 1 1).toInt))
theorem T_qc2s {a1 : Int32} {M : qM} {F1 F2 : qR} {E1 E2 : Int32 → qM → qR} {P : Int32 → qM → Prop} (h : (∃ v m, F1 = some (v, m) ∧ LQ a1 M m) ∨ (F1 = none ∧ ∃ v m, F2 = some (v, m) ∧ LQ a1 M m)) (h1 : ∀ v m, F1 = some (v, m) → LQ a1 M m → qT (E1 v m) P) (h2 : ∀ v m, F2 = some (v, m) → LQ a1 M m → qT (E2 v m) P) : qT (qc2 F1 F2 E1 E2) P := by
  rcases h with ⟨v, m, e, g⟩ | ⟨e, v, m, e2, g⟩
  · have := h1 v m e g
    rw [e]; exact this
  · have := h2 v m e2 g
    rw [e, e2]; exact this
theorem law_tots {n : Nat} (hn : 200000 ≤ n) {j r : Nat} (hr : q_isLaw r) (a1 : Int32) (M : qM) (hG : G M) : (∃ v m, f_X11_law n j r a1 M = some (v, m) ∧ LQ a1 M m) ∨ (f_X11_law n j r a1 M = none ∧ ∃ v m, f_X11_lawS n j r a1 M = some (v, m) ∧ LQ a1 M m) := by
  unfold f_X11_law f_X11_lawS
  by_cases c1 : a1 < (1 : Int32)
  · rw [if_pos c1]; rw [Int32.lt_iff_toInt_lt] at c1; have z1 : (1 : Int32).toInt = 1 := rfl; exact Or.inl ⟨_, _, rfl, hG, Sm.rf, Or.inr ⟨by omega, rfl⟩⟩
  · rw [if_neg c1, if_neg c1]
    by_cases c2 : (240 : Int32) < a1
    · rw [if_pos c2]; rw [Int32.lt_iff_toInt_lt] at c2; have z1 : (240 : Int32).toInt = 240 := rfl; exact Or.inl ⟨_, _, rfl, hG, Sm.rf, Or.inr ⟨by omega, rfl⟩⟩
    · rw [if_neg c2, if_neg c2]
      by_cases c3 : a1 ≤ M 1 1
      · rw [if_pos c3, if_pos c3]
        rw [Int32.lt_iff_toInt_lt] at c1 c2
        rw [Int32.le_iff_toInt_le] at c3
        have z1 : (1 : Int32).toInt = 1 := rfl
        have z2 : (240 : Int32).toInt = 240 := rfl
        obtain ⟨v, m2, e, p⟩ := t_X4_read hn hr a1 M hG (by omega)
        obtain ⟨v3, m3, e3, p3⟩ := t_X9_clear hn m2 (p.1)
        have hs : Sm l_law M m3 := (Sm.mono (p.2) rfl).tr (Sm.mono (p3.2.2.2) rfl)
        have hz := p3.2.1
        rw [e, qc_v, qc_v, e3, qc_v, qc_v]
        by_cases c4 : v ≤ (0 : Int32)
        · rw [if_pos c4]; exact Or.inl ⟨_, _, rfl, p3.2.2.1, hs, Or.inl ⟨by omega, hz⟩⟩
        · rw [if_neg c4, if_neg c4]; exact Or.inr ⟨rfl, _, _, rfl, p3.2.2.1, hs, Or.inl ⟨by omega, hz⟩⟩
      · rw [if_neg c3]; rw [Int32.le_iff_toInt_le] at c3; exact Or.inl ⟨_, _, rfl, hG, Sm.rf, Or.inr ⟨by omega, rfl⟩⟩
theorem ofN {k : Nat} (h : k ≤ 3584) : (Int32.ofNat k).toInt = (k : Int) := nI_toInt (by omega)
set_option maxRecDepth 8000 in
set_option maxHeartbeats 4000000 in
theorem L_go {n : Nat} (hn : 200000 ≤ n) (g : qG) (hN : g.2.2.2.2.2.1 ≤ 3584) : ∀ (m j r : Nat), q_isLaw j → q_isLaw r → j ≠ r → ∀ (a3 : Int32) (M : qM), 0 ≤ a3.toInt → a3.toInt ≤ 3600 → G M → (M 1 1).toInt = (M 77 8).toInt → (M 7 8).toInt = (M 78 312).toInt → (M 16 8).toInt = (M 80 312).toInt → (M 0 12).toInt = (M 77 67).toInt → (M 7 9).toInt = (M 78 313).toInt → (M 16 9).toInt = (M 80 313).toInt → TR M → KD M M → LR j M M → KT M → 3700 - a3.toInt < (m : Int) → qT (f_L_law g n m j r a3 M) (fun v _ => v = 1) := by
  intro m
  induction m with
  | zero => intro j r _ _ _ a3 M _ _ _ _ _ _ _ _ _ _ _ _ _ h; exfalso; omega
  | succ m ih =>
    intro j r hj hr hjr a3 M h0 h1 hG hR0 hR1 hR2 hR3 hR4 hR5 hT hD hL hK hm
    show qT (b_L_law g n j r (f_L_law g n m j r) (f_L_law g n m r j) a3 M) _
    unfold b_L_law
    refine T_lt (i_sub (ofN hN) l_7 (by omega) (by omega)) rfl (fun c => T_ret rfl) (fun c => ?_)
    refine T_qg rfl (by omega) (by omega) ?_
    refine T_sw rfl l_0 (fun s1_ => ?_) (fun s1_ => ?_)
    · refine T_qg (i_add rfl l_1 (by omega) (by omega)) (by omega) (by omega) ?_
      refine T_qg (i_add rfl l_2 (by omega) (by omega)) (by omega) (by omega) ?_
      refine T_qg (i_add rfl l_3 (by omega) (by omega)) (by omega) (by omega) ?_
      refine T_qg (i_add rfl l_4 (by omega) (by omega)) (by omega) (by omega) ?_
      refine T_qcE (t_X11_kind hn _ _ _ _ M hG) ?_
      intro r2_ m3_ e6_ p5_
      have g4_ := p5_.2.1
      have f7_ : (m3_ 1 1).toInt = (M 1 1).toInt := by rw [p5_.2.2 1 1 (by decide)]
      have f8_ : (m3_ 77 8).toInt = (M 77 8).toInt := by rw [p5_.2.2 77 8 (by decide)]
      have f9_ : (m3_ 7 8).toInt = (M 7 8).toInt := by rw [p5_.2.2 7 8 (by decide)]
      have f10_ : (m3_ 78 312).toInt = (M 78 312).toInt := by rw [p5_.2.2 78 312 (by decide)]
      have f11_ : (m3_ 16 8).toInt = (M 16 8).toInt := by rw [p5_.2.2 16 8 (by decide)]
      have f12_ : (m3_ 80 312).toInt = (M 80 312).toInt := by rw [p5_.2.2 80 312 (by decide)]
      have f13_ : (m3_ 0 12).toInt = (M 0 12).toInt := by rw [p5_.2.2 0 12 (by decide)]
      have f14_ : (m3_ 77 67).toInt = (M 77 67).toInt := by rw [p5_.2.2 77 67 (by decide)]
      have f15_ : (m3_ 7 9).toInt = (M 7 9).toInt := by rw [p5_.2.2 7 9 (by decide)]
      have f16_ : (m3_ 78 313).toInt = (M 78 313).toInt := by rw [p5_.2.2 78 313 (by decide)]
      have f17_ : (m3_ 16 9).toInt = (M 16 9).toInt := by rw [p5_.2.2 16 9 (by decide)]
      have f18_ : (m3_ 80 313).toInt = (M 80 313).toInt := by rw [p5_.2.2 80 313 (by decide)]
      have k19_ : KT m3_ := kind_KT hK e6_
      have l20_ : LR j m3_ m3_ := LR_S hj hL (p5_.2.2) rfl rfl (p5_.2.2 77 17 (by decide))
      refine T_qg (i_add rfl l_1 (by omega) (by omega)) (by omega) (by omega) ?_
      refine T_qg (i_add rfl l_2 (by omega) (by omega)) (by omega) (by omega) ?_
      refine T_qg (i_add rfl l_3 (by omega) (by omega)) (by omega) (by omega) ?_
      refine T_qg (i_add rfl l_4 (by omega) (by omega)) (by omega) (by omega) ?_
      refine T_qcE (t_X12_kind hn _ _ _ _ m3_ g4_) ?_
      intro r21_ m22_ e25_ p24_
      have g23_ := p24_.2.1
      have f26_ : (m22_ 1 1).toInt = (m3_ 1 1).toInt := by rw [p24_.2.2 1 1 (by decide)]
      have f27_ : (m22_ 77 8).toInt = (m3_ 77 8).toInt := by rw [p24_.2.2 77 8 (by decide)]
      have f28_ : (m22_ 7 8).toInt = (m3_ 7 8).toInt := by rw [p24_.2.2 7 8 (by decide)]
      have f29_ : (m22_ 78 312).toInt = (m3_ 78 312).toInt := by rw [p24_.2.2 78 312 (by decide)]
      have f30_ : (m22_ 16 8).toInt = (m3_ 16 8).toInt := by rw [p24_.2.2 16 8 (by decide)]
      have f31_ : (m22_ 80 312).toInt = (m3_ 80 312).toInt := by rw [p24_.2.2 80 312 (by decide)]
      have f32_ : (m22_ 0 12).toInt = (m3_ 0 12).toInt := by rw [p24_.2.2 0 12 (by decide)]
      have f33_ : (m22_ 77 67).toInt = (m3_ 77 67).toInt := by rw [p24_.2.2 77 67 (by decide)]
      have f34_ : (m22_ 7 9).toInt = (m3_ 7 9).toInt := by rw [p24_.2.2 7 9 (by decide)]
      have f35_ : (m22_ 78 313).toInt = (m3_ 78 313).toInt := by rw [p24_.2.2 78 313 (by decide)]
      have f36_ : (m22_ 16 9).toInt = (m3_ 16 9).toInt := by rw [p24_.2.2 16 9 (by decide)]
      have f37_ : (m22_ 80 313).toInt = (m3_ 80 313).toInt := by rw [p24_.2.2 80 313 (by decide)]
      have k38_ : KT m22_ := KT_cg k19_ (p24_.2.2 3 3 (by decide))
      have l39_ : LR j m22_ m22_ := LR_S hj l20_ (p24_.2.2) rfl rfl (p24_.2.2 77 17 (by decide))
      have d40_ : KD m22_ m22_ := (kind_st hD e6_ e25_).2
      have q41_ : (m22_ 1 1).toInt = (m22_ 77 8).toInt := by omega
      have q42_ : (m22_ 7 8).toInt = (m22_ 78 312).toInt := by omega
      have q43_ : (m22_ 16 8).toInt = (m22_ 80 312).toInt := by omega
      have q44_ : (m22_ 0 12).toInt = (m22_ 77 67).toInt := by omega
      have q45_ : (m22_ 7 9).toInt = (m22_ 78 313).toInt := by omega
      have q46_ : (m22_ 16 9).toInt = (m22_ 80 313).toInt := by omega
      have f48_ := r_1_1 hG
      have t47_ : TR m22_ := TR_le hT (by omega) (funext (fun s_ => by rw [p24_.2.2 2 s_ (outc rfl), p5_.2.2 2 s_ (outc rfl)])) (funext (fun s_ => by rw [p24_.2.2 84 s_ (outc rfl), p5_.2.2 84 s_ (outc rfl)]))
      refine T_ql (i_add rfl l_7 (by omega) (by omega)) ?_
      intro x49_ h50_
      exact ih j r hj hr hjr x49_ m22_ (by omega) (by omega) g23_ q41_ q42_ q43_ q44_ q45_ q46_ t47_ d40_ l39_ k38_ (by omega)
    refine T_sw rfl l_1 (fun s51_ => ?_) (fun s51_ => ?_)
    · refine T_qg (i_add rfl l_1 (by omega) (by omega)) (by omega) (by omega) ?_
      refine T_qg (i_add rfl l_2 (by omega) (by omega)) (by omega) (by omega) ?_
      refine T_qcE (t_X11_person hn _ _ M hG) ?_
      intro r52_ m53_ e56_ p55_
      have g54_ := p55_.2.2.1
      have f57_ : (m53_ 1 1).toInt = (M 1 1).toInt := by rw [p55_.2.2.2 1 1 (by decide)]
      have f58_ : (m53_ 77 8).toInt = (M 77 8).toInt := by rw [p55_.2.2.2 77 8 (by decide)]
      have f59_ : (m53_ 78 312).toInt = (M 78 312).toInt := by rw [p55_.2.2.2 78 312 (by decide)]
      have f60_ : (m53_ 16 8).toInt = (M 16 8).toInt := by rw [p55_.2.2.2 16 8 (by decide)]
      have f61_ : (m53_ 80 312).toInt = (M 80 312).toInt := by rw [p55_.2.2.2 80 312 (by decide)]
      have f62_ : (m53_ 0 12).toInt = (M 0 12).toInt := by rw [p55_.2.2.2 0 12 (by decide)]
      have f63_ : (m53_ 77 67).toInt = (M 77 67).toInt := by rw [p55_.2.2.2 77 67 (by decide)]
      have f64_ : (m53_ 7 9).toInt = (M 7 9).toInt := by rw [p55_.2.2.2 7 9 (by decide)]
      have f65_ : (m53_ 78 313).toInt = (M 78 313).toInt := by rw [p55_.2.2.2 78 313 (by decide)]
      have f66_ : (m53_ 16 9).toInt = (M 16 9).toInt := by rw [p55_.2.2.2 16 9 (by decide)]
      have f67_ : (m53_ 80 313).toInt = (M 80 313).toInt := by rw [p55_.2.2.2 80 313 (by decide)]
      have w68_ := p55_.2.1
      have k69_ : KT m53_ := KT_cg hK (p55_.2.2.2 3 3 (by decide))
      have d70_ : KD m53_ m53_ := KD_S hD (p55_.2.2.2) (p55_.2.2.2 3 3 (by decide)) (p55_.2.2.2 77 6 (by decide)) rfl
      have l71_ : LR j m53_ m53_ := LR_S hj hL (p55_.2.2.2) rfl rfl (p55_.2.2.2 77 17 (by decide))
      refine T_qg (i_add rfl l_1 (by omega) (by omega)) (by omega) (by omega) ?_
      refine T_qg (i_add rfl l_2 (by omega) (by omega)) (by omega) (by omega) ?_
      refine T_qcE (t_X12_person hn _ _ m53_ g54_) ?_
      intro r72_ m73_ e76_ p75_
      have g74_ := p75_.2.2.1
      have f77_ : (m73_ 1 1).toInt = (m53_ 1 1).toInt := by rw [p75_.2.2.2 1 1 (by decide)]
      have f78_ : (m73_ 77 8).toInt = (m53_ 77 8).toInt := by rw [p75_.2.2.2 77 8 (by decide)]
      have f79_ : (m73_ 7 8).toInt = (m53_ 7 8).toInt := by rw [p75_.2.2.2 7 8 (by decide)]
      have f80_ : (m73_ 16 8).toInt = (m53_ 16 8).toInt := by rw [p75_.2.2.2 16 8 (by decide)]
      have f81_ : (m73_ 80 312).toInt = (m53_ 80 312).toInt := by rw [p75_.2.2.2 80 312 (by decide)]
      have f82_ : (m73_ 0 12).toInt = (m53_ 0 12).toInt := by rw [p75_.2.2.2 0 12 (by decide)]
      have f83_ : (m73_ 77 67).toInt = (m53_ 77 67).toInt := by rw [p75_.2.2.2 77 67 (by decide)]
      have f84_ : (m73_ 7 9).toInt = (m53_ 7 9).toInt := by rw [p75_.2.2.2 7 9 (by decide)]
      have f85_ : (m73_ 78 313).toInt = (m53_ 78 313).toInt := by rw [p75_.2.2.2 78 313 (by decide)]
      have f86_ : (m73_ 16 9).toInt = (m53_ 16 9).toInt := by rw [p75_.2.2.2 16 9 (by decide)]
      have f87_ : (m73_ 80 313).toInt = (m53_ 80 313).toInt := by rw [p75_.2.2.2 80 313 (by decide)]
      have w88_ := p75_.2.1
      have k89_ : KT m73_ := KT_cg k69_ (p75_.2.2.2 3 3 (by decide))
      have d90_ : KD m73_ m73_ := KD_S d70_ (p75_.2.2.2) (p75_.2.2.2 3 3 (by decide)) (p75_.2.2.2 77 6 (by decide)) rfl
      have l91_ : LR j m73_ m73_ := LR_S hj l71_ (p75_.2.2.2) rfl rfl (p75_.2.2.2 77 17 (by decide))
      have b92_ : m53_ 78 312 = M 7 8 := Int32.toInt_inj.mp (by omega)
      rw [b92_] at w88_
      have q93_ : (m73_ 1 1).toInt = (m73_ 77 8).toInt := by omega
      have q94_ : (m73_ 7 8).toInt = (m73_ 78 312).toInt := by omega
      have q95_ : (m73_ 16 8).toInt = (m73_ 80 312).toInt := by omega
      have q96_ : (m73_ 0 12).toInt = (m73_ 77 67).toInt := by omega
      have q97_ : (m73_ 7 9).toInt = (m73_ 78 313).toInt := by omega
      have q98_ : (m73_ 16 9).toInt = (m73_ 80 313).toInt := by omega
      have f100_ := r_1_1 hG
      have t99_ : TR m73_ := TR_le hT (by omega) (funext (fun s_ => by rw [p75_.2.2.2 2 s_ (outc rfl), p55_.2.2.2 2 s_ (outc rfl)])) (funext (fun s_ => by rw [p75_.2.2.2 84 s_ (outc rfl), p55_.2.2.2 84 s_ (outc rfl)]))
      refine T_ql (i_add rfl l_7 (by omega) (by omega)) ?_
      intro x101_ h102_
      exact ih j r hj hr hjr x101_ m73_ (by omega) (by omega) g74_ q93_ q94_ q95_ q96_ q97_ q98_ t99_ d90_ l91_ k89_ (by omega)
    refine T_sw rfl l_2 (fun s103_ => ?_) (fun s103_ => ?_)
    · refine T_qg (i_add rfl l_1 (by omega) (by omega)) (by omega) (by omega) ?_
      refine T_qg (i_add rfl l_2 (by omega) (by omega)) (by omega) (by omega) ?_
      refine T_qg (i_add rfl l_3 (by omega) (by omega)) (by omega) (by omega) ?_
      refine T_qg (i_add rfl l_4 (by omega) (by omega)) (by omega) (by omega) ?_
      refine T_qg (i_add rfl l_5 (by omega) (by omega)) (by omega) (by omega) ?_
      refine T_qcE (t_X11_feed hn _ _ _ _ _ M hG) ?_
      intro r104_ m105_ e108_ p107_
      have g106_ := p107_.2.2.1
      have f109_ : (m105_ 77 8).toInt = (M 77 8).toInt := by rw [p107_.2.2.2 77 8 (by decide)]
      have f110_ : (m105_ 7 8).toInt = (M 7 8).toInt := by rw [p107_.2.2.2 7 8 (by decide)]
      have f111_ : (m105_ 78 312).toInt = (M 78 312).toInt := by rw [p107_.2.2.2 78 312 (by decide)]
      have f112_ : (m105_ 16 8).toInt = (M 16 8).toInt := by rw [p107_.2.2.2 16 8 (by decide)]
      have f113_ : (m105_ 80 312).toInt = (M 80 312).toInt := by rw [p107_.2.2.2 80 312 (by decide)]
      have f114_ : (m105_ 0 12).toInt = (M 0 12).toInt := by rw [p107_.2.2.2 0 12 (by decide)]
      have f115_ : (m105_ 77 67).toInt = (M 77 67).toInt := by rw [p107_.2.2.2 77 67 (by decide)]
      have f116_ : (m105_ 7 9).toInt = (M 7 9).toInt := by rw [p107_.2.2.2 7 9 (by decide)]
      have f117_ : (m105_ 78 313).toInt = (M 78 313).toInt := by rw [p107_.2.2.2 78 313 (by decide)]
      have f118_ : (m105_ 16 9).toInt = (M 16 9).toInt := by rw [p107_.2.2.2 16 9 (by decide)]
      have f119_ : (m105_ 80 313).toInt = (M 80 313).toInt := by rw [p107_.2.2.2 80 313 (by decide)]
      have w120_ := p107_.2.1
      have k121_ : KT m105_ := KT_cg hK (p107_.2.2.2 3 3 (by decide))
      have d122_ : KD m105_ m105_ := KD_S hD (p107_.2.2.2) (p107_.2.2.2 3 3 (by decide)) (p107_.2.2.2 77 6 (by decide)) rfl
      have l123_ : LR j m105_ m105_ := LR_S hj hL (p107_.2.2.2) rfl rfl (p107_.2.2.2 77 17 (by decide))
      refine T_qg (i_add rfl l_1 (by omega) (by omega)) (by omega) (by omega) ?_
      refine T_qg (i_add rfl l_2 (by omega) (by omega)) (by omega) (by omega) ?_
      refine T_qg (i_add rfl l_3 (by omega) (by omega)) (by omega) (by omega) ?_
      refine T_qg (i_add rfl l_4 (by omega) (by omega)) (by omega) (by omega) ?_
      refine T_qg (i_add rfl l_5 (by omega) (by omega)) (by omega) (by omega) ?_
      refine T_qcE (t_X12_feed hn _ _ _ _ _ m105_ g106_) ?_
      intro r124_ m125_ e128_ p127_
      have g126_ := p127_.2.2.1
      have f129_ : (m125_ 1 1).toInt = (m105_ 1 1).toInt := by rw [p127_.2.2.2 1 1 (by decide)]
      have f130_ : (m125_ 7 8).toInt = (m105_ 7 8).toInt := by rw [p127_.2.2.2 7 8 (by decide)]
      have f131_ : (m125_ 78 312).toInt = (m105_ 78 312).toInt := by rw [p127_.2.2.2 78 312 (by decide)]
      have f132_ : (m125_ 16 8).toInt = (m105_ 16 8).toInt := by rw [p127_.2.2.2 16 8 (by decide)]
      have f133_ : (m125_ 80 312).toInt = (m105_ 80 312).toInt := by rw [p127_.2.2.2 80 312 (by decide)]
      have f134_ : (m125_ 0 12).toInt = (m105_ 0 12).toInt := by rw [p127_.2.2.2 0 12 (by decide)]
      have f135_ : (m125_ 77 67).toInt = (m105_ 77 67).toInt := by rw [p127_.2.2.2 77 67 (by decide)]
      have f136_ : (m125_ 7 9).toInt = (m105_ 7 9).toInt := by rw [p127_.2.2.2 7 9 (by decide)]
      have f137_ : (m125_ 78 313).toInt = (m105_ 78 313).toInt := by rw [p127_.2.2.2 78 313 (by decide)]
      have f138_ : (m125_ 16 9).toInt = (m105_ 16 9).toInt := by rw [p127_.2.2.2 16 9 (by decide)]
      have f139_ : (m125_ 80 313).toInt = (m105_ 80 313).toInt := by rw [p127_.2.2.2 80 313 (by decide)]
      have w140_ := p127_.2.1
      have k141_ : KT m125_ := KT_cg k121_ (p127_.2.2.2 3 3 (by decide))
      have d142_ : KD m125_ m125_ := KD_S d122_ (p127_.2.2.2) (p127_.2.2.2 3 3 (by decide)) (p127_.2.2.2 77 6 (by decide)) rfl
      have l143_ : LR j m125_ m125_ := LR_S hj l123_ (p127_.2.2.2) rfl rfl (p127_.2.2.2 77 17 (by decide))
      have q144_ : (m125_ 1 1).toInt = (m125_ 77 8).toInt := by omega
      have q145_ : (m125_ 7 8).toInt = (m125_ 78 312).toInt := by omega
      have q146_ : (m125_ 16 8).toInt = (m125_ 80 312).toInt := by omega
      have q147_ : (m125_ 0 12).toInt = (m125_ 77 67).toInt := by omega
      have q148_ : (m125_ 7 9).toInt = (m125_ 78 313).toInt := by omega
      have q149_ : (m125_ 16 9).toInt = (m125_ 80 313).toInt := by omega
      have t150_ : TR m125_ := feed_TR hn hG hT hR0 e108_ e128_
      refine T_ql (i_add rfl l_7 (by omega) (by omega)) ?_
      intro x151_ h152_
      exact ih j r hj hr hjr x151_ m125_ (by omega) (by omega) g126_ q144_ q145_ q146_ q147_ q148_ q149_ t150_ d142_ l143_ k141_ (by omega)
    refine T_sw rfl l_3 (fun s153_ => ?_) (fun s153_ => ?_)
    · refine T_qg (i_add rfl l_1 (by omega) (by omega)) (by omega) (by omega) ?_
      refine T_qc2s (law_tots hn hr _ M hG) (fun v_ m_ ee_ p_ => ?_) (fun v_ m_ ee_ p_ => ?_)
      · have f154_ : (m_ 77 8).toInt = (M 77 8).toInt := by rw [p_.2.1 77 8 (by decide)]
        have f155_ : (m_ 7 8).toInt = (M 7 8).toInt := by rw [p_.2.1 7 8 (by decide)]
        have f156_ : (m_ 78 312).toInt = (M 78 312).toInt := by rw [p_.2.1 78 312 (by decide)]
        have f157_ : (m_ 16 8).toInt = (M 16 8).toInt := by rw [p_.2.1 16 8 (by decide)]
        have f158_ : (m_ 80 312).toInt = (M 80 312).toInt := by rw [p_.2.1 80 312 (by decide)]
        have f159_ : (m_ 0 12).toInt = (M 0 12).toInt := by rw [p_.2.1 0 12 (by decide)]
        have f160_ : (m_ 77 67).toInt = (M 77 67).toInt := by rw [p_.2.1 77 67 (by decide)]
        have f161_ : (m_ 7 9).toInt = (M 7 9).toInt := by rw [p_.2.1 7 9 (by decide)]
        have f162_ : (m_ 78 313).toInt = (M 78 313).toInt := by rw [p_.2.1 78 313 (by decide)]
        have f163_ : (m_ 16 9).toInt = (M 16 9).toInt := by rw [p_.2.1 16 9 (by decide)]
        have f164_ : (m_ 80 313).toInt = (M 80 313).toInt := by rw [p_.2.1 80 313 (by decide)]
        have w165_ := p_.2.2
        have d166_ : KD m_ m_ := KD_S hD (p_.2.1) (p_.2.1 3 3 (by decide)) (p_.2.1 77 6 (by decide)) rfl
        have k167_ : KT m_ := KT_cg hK (p_.2.1 3 3 (by decide))
        refine T_qg (i_add rfl l_1 (by omega) (by omega)) (by omega) (by omega) ?_
        refine T_qcE (t_X12_law hn _ m_ p_.1) ?_
        intro r168_ m169_ e172_ p171_
        have g170_ := p171_.1
        have f173_ : (m169_ 1 1).toInt = (m_ 1 1).toInt := by rw [show m169_ 1 1 = m_ 1 1 from congrFun (p171_.2.1.2 1 (by decide) (by decide)) 1]
        have f174_ : (m169_ 7 8).toInt = (m_ 7 8).toInt := by rw [show m169_ 7 8 = m_ 7 8 from congrFun (p171_.2.1.2 7 (by decide) (by decide)) 8]
        have f175_ : (m169_ 78 312).toInt = (m_ 78 312).toInt := by rw [show m169_ 78 312 = m_ 78 312 from congrFun (p171_.2.1.2 78 (by decide) (by decide)) 312]
        have f176_ : (m169_ 16 8).toInt = (m_ 16 8).toInt := by rw [show m169_ 16 8 = m_ 16 8 from congrFun (p171_.2.1.2 16 (by decide) (by decide)) 8]
        have f177_ : (m169_ 80 312).toInt = (m_ 80 312).toInt := by rw [show m169_ 80 312 = m_ 80 312 from congrFun (p171_.2.1.2 80 (by decide) (by decide)) 312]
        have f178_ : (m169_ 0 12).toInt = (m_ 0 12).toInt := by rw [show m169_ 0 12 = m_ 0 12 from congrFun (p171_.2.1.2 0 (by decide) (by decide)) 12]
        have f179_ : (m169_ 77 67).toInt = (m_ 77 67).toInt := by rw [show m169_ 77 67 = m_ 77 67 from p171_.2.1.1 67 (by decide)]
        have f180_ : (m169_ 7 9).toInt = (m_ 7 9).toInt := by rw [show m169_ 7 9 = m_ 7 9 from congrFun (p171_.2.1.2 7 (by decide) (by decide)) 9]
        have f181_ : (m169_ 78 313).toInt = (m_ 78 313).toInt := by rw [show m169_ 78 313 = m_ 78 313 from congrFun (p171_.2.1.2 78 (by decide) (by decide)) 313]
        have f182_ : (m169_ 16 9).toInt = (m_ 16 9).toInt := by rw [show m169_ 16 9 = m_ 16 9 from congrFun (p171_.2.1.2 16 (by decide) (by decide)) 9]
        have f183_ : (m169_ 80 313).toInt = (m_ 80 313).toInt := by rw [show m169_ 80 313 = m_ 80 313 from congrFun (p171_.2.1.2 80 (by decide) (by decide)) 313]
        have w184_ := p171_.2.2
        have q185_ : (m169_ 1 1).toInt = (m169_ 77 8).toInt := by omega
        have q186_ : (m169_ 7 8).toInt = (m169_ 78 312).toInt := by omega
        have q187_ : (m169_ 16 8).toInt = (m169_ 80 312).toInt := by omega
        have q188_ : (m169_ 0 12).toInt = (m169_ 77 67).toInt := by omega
        have q189_ : (m169_ 7 9).toInt = (m169_ 78 313).toInt := by omega
        have q190_ : (m169_ 16 9).toInt = (m169_ 80 313).toInt := by omega
        have f192_ := r_1_1 hG
        have t191_ : TR m169_ := TR_le hT (by omega) (by rw [p171_.2.1.2 2 (by decide) (by decide)]; exact funext (fun s_ => p_.2.1 2 s_ (outc rfl))) (by rw [p171_.2.1.2 84 (by decide) (by decide)]; exact funext (fun s_ => p_.2.1 84 s_ (outc rfl)))
        have d193_ : KD m169_ m169_ := KD_cg d166_ (by rw [p171_.2.1.2 3 (by decide) (by decide)]) (by rw [p171_.2.1.1 6 (by decide)]) (fun q_ _ => by rw [p171_.2.1.2 4 (by decide) (by decide)]) (fun q_ _ => by rw [p171_.2.1.2 5 (by decide) (by decide)]) (fun q_ _ => by rw [p171_.2.1.2 6 (by decide) (by decide)]) (fun q_ _ => by rw [p171_.2.1.2 81 (by decide) (by decide)]) (fun q_ _ => by rw [p171_.2.1.2 82 (by decide) (by decide)]) (fun q_ _ => by rw [p171_.2.1.2 83 (by decide) (by decide)])
        have l194_ : LR j m169_ m169_ := by
          have l_ := ((law_st hn hj hr hjr hG p_.1 hT (by omega) (funext (fun s_ => p_.2.1 84 s_ (outc rfl))) (fun c_ h1_ h2_ => funext (fun s_ => p_.2.1 c_ s_ (out77 (by omega) rfl))) (p_.2.1 77 17 (by decide)) hL e172_).1 ee_).2
          exact LR_cg l_ (fun k_ hk_ => p171_.2.1.2 _ (by rcases hj with rfl | rfl <;> rcases hr with rfl | rfl <;> omega) (by rcases hj with rfl | rfl <;> rcases hr with rfl | rfl <;> omega)) (fun _ _ _ => rfl) rfl
        have k195_ : KT m169_ := KT_cg k167_ (by rw [p171_.2.1.2 3 (by decide) (by decide)])
        refine T_ql (i_add rfl l_7 (by omega) (by omega)) ?_
        intro x196_ h197_
        exact ih j r hj hr hjr x196_ m169_ (by omega) (by omega) g170_ q185_ q186_ q187_ q188_ q189_ q190_ t191_ d193_ l194_ k195_ (by omega)
      · have f198_ : (m_ 77 8).toInt = (M 77 8).toInt := by rw [p_.2.1 77 8 (by decide)]
        have f199_ : (m_ 7 8).toInt = (M 7 8).toInt := by rw [p_.2.1 7 8 (by decide)]
        have f200_ : (m_ 78 312).toInt = (M 78 312).toInt := by rw [p_.2.1 78 312 (by decide)]
        have f201_ : (m_ 16 8).toInt = (M 16 8).toInt := by rw [p_.2.1 16 8 (by decide)]
        have f202_ : (m_ 80 312).toInt = (M 80 312).toInt := by rw [p_.2.1 80 312 (by decide)]
        have f203_ : (m_ 0 12).toInt = (M 0 12).toInt := by rw [p_.2.1 0 12 (by decide)]
        have f204_ : (m_ 77 67).toInt = (M 77 67).toInt := by rw [p_.2.1 77 67 (by decide)]
        have f205_ : (m_ 7 9).toInt = (M 7 9).toInt := by rw [p_.2.1 7 9 (by decide)]
        have f206_ : (m_ 78 313).toInt = (M 78 313).toInt := by rw [p_.2.1 78 313 (by decide)]
        have f207_ : (m_ 16 9).toInt = (M 16 9).toInt := by rw [p_.2.1 16 9 (by decide)]
        have f208_ : (m_ 80 313).toInt = (M 80 313).toInt := by rw [p_.2.1 80 313 (by decide)]
        have w209_ := p_.2.2
        have d210_ : KD m_ m_ := KD_S hD (p_.2.1) (p_.2.1 3 3 (by decide)) (p_.2.1 77 6 (by decide)) rfl
        have k211_ : KT m_ := KT_cg hK (p_.2.1 3 3 (by decide))
        refine T_qg (i_add rfl l_1 (by omega) (by omega)) (by omega) (by omega) ?_
        refine T_qcE (t_X12_law hn _ m_ p_.1) ?_
        intro r212_ m213_ e216_ p215_
        have g214_ := p215_.1
        have f217_ : (m213_ 1 1).toInt = (m_ 1 1).toInt := by rw [show m213_ 1 1 = m_ 1 1 from congrFun (p215_.2.1.2 1 (by decide) (by decide)) 1]
        have f218_ : (m213_ 7 8).toInt = (m_ 7 8).toInt := by rw [show m213_ 7 8 = m_ 7 8 from congrFun (p215_.2.1.2 7 (by decide) (by decide)) 8]
        have f219_ : (m213_ 78 312).toInt = (m_ 78 312).toInt := by rw [show m213_ 78 312 = m_ 78 312 from congrFun (p215_.2.1.2 78 (by decide) (by decide)) 312]
        have f220_ : (m213_ 16 8).toInt = (m_ 16 8).toInt := by rw [show m213_ 16 8 = m_ 16 8 from congrFun (p215_.2.1.2 16 (by decide) (by decide)) 8]
        have f221_ : (m213_ 80 312).toInt = (m_ 80 312).toInt := by rw [show m213_ 80 312 = m_ 80 312 from congrFun (p215_.2.1.2 80 (by decide) (by decide)) 312]
        have f222_ : (m213_ 0 12).toInt = (m_ 0 12).toInt := by rw [show m213_ 0 12 = m_ 0 12 from congrFun (p215_.2.1.2 0 (by decide) (by decide)) 12]
        have f223_ : (m213_ 77 67).toInt = (m_ 77 67).toInt := by rw [show m213_ 77 67 = m_ 77 67 from p215_.2.1.1 67 (by decide)]
        have f224_ : (m213_ 7 9).toInt = (m_ 7 9).toInt := by rw [show m213_ 7 9 = m_ 7 9 from congrFun (p215_.2.1.2 7 (by decide) (by decide)) 9]
        have f225_ : (m213_ 78 313).toInt = (m_ 78 313).toInt := by rw [show m213_ 78 313 = m_ 78 313 from congrFun (p215_.2.1.2 78 (by decide) (by decide)) 313]
        have f226_ : (m213_ 16 9).toInt = (m_ 16 9).toInt := by rw [show m213_ 16 9 = m_ 16 9 from congrFun (p215_.2.1.2 16 (by decide) (by decide)) 9]
        have f227_ : (m213_ 80 313).toInt = (m_ 80 313).toInt := by rw [show m213_ 80 313 = m_ 80 313 from congrFun (p215_.2.1.2 80 (by decide) (by decide)) 313]
        have w228_ := p215_.2.2
        have q229_ : (m213_ 1 1).toInt = (m213_ 77 8).toInt := by omega
        have q230_ : (m213_ 7 8).toInt = (m213_ 78 312).toInt := by omega
        have q231_ : (m213_ 16 8).toInt = (m213_ 80 312).toInt := by omega
        have q232_ : (m213_ 0 12).toInt = (m213_ 77 67).toInt := by omega
        have q233_ : (m213_ 7 9).toInt = (m213_ 78 313).toInt := by omega
        have q234_ : (m213_ 16 9).toInt = (m213_ 80 313).toInt := by omega
        have f236_ := r_1_1 hG
        have t235_ : TR m213_ := TR_le hT (by omega) (by rw [p215_.2.1.2 2 (by decide) (by decide)]; exact funext (fun s_ => p_.2.1 2 s_ (outc rfl))) (by rw [p215_.2.1.2 84 (by decide) (by decide)]; exact funext (fun s_ => p_.2.1 84 s_ (outc rfl)))
        have d237_ : KD m213_ m213_ := KD_cg d210_ (by rw [p215_.2.1.2 3 (by decide) (by decide)]) (by rw [p215_.2.1.1 6 (by decide)]) (fun q_ _ => by rw [p215_.2.1.2 4 (by decide) (by decide)]) (fun q_ _ => by rw [p215_.2.1.2 5 (by decide) (by decide)]) (fun q_ _ => by rw [p215_.2.1.2 6 (by decide) (by decide)]) (fun q_ _ => by rw [p215_.2.1.2 81 (by decide) (by decide)]) (fun q_ _ => by rw [p215_.2.1.2 82 (by decide) (by decide)]) (fun q_ _ => by rw [p215_.2.1.2 83 (by decide) (by decide)])
        have l238_ : LR r m213_ m213_ := by
          have l_ := ((law_st hn hj hr hjr hG p_.1 hT (by omega) (funext (fun s_ => p_.2.1 84 s_ (outc rfl))) (fun c_ h1_ h2_ => funext (fun s_ => p_.2.1 c_ s_ (out77 (by omega) rfl))) (p_.2.1 77 17 (by decide)) hL e216_).2 ee_).2
          exact LR_cg l_ (fun k_ hk_ => p215_.2.1.2 _ (by rcases hj with rfl | rfl <;> rcases hr with rfl | rfl <;> omega) (by rcases hj with rfl | rfl <;> rcases hr with rfl | rfl <;> omega)) (fun _ _ _ => rfl) rfl
        have k239_ : KT m213_ := KT_cg k211_ (by rw [p215_.2.1.2 3 (by decide) (by decide)])
        refine T_ql (i_add rfl l_7 (by omega) (by omega)) ?_
        intro x240_ h241_
        exact ih r j hr hj (fun e_ => hjr e_.symm) x240_ m213_ (by omega) (by omega) g214_ q229_ q230_ q231_ q232_ q233_ q234_ t235_ d237_ l238_ k239_ (by omega)
    refine T_sw rfl l_4 (fun s242_ => ?_) (fun s242_ => ?_)
    · refine T_qg (i_add rfl l_1 (by omega) (by omega)) (by omega) (by omega) ?_
      refine T_qg (i_add rfl l_2 (by omega) (by omega)) (by omega) (by omega) ?_
      refine T_qcE (t_X11_plan hn _ _ M hG) ?_
      intro r243_ m244_ e247_ p246_
      have g245_ := p246_.2.1
      have f248_ : (m244_ 77 8).toInt = (M 77 8).toInt := by rw [p246_.2.2 77 8 (by decide)]
      have f249_ : (m244_ 7 8).toInt = (M 7 8).toInt := by rw [p246_.2.2 7 8 (by decide)]
      have f250_ : (m244_ 78 312).toInt = (M 78 312).toInt := by rw [p246_.2.2 78 312 (by decide)]
      have f251_ : (m244_ 16 8).toInt = (M 16 8).toInt := by rw [p246_.2.2 16 8 (by decide)]
      have f252_ : (m244_ 80 312).toInt = (M 80 312).toInt := by rw [p246_.2.2 80 312 (by decide)]
      have f253_ : (m244_ 0 12).toInt = (M 0 12).toInt := by rw [p246_.2.2 0 12 (by decide)]
      have f254_ : (m244_ 77 67).toInt = (M 77 67).toInt := by rw [p246_.2.2 77 67 (by decide)]
      have f255_ : (m244_ 7 9).toInt = (M 7 9).toInt := by rw [p246_.2.2 7 9 (by decide)]
      have f256_ : (m244_ 78 313).toInt = (M 78 313).toInt := by rw [p246_.2.2 78 313 (by decide)]
      have f257_ : (m244_ 16 9).toInt = (M 16 9).toInt := by rw [p246_.2.2 16 9 (by decide)]
      have f258_ : (m244_ 80 313).toInt = (M 80 313).toInt := by rw [p246_.2.2 80 313 (by decide)]
      have w259_ := p246_.1
      have k260_ : KT m244_ := KT_cg hK (p246_.2.2 3 3 (by decide))
      have d261_ : KD m244_ m244_ := KD_S hD (p246_.2.2) (p246_.2.2 3 3 (by decide)) (p246_.2.2 77 6 (by decide)) rfl
      have l262_ : LR j m244_ m244_ := LR_S hj hL (p246_.2.2) rfl rfl (p246_.2.2 77 17 (by decide))
      refine T_qg (i_add rfl l_1 (by omega) (by omega)) (by omega) (by omega) ?_
      refine T_qg (i_add rfl l_2 (by omega) (by omega)) (by omega) (by omega) ?_
      refine T_qcE (t_X12_plan hn _ _ m244_ g245_) ?_
      intro r263_ m264_ e267_ p266_
      have g265_ := p266_.2.1
      have f268_ : (m264_ 1 1).toInt = (m244_ 1 1).toInt := by rw [p266_.2.2 1 1 (by decide)]
      have f269_ : (m264_ 7 8).toInt = (m244_ 7 8).toInt := by rw [p266_.2.2 7 8 (by decide)]
      have f270_ : (m264_ 78 312).toInt = (m244_ 78 312).toInt := by rw [p266_.2.2 78 312 (by decide)]
      have f271_ : (m264_ 16 8).toInt = (m244_ 16 8).toInt := by rw [p266_.2.2 16 8 (by decide)]
      have f272_ : (m264_ 80 312).toInt = (m244_ 80 312).toInt := by rw [p266_.2.2 80 312 (by decide)]
      have f273_ : (m264_ 0 12).toInt = (m244_ 0 12).toInt := by rw [p266_.2.2 0 12 (by decide)]
      have f274_ : (m264_ 77 67).toInt = (m244_ 77 67).toInt := by rw [p266_.2.2 77 67 (by decide)]
      have f275_ : (m264_ 7 9).toInt = (m244_ 7 9).toInt := by rw [p266_.2.2 7 9 (by decide)]
      have f276_ : (m264_ 78 313).toInt = (m244_ 78 313).toInt := by rw [p266_.2.2 78 313 (by decide)]
      have f277_ : (m264_ 16 9).toInt = (m244_ 16 9).toInt := by rw [p266_.2.2 16 9 (by decide)]
      have f278_ : (m264_ 80 313).toInt = (m244_ 80 313).toInt := by rw [p266_.2.2 80 313 (by decide)]
      have w279_ := p266_.1
      have k280_ : KT m264_ := KT_cg k260_ (p266_.2.2 3 3 (by decide))
      have d281_ : KD m264_ m264_ := KD_S d261_ (p266_.2.2) (p266_.2.2 3 3 (by decide)) (p266_.2.2 77 6 (by decide)) rfl
      have l282_ : LR j m264_ m264_ := LR_S hj l262_ (p266_.2.2) rfl rfl (p266_.2.2 77 17 (by decide))
      have b283_ : m244_ 78 312 = M 7 8 := Int32.toInt_inj.mp (by omega)
      rw [b283_] at w279_
      have q284_ : (m264_ 1 1).toInt = (m264_ 77 8).toInt := by omega
      have q285_ : (m264_ 7 8).toInt = (m264_ 78 312).toInt := by omega
      have q286_ : (m264_ 16 8).toInt = (m264_ 80 312).toInt := by omega
      have q287_ : (m264_ 0 12).toInt = (m264_ 77 67).toInt := by omega
      have q288_ : (m264_ 7 9).toInt = (m264_ 78 313).toInt := by omega
      have q289_ : (m264_ 16 9).toInt = (m264_ 80 313).toInt := by omega
      have f291_ := r_1_1 hG
      have t290_ : TR m264_ := TR_le hT (by omega) (funext (fun s_ => by rw [p266_.2.2 2 s_ (outc rfl), p246_.2.2 2 s_ (outc rfl)])) (funext (fun s_ => by rw [p266_.2.2 84 s_ (outc rfl), p246_.2.2 84 s_ (outc rfl)]))
      refine T_ql (i_add rfl l_7 (by omega) (by omega)) ?_
      intro x292_ h293_
      exact ih j r hj hr hjr x292_ m264_ (by omega) (by omega) g265_ q284_ q285_ q286_ q287_ q288_ q289_ t290_ d281_ l282_ k280_ (by omega)
    refine T_sw rfl l_5 (fun s294_ => ?_) (fun s294_ => ?_)
    · refine T_qg (i_add rfl l_1 (by omega) (by omega)) (by omega) (by omega) ?_
      refine T_qg (i_add rfl l_2 (by omega) (by omega)) (by omega) (by omega) ?_
      refine T_qg (i_add rfl l_3 (by omega) (by omega)) (by omega) (by omega) ?_
      refine T_qcE (t_X11_tries hn hj _ _ _ M hG) ?_
      intro r295_ m296_ e299_ p298_
      have g297_ := p298_.2.1
      have f300_ : (m296_ 1 1).toInt = (M 1 1).toInt := by rw [p298_.2.2 1 1 (by decide)]
      have f301_ : (m296_ 77 8).toInt = (M 77 8).toInt := by rw [p298_.2.2 77 8 (by decide)]
      have f302_ : (m296_ 7 8).toInt = (M 7 8).toInt := by rw [p298_.2.2 7 8 (by decide)]
      have f303_ : (m296_ 78 312).toInt = (M 78 312).toInt := by rw [p298_.2.2 78 312 (by decide)]
      have f304_ : (m296_ 16 8).toInt = (M 16 8).toInt := by rw [p298_.2.2 16 8 (by decide)]
      have f305_ : (m296_ 80 312).toInt = (M 80 312).toInt := by rw [p298_.2.2 80 312 (by decide)]
      have f306_ : (m296_ 0 12).toInt = (M 0 12).toInt := by rw [p298_.2.2 0 12 (by decide)]
      have f307_ : (m296_ 77 67).toInt = (M 77 67).toInt := by rw [p298_.2.2 77 67 (by decide)]
      have f308_ : (m296_ 7 9).toInt = (M 7 9).toInt := by rw [p298_.2.2 7 9 (by decide)]
      have f309_ : (m296_ 78 313).toInt = (M 78 313).toInt := by rw [p298_.2.2 78 313 (by decide)]
      have f310_ : (m296_ 16 9).toInt = (M 16 9).toInt := by rw [p298_.2.2 16 9 (by decide)]
      have f311_ : (m296_ 80 313).toInt = (M 80 313).toInt := by rw [p298_.2.2 80 313 (by decide)]
      have k312_ : KT m296_ := KT_cg hK (p298_.2.2 3 3 (by decide))
      have d313_ : KD m296_ m296_ := KD_S hD (p298_.2.2) (p298_.2.2 3 3 (by decide)) (p298_.2.2 77 6 (by decide)) rfl
      have l314_ : LR j m296_ m296_ := LR_S hj hL (p298_.2.2) rfl rfl (p298_.2.2 77 17 (by decide))
      refine T_qg (i_add rfl l_1 (by omega) (by omega)) (by omega) (by omega) ?_
      refine T_qg (i_add rfl l_2 (by omega) (by omega)) (by omega) (by omega) ?_
      refine T_qg (i_add rfl l_3 (by omega) (by omega)) (by omega) (by omega) ?_
      refine T_qcE (t_X12_tries hn _ _ _ m296_ g297_) ?_
      intro r315_ m316_ e319_ p318_
      have g317_ := p318_.2.1
      have f320_ : (m316_ 1 1).toInt = (m296_ 1 1).toInt := by rw [p318_.2.2 1 1 (by decide)]
      have f321_ : (m316_ 77 8).toInt = (m296_ 77 8).toInt := by rw [p318_.2.2 77 8 (by decide)]
      have f322_ : (m316_ 7 8).toInt = (m296_ 7 8).toInt := by rw [p318_.2.2 7 8 (by decide)]
      have f323_ : (m316_ 78 312).toInt = (m296_ 78 312).toInt := by rw [p318_.2.2 78 312 (by decide)]
      have f324_ : (m316_ 16 8).toInt = (m296_ 16 8).toInt := by rw [p318_.2.2 16 8 (by decide)]
      have f325_ : (m316_ 80 312).toInt = (m296_ 80 312).toInt := by rw [p318_.2.2 80 312 (by decide)]
      have f326_ : (m316_ 0 12).toInt = (m296_ 0 12).toInt := by rw [p318_.2.2 0 12 (by decide)]
      have f327_ : (m316_ 77 67).toInt = (m296_ 77 67).toInt := by rw [p318_.2.2 77 67 (by decide)]
      have f328_ : (m316_ 7 9).toInt = (m296_ 7 9).toInt := by rw [p318_.2.2 7 9 (by decide)]
      have f329_ : (m316_ 78 313).toInt = (m296_ 78 313).toInt := by rw [p318_.2.2 78 313 (by decide)]
      have f330_ : (m316_ 16 9).toInt = (m296_ 16 9).toInt := by rw [p318_.2.2 16 9 (by decide)]
      have f331_ : (m316_ 80 313).toInt = (m296_ 80 313).toInt := by rw [p318_.2.2 80 313 (by decide)]
      have k332_ : KT m316_ := KT_cg k312_ (p318_.2.2 3 3 (by decide))
      have d333_ : KD m316_ m316_ := KD_S d313_ (p318_.2.2) (p318_.2.2 3 3 (by decide)) (p318_.2.2 77 6 (by decide)) rfl
      have l334_ : LR j m316_ m316_ := LR_S hj l314_ (p318_.2.2) rfl rfl (p318_.2.2 77 17 (by decide))
      have q335_ : (m316_ 1 1).toInt = (m316_ 77 8).toInt := by omega
      have q336_ : (m316_ 7 8).toInt = (m316_ 78 312).toInt := by omega
      have q337_ : (m316_ 16 8).toInt = (m316_ 80 312).toInt := by omega
      have q338_ : (m316_ 0 12).toInt = (m316_ 77 67).toInt := by omega
      have q339_ : (m316_ 7 9).toInt = (m316_ 78 313).toInt := by omega
      have q340_ : (m316_ 16 9).toInt = (m316_ 80 313).toInt := by omega
      have f342_ := r_1_1 hG
      have t341_ : TR m316_ := TR_le hT (by omega) (funext (fun s_ => by rw [p318_.2.2 2 s_ (outc rfl), p298_.2.2 2 s_ (outc rfl)])) (funext (fun s_ => by rw [p318_.2.2 84 s_ (outc rfl), p298_.2.2 84 s_ (outc rfl)]))
      refine T_ql (i_add rfl l_7 (by omega) (by omega)) ?_
      intro x343_ h344_
      exact ih j r hj hr hjr x343_ m316_ (by omega) (by omega) g317_ q335_ q336_ q337_ q338_ q339_ q340_ t341_ d333_ l334_ k332_ (by omega)
    refine T_sw rfl l_6 (fun s345_ => ?_) (fun s345_ => ?_)
    · refine T_qg (i_add rfl l_1 (by omega) (by omega)) (by omega) (by omega) ?_
      refine T_qg (i_add rfl l_2 (by omega) (by omega)) (by omega) (by omega) ?_
      refine T_qg (i_add rfl l_3 (by omega) (by omega)) (by omega) (by omega) ?_
      refine T_qcE (t_X11_buys hn hj _ _ _ M hG) ?_
      intro r346_ m347_ e350_ p349_
      have g348_ := p349_.2.1
      have f351_ : (m347_ 1 1).toInt = (M 1 1).toInt := by rw [p349_.2.2 1 1 (by decide)]
      have f352_ : (m347_ 77 8).toInt = (M 77 8).toInt := by rw [p349_.2.2 77 8 (by decide)]
      have f353_ : (m347_ 7 8).toInt = (M 7 8).toInt := by rw [p349_.2.2 7 8 (by decide)]
      have f354_ : (m347_ 78 312).toInt = (M 78 312).toInt := by rw [p349_.2.2 78 312 (by decide)]
      have f355_ : (m347_ 16 8).toInt = (M 16 8).toInt := by rw [p349_.2.2 16 8 (by decide)]
      have f356_ : (m347_ 80 312).toInt = (M 80 312).toInt := by rw [p349_.2.2 80 312 (by decide)]
      have f357_ : (m347_ 0 12).toInt = (M 0 12).toInt := by rw [p349_.2.2 0 12 (by decide)]
      have f358_ : (m347_ 77 67).toInt = (M 77 67).toInt := by rw [p349_.2.2 77 67 (by decide)]
      have f359_ : (m347_ 7 9).toInt = (M 7 9).toInt := by rw [p349_.2.2 7 9 (by decide)]
      have f360_ : (m347_ 78 313).toInt = (M 78 313).toInt := by rw [p349_.2.2 78 313 (by decide)]
      have f361_ : (m347_ 16 9).toInt = (M 16 9).toInt := by rw [p349_.2.2 16 9 (by decide)]
      have f362_ : (m347_ 80 313).toInt = (M 80 313).toInt := by rw [p349_.2.2 80 313 (by decide)]
      have k363_ : KT m347_ := KT_cg hK (p349_.2.2 3 3 (by decide))
      have d364_ : KD m347_ m347_ := KD_S hD (p349_.2.2) (p349_.2.2 3 3 (by decide)) (p349_.2.2 77 6 (by decide)) rfl
      have l365_ : LR j m347_ m347_ := LR_S hj hL (p349_.2.2) rfl rfl (p349_.2.2 77 17 (by decide))
      refine T_qg (i_add rfl l_1 (by omega) (by omega)) (by omega) (by omega) ?_
      refine T_qg (i_add rfl l_2 (by omega) (by omega)) (by omega) (by omega) ?_
      refine T_qg (i_add rfl l_3 (by omega) (by omega)) (by omega) (by omega) ?_
      refine T_qcE (t_X12_buys hn _ _ _ m347_ g348_) ?_
      intro r366_ m367_ e370_ p369_
      have g368_ := p369_.2.1
      have f371_ : (m367_ 1 1).toInt = (m347_ 1 1).toInt := by rw [p369_.2.2 1 1 (by decide)]
      have f372_ : (m367_ 77 8).toInt = (m347_ 77 8).toInt := by rw [p369_.2.2 77 8 (by decide)]
      have f373_ : (m367_ 7 8).toInt = (m347_ 7 8).toInt := by rw [p369_.2.2 7 8 (by decide)]
      have f374_ : (m367_ 78 312).toInt = (m347_ 78 312).toInt := by rw [p369_.2.2 78 312 (by decide)]
      have f375_ : (m367_ 16 8).toInt = (m347_ 16 8).toInt := by rw [p369_.2.2 16 8 (by decide)]
      have f376_ : (m367_ 80 312).toInt = (m347_ 80 312).toInt := by rw [p369_.2.2 80 312 (by decide)]
      have f377_ : (m367_ 0 12).toInt = (m347_ 0 12).toInt := by rw [p369_.2.2 0 12 (by decide)]
      have f378_ : (m367_ 77 67).toInt = (m347_ 77 67).toInt := by rw [p369_.2.2 77 67 (by decide)]
      have f379_ : (m367_ 7 9).toInt = (m347_ 7 9).toInt := by rw [p369_.2.2 7 9 (by decide)]
      have f380_ : (m367_ 78 313).toInt = (m347_ 78 313).toInt := by rw [p369_.2.2 78 313 (by decide)]
      have f381_ : (m367_ 16 9).toInt = (m347_ 16 9).toInt := by rw [p369_.2.2 16 9 (by decide)]
      have f382_ : (m367_ 80 313).toInt = (m347_ 80 313).toInt := by rw [p369_.2.2 80 313 (by decide)]
      have k383_ : KT m367_ := KT_cg k363_ (p369_.2.2 3 3 (by decide))
      have d384_ : KD m367_ m367_ := KD_S d364_ (p369_.2.2) (p369_.2.2 3 3 (by decide)) (p369_.2.2 77 6 (by decide)) rfl
      have l385_ : LR j m367_ m367_ := LR_S hj l365_ (p369_.2.2) rfl rfl (p369_.2.2 77 17 (by decide))
      have q386_ : (m367_ 1 1).toInt = (m367_ 77 8).toInt := by omega
      have q387_ : (m367_ 7 8).toInt = (m367_ 78 312).toInt := by omega
      have q388_ : (m367_ 16 8).toInt = (m367_ 80 312).toInt := by omega
      have q389_ : (m367_ 0 12).toInt = (m367_ 77 67).toInt := by omega
      have q390_ : (m367_ 7 9).toInt = (m367_ 78 313).toInt := by omega
      have q391_ : (m367_ 16 9).toInt = (m367_ 80 313).toInt := by omega
      have f393_ := r_1_1 hG
      have t392_ : TR m367_ := TR_le hT (by omega) (funext (fun s_ => by rw [p369_.2.2 2 s_ (outc rfl), p349_.2.2 2 s_ (outc rfl)])) (funext (fun s_ => by rw [p369_.2.2 84 s_ (outc rfl), p349_.2.2 84 s_ (outc rfl)]))
      refine T_ql (i_add rfl l_7 (by omega) (by omega)) ?_
      intro x394_ h395_
      exact ih j r hj hr hjr x394_ m367_ (by omega) (by omega) g368_ q386_ q387_ q388_ q389_ q390_ q391_ t392_ d384_ l385_ k383_ (by omega)
    refine T_sw rfl l_7 (fun s396_ => ?_) (fun s396_ => ?_)
    · refine T_qg (i_add rfl l_1 (by omega) (by omega)) (by omega) (by omega) ?_
      refine T_qcE (t_X11_days hn hj _ M hG) ?_
      intro r397_ m398_ e401_ p400_
      have g399_ := p400_.2.1
      have f402_ : (m398_ 1 1).toInt = (M 1 1).toInt := by rw [p400_.2.2 1 1 (by decide)]
      have f403_ : (m398_ 77 8).toInt = (M 77 8).toInt := by rw [p400_.2.2 77 8 (by decide)]
      have f404_ : (m398_ 7 8).toInt = (M 7 8).toInt := by rw [p400_.2.2 7 8 (by decide)]
      have f405_ : (m398_ 78 312).toInt = (M 78 312).toInt := by rw [p400_.2.2 78 312 (by decide)]
      have f406_ : (m398_ 16 8).toInt = (M 16 8).toInt := by rw [p400_.2.2 16 8 (by decide)]
      have f407_ : (m398_ 80 312).toInt = (M 80 312).toInt := by rw [p400_.2.2 80 312 (by decide)]
      have f408_ : (m398_ 0 12).toInt = (M 0 12).toInt := by rw [p400_.2.2 0 12 (by decide)]
      have f409_ : (m398_ 77 67).toInt = (M 77 67).toInt := by rw [p400_.2.2 77 67 (by decide)]
      have f410_ : (m398_ 78 313).toInt = (M 78 313).toInt := by rw [p400_.2.2 78 313 (by decide)]
      have f411_ : (m398_ 16 9).toInt = (M 16 9).toInt := by rw [p400_.2.2 16 9 (by decide)]
      have f412_ : (m398_ 80 313).toInt = (M 80 313).toInt := by rw [p400_.2.2 80 313 (by decide)]
      have w413_ := p400_.1
      have k414_ : KT m398_ := KT_cg hK (p400_.2.2 3 3 (by decide))
      have d415_ : KD m398_ m398_ := KD_S hD (p400_.2.2) (p400_.2.2 3 3 (by decide)) (p400_.2.2 77 6 (by decide)) rfl
      have l416_ : LR j m398_ m398_ := LR_S hj hL (p400_.2.2) rfl rfl (p400_.2.2 77 17 (by decide))
      refine T_qg (i_add rfl l_1 (by omega) (by omega)) (by omega) (by omega) ?_
      refine T_qcE (t_X12_days hn _ m398_ g399_) ?_
      intro r417_ m418_ e421_ p420_
      have g419_ := p420_.2.1
      have f422_ : (m418_ 1 1).toInt = (m398_ 1 1).toInt := by rw [p420_.2.2 1 1 (by decide)]
      have f423_ : (m418_ 77 8).toInt = (m398_ 77 8).toInt := by rw [p420_.2.2 77 8 (by decide)]
      have f424_ : (m418_ 7 8).toInt = (m398_ 7 8).toInt := by rw [p420_.2.2 7 8 (by decide)]
      have f425_ : (m418_ 78 312).toInt = (m398_ 78 312).toInt := by rw [p420_.2.2 78 312 (by decide)]
      have f426_ : (m418_ 16 8).toInt = (m398_ 16 8).toInt := by rw [p420_.2.2 16 8 (by decide)]
      have f427_ : (m418_ 80 312).toInt = (m398_ 80 312).toInt := by rw [p420_.2.2 80 312 (by decide)]
      have f428_ : (m418_ 0 12).toInt = (m398_ 0 12).toInt := by rw [p420_.2.2 0 12 (by decide)]
      have f429_ : (m418_ 77 67).toInt = (m398_ 77 67).toInt := by rw [p420_.2.2 77 67 (by decide)]
      have f430_ : (m418_ 7 9).toInt = (m398_ 7 9).toInt := by rw [p420_.2.2 7 9 (by decide)]
      have f431_ : (m418_ 16 9).toInt = (m398_ 16 9).toInt := by rw [p420_.2.2 16 9 (by decide)]
      have f432_ : (m418_ 80 313).toInt = (m398_ 80 313).toInt := by rw [p420_.2.2 80 313 (by decide)]
      have w433_ := p420_.1
      have k434_ : KT m418_ := KT_cg k414_ (p420_.2.2 3 3 (by decide))
      have d435_ : KD m418_ m418_ := KD_S d415_ (p420_.2.2) (p420_.2.2 3 3 (by decide)) (p420_.2.2 77 6 (by decide)) rfl
      have l436_ : LR j m418_ m418_ := LR_S hj l416_ (p420_.2.2) rfl rfl (p420_.2.2 77 17 (by decide))
      have q437_ : (m418_ 1 1).toInt = (m418_ 77 8).toInt := by omega
      have q438_ : (m418_ 7 8).toInt = (m418_ 78 312).toInt := by omega
      have q439_ : (m418_ 16 8).toInt = (m418_ 80 312).toInt := by omega
      have q440_ : (m418_ 0 12).toInt = (m418_ 77 67).toInt := by omega
      have q441_ : (m418_ 7 9).toInt = (m418_ 78 313).toInt := by omega
      have q442_ : (m418_ 16 9).toInt = (m418_ 80 313).toInt := by omega
      have f444_ := r_1_1 hG
      have t443_ : TR m418_ := TR_le hT (by omega) (funext (fun s_ => by rw [p420_.2.2 2 s_ (outc rfl), p400_.2.2 2 s_ (outc rfl)])) (funext (fun s_ => by rw [p420_.2.2 84 s_ (outc rfl), p400_.2.2 84 s_ (outc rfl)]))
      refine T_ql (i_add rfl l_7 (by omega) (by omega)) ?_
      intro x445_ h446_
      exact ih j r hj hr hjr x445_ m418_ (by omega) (by omega) g419_ q437_ q438_ q439_ q440_ q441_ q442_ t443_ d435_ l436_ k434_ (by omega)
    refine T_sw rfl l_8 (fun s447_ => ?_) (fun s447_ => ?_)
    · refine T_qg (i_add rfl l_1 (by omega) (by omega)) (by omega) (by omega) ?_
      refine T_qg (i_add rfl l_2 (by omega) (by omega)) (by omega) (by omega) ?_
      refine T_qcE (t_X11_tried hn hj _ _ M hG) ?_
      intro r448_ m449_ e452_ p451_
      have g450_ := p451_.1
      have f453_ : (m449_ 1 1).toInt = (M 1 1).toInt := by rw [p451_.2 1 1 (by decide)]
      have f454_ : (m449_ 77 8).toInt = (M 77 8).toInt := by rw [p451_.2 77 8 (by decide)]
      have f455_ : (m449_ 7 8).toInt = (M 7 8).toInt := by rw [p451_.2 7 8 (by decide)]
      have f456_ : (m449_ 78 312).toInt = (M 78 312).toInt := by rw [p451_.2 78 312 (by decide)]
      have f457_ : (m449_ 16 8).toInt = (M 16 8).toInt := by rw [p451_.2 16 8 (by decide)]
      have f458_ : (m449_ 80 312).toInt = (M 80 312).toInt := by rw [p451_.2 80 312 (by decide)]
      have f459_ : (m449_ 0 12).toInt = (M 0 12).toInt := by rw [p451_.2 0 12 (by decide)]
      have f460_ : (m449_ 77 67).toInt = (M 77 67).toInt := by rw [p451_.2 77 67 (by decide)]
      have f461_ : (m449_ 7 9).toInt = (M 7 9).toInt := by rw [p451_.2 7 9 (by decide)]
      have f462_ : (m449_ 78 313).toInt = (M 78 313).toInt := by rw [p451_.2 78 313 (by decide)]
      have f463_ : (m449_ 16 9).toInt = (M 16 9).toInt := by rw [p451_.2 16 9 (by decide)]
      have f464_ : (m449_ 80 313).toInt = (M 80 313).toInt := by rw [p451_.2 80 313 (by decide)]
      have k465_ : KT m449_ := KT_cg hK (p451_.2 3 3 (by decide))
      have d466_ : KD m449_ m449_ := KD_S hD (p451_.2) (p451_.2 3 3 (by decide)) (p451_.2 77 6 (by decide)) rfl
      have l467_ : LR j m449_ m449_ := LR_S hj hL (p451_.2) rfl rfl (p451_.2 77 17 (by decide))
      refine T_qg (i_add rfl l_1 (by omega) (by omega)) (by omega) (by omega) ?_
      refine T_qg (i_add rfl l_2 (by omega) (by omega)) (by omega) (by omega) ?_
      refine T_qcE (t_X12_tried hn _ _ m449_ g450_) ?_
      intro r468_ m469_ e472_ p471_
      have g470_ := p471_.2.1
      have f473_ : (m469_ 1 1).toInt = (m449_ 1 1).toInt := by rw [p471_.2.2 1 1 (by decide)]
      have f474_ : (m469_ 77 8).toInt = (m449_ 77 8).toInt := by rw [p471_.2.2 77 8 (by decide)]
      have f475_ : (m469_ 7 8).toInt = (m449_ 7 8).toInt := by rw [p471_.2.2 7 8 (by decide)]
      have f476_ : (m469_ 16 8).toInt = (m449_ 16 8).toInt := by rw [p471_.2.2 16 8 (by decide)]
      have f477_ : (m469_ 80 312).toInt = (m449_ 80 312).toInt := by rw [p471_.2.2 80 312 (by decide)]
      have f478_ : (m469_ 0 12).toInt = (m449_ 0 12).toInt := by rw [p471_.2.2 0 12 (by decide)]
      have f479_ : (m469_ 77 67).toInt = (m449_ 77 67).toInt := by rw [p471_.2.2 77 67 (by decide)]
      have f480_ : (m469_ 7 9).toInt = (m449_ 7 9).toInt := by rw [p471_.2.2 7 9 (by decide)]
      have f481_ : (m469_ 16 9).toInt = (m449_ 16 9).toInt := by rw [p471_.2.2 16 9 (by decide)]
      have f482_ : (m469_ 80 313).toInt = (m449_ 80 313).toInt := by rw [p471_.2.2 80 313 (by decide)]
      have w483_ := p471_.1
      have k484_ : KT m469_ := KT_cg k465_ (p471_.2.2 3 3 (by decide))
      have d485_ : KD m469_ m469_ := KD_S d466_ (p471_.2.2) (p471_.2.2 3 3 (by decide)) (p471_.2.2 77 6 (by decide)) rfl
      have l486_ : LR j m469_ m469_ := LR_S hj l467_ (p471_.2.2) rfl rfl (p471_.2.2 77 17 (by decide))
      have q487_ : (m469_ 1 1).toInt = (m469_ 77 8).toInt := by omega
      have q488_ : (m469_ 7 8).toInt = (m469_ 78 312).toInt := by omega
      have q489_ : (m469_ 16 8).toInt = (m469_ 80 312).toInt := by omega
      have q490_ : (m469_ 0 12).toInt = (m469_ 77 67).toInt := by omega
      have q491_ : (m469_ 7 9).toInt = (m469_ 78 313).toInt := by omega
      have q492_ : (m469_ 16 9).toInt = (m469_ 80 313).toInt := by omega
      have f494_ := r_1_1 hG
      have t493_ : TR m469_ := TR_le hT (by omega) (funext (fun s_ => by rw [p471_.2.2 2 s_ (outc rfl), p451_.2 2 s_ (outc rfl)])) (funext (fun s_ => by rw [p471_.2.2 84 s_ (outc rfl), p451_.2 84 s_ (outc rfl)]))
      refine T_ql (i_add rfl l_7 (by omega) (by omega)) ?_
      intro x495_ h496_
      exact ih j r hj hr hjr x495_ m469_ (by omega) (by omega) g470_ q487_ q488_ q489_ q490_ q491_ q492_ t493_ d485_ l486_ k484_ (by omega)
    refine T_sw rfl l_9 (fun s497_ => ?_) (fun s497_ => ?_)
    · refine T_qg (i_add rfl l_1 (by omega) (by omega)) (by omega) (by omega) ?_
      refine T_qg (i_add rfl l_2 (by omega) (by omega)) (by omega) (by omega) ?_
      refine T_qg (i_add rfl l_3 (by omega) (by omega)) (by omega) (by omega) ?_
      refine T_qcE (t_X11_has hn hj _ _ _ M hG) ?_
      intro r498_ m499_ e502_ p501_
      have g500_ := p501_.1
      have f503_ : (m499_ 1 1).toInt = (M 1 1).toInt := by rw [p501_.2 1 1 (by decide)]
      have f504_ : (m499_ 77 8).toInt = (M 77 8).toInt := by rw [p501_.2 77 8 (by decide)]
      have f505_ : (m499_ 7 8).toInt = (M 7 8).toInt := by rw [p501_.2 7 8 (by decide)]
      have f506_ : (m499_ 78 312).toInt = (M 78 312).toInt := by rw [p501_.2 78 312 (by decide)]
      have f507_ : (m499_ 16 8).toInt = (M 16 8).toInt := by rw [p501_.2 16 8 (by decide)]
      have f508_ : (m499_ 80 312).toInt = (M 80 312).toInt := by rw [p501_.2 80 312 (by decide)]
      have f509_ : (m499_ 0 12).toInt = (M 0 12).toInt := by rw [p501_.2 0 12 (by decide)]
      have f510_ : (m499_ 77 67).toInt = (M 77 67).toInt := by rw [p501_.2 77 67 (by decide)]
      have f511_ : (m499_ 7 9).toInt = (M 7 9).toInt := by rw [p501_.2 7 9 (by decide)]
      have f512_ : (m499_ 78 313).toInt = (M 78 313).toInt := by rw [p501_.2 78 313 (by decide)]
      have f513_ : (m499_ 16 9).toInt = (M 16 9).toInt := by rw [p501_.2 16 9 (by decide)]
      have f514_ : (m499_ 80 313).toInt = (M 80 313).toInt := by rw [p501_.2 80 313 (by decide)]
      have k515_ : KT m499_ := KT_cg hK (p501_.2 3 3 (by decide))
      have d516_ : KD m499_ m499_ := KD_S hD (p501_.2) (p501_.2 3 3 (by decide)) (p501_.2 77 6 (by decide)) rfl
      have l517_ : LR j m499_ m499_ := LR_S hj hL (p501_.2) rfl rfl (p501_.2 77 17 (by decide))
      refine T_qg (i_add rfl l_1 (by omega) (by omega)) (by omega) (by omega) ?_
      refine T_qg (i_add rfl l_2 (by omega) (by omega)) (by omega) (by omega) ?_
      refine T_qg (i_add rfl l_3 (by omega) (by omega)) (by omega) (by omega) ?_
      refine T_qcE (t_X12_has hn _ _ _ m499_ g500_) ?_
      intro r518_ m519_ e522_ p521_
      have g520_ := p521_.2.1
      have f523_ : (m519_ 1 1).toInt = (m499_ 1 1).toInt := by rw [p521_.2.2 1 1 (by decide)]
      have f524_ : (m519_ 77 8).toInt = (m499_ 77 8).toInt := by rw [p521_.2.2 77 8 (by decide)]
      have f525_ : (m519_ 7 8).toInt = (m499_ 7 8).toInt := by rw [p521_.2.2 7 8 (by decide)]
      have f526_ : (m519_ 16 8).toInt = (m499_ 16 8).toInt := by rw [p521_.2.2 16 8 (by decide)]
      have f527_ : (m519_ 80 312).toInt = (m499_ 80 312).toInt := by rw [p521_.2.2 80 312 (by decide)]
      have f528_ : (m519_ 0 12).toInt = (m499_ 0 12).toInt := by rw [p521_.2.2 0 12 (by decide)]
      have f529_ : (m519_ 77 67).toInt = (m499_ 77 67).toInt := by rw [p521_.2.2 77 67 (by decide)]
      have f530_ : (m519_ 7 9).toInt = (m499_ 7 9).toInt := by rw [p521_.2.2 7 9 (by decide)]
      have f531_ : (m519_ 16 9).toInt = (m499_ 16 9).toInt := by rw [p521_.2.2 16 9 (by decide)]
      have f532_ : (m519_ 80 313).toInt = (m499_ 80 313).toInt := by rw [p521_.2.2 80 313 (by decide)]
      have w533_ := p521_.1
      have k534_ : KT m519_ := KT_cg k515_ (p521_.2.2 3 3 (by decide))
      have d535_ : KD m519_ m519_ := KD_S d516_ (p521_.2.2) (p521_.2.2 3 3 (by decide)) (p521_.2.2 77 6 (by decide)) rfl
      have l536_ : LR j m519_ m519_ := LR_S hj l517_ (p521_.2.2) rfl rfl (p521_.2.2 77 17 (by decide))
      have q537_ : (m519_ 1 1).toInt = (m519_ 77 8).toInt := by omega
      have q538_ : (m519_ 7 8).toInt = (m519_ 78 312).toInt := by omega
      have q539_ : (m519_ 16 8).toInt = (m519_ 80 312).toInt := by omega
      have q540_ : (m519_ 0 12).toInt = (m519_ 77 67).toInt := by omega
      have q541_ : (m519_ 7 9).toInt = (m519_ 78 313).toInt := by omega
      have q542_ : (m519_ 16 9).toInt = (m519_ 80 313).toInt := by omega
      have f544_ := r_1_1 hG
      have t543_ : TR m519_ := TR_le hT (by omega) (funext (fun s_ => by rw [p521_.2.2 2 s_ (outc rfl), p501_.2 2 s_ (outc rfl)])) (funext (fun s_ => by rw [p521_.2.2 84 s_ (outc rfl), p501_.2 84 s_ (outc rfl)]))
      refine T_ql (i_add rfl l_7 (by omega) (by omega)) ?_
      intro x545_ h546_
      exact ih j r hj hr hjr x545_ m519_ (by omega) (by omega) g520_ q537_ q538_ q539_ q540_ q541_ q542_ t543_ d535_ l536_ k534_ (by omega)
    refine T_sw rfl l_10 (fun s547_ => ?_) (fun s547_ => ?_)
    · refine T_qg (i_add rfl l_1 (by omega) (by omega)) (by omega) (by omega) ?_
      refine T_qg (i_add rfl l_2 (by omega) (by omega)) (by omega) (by omega) ?_
      refine T_qcE (t_X11_alike hn hj _ _ M hG) ?_
      intro r548_ m549_ e552_ p551_
      have g550_ := p551_.2.1
      have f553_ : (m549_ 1 1).toInt = (M 1 1).toInt := by rw [p551_.2.2 1 1 (by decide)]
      have f554_ : (m549_ 77 8).toInt = (M 77 8).toInt := by rw [p551_.2.2 77 8 (by decide)]
      have f555_ : (m549_ 7 8).toInt = (M 7 8).toInt := by rw [p551_.2.2 7 8 (by decide)]
      have f556_ : (m549_ 78 312).toInt = (M 78 312).toInt := by rw [p551_.2.2 78 312 (by decide)]
      have f557_ : (m549_ 16 8).toInt = (M 16 8).toInt := by rw [p551_.2.2 16 8 (by decide)]
      have f558_ : (m549_ 80 312).toInt = (M 80 312).toInt := by rw [p551_.2.2 80 312 (by decide)]
      have f559_ : (m549_ 0 12).toInt = (M 0 12).toInt := by rw [p551_.2.2 0 12 (by decide)]
      have f560_ : (m549_ 77 67).toInt = (M 77 67).toInt := by rw [p551_.2.2 77 67 (by decide)]
      have f561_ : (m549_ 7 9).toInt = (M 7 9).toInt := by rw [p551_.2.2 7 9 (by decide)]
      have f562_ : (m549_ 78 313).toInt = (M 78 313).toInt := by rw [p551_.2.2 78 313 (by decide)]
      have f563_ : (m549_ 16 9).toInt = (M 16 9).toInt := by rw [p551_.2.2 16 9 (by decide)]
      have f564_ : (m549_ 80 313).toInt = (M 80 313).toInt := by rw [p551_.2.2 80 313 (by decide)]
      have k565_ : KT m549_ := KT_cg hK (p551_.2.2 3 3 (by decide))
      have d566_ : KD m549_ m549_ := KD_S hD (p551_.2.2) (p551_.2.2 3 3 (by decide)) (p551_.2.2 77 6 (by decide)) rfl
      have l567_ : LR j m549_ m549_ := LR_S hj hL (p551_.2.2) rfl rfl (p551_.2.2 77 17 (by decide))
      refine T_qg (i_add rfl l_1 (by omega) (by omega)) (by omega) (by omega) ?_
      refine T_qg (i_add rfl l_2 (by omega) (by omega)) (by omega) (by omega) ?_
      refine T_qcE (t_X12_alike hn _ _ m549_ g550_) ?_
      intro r568_ m569_ e572_ p571_
      have g570_ := p571_.2.1
      have f573_ : (m569_ 1 1).toInt = (m549_ 1 1).toInt := by rw [p571_.2.2 1 1 (by decide)]
      have f574_ : (m569_ 77 8).toInt = (m549_ 77 8).toInt := by rw [p571_.2.2 77 8 (by decide)]
      have f575_ : (m569_ 7 8).toInt = (m549_ 7 8).toInt := by rw [p571_.2.2 7 8 (by decide)]
      have f576_ : (m569_ 78 312).toInt = (m549_ 78 312).toInt := by rw [p571_.2.2 78 312 (by decide)]
      have f577_ : (m569_ 16 8).toInt = (m549_ 16 8).toInt := by rw [p571_.2.2 16 8 (by decide)]
      have f578_ : (m569_ 80 312).toInt = (m549_ 80 312).toInt := by rw [p571_.2.2 80 312 (by decide)]
      have f579_ : (m569_ 0 12).toInt = (m549_ 0 12).toInt := by rw [p571_.2.2 0 12 (by decide)]
      have f580_ : (m569_ 77 67).toInt = (m549_ 77 67).toInt := by rw [p571_.2.2 77 67 (by decide)]
      have f581_ : (m569_ 7 9).toInt = (m549_ 7 9).toInt := by rw [p571_.2.2 7 9 (by decide)]
      have f582_ : (m569_ 78 313).toInt = (m549_ 78 313).toInt := by rw [p571_.2.2 78 313 (by decide)]
      have f583_ : (m569_ 16 9).toInt = (m549_ 16 9).toInt := by rw [p571_.2.2 16 9 (by decide)]
      have f584_ : (m569_ 80 313).toInt = (m549_ 80 313).toInt := by rw [p571_.2.2 80 313 (by decide)]
      have k585_ : KT m569_ := KT_cg k565_ (p571_.2.2 3 3 (by decide))
      have d586_ : KD m569_ m569_ := KD_S d566_ (p571_.2.2) (p571_.2.2 3 3 (by decide)) (p571_.2.2 77 6 (by decide)) rfl
      have l587_ : LR j m569_ m569_ := LR_S hj l567_ (p571_.2.2) rfl rfl (p571_.2.2 77 17 (by decide))
      have q588_ : (m569_ 1 1).toInt = (m569_ 77 8).toInt := by omega
      have q589_ : (m569_ 7 8).toInt = (m569_ 78 312).toInt := by omega
      have q590_ : (m569_ 16 8).toInt = (m569_ 80 312).toInt := by omega
      have q591_ : (m569_ 0 12).toInt = (m569_ 77 67).toInt := by omega
      have q592_ : (m569_ 7 9).toInt = (m569_ 78 313).toInt := by omega
      have q593_ : (m569_ 16 9).toInt = (m569_ 80 313).toInt := by omega
      have f595_ := r_1_1 hG
      have t594_ : TR m569_ := TR_le hT (by omega) (funext (fun s_ => by rw [p571_.2.2 2 s_ (outc rfl), p551_.2.2 2 s_ (outc rfl)])) (funext (fun s_ => by rw [p571_.2.2 84 s_ (outc rfl), p551_.2.2 84 s_ (outc rfl)]))
      refine T_ql (i_add rfl l_7 (by omega) (by omega)) ?_
      intro x596_ h597_
      exact ih j r hj hr hjr x596_ m569_ (by omega) (by omega) g570_ q588_ q589_ q590_ q591_ q592_ q593_ t594_ d586_ l587_ k585_ (by omega)
    refine T_sw rfl l_11 (fun s598_ => ?_) (fun s598_ => ?_)
    · refine T_qg (i_add rfl l_1 (by omega) (by omega)) (by omega) (by omega) ?_
      refine T_qg (i_add rfl l_2 (by omega) (by omega)) (by omega) (by omega) ?_
      refine T_qg (i_add rfl l_3 (by omega) (by omega)) (by omega) (by omega) ?_
      refine T_qcE (t_X11_cost hn hj _ _ _ M hG) ?_
      intro r599_ m600_ e603_ p602_
      have g601_ := p602_.2.1
      have f604_ : (m600_ 1 1).toInt = (M 1 1).toInt := by rw [p602_.2.2 1 1 (by decide)]
      have f605_ : (m600_ 77 8).toInt = (M 77 8).toInt := by rw [p602_.2.2 77 8 (by decide)]
      have f606_ : (m600_ 7 8).toInt = (M 7 8).toInt := by rw [p602_.2.2 7 8 (by decide)]
      have f607_ : (m600_ 78 312).toInt = (M 78 312).toInt := by rw [p602_.2.2 78 312 (by decide)]
      have f608_ : (m600_ 16 8).toInt = (M 16 8).toInt := by rw [p602_.2.2 16 8 (by decide)]
      have f609_ : (m600_ 80 312).toInt = (M 80 312).toInt := by rw [p602_.2.2 80 312 (by decide)]
      have f610_ : (m600_ 0 12).toInt = (M 0 12).toInt := by rw [p602_.2.2 0 12 (by decide)]
      have f611_ : (m600_ 77 67).toInt = (M 77 67).toInt := by rw [p602_.2.2 77 67 (by decide)]
      have f612_ : (m600_ 7 9).toInt = (M 7 9).toInt := by rw [p602_.2.2 7 9 (by decide)]
      have f613_ : (m600_ 78 313).toInt = (M 78 313).toInt := by rw [p602_.2.2 78 313 (by decide)]
      have f614_ : (m600_ 16 9).toInt = (M 16 9).toInt := by rw [p602_.2.2 16 9 (by decide)]
      have f615_ : (m600_ 80 313).toInt = (M 80 313).toInt := by rw [p602_.2.2 80 313 (by decide)]
      have k616_ : KT m600_ := KT_cg hK (p602_.2.2 3 3 (by decide))
      have d617_ : KD m600_ m600_ := KD_S hD (p602_.2.2) (p602_.2.2 3 3 (by decide)) (p602_.2.2 77 6 (by decide)) rfl
      have l618_ : LR j m600_ m600_ := LR_S hj hL (p602_.2.2) rfl rfl (p602_.2.2 77 17 (by decide))
      refine T_qg (i_add rfl l_1 (by omega) (by omega)) (by omega) (by omega) ?_
      refine T_qg (i_add rfl l_2 (by omega) (by omega)) (by omega) (by omega) ?_
      refine T_qg (i_add rfl l_3 (by omega) (by omega)) (by omega) (by omega) ?_
      refine T_qcE (t_X12_cost hn _ _ _ m600_ g601_) ?_
      intro r619_ m620_ e623_ p622_
      have g621_ := p622_.2.1
      have f624_ : (m620_ 1 1).toInt = (m600_ 1 1).toInt := by rw [p622_.2.2 1 1 (by decide)]
      have f625_ : (m620_ 77 8).toInt = (m600_ 77 8).toInt := by rw [p622_.2.2 77 8 (by decide)]
      have f626_ : (m620_ 7 8).toInt = (m600_ 7 8).toInt := by rw [p622_.2.2 7 8 (by decide)]
      have f627_ : (m620_ 78 312).toInt = (m600_ 78 312).toInt := by rw [p622_.2.2 78 312 (by decide)]
      have f628_ : (m620_ 16 8).toInt = (m600_ 16 8).toInt := by rw [p622_.2.2 16 8 (by decide)]
      have f629_ : (m620_ 80 312).toInt = (m600_ 80 312).toInt := by rw [p622_.2.2 80 312 (by decide)]
      have f630_ : (m620_ 0 12).toInt = (m600_ 0 12).toInt := by rw [p622_.2.2 0 12 (by decide)]
      have f631_ : (m620_ 77 67).toInt = (m600_ 77 67).toInt := by rw [p622_.2.2 77 67 (by decide)]
      have f632_ : (m620_ 7 9).toInt = (m600_ 7 9).toInt := by rw [p622_.2.2 7 9 (by decide)]
      have f633_ : (m620_ 78 313).toInt = (m600_ 78 313).toInt := by rw [p622_.2.2 78 313 (by decide)]
      have f634_ : (m620_ 16 9).toInt = (m600_ 16 9).toInt := by rw [p622_.2.2 16 9 (by decide)]
      have f635_ : (m620_ 80 313).toInt = (m600_ 80 313).toInt := by rw [p622_.2.2 80 313 (by decide)]
      have k636_ : KT m620_ := KT_cg k616_ (p622_.2.2 3 3 (by decide))
      have d637_ : KD m620_ m620_ := KD_S d617_ (p622_.2.2) (p622_.2.2 3 3 (by decide)) (p622_.2.2 77 6 (by decide)) rfl
      have l638_ : LR j m620_ m620_ := LR_S hj l618_ (p622_.2.2) rfl rfl (p622_.2.2 77 17 (by decide))
      have q639_ : (m620_ 1 1).toInt = (m620_ 77 8).toInt := by omega
      have q640_ : (m620_ 7 8).toInt = (m620_ 78 312).toInt := by omega
      have q641_ : (m620_ 16 8).toInt = (m620_ 80 312).toInt := by omega
      have q642_ : (m620_ 0 12).toInt = (m620_ 77 67).toInt := by omega
      have q643_ : (m620_ 7 9).toInt = (m620_ 78 313).toInt := by omega
      have q644_ : (m620_ 16 9).toInt = (m620_ 80 313).toInt := by omega
      have f646_ := r_1_1 hG
      have t645_ : TR m620_ := TR_le hT (by omega) (funext (fun s_ => by rw [p622_.2.2 2 s_ (outc rfl), p602_.2.2 2 s_ (outc rfl)])) (funext (fun s_ => by rw [p622_.2.2 84 s_ (outc rfl), p602_.2.2 84 s_ (outc rfl)]))
      refine T_ql (i_add rfl l_7 (by omega) (by omega)) ?_
      intro x647_ h648_
      exact ih j r hj hr hjr x647_ m620_ (by omega) (by omega) g621_ q639_ q640_ q641_ q642_ q643_ q644_ t645_ d637_ l638_ k636_ (by omega)
    refine T_sw rfl l_12 (fun s649_ => ?_) (fun s649_ => ?_)
    · refine T_qg (i_add rfl l_1 (by omega) (by omega)) (by omega) (by omega) ?_
      refine T_qg (i_add rfl l_2 (by omega) (by omega)) (by omega) (by omega) ?_
      refine T_qg (i_add rfl l_3 (by omega) (by omega)) (by omega) (by omega) ?_
      refine T_qg (i_add rfl l_4 (by omega) (by omega)) (by omega) (by omega) ?_
      refine T_qg (i_add rfl l_5 (by omega) (by omega)) (by omega) (by omega) ?_
      refine T_qcE (t_X11_soonest hn hj _ _ _ _ _ M hG) ?_
      intro r650_ m651_ e654_ p653_
      have g652_ := p653_.1
      have f655_ : (m651_ 1 1).toInt = (M 1 1).toInt := by rw [p653_.2 1 1 (by decide)]
      have f656_ : (m651_ 77 8).toInt = (M 77 8).toInt := by rw [p653_.2 77 8 (by decide)]
      have f657_ : (m651_ 7 8).toInt = (M 7 8).toInt := by rw [p653_.2 7 8 (by decide)]
      have f658_ : (m651_ 78 312).toInt = (M 78 312).toInt := by rw [p653_.2 78 312 (by decide)]
      have f659_ : (m651_ 16 8).toInt = (M 16 8).toInt := by rw [p653_.2 16 8 (by decide)]
      have f660_ : (m651_ 80 312).toInt = (M 80 312).toInt := by rw [p653_.2 80 312 (by decide)]
      have f661_ : (m651_ 0 12).toInt = (M 0 12).toInt := by rw [p653_.2 0 12 (by decide)]
      have f662_ : (m651_ 77 67).toInt = (M 77 67).toInt := by rw [p653_.2 77 67 (by decide)]
      have f663_ : (m651_ 7 9).toInt = (M 7 9).toInt := by rw [p653_.2 7 9 (by decide)]
      have f664_ : (m651_ 78 313).toInt = (M 78 313).toInt := by rw [p653_.2 78 313 (by decide)]
      have f665_ : (m651_ 16 9).toInt = (M 16 9).toInt := by rw [p653_.2 16 9 (by decide)]
      have f666_ : (m651_ 80 313).toInt = (M 80 313).toInt := by rw [p653_.2 80 313 (by decide)]
      have k667_ : KT m651_ := KT_cg hK (p653_.2 3 3 (by decide))
      have d668_ : KD m651_ m651_ := KD_S hD (p653_.2) (p653_.2 3 3 (by decide)) (p653_.2 77 6 (by decide)) rfl
      have l669_ : LR j m651_ m651_ := LR_S hj hL (p653_.2) rfl rfl (p653_.2 77 17 (by decide))
      refine T_qg (i_add rfl l_1 (by omega) (by omega)) (by omega) (by omega) ?_
      refine T_qg (i_add rfl l_2 (by omega) (by omega)) (by omega) (by omega) ?_
      refine T_qg (i_add rfl l_3 (by omega) (by omega)) (by omega) (by omega) ?_
      refine T_qg (i_add rfl l_4 (by omega) (by omega)) (by omega) (by omega) ?_
      refine T_qg (i_add rfl l_5 (by omega) (by omega)) (by omega) (by omega) ?_
      refine T_qcE (t_X12_soonest hn _ _ _ _ _ m651_ g652_) ?_
      intro r670_ m671_ e674_ p673_
      have g672_ := p673_.1
      have f675_ : (m671_ 1 1).toInt = (m651_ 1 1).toInt := by rw [p673_.2 1 1 (by decide)]
      have f676_ : (m671_ 77 8).toInt = (m651_ 77 8).toInt := by rw [p673_.2 77 8 (by decide)]
      have f677_ : (m671_ 7 8).toInt = (m651_ 7 8).toInt := by rw [p673_.2 7 8 (by decide)]
      have f678_ : (m671_ 78 312).toInt = (m651_ 78 312).toInt := by rw [p673_.2 78 312 (by decide)]
      have f679_ : (m671_ 16 8).toInt = (m651_ 16 8).toInt := by rw [p673_.2 16 8 (by decide)]
      have f680_ : (m671_ 80 312).toInt = (m651_ 80 312).toInt := by rw [p673_.2 80 312 (by decide)]
      have f681_ : (m671_ 0 12).toInt = (m651_ 0 12).toInt := by rw [p673_.2 0 12 (by decide)]
      have f682_ : (m671_ 77 67).toInt = (m651_ 77 67).toInt := by rw [p673_.2 77 67 (by decide)]
      have f683_ : (m671_ 7 9).toInt = (m651_ 7 9).toInt := by rw [p673_.2 7 9 (by decide)]
      have f684_ : (m671_ 78 313).toInt = (m651_ 78 313).toInt := by rw [p673_.2 78 313 (by decide)]
      have f685_ : (m671_ 16 9).toInt = (m651_ 16 9).toInt := by rw [p673_.2 16 9 (by decide)]
      have f686_ : (m671_ 80 313).toInt = (m651_ 80 313).toInt := by rw [p673_.2 80 313 (by decide)]
      have k687_ : KT m671_ := KT_cg k667_ (p673_.2 3 3 (by decide))
      have d688_ : KD m671_ m671_ := KD_S d668_ (p673_.2) (p673_.2 3 3 (by decide)) (p673_.2 77 6 (by decide)) rfl
      have l689_ : LR j m671_ m671_ := LR_S hj l669_ (p673_.2) rfl rfl (p673_.2 77 17 (by decide))
      have q690_ : (m671_ 1 1).toInt = (m671_ 77 8).toInt := by omega
      have q691_ : (m671_ 7 8).toInt = (m671_ 78 312).toInt := by omega
      have q692_ : (m671_ 16 8).toInt = (m671_ 80 312).toInt := by omega
      have q693_ : (m671_ 0 12).toInt = (m671_ 77 67).toInt := by omega
      have q694_ : (m671_ 7 9).toInt = (m671_ 78 313).toInt := by omega
      have q695_ : (m671_ 16 9).toInt = (m671_ 80 313).toInt := by omega
      have f697_ := r_1_1 hG
      have t696_ : TR m671_ := TR_le hT (by omega) (funext (fun s_ => by rw [p673_.2 2 s_ (outc rfl), p653_.2 2 s_ (outc rfl)])) (funext (fun s_ => by rw [p673_.2 84 s_ (outc rfl), p653_.2 84 s_ (outc rfl)]))
      refine T_ql (i_add rfl l_7 (by omega) (by omega)) ?_
      intro x698_ h699_
      exact ih j r hj hr hjr x698_ m671_ (by omega) (by omega) g672_ q690_ q691_ q692_ q693_ q694_ q695_ t696_ d688_ l689_ k687_ (by omega)
    refine T_sw rfl l_13 (fun s700_ => ?_) (fun s700_ => ?_)
    · refine T_qg (i_add rfl l_1 (by omega) (by omega)) (by omega) (by omega) ?_
      refine T_qg (i_add rfl l_2 (by omega) (by omega)) (by omega) (by omega) ?_
      refine T_qg (i_add rfl l_3 (by omega) (by omega)) (by omega) (by omega) ?_
      refine T_qg (i_add rfl l_4 (by omega) (by omega)) (by omega) (by omega) ?_
      refine T_qg (i_add rfl l_5 (by omega) (by omega)) (by omega) (by omega) ?_
      refine T_qcE (t_X11_cheapest hn hj _ _ _ _ _ M hG) ?_
      intro r701_ m702_ e705_ p704_
      have g703_ := p704_.1
      have f706_ : (m702_ 1 1).toInt = (M 1 1).toInt := by rw [p704_.2 1 1 (by decide)]
      have f707_ : (m702_ 77 8).toInt = (M 77 8).toInt := by rw [p704_.2 77 8 (by decide)]
      have f708_ : (m702_ 7 8).toInt = (M 7 8).toInt := by rw [p704_.2 7 8 (by decide)]
      have f709_ : (m702_ 78 312).toInt = (M 78 312).toInt := by rw [p704_.2 78 312 (by decide)]
      have f710_ : (m702_ 16 8).toInt = (M 16 8).toInt := by rw [p704_.2 16 8 (by decide)]
      have f711_ : (m702_ 80 312).toInt = (M 80 312).toInt := by rw [p704_.2 80 312 (by decide)]
      have f712_ : (m702_ 0 12).toInt = (M 0 12).toInt := by rw [p704_.2 0 12 (by decide)]
      have f713_ : (m702_ 77 67).toInt = (M 77 67).toInt := by rw [p704_.2 77 67 (by decide)]
      have f714_ : (m702_ 7 9).toInt = (M 7 9).toInt := by rw [p704_.2 7 9 (by decide)]
      have f715_ : (m702_ 78 313).toInt = (M 78 313).toInt := by rw [p704_.2 78 313 (by decide)]
      have f716_ : (m702_ 16 9).toInt = (M 16 9).toInt := by rw [p704_.2 16 9 (by decide)]
      have f717_ : (m702_ 80 313).toInt = (M 80 313).toInt := by rw [p704_.2 80 313 (by decide)]
      have k718_ : KT m702_ := KT_cg hK (p704_.2 3 3 (by decide))
      have d719_ : KD m702_ m702_ := KD_S hD (p704_.2) (p704_.2 3 3 (by decide)) (p704_.2 77 6 (by decide)) rfl
      have l720_ : LR j m702_ m702_ := LR_S hj hL (p704_.2) rfl rfl (p704_.2 77 17 (by decide))
      refine T_qg (i_add rfl l_1 (by omega) (by omega)) (by omega) (by omega) ?_
      refine T_qg (i_add rfl l_2 (by omega) (by omega)) (by omega) (by omega) ?_
      refine T_qg (i_add rfl l_3 (by omega) (by omega)) (by omega) (by omega) ?_
      refine T_qg (i_add rfl l_4 (by omega) (by omega)) (by omega) (by omega) ?_
      refine T_qg (i_add rfl l_5 (by omega) (by omega)) (by omega) (by omega) ?_
      refine T_qcE (t_X12_cheapest hn _ _ _ _ _ m702_ g703_) ?_
      intro r721_ m722_ e725_ p724_
      have g723_ := p724_.1
      have f726_ : (m722_ 1 1).toInt = (m702_ 1 1).toInt := by rw [p724_.2 1 1 (by decide)]
      have f727_ : (m722_ 77 8).toInt = (m702_ 77 8).toInt := by rw [p724_.2 77 8 (by decide)]
      have f728_ : (m722_ 7 8).toInt = (m702_ 7 8).toInt := by rw [p724_.2 7 8 (by decide)]
      have f729_ : (m722_ 78 312).toInt = (m702_ 78 312).toInt := by rw [p724_.2 78 312 (by decide)]
      have f730_ : (m722_ 16 8).toInt = (m702_ 16 8).toInt := by rw [p724_.2 16 8 (by decide)]
      have f731_ : (m722_ 80 312).toInt = (m702_ 80 312).toInt := by rw [p724_.2 80 312 (by decide)]
      have f732_ : (m722_ 0 12).toInt = (m702_ 0 12).toInt := by rw [p724_.2 0 12 (by decide)]
      have f733_ : (m722_ 77 67).toInt = (m702_ 77 67).toInt := by rw [p724_.2 77 67 (by decide)]
      have f734_ : (m722_ 7 9).toInt = (m702_ 7 9).toInt := by rw [p724_.2 7 9 (by decide)]
      have f735_ : (m722_ 78 313).toInt = (m702_ 78 313).toInt := by rw [p724_.2 78 313 (by decide)]
      have f736_ : (m722_ 16 9).toInt = (m702_ 16 9).toInt := by rw [p724_.2 16 9 (by decide)]
      have f737_ : (m722_ 80 313).toInt = (m702_ 80 313).toInt := by rw [p724_.2 80 313 (by decide)]
      have k738_ : KT m722_ := KT_cg k718_ (p724_.2 3 3 (by decide))
      have d739_ : KD m722_ m722_ := KD_S d719_ (p724_.2) (p724_.2 3 3 (by decide)) (p724_.2 77 6 (by decide)) rfl
      have l740_ : LR j m722_ m722_ := LR_S hj l720_ (p724_.2) rfl rfl (p724_.2 77 17 (by decide))
      have q741_ : (m722_ 1 1).toInt = (m722_ 77 8).toInt := by omega
      have q742_ : (m722_ 7 8).toInt = (m722_ 78 312).toInt := by omega
      have q743_ : (m722_ 16 8).toInt = (m722_ 80 312).toInt := by omega
      have q744_ : (m722_ 0 12).toInt = (m722_ 77 67).toInt := by omega
      have q745_ : (m722_ 7 9).toInt = (m722_ 78 313).toInt := by omega
      have q746_ : (m722_ 16 9).toInt = (m722_ 80 313).toInt := by omega
      have f748_ := r_1_1 hG
      have t747_ : TR m722_ := TR_le hT (by omega) (funext (fun s_ => by rw [p724_.2 2 s_ (outc rfl), p704_.2 2 s_ (outc rfl)])) (funext (fun s_ => by rw [p724_.2 84 s_ (outc rfl), p704_.2 84 s_ (outc rfl)]))
      refine T_ql (i_add rfl l_7 (by omega) (by omega)) ?_
      intro x749_ h750_
      exact ih j r hj hr hjr x749_ m722_ (by omega) (by omega) g723_ q741_ q742_ q743_ q744_ q745_ q746_ t747_ d739_ l740_ k738_ (by omega)
    refine T_sw rfl l_14 (fun s751_ => ?_) (fun s751_ => ?_)
    · refine T_qg (i_add rfl l_1 (by omega) (by omega)) (by omega) (by omega) ?_
      refine T_qg (i_add rfl l_2 (by omega) (by omega)) (by omega) (by omega) ?_
      refine T_qg (i_add rfl l_3 (by omega) (by omega)) (by omega) (by omega) ?_
      refine T_qcE (t_X11_loophole hn hj _ _ _ M hG) ?_
      intro r752_ m753_ e756_ p755_
      have g754_ := p755_.1
      have f757_ : (m753_ 1 1).toInt = (M 1 1).toInt := by rw [p755_.2 1 1 (by decide)]
      have f758_ : (m753_ 77 8).toInt = (M 77 8).toInt := by rw [p755_.2 77 8 (by decide)]
      have f759_ : (m753_ 7 8).toInt = (M 7 8).toInt := by rw [p755_.2 7 8 (by decide)]
      have f760_ : (m753_ 78 312).toInt = (M 78 312).toInt := by rw [p755_.2 78 312 (by decide)]
      have f761_ : (m753_ 16 8).toInt = (M 16 8).toInt := by rw [p755_.2 16 8 (by decide)]
      have f762_ : (m753_ 80 312).toInt = (M 80 312).toInt := by rw [p755_.2 80 312 (by decide)]
      have f763_ : (m753_ 0 12).toInt = (M 0 12).toInt := by rw [p755_.2 0 12 (by decide)]
      have f764_ : (m753_ 77 67).toInt = (M 77 67).toInt := by rw [p755_.2 77 67 (by decide)]
      have f765_ : (m753_ 7 9).toInt = (M 7 9).toInt := by rw [p755_.2 7 9 (by decide)]
      have f766_ : (m753_ 78 313).toInt = (M 78 313).toInt := by rw [p755_.2 78 313 (by decide)]
      have f767_ : (m753_ 16 9).toInt = (M 16 9).toInt := by rw [p755_.2 16 9 (by decide)]
      have f768_ : (m753_ 80 313).toInt = (M 80 313).toInt := by rw [p755_.2 80 313 (by decide)]
      have k769_ : KT m753_ := KT_cg hK (p755_.2 3 3 (by decide))
      have d770_ : KD m753_ m753_ := KD_S hD (p755_.2) (p755_.2 3 3 (by decide)) (p755_.2 77 6 (by decide)) rfl
      have l771_ : LR j m753_ m753_ := LR_S hj hL (p755_.2) rfl rfl (p755_.2 77 17 (by decide))
      refine T_qg (i_add rfl l_1 (by omega) (by omega)) (by omega) (by omega) ?_
      refine T_qg (i_add rfl l_2 (by omega) (by omega)) (by omega) (by omega) ?_
      refine T_qg (i_add rfl l_3 (by omega) (by omega)) (by omega) (by omega) ?_
      refine T_qcE (t_X12_loophole hn _ _ _ m753_ g754_) ?_
      intro r772_ m773_ e776_ p775_
      have g774_ := p775_.1
      have f777_ : (m773_ 1 1).toInt = (m753_ 1 1).toInt := by rw [p775_.2 1 1 (by decide)]
      have f778_ : (m773_ 77 8).toInt = (m753_ 77 8).toInt := by rw [p775_.2 77 8 (by decide)]
      have f779_ : (m773_ 7 8).toInt = (m753_ 7 8).toInt := by rw [p775_.2 7 8 (by decide)]
      have f780_ : (m773_ 78 312).toInt = (m753_ 78 312).toInt := by rw [p775_.2 78 312 (by decide)]
      have f781_ : (m773_ 16 8).toInt = (m753_ 16 8).toInt := by rw [p775_.2 16 8 (by decide)]
      have f782_ : (m773_ 80 312).toInt = (m753_ 80 312).toInt := by rw [p775_.2 80 312 (by decide)]
      have f783_ : (m773_ 0 12).toInt = (m753_ 0 12).toInt := by rw [p775_.2 0 12 (by decide)]
      have f784_ : (m773_ 77 67).toInt = (m753_ 77 67).toInt := by rw [p775_.2 77 67 (by decide)]
      have f785_ : (m773_ 7 9).toInt = (m753_ 7 9).toInt := by rw [p775_.2 7 9 (by decide)]
      have f786_ : (m773_ 78 313).toInt = (m753_ 78 313).toInt := by rw [p775_.2 78 313 (by decide)]
      have f787_ : (m773_ 16 9).toInt = (m753_ 16 9).toInt := by rw [p775_.2 16 9 (by decide)]
      have f788_ : (m773_ 80 313).toInt = (m753_ 80 313).toInt := by rw [p775_.2 80 313 (by decide)]
      have k789_ : KT m773_ := KT_cg k769_ (p775_.2 3 3 (by decide))
      have d790_ : KD m773_ m773_ := KD_S d770_ (p775_.2) (p775_.2 3 3 (by decide)) (p775_.2 77 6 (by decide)) rfl
      have l791_ : LR j m773_ m773_ := LR_S hj l771_ (p775_.2) rfl rfl (p775_.2 77 17 (by decide))
      have q792_ : (m773_ 1 1).toInt = (m773_ 77 8).toInt := by omega
      have q793_ : (m773_ 7 8).toInt = (m773_ 78 312).toInt := by omega
      have q794_ : (m773_ 16 8).toInt = (m773_ 80 312).toInt := by omega
      have q795_ : (m773_ 0 12).toInt = (m773_ 77 67).toInt := by omega
      have q796_ : (m773_ 7 9).toInt = (m773_ 78 313).toInt := by omega
      have q797_ : (m773_ 16 9).toInt = (m773_ 80 313).toInt := by omega
      have f799_ := r_1_1 hG
      have t798_ : TR m773_ := TR_le hT (by omega) (funext (fun s_ => by rw [p775_.2 2 s_ (outc rfl), p755_.2 2 s_ (outc rfl)])) (funext (fun s_ => by rw [p775_.2 84 s_ (outc rfl), p755_.2 84 s_ (outc rfl)]))
      have w800_ : r752_ = r772_ := loophole_ag hn hj hG g754_ hD hL (Int32.toInt_inj.mp hR4) (fun c_ hc_ => funext (fun s_ => p755_.2 c_ s_ (out77 hc_ rfl))) hK e756_ e776_
      rw [if_pos w800_]
      refine T_ql (i_add rfl l_7 (by omega) (by omega)) ?_
      intro x801_ h802_
      exact ih j r hj hr hjr x801_ m773_ (by omega) (by omega) g774_ q792_ q793_ q794_ q795_ q796_ q797_ t798_ d790_ l791_ k789_ (by omega)
    refine T_sw rfl l_15 (fun s803_ => ?_) (fun s803_ => ?_)
    · refine T_qg (i_add rfl l_1 (by omega) (by omega)) (by omega) (by omega) ?_
      refine T_qg (i_add rfl l_2 (by omega) (by omega)) (by omega) (by omega) ?_
      refine T_qg (i_add rfl l_3 (by omega) (by omega)) (by omega) (by omega) ?_
      refine T_qcE (t_X11_jobs hn hj _ _ _ M hG) ?_
      intro r804_ m805_ e808_ p807_
      have g806_ := p807_.2.2.1
      have f809_ : (m805_ 77 8).toInt = (M 77 8).toInt := by rw [p807_.2.2.2 77 8 (by decide)]
      have f810_ : (m805_ 7 8).toInt = (M 7 8).toInt := by rw [p807_.2.2.2 7 8 (by decide)]
      have f811_ : (m805_ 78 312).toInt = (M 78 312).toInt := by rw [p807_.2.2.2 78 312 (by decide)]
      have f812_ : (m805_ 16 8).toInt = (M 16 8).toInt := by rw [p807_.2.2.2 16 8 (by decide)]
      have f813_ : (m805_ 80 312).toInt = (M 80 312).toInt := by rw [p807_.2.2.2 80 312 (by decide)]
      have f814_ : (m805_ 0 12).toInt = (M 0 12).toInt := by rw [p807_.2.2.2 0 12 (by decide)]
      have f815_ : (m805_ 77 67).toInt = (M 77 67).toInt := by rw [p807_.2.2.2 77 67 (by decide)]
      have f816_ : (m805_ 7 9).toInt = (M 7 9).toInt := by rw [p807_.2.2.2 7 9 (by decide)]
      have f817_ : (m805_ 78 313).toInt = (M 78 313).toInt := by rw [p807_.2.2.2 78 313 (by decide)]
      have f818_ : (m805_ 16 9).toInt = (M 16 9).toInt := by rw [p807_.2.2.2 16 9 (by decide)]
      have f819_ : (m805_ 80 313).toInt = (M 80 313).toInt := by rw [p807_.2.2.2 80 313 (by decide)]
      have w820_ := p807_.2.1
      have k821_ : KT m805_ := KT_cg hK (p807_.2.2.2 3 3 (by decide))
      have d822_ : KD m805_ m805_ := KD_S hD (p807_.2.2.2) (p807_.2.2.2 3 3 (by decide)) (p807_.2.2.2 77 6 (by decide)) rfl
      have l823_ : LR j m805_ m805_ := LR_S hj hL (p807_.2.2.2) rfl rfl (p807_.2.2.2 77 17 (by decide))
      refine T_qg (i_add rfl l_1 (by omega) (by omega)) (by omega) (by omega) ?_
      refine T_qg (i_add rfl l_2 (by omega) (by omega)) (by omega) (by omega) ?_
      refine T_qg (i_add rfl l_3 (by omega) (by omega)) (by omega) (by omega) ?_
      refine T_qcE (t_X12_jobs hn _ _ _ m805_ g806_) ?_
      intro r824_ m825_ e828_ p827_
      have g826_ := p827_.2.1
      have f829_ : (m825_ 1 1).toInt = (m805_ 1 1).toInt := by rw [p827_.2.2 1 1 (by decide)]
      have f830_ : (m825_ 7 8).toInt = (m805_ 7 8).toInt := by rw [p827_.2.2 7 8 (by decide)]
      have f831_ : (m825_ 78 312).toInt = (m805_ 78 312).toInt := by rw [p827_.2.2 78 312 (by decide)]
      have f832_ : (m825_ 16 8).toInt = (m805_ 16 8).toInt := by rw [p827_.2.2 16 8 (by decide)]
      have f833_ : (m825_ 80 312).toInt = (m805_ 80 312).toInt := by rw [p827_.2.2 80 312 (by decide)]
      have f834_ : (m825_ 0 12).toInt = (m805_ 0 12).toInt := by rw [p827_.2.2 0 12 (by decide)]
      have f835_ : (m825_ 77 67).toInt = (m805_ 77 67).toInt := by rw [p827_.2.2 77 67 (by decide)]
      have f836_ : (m825_ 7 9).toInt = (m805_ 7 9).toInt := by rw [p827_.2.2 7 9 (by decide)]
      have f837_ : (m825_ 78 313).toInt = (m805_ 78 313).toInt := by rw [p827_.2.2 78 313 (by decide)]
      have f838_ : (m825_ 16 9).toInt = (m805_ 16 9).toInt := by rw [p827_.2.2 16 9 (by decide)]
      have f839_ : (m825_ 80 313).toInt = (m805_ 80 313).toInt := by rw [p827_.2.2 80 313 (by decide)]
      have w840_ := p827_.1
      have k841_ : KT m825_ := KT_cg k821_ (p827_.2.2 3 3 (by decide))
      have d842_ : KD m825_ m825_ := KD_S d822_ (p827_.2.2) (p827_.2.2 3 3 (by decide)) (p827_.2.2 77 6 (by decide)) rfl
      have l843_ : LR j m825_ m825_ := LR_S hj l823_ (p827_.2.2) rfl rfl (p827_.2.2 77 17 (by decide))
      have q844_ : (m825_ 1 1).toInt = (m825_ 77 8).toInt := by omega
      have q845_ : (m825_ 7 8).toInt = (m825_ 78 312).toInt := by omega
      have q846_ : (m825_ 16 8).toInt = (m825_ 80 312).toInt := by omega
      have q847_ : (m825_ 0 12).toInt = (m825_ 77 67).toInt := by omega
      have q848_ : (m825_ 7 9).toInt = (m825_ 78 313).toInt := by omega
      have q849_ : (m825_ 16 9).toInt = (m825_ 80 313).toInt := by omega
      have f851_ := r_1_1 hG
      have t850_ : TR m825_ := TR_le hT (by omega) (funext (fun s_ => by rw [p827_.2.2 2 s_ (outc rfl), p807_.2.2.2 2 s_ (outc rfl)])) (funext (fun s_ => by rw [p827_.2.2 84 s_ (outc rfl), p807_.2.2.2 84 s_ (outc rfl)]))
      refine T_ql (i_add rfl l_7 (by omega) (by omega)) ?_
      intro x852_ h853_
      exact ih j r hj hr hjr x852_ m825_ (by omega) (by omega) g826_ q844_ q845_ q846_ q847_ q848_ q849_ t850_ d842_ l843_ k841_ (by omega)
    refine T_sw rfl l_16 (fun s854_ => ?_) (fun s854_ => ?_)
    · refine T_qg (i_add rfl l_1 (by omega) (by omega)) (by omega) (by omega) ?_
      refine T_qg (i_add rfl l_2 (by omega) (by omega)) (by omega) (by omega) ?_
      refine T_qg (i_add rfl l_3 (by omega) (by omega)) (by omega) (by omega) ?_
      refine T_qcE (t_X11_rivals hn _ _ _ M hG) ?_
      intro r855_ m856_ e859_ p858_
      have g857_ := p858_.1
      have f860_ : (m856_ 1 1).toInt = (M 1 1).toInt := by rw [p858_.2 1 1 (by decide)]
      have f861_ : (m856_ 77 8).toInt = (M 77 8).toInt := by rw [p858_.2 77 8 (by decide)]
      have f862_ : (m856_ 7 8).toInt = (M 7 8).toInt := by rw [p858_.2 7 8 (by decide)]
      have f863_ : (m856_ 78 312).toInt = (M 78 312).toInt := by rw [p858_.2 78 312 (by decide)]
      have f864_ : (m856_ 16 8).toInt = (M 16 8).toInt := by rw [p858_.2 16 8 (by decide)]
      have f865_ : (m856_ 80 312).toInt = (M 80 312).toInt := by rw [p858_.2 80 312 (by decide)]
      have f866_ : (m856_ 0 12).toInt = (M 0 12).toInt := by rw [p858_.2 0 12 (by decide)]
      have f867_ : (m856_ 77 67).toInt = (M 77 67).toInt := by rw [p858_.2 77 67 (by decide)]
      have f868_ : (m856_ 7 9).toInt = (M 7 9).toInt := by rw [p858_.2 7 9 (by decide)]
      have f869_ : (m856_ 78 313).toInt = (M 78 313).toInt := by rw [p858_.2 78 313 (by decide)]
      have f870_ : (m856_ 16 9).toInt = (M 16 9).toInt := by rw [p858_.2 16 9 (by decide)]
      have f871_ : (m856_ 80 313).toInt = (M 80 313).toInt := by rw [p858_.2 80 313 (by decide)]
      have k872_ : KT m856_ := KT_cg hK (p858_.2 3 3 (by decide))
      have d873_ : KD m856_ m856_ := KD_S hD (p858_.2) (p858_.2 3 3 (by decide)) (p858_.2 77 6 (by decide)) rfl
      have l874_ : LR j m856_ m856_ := LR_S hj hL (p858_.2) rfl rfl (p858_.2 77 17 (by decide))
      refine T_qg (i_add rfl l_1 (by omega) (by omega)) (by omega) (by omega) ?_
      refine T_qg (i_add rfl l_2 (by omega) (by omega)) (by omega) (by omega) ?_
      refine T_qg (i_add rfl l_3 (by omega) (by omega)) (by omega) (by omega) ?_
      refine T_qcE (t_X12_rivals hn _ _ _ m856_ g857_) ?_
      intro r875_ m876_ e879_ p878_
      have g877_ := p878_.1
      have f880_ : (m876_ 1 1).toInt = (m856_ 1 1).toInt := by rw [p878_.2 1 1 (by decide)]
      have f881_ : (m876_ 77 8).toInt = (m856_ 77 8).toInt := by rw [p878_.2 77 8 (by decide)]
      have f882_ : (m876_ 7 8).toInt = (m856_ 7 8).toInt := by rw [p878_.2 7 8 (by decide)]
      have f883_ : (m876_ 78 312).toInt = (m856_ 78 312).toInt := by rw [p878_.2 78 312 (by decide)]
      have f884_ : (m876_ 16 8).toInt = (m856_ 16 8).toInt := by rw [p878_.2 16 8 (by decide)]
      have f885_ : (m876_ 80 312).toInt = (m856_ 80 312).toInt := by rw [p878_.2 80 312 (by decide)]
      have f886_ : (m876_ 0 12).toInt = (m856_ 0 12).toInt := by rw [p878_.2 0 12 (by decide)]
      have f887_ : (m876_ 77 67).toInt = (m856_ 77 67).toInt := by rw [p878_.2 77 67 (by decide)]
      have f888_ : (m876_ 7 9).toInt = (m856_ 7 9).toInt := by rw [p878_.2 7 9 (by decide)]
      have f889_ : (m876_ 78 313).toInt = (m856_ 78 313).toInt := by rw [p878_.2 78 313 (by decide)]
      have f890_ : (m876_ 16 9).toInt = (m856_ 16 9).toInt := by rw [p878_.2 16 9 (by decide)]
      have f891_ : (m876_ 80 313).toInt = (m856_ 80 313).toInt := by rw [p878_.2 80 313 (by decide)]
      have k892_ : KT m876_ := KT_cg k872_ (p878_.2 3 3 (by decide))
      have d893_ : KD m876_ m876_ := KD_S d873_ (p878_.2) (p878_.2 3 3 (by decide)) (p878_.2 77 6 (by decide)) rfl
      have l894_ : LR j m876_ m876_ := LR_S hj l874_ (p878_.2) rfl rfl (p878_.2 77 17 (by decide))
      have q895_ : (m876_ 1 1).toInt = (m876_ 77 8).toInt := by omega
      have q896_ : (m876_ 7 8).toInt = (m876_ 78 312).toInt := by omega
      have q897_ : (m876_ 16 8).toInt = (m876_ 80 312).toInt := by omega
      have q898_ : (m876_ 0 12).toInt = (m876_ 77 67).toInt := by omega
      have q899_ : (m876_ 7 9).toInt = (m876_ 78 313).toInt := by omega
      have q900_ : (m876_ 16 9).toInt = (m876_ 80 313).toInt := by omega
      have f902_ := r_1_1 hG
      have t901_ : TR m876_ := TR_le hT (by omega) (funext (fun s_ => by rw [p878_.2 2 s_ (outc rfl), p858_.2 2 s_ (outc rfl)])) (funext (fun s_ => by rw [p878_.2 84 s_ (outc rfl), p858_.2 84 s_ (outc rfl)]))
      refine T_ql (i_add rfl l_7 (by omega) (by omega)) ?_
      intro x903_ h904_
      exact ih j r hj hr hjr x903_ m876_ (by omega) (by omega) g877_ q895_ q896_ q897_ q898_ q899_ q900_ t901_ d893_ l894_ k892_ (by omega)
    refine T_sw rfl l_17 (fun s905_ => ?_) (fun s905_ => ?_)
    · refine T_qg (i_add rfl l_1 (by omega) (by omega)) (by omega) (by omega) ?_
      refine T_qg (i_add rfl l_2 (by omega) (by omega)) (by omega) (by omega) ?_
      refine T_qg (i_add rfl l_3 (by omega) (by omega)) (by omega) (by omega) ?_
      refine T_qg (i_add rfl l_4 (by omega) (by omega)) (by omega) (by omega) ?_
      refine T_qcE (t_X11_histories hn hj _ _ _ _ M hG) ?_
      intro r906_ m907_ e910_ p909_
      have g908_ := p909_.2.1
      have f911_ : (m907_ 77 8).toInt = (M 77 8).toInt := by rw [p909_.2.2 77 8 (by decide)]
      have f912_ : (m907_ 7 8).toInt = (M 7 8).toInt := by rw [p909_.2.2 7 8 (by decide)]
      have f913_ : (m907_ 78 312).toInt = (M 78 312).toInt := by rw [p909_.2.2 78 312 (by decide)]
      have f914_ : (m907_ 16 8).toInt = (M 16 8).toInt := by rw [p909_.2.2 16 8 (by decide)]
      have f915_ : (m907_ 80 312).toInt = (M 80 312).toInt := by rw [p909_.2.2 80 312 (by decide)]
      have f916_ : (m907_ 0 12).toInt = (M 0 12).toInt := by rw [p909_.2.2 0 12 (by decide)]
      have f917_ : (m907_ 77 67).toInt = (M 77 67).toInt := by rw [p909_.2.2 77 67 (by decide)]
      have f918_ : (m907_ 7 9).toInt = (M 7 9).toInt := by rw [p909_.2.2 7 9 (by decide)]
      have f919_ : (m907_ 78 313).toInt = (M 78 313).toInt := by rw [p909_.2.2 78 313 (by decide)]
      have f920_ : (m907_ 16 9).toInt = (M 16 9).toInt := by rw [p909_.2.2 16 9 (by decide)]
      have f921_ : (m907_ 80 313).toInt = (M 80 313).toInt := by rw [p909_.2.2 80 313 (by decide)]
      have w922_ := p909_.1
      have k923_ : KT m907_ := KT_cg hK (p909_.2.2 3 3 (by decide))
      have d924_ : KD m907_ m907_ := KD_S hD (p909_.2.2) (p909_.2.2 3 3 (by decide)) (p909_.2.2 77 6 (by decide)) rfl
      have l925_ : LR j m907_ m907_ := LR_S hj hL (p909_.2.2) rfl rfl (p909_.2.2 77 17 (by decide))
      refine T_qg (i_add rfl l_1 (by omega) (by omega)) (by omega) (by omega) ?_
      refine T_qg (i_add rfl l_2 (by omega) (by omega)) (by omega) (by omega) ?_
      refine T_qg (i_add rfl l_3 (by omega) (by omega)) (by omega) (by omega) ?_
      refine T_qg (i_add rfl l_4 (by omega) (by omega)) (by omega) (by omega) ?_
      refine T_qcE (t_X12_histories hn _ _ _ _ m907_ g908_) ?_
      intro r926_ m927_ e930_ p929_
      have g928_ := p929_.2.1
      have f931_ : (m927_ 1 1).toInt = (m907_ 1 1).toInt := by rw [p929_.2.2 1 1 (by decide)]
      have f932_ : (m927_ 7 8).toInt = (m907_ 7 8).toInt := by rw [p929_.2.2 7 8 (by decide)]
      have f933_ : (m927_ 78 312).toInt = (m907_ 78 312).toInt := by rw [p929_.2.2 78 312 (by decide)]
      have f934_ : (m927_ 16 8).toInt = (m907_ 16 8).toInt := by rw [p929_.2.2 16 8 (by decide)]
      have f935_ : (m927_ 80 312).toInt = (m907_ 80 312).toInt := by rw [p929_.2.2 80 312 (by decide)]
      have f936_ : (m927_ 0 12).toInt = (m907_ 0 12).toInt := by rw [p929_.2.2 0 12 (by decide)]
      have f937_ : (m927_ 77 67).toInt = (m907_ 77 67).toInt := by rw [p929_.2.2 77 67 (by decide)]
      have f938_ : (m927_ 7 9).toInt = (m907_ 7 9).toInt := by rw [p929_.2.2 7 9 (by decide)]
      have f939_ : (m927_ 78 313).toInt = (m907_ 78 313).toInt := by rw [p929_.2.2 78 313 (by decide)]
      have f940_ : (m927_ 16 9).toInt = (m907_ 16 9).toInt := by rw [p929_.2.2 16 9 (by decide)]
      have f941_ : (m927_ 80 313).toInt = (m907_ 80 313).toInt := by rw [p929_.2.2 80 313 (by decide)]
      have w942_ := p929_.1
      have k943_ : KT m927_ := KT_cg k923_ (p929_.2.2 3 3 (by decide))
      have d944_ : KD m927_ m927_ := KD_S d924_ (p929_.2.2) (p929_.2.2 3 3 (by decide)) (p929_.2.2 77 6 (by decide)) rfl
      have l945_ : LR j m927_ m927_ := LR_S hj l925_ (p929_.2.2) rfl rfl (p929_.2.2 77 17 (by decide))
      have q946_ : (m927_ 1 1).toInt = (m927_ 77 8).toInt := by omega
      have q947_ : (m927_ 7 8).toInt = (m927_ 78 312).toInt := by omega
      have q948_ : (m927_ 16 8).toInt = (m927_ 80 312).toInt := by omega
      have q949_ : (m927_ 0 12).toInt = (m927_ 77 67).toInt := by omega
      have q950_ : (m927_ 7 9).toInt = (m927_ 78 313).toInt := by omega
      have q951_ : (m927_ 16 9).toInt = (m927_ 80 313).toInt := by omega
      have f953_ := r_1_1 hG
      have t952_ : TR m927_ := TR_le hT (by omega) (funext (fun s_ => by rw [p929_.2.2 2 s_ (outc rfl), p909_.2.2 2 s_ (outc rfl)])) (funext (fun s_ => by rw [p929_.2.2 84 s_ (outc rfl), p909_.2.2 84 s_ (outc rfl)]))
      refine T_ql (i_add rfl l_7 (by omega) (by omega)) ?_
      intro x954_ h955_
      exact ih j r hj hr hjr x954_ m927_ (by omega) (by omega) g928_ q946_ q947_ q948_ q949_ q950_ q951_ t952_ d944_ l945_ k943_ (by omega)
    refine T_sw rfl l_18 (fun s956_ => ?_) (fun s956_ => ?_)
    · refine T_qg (i_add rfl l_1 (by omega) (by omega)) (by omega) (by omega) ?_
      refine T_qg (i_add rfl l_2 (by omega) (by omega)) (by omega) (by omega) ?_
      refine T_qg (i_add rfl l_3 (by omega) (by omega)) (by omega) (by omega) ?_
      refine T_qg (i_add rfl l_4 (by omega) (by omega)) (by omega) (by omega) ?_
      refine T_eq rfl l_0 (fun c957_ => ?_) (fun c957_ => ?_)
      · refine T_qg (i_add rfl l_5 (by omega) (by omega)) (by omega) (by omega) ?_
        refine T_eq rfl l_0 (fun c958_ => ?_) (fun c958_ => ?_)
        · refine T_qg (i_add rfl l_6 (by omega) (by omega)) (by omega) (by omega) ?_
          refine T_qcE (t_X11_game hn _ _ _ _ _ _ M hG (by decide) (by decide)) ?_
          intro r959_ m960_ e963_ p962_
          have g961_ := p962_.2.1
          have f964_ : (m960_ 1 1).toInt = (M 1 1).toInt := by rw [p962_.2.2 1 1 (by decide)]
          have f965_ : (m960_ 77 8).toInt = (M 77 8).toInt := by rw [p962_.2.2 77 8 (by decide)]
          have f966_ : (m960_ 7 8).toInt = (M 7 8).toInt := by rw [p962_.2.2 7 8 (by decide)]
          have f967_ : (m960_ 78 312).toInt = (M 78 312).toInt := by rw [p962_.2.2 78 312 (by decide)]
          have f968_ : (m960_ 16 8).toInt = (M 16 8).toInt := by rw [p962_.2.2 16 8 (by decide)]
          have f969_ : (m960_ 80 312).toInt = (M 80 312).toInt := by rw [p962_.2.2 80 312 (by decide)]
          have f970_ : (m960_ 0 12).toInt = (M 0 12).toInt := by rw [p962_.2.2 0 12 (by decide)]
          have f971_ : (m960_ 77 67).toInt = (M 77 67).toInt := by rw [p962_.2.2 77 67 (by decide)]
          have f972_ : (m960_ 7 9).toInt = (M 7 9).toInt := by rw [p962_.2.2 7 9 (by decide)]
          have f973_ : (m960_ 78 313).toInt = (M 78 313).toInt := by rw [p962_.2.2 78 313 (by decide)]
          have f974_ : (m960_ 16 9).toInt = (M 16 9).toInt := by rw [p962_.2.2 16 9 (by decide)]
          have f975_ : (m960_ 80 313).toInt = (M 80 313).toInt := by rw [p962_.2.2 80 313 (by decide)]
          have k976_ : KT m960_ := KT_cg hK (p962_.2.2 3 3 (by decide))
          have d977_ : KD m960_ m960_ := KD_S hD (p962_.2.2) (p962_.2.2 3 3 (by decide)) (p962_.2.2 77 6 (by decide)) rfl
          have l978_ : LR j m960_ m960_ := LR_S hj hL (p962_.2.2) rfl rfl (p962_.2.2 77 17 (by decide))
          refine T_qg (i_add rfl l_1 (by omega) (by omega)) (by omega) (by omega) ?_
          refine T_qg (i_add rfl l_2 (by omega) (by omega)) (by omega) (by omega) ?_
          refine T_qg (i_add rfl l_3 (by omega) (by omega)) (by omega) (by omega) ?_
          refine T_qg (i_add rfl l_4 (by omega) (by omega)) (by omega) (by omega) ?_
          refine T_eq rfl l_0 (fun c979_ => ?_) (fun c979_ => ?_)
          · refine T_qg (i_add rfl l_5 (by omega) (by omega)) (by omega) (by omega) ?_
            refine T_eq rfl l_0 (fun c980_ => ?_) (fun c980_ => ?_)
            · refine T_qg (i_add rfl l_6 (by omega) (by omega)) (by omega) (by omega) ?_
              refine T_qcE (t_X12_game hn _ _ _ _ _ _ m960_ g961_ (by decide) (by decide)) ?_
              intro r981_ m982_ e985_ p984_
              have g983_ := p984_.2.1
              have f986_ : (m982_ 1 1).toInt = (m960_ 1 1).toInt := by rw [p984_.2.2 1 1 (by decide)]
              have f987_ : (m982_ 77 8).toInt = (m960_ 77 8).toInt := by rw [p984_.2.2 77 8 (by decide)]
              have f988_ : (m982_ 7 8).toInt = (m960_ 7 8).toInt := by rw [p984_.2.2 7 8 (by decide)]
              have f989_ : (m982_ 78 312).toInt = (m960_ 78 312).toInt := by rw [p984_.2.2 78 312 (by decide)]
              have f990_ : (m982_ 16 8).toInt = (m960_ 16 8).toInt := by rw [p984_.2.2 16 8 (by decide)]
              have f991_ : (m982_ 80 312).toInt = (m960_ 80 312).toInt := by rw [p984_.2.2 80 312 (by decide)]
              have f992_ : (m982_ 0 12).toInt = (m960_ 0 12).toInt := by rw [p984_.2.2 0 12 (by decide)]
              have f993_ : (m982_ 77 67).toInt = (m960_ 77 67).toInt := by rw [p984_.2.2 77 67 (by decide)]
              have f994_ : (m982_ 7 9).toInt = (m960_ 7 9).toInt := by rw [p984_.2.2 7 9 (by decide)]
              have f995_ : (m982_ 78 313).toInt = (m960_ 78 313).toInt := by rw [p984_.2.2 78 313 (by decide)]
              have f996_ : (m982_ 16 9).toInt = (m960_ 16 9).toInt := by rw [p984_.2.2 16 9 (by decide)]
              have f997_ : (m982_ 80 313).toInt = (m960_ 80 313).toInt := by rw [p984_.2.2 80 313 (by decide)]
              have k998_ : KT m982_ := KT_cg k976_ (p984_.2.2 3 3 (by decide))
              have d999_ : KD m982_ m982_ := KD_S d977_ (p984_.2.2) (p984_.2.2 3 3 (by decide)) (p984_.2.2 77 6 (by decide)) rfl
              have l1000_ : LR j m982_ m982_ := LR_S hj l978_ (p984_.2.2) rfl rfl (p984_.2.2 77 17 (by decide))
              have q1001_ : (m982_ 1 1).toInt = (m982_ 77 8).toInt := by omega
              have q1002_ : (m982_ 7 8).toInt = (m982_ 78 312).toInt := by omega
              have q1003_ : (m982_ 16 8).toInt = (m982_ 80 312).toInt := by omega
              have q1004_ : (m982_ 0 12).toInt = (m982_ 77 67).toInt := by omega
              have q1005_ : (m982_ 7 9).toInt = (m982_ 78 313).toInt := by omega
              have q1006_ : (m982_ 16 9).toInt = (m982_ 80 313).toInt := by omega
              have f1008_ := r_1_1 hG
              have t1007_ : TR m982_ := TR_le hT (by omega) (funext (fun s_ => by rw [p984_.2.2 2 s_ (outc rfl), p962_.2.2 2 s_ (outc rfl)])) (funext (fun s_ => by rw [p984_.2.2 84 s_ (outc rfl), p962_.2.2 84 s_ (outc rfl)]))
              refine T_ql (i_add rfl l_7 (by omega) (by omega)) ?_
              intro x1009_ h1010_
              exact ih j r hj hr hjr x1009_ m982_ (by omega) (by omega) g983_ q1001_ q1002_ q1003_ q1004_ q1005_ q1006_ t1007_ d999_ l1000_ k998_ (by omega)
            · refine T_qg (i_add rfl l_6 (by omega) (by omega)) (by omega) (by omega) ?_
              refine T_qcE (t_X12_game hn _ _ _ _ _ _ m960_ g961_ (by decide) (by decide)) ?_
              intro r1011_ m1012_ e1015_ p1014_
              have g1013_ := p1014_.2.1
              have f1016_ : (m1012_ 1 1).toInt = (m960_ 1 1).toInt := by rw [p1014_.2.2 1 1 (by decide)]
              have f1017_ : (m1012_ 77 8).toInt = (m960_ 77 8).toInt := by rw [p1014_.2.2 77 8 (by decide)]
              have f1018_ : (m1012_ 7 8).toInt = (m960_ 7 8).toInt := by rw [p1014_.2.2 7 8 (by decide)]
              have f1019_ : (m1012_ 78 312).toInt = (m960_ 78 312).toInt := by rw [p1014_.2.2 78 312 (by decide)]
              have f1020_ : (m1012_ 16 8).toInt = (m960_ 16 8).toInt := by rw [p1014_.2.2 16 8 (by decide)]
              have f1021_ : (m1012_ 80 312).toInt = (m960_ 80 312).toInt := by rw [p1014_.2.2 80 312 (by decide)]
              have f1022_ : (m1012_ 0 12).toInt = (m960_ 0 12).toInt := by rw [p1014_.2.2 0 12 (by decide)]
              have f1023_ : (m1012_ 77 67).toInt = (m960_ 77 67).toInt := by rw [p1014_.2.2 77 67 (by decide)]
              have f1024_ : (m1012_ 7 9).toInt = (m960_ 7 9).toInt := by rw [p1014_.2.2 7 9 (by decide)]
              have f1025_ : (m1012_ 78 313).toInt = (m960_ 78 313).toInt := by rw [p1014_.2.2 78 313 (by decide)]
              have f1026_ : (m1012_ 16 9).toInt = (m960_ 16 9).toInt := by rw [p1014_.2.2 16 9 (by decide)]
              have f1027_ : (m1012_ 80 313).toInt = (m960_ 80 313).toInt := by rw [p1014_.2.2 80 313 (by decide)]
              have k1028_ : KT m1012_ := KT_cg k976_ (p1014_.2.2 3 3 (by decide))
              have d1029_ : KD m1012_ m1012_ := KD_S d977_ (p1014_.2.2) (p1014_.2.2 3 3 (by decide)) (p1014_.2.2 77 6 (by decide)) rfl
              have l1030_ : LR j m1012_ m1012_ := LR_S hj l978_ (p1014_.2.2) rfl rfl (p1014_.2.2 77 17 (by decide))
              have q1031_ : (m1012_ 1 1).toInt = (m1012_ 77 8).toInt := by omega
              have q1032_ : (m1012_ 7 8).toInt = (m1012_ 78 312).toInt := by omega
              have q1033_ : (m1012_ 16 8).toInt = (m1012_ 80 312).toInt := by omega
              have q1034_ : (m1012_ 0 12).toInt = (m1012_ 77 67).toInt := by omega
              have q1035_ : (m1012_ 7 9).toInt = (m1012_ 78 313).toInt := by omega
              have q1036_ : (m1012_ 16 9).toInt = (m1012_ 80 313).toInt := by omega
              have f1038_ := r_1_1 hG
              have t1037_ : TR m1012_ := TR_le hT (by omega) (funext (fun s_ => by rw [p1014_.2.2 2 s_ (outc rfl), p962_.2.2 2 s_ (outc rfl)])) (funext (fun s_ => by rw [p1014_.2.2 84 s_ (outc rfl), p962_.2.2 84 s_ (outc rfl)]))
              refine T_ql (i_add rfl l_7 (by omega) (by omega)) ?_
              intro x1039_ h1040_
              exact ih j r hj hr hjr x1039_ m1012_ (by omega) (by omega) g1013_ q1031_ q1032_ q1033_ q1034_ q1035_ q1036_ t1037_ d1029_ l1030_ k1028_ (by omega)
          · refine T_qg (i_add rfl l_5 (by omega) (by omega)) (by omega) (by omega) ?_
            refine T_eq rfl l_0 (fun c1041_ => ?_) (fun c1041_ => ?_)
            · refine T_qg (i_add rfl l_6 (by omega) (by omega)) (by omega) (by omega) ?_
              refine T_qcE (t_X12_game hn _ _ _ _ _ _ m960_ g961_ (by decide) (by decide)) ?_
              intro r1042_ m1043_ e1046_ p1045_
              have g1044_ := p1045_.2.1
              have f1047_ : (m1043_ 1 1).toInt = (m960_ 1 1).toInt := by rw [p1045_.2.2 1 1 (by decide)]
              have f1048_ : (m1043_ 77 8).toInt = (m960_ 77 8).toInt := by rw [p1045_.2.2 77 8 (by decide)]
              have f1049_ : (m1043_ 7 8).toInt = (m960_ 7 8).toInt := by rw [p1045_.2.2 7 8 (by decide)]
              have f1050_ : (m1043_ 78 312).toInt = (m960_ 78 312).toInt := by rw [p1045_.2.2 78 312 (by decide)]
              have f1051_ : (m1043_ 16 8).toInt = (m960_ 16 8).toInt := by rw [p1045_.2.2 16 8 (by decide)]
              have f1052_ : (m1043_ 80 312).toInt = (m960_ 80 312).toInt := by rw [p1045_.2.2 80 312 (by decide)]
              have f1053_ : (m1043_ 0 12).toInt = (m960_ 0 12).toInt := by rw [p1045_.2.2 0 12 (by decide)]
              have f1054_ : (m1043_ 77 67).toInt = (m960_ 77 67).toInt := by rw [p1045_.2.2 77 67 (by decide)]
              have f1055_ : (m1043_ 7 9).toInt = (m960_ 7 9).toInt := by rw [p1045_.2.2 7 9 (by decide)]
              have f1056_ : (m1043_ 78 313).toInt = (m960_ 78 313).toInt := by rw [p1045_.2.2 78 313 (by decide)]
              have f1057_ : (m1043_ 16 9).toInt = (m960_ 16 9).toInt := by rw [p1045_.2.2 16 9 (by decide)]
              have f1058_ : (m1043_ 80 313).toInt = (m960_ 80 313).toInt := by rw [p1045_.2.2 80 313 (by decide)]
              have k1059_ : KT m1043_ := KT_cg k976_ (p1045_.2.2 3 3 (by decide))
              have d1060_ : KD m1043_ m1043_ := KD_S d977_ (p1045_.2.2) (p1045_.2.2 3 3 (by decide)) (p1045_.2.2 77 6 (by decide)) rfl
              have l1061_ : LR j m1043_ m1043_ := LR_S hj l978_ (p1045_.2.2) rfl rfl (p1045_.2.2 77 17 (by decide))
              have q1062_ : (m1043_ 1 1).toInt = (m1043_ 77 8).toInt := by omega
              have q1063_ : (m1043_ 7 8).toInt = (m1043_ 78 312).toInt := by omega
              have q1064_ : (m1043_ 16 8).toInt = (m1043_ 80 312).toInt := by omega
              have q1065_ : (m1043_ 0 12).toInt = (m1043_ 77 67).toInt := by omega
              have q1066_ : (m1043_ 7 9).toInt = (m1043_ 78 313).toInt := by omega
              have q1067_ : (m1043_ 16 9).toInt = (m1043_ 80 313).toInt := by omega
              have f1069_ := r_1_1 hG
              have t1068_ : TR m1043_ := TR_le hT (by omega) (funext (fun s_ => by rw [p1045_.2.2 2 s_ (outc rfl), p962_.2.2 2 s_ (outc rfl)])) (funext (fun s_ => by rw [p1045_.2.2 84 s_ (outc rfl), p962_.2.2 84 s_ (outc rfl)]))
              refine T_ql (i_add rfl l_7 (by omega) (by omega)) ?_
              intro x1070_ h1071_
              exact ih j r hj hr hjr x1070_ m1043_ (by omega) (by omega) g1044_ q1062_ q1063_ q1064_ q1065_ q1066_ q1067_ t1068_ d1060_ l1061_ k1059_ (by omega)
            · refine T_qg (i_add rfl l_6 (by omega) (by omega)) (by omega) (by omega) ?_
              refine T_qcE (t_X12_game hn _ _ _ _ _ _ m960_ g961_ (by decide) (by decide)) ?_
              intro r1072_ m1073_ e1076_ p1075_
              have g1074_ := p1075_.2.1
              have f1077_ : (m1073_ 1 1).toInt = (m960_ 1 1).toInt := by rw [p1075_.2.2 1 1 (by decide)]
              have f1078_ : (m1073_ 77 8).toInt = (m960_ 77 8).toInt := by rw [p1075_.2.2 77 8 (by decide)]
              have f1079_ : (m1073_ 7 8).toInt = (m960_ 7 8).toInt := by rw [p1075_.2.2 7 8 (by decide)]
              have f1080_ : (m1073_ 78 312).toInt = (m960_ 78 312).toInt := by rw [p1075_.2.2 78 312 (by decide)]
              have f1081_ : (m1073_ 16 8).toInt = (m960_ 16 8).toInt := by rw [p1075_.2.2 16 8 (by decide)]
              have f1082_ : (m1073_ 80 312).toInt = (m960_ 80 312).toInt := by rw [p1075_.2.2 80 312 (by decide)]
              have f1083_ : (m1073_ 0 12).toInt = (m960_ 0 12).toInt := by rw [p1075_.2.2 0 12 (by decide)]
              have f1084_ : (m1073_ 77 67).toInt = (m960_ 77 67).toInt := by rw [p1075_.2.2 77 67 (by decide)]
              have f1085_ : (m1073_ 7 9).toInt = (m960_ 7 9).toInt := by rw [p1075_.2.2 7 9 (by decide)]
              have f1086_ : (m1073_ 78 313).toInt = (m960_ 78 313).toInt := by rw [p1075_.2.2 78 313 (by decide)]
              have f1087_ : (m1073_ 16 9).toInt = (m960_ 16 9).toInt := by rw [p1075_.2.2 16 9 (by decide)]
              have f1088_ : (m1073_ 80 313).toInt = (m960_ 80 313).toInt := by rw [p1075_.2.2 80 313 (by decide)]
              have k1089_ : KT m1073_ := KT_cg k976_ (p1075_.2.2 3 3 (by decide))
              have d1090_ : KD m1073_ m1073_ := KD_S d977_ (p1075_.2.2) (p1075_.2.2 3 3 (by decide)) (p1075_.2.2 77 6 (by decide)) rfl
              have l1091_ : LR j m1073_ m1073_ := LR_S hj l978_ (p1075_.2.2) rfl rfl (p1075_.2.2 77 17 (by decide))
              have q1092_ : (m1073_ 1 1).toInt = (m1073_ 77 8).toInt := by omega
              have q1093_ : (m1073_ 7 8).toInt = (m1073_ 78 312).toInt := by omega
              have q1094_ : (m1073_ 16 8).toInt = (m1073_ 80 312).toInt := by omega
              have q1095_ : (m1073_ 0 12).toInt = (m1073_ 77 67).toInt := by omega
              have q1096_ : (m1073_ 7 9).toInt = (m1073_ 78 313).toInt := by omega
              have q1097_ : (m1073_ 16 9).toInt = (m1073_ 80 313).toInt := by omega
              have f1099_ := r_1_1 hG
              have t1098_ : TR m1073_ := TR_le hT (by omega) (funext (fun s_ => by rw [p1075_.2.2 2 s_ (outc rfl), p962_.2.2 2 s_ (outc rfl)])) (funext (fun s_ => by rw [p1075_.2.2 84 s_ (outc rfl), p962_.2.2 84 s_ (outc rfl)]))
              refine T_ql (i_add rfl l_7 (by omega) (by omega)) ?_
              intro x1100_ h1101_
              exact ih j r hj hr hjr x1100_ m1073_ (by omega) (by omega) g1074_ q1092_ q1093_ q1094_ q1095_ q1096_ q1097_ t1098_ d1090_ l1091_ k1089_ (by omega)
        · refine T_qg (i_add rfl l_6 (by omega) (by omega)) (by omega) (by omega) ?_
          refine T_qcE (t_X11_game hn _ _ _ _ _ _ M hG (by decide) (by decide)) ?_
          intro r1102_ m1103_ e1106_ p1105_
          have g1104_ := p1105_.2.1
          have f1107_ : (m1103_ 1 1).toInt = (M 1 1).toInt := by rw [p1105_.2.2 1 1 (by decide)]
          have f1108_ : (m1103_ 77 8).toInt = (M 77 8).toInt := by rw [p1105_.2.2 77 8 (by decide)]
          have f1109_ : (m1103_ 7 8).toInt = (M 7 8).toInt := by rw [p1105_.2.2 7 8 (by decide)]
          have f1110_ : (m1103_ 78 312).toInt = (M 78 312).toInt := by rw [p1105_.2.2 78 312 (by decide)]
          have f1111_ : (m1103_ 16 8).toInt = (M 16 8).toInt := by rw [p1105_.2.2 16 8 (by decide)]
          have f1112_ : (m1103_ 80 312).toInt = (M 80 312).toInt := by rw [p1105_.2.2 80 312 (by decide)]
          have f1113_ : (m1103_ 0 12).toInt = (M 0 12).toInt := by rw [p1105_.2.2 0 12 (by decide)]
          have f1114_ : (m1103_ 77 67).toInt = (M 77 67).toInt := by rw [p1105_.2.2 77 67 (by decide)]
          have f1115_ : (m1103_ 7 9).toInt = (M 7 9).toInt := by rw [p1105_.2.2 7 9 (by decide)]
          have f1116_ : (m1103_ 78 313).toInt = (M 78 313).toInt := by rw [p1105_.2.2 78 313 (by decide)]
          have f1117_ : (m1103_ 16 9).toInt = (M 16 9).toInt := by rw [p1105_.2.2 16 9 (by decide)]
          have f1118_ : (m1103_ 80 313).toInt = (M 80 313).toInt := by rw [p1105_.2.2 80 313 (by decide)]
          have k1119_ : KT m1103_ := KT_cg hK (p1105_.2.2 3 3 (by decide))
          have d1120_ : KD m1103_ m1103_ := KD_S hD (p1105_.2.2) (p1105_.2.2 3 3 (by decide)) (p1105_.2.2 77 6 (by decide)) rfl
          have l1121_ : LR j m1103_ m1103_ := LR_S hj hL (p1105_.2.2) rfl rfl (p1105_.2.2 77 17 (by decide))
          refine T_qg (i_add rfl l_1 (by omega) (by omega)) (by omega) (by omega) ?_
          refine T_qg (i_add rfl l_2 (by omega) (by omega)) (by omega) (by omega) ?_
          refine T_qg (i_add rfl l_3 (by omega) (by omega)) (by omega) (by omega) ?_
          refine T_qg (i_add rfl l_4 (by omega) (by omega)) (by omega) (by omega) ?_
          refine T_eq rfl l_0 (fun c1122_ => ?_) (fun c1122_ => ?_)
          · refine T_qg (i_add rfl l_5 (by omega) (by omega)) (by omega) (by omega) ?_
            refine T_eq rfl l_0 (fun c1123_ => ?_) (fun c1123_ => ?_)
            · refine T_qg (i_add rfl l_6 (by omega) (by omega)) (by omega) (by omega) ?_
              refine T_qcE (t_X12_game hn _ _ _ _ _ _ m1103_ g1104_ (by decide) (by decide)) ?_
              intro r1124_ m1125_ e1128_ p1127_
              have g1126_ := p1127_.2.1
              have f1129_ : (m1125_ 1 1).toInt = (m1103_ 1 1).toInt := by rw [p1127_.2.2 1 1 (by decide)]
              have f1130_ : (m1125_ 77 8).toInt = (m1103_ 77 8).toInt := by rw [p1127_.2.2 77 8 (by decide)]
              have f1131_ : (m1125_ 7 8).toInt = (m1103_ 7 8).toInt := by rw [p1127_.2.2 7 8 (by decide)]
              have f1132_ : (m1125_ 78 312).toInt = (m1103_ 78 312).toInt := by rw [p1127_.2.2 78 312 (by decide)]
              have f1133_ : (m1125_ 16 8).toInt = (m1103_ 16 8).toInt := by rw [p1127_.2.2 16 8 (by decide)]
              have f1134_ : (m1125_ 80 312).toInt = (m1103_ 80 312).toInt := by rw [p1127_.2.2 80 312 (by decide)]
              have f1135_ : (m1125_ 0 12).toInt = (m1103_ 0 12).toInt := by rw [p1127_.2.2 0 12 (by decide)]
              have f1136_ : (m1125_ 77 67).toInt = (m1103_ 77 67).toInt := by rw [p1127_.2.2 77 67 (by decide)]
              have f1137_ : (m1125_ 7 9).toInt = (m1103_ 7 9).toInt := by rw [p1127_.2.2 7 9 (by decide)]
              have f1138_ : (m1125_ 78 313).toInt = (m1103_ 78 313).toInt := by rw [p1127_.2.2 78 313 (by decide)]
              have f1139_ : (m1125_ 16 9).toInt = (m1103_ 16 9).toInt := by rw [p1127_.2.2 16 9 (by decide)]
              have f1140_ : (m1125_ 80 313).toInt = (m1103_ 80 313).toInt := by rw [p1127_.2.2 80 313 (by decide)]
              have k1141_ : KT m1125_ := KT_cg k1119_ (p1127_.2.2 3 3 (by decide))
              have d1142_ : KD m1125_ m1125_ := KD_S d1120_ (p1127_.2.2) (p1127_.2.2 3 3 (by decide)) (p1127_.2.2 77 6 (by decide)) rfl
              have l1143_ : LR j m1125_ m1125_ := LR_S hj l1121_ (p1127_.2.2) rfl rfl (p1127_.2.2 77 17 (by decide))
              have q1144_ : (m1125_ 1 1).toInt = (m1125_ 77 8).toInt := by omega
              have q1145_ : (m1125_ 7 8).toInt = (m1125_ 78 312).toInt := by omega
              have q1146_ : (m1125_ 16 8).toInt = (m1125_ 80 312).toInt := by omega
              have q1147_ : (m1125_ 0 12).toInt = (m1125_ 77 67).toInt := by omega
              have q1148_ : (m1125_ 7 9).toInt = (m1125_ 78 313).toInt := by omega
              have q1149_ : (m1125_ 16 9).toInt = (m1125_ 80 313).toInt := by omega
              have f1151_ := r_1_1 hG
              have t1150_ : TR m1125_ := TR_le hT (by omega) (funext (fun s_ => by rw [p1127_.2.2 2 s_ (outc rfl), p1105_.2.2 2 s_ (outc rfl)])) (funext (fun s_ => by rw [p1127_.2.2 84 s_ (outc rfl), p1105_.2.2 84 s_ (outc rfl)]))
              refine T_ql (i_add rfl l_7 (by omega) (by omega)) ?_
              intro x1152_ h1153_
              exact ih j r hj hr hjr x1152_ m1125_ (by omega) (by omega) g1126_ q1144_ q1145_ q1146_ q1147_ q1148_ q1149_ t1150_ d1142_ l1143_ k1141_ (by omega)
            · refine T_qg (i_add rfl l_6 (by omega) (by omega)) (by omega) (by omega) ?_
              refine T_qcE (t_X12_game hn _ _ _ _ _ _ m1103_ g1104_ (by decide) (by decide)) ?_
              intro r1154_ m1155_ e1158_ p1157_
              have g1156_ := p1157_.2.1
              have f1159_ : (m1155_ 1 1).toInt = (m1103_ 1 1).toInt := by rw [p1157_.2.2 1 1 (by decide)]
              have f1160_ : (m1155_ 77 8).toInt = (m1103_ 77 8).toInt := by rw [p1157_.2.2 77 8 (by decide)]
              have f1161_ : (m1155_ 7 8).toInt = (m1103_ 7 8).toInt := by rw [p1157_.2.2 7 8 (by decide)]
              have f1162_ : (m1155_ 78 312).toInt = (m1103_ 78 312).toInt := by rw [p1157_.2.2 78 312 (by decide)]
              have f1163_ : (m1155_ 16 8).toInt = (m1103_ 16 8).toInt := by rw [p1157_.2.2 16 8 (by decide)]
              have f1164_ : (m1155_ 80 312).toInt = (m1103_ 80 312).toInt := by rw [p1157_.2.2 80 312 (by decide)]
              have f1165_ : (m1155_ 0 12).toInt = (m1103_ 0 12).toInt := by rw [p1157_.2.2 0 12 (by decide)]
              have f1166_ : (m1155_ 77 67).toInt = (m1103_ 77 67).toInt := by rw [p1157_.2.2 77 67 (by decide)]
              have f1167_ : (m1155_ 7 9).toInt = (m1103_ 7 9).toInt := by rw [p1157_.2.2 7 9 (by decide)]
              have f1168_ : (m1155_ 78 313).toInt = (m1103_ 78 313).toInt := by rw [p1157_.2.2 78 313 (by decide)]
              have f1169_ : (m1155_ 16 9).toInt = (m1103_ 16 9).toInt := by rw [p1157_.2.2 16 9 (by decide)]
              have f1170_ : (m1155_ 80 313).toInt = (m1103_ 80 313).toInt := by rw [p1157_.2.2 80 313 (by decide)]
              have k1171_ : KT m1155_ := KT_cg k1119_ (p1157_.2.2 3 3 (by decide))
              have d1172_ : KD m1155_ m1155_ := KD_S d1120_ (p1157_.2.2) (p1157_.2.2 3 3 (by decide)) (p1157_.2.2 77 6 (by decide)) rfl
              have l1173_ : LR j m1155_ m1155_ := LR_S hj l1121_ (p1157_.2.2) rfl rfl (p1157_.2.2 77 17 (by decide))
              have q1174_ : (m1155_ 1 1).toInt = (m1155_ 77 8).toInt := by omega
              have q1175_ : (m1155_ 7 8).toInt = (m1155_ 78 312).toInt := by omega
              have q1176_ : (m1155_ 16 8).toInt = (m1155_ 80 312).toInt := by omega
              have q1177_ : (m1155_ 0 12).toInt = (m1155_ 77 67).toInt := by omega
              have q1178_ : (m1155_ 7 9).toInt = (m1155_ 78 313).toInt := by omega
              have q1179_ : (m1155_ 16 9).toInt = (m1155_ 80 313).toInt := by omega
              have f1181_ := r_1_1 hG
              have t1180_ : TR m1155_ := TR_le hT (by omega) (funext (fun s_ => by rw [p1157_.2.2 2 s_ (outc rfl), p1105_.2.2 2 s_ (outc rfl)])) (funext (fun s_ => by rw [p1157_.2.2 84 s_ (outc rfl), p1105_.2.2 84 s_ (outc rfl)]))
              refine T_ql (i_add rfl l_7 (by omega) (by omega)) ?_
              intro x1182_ h1183_
              exact ih j r hj hr hjr x1182_ m1155_ (by omega) (by omega) g1156_ q1174_ q1175_ q1176_ q1177_ q1178_ q1179_ t1180_ d1172_ l1173_ k1171_ (by omega)
          · refine T_qg (i_add rfl l_5 (by omega) (by omega)) (by omega) (by omega) ?_
            refine T_eq rfl l_0 (fun c1184_ => ?_) (fun c1184_ => ?_)
            · refine T_qg (i_add rfl l_6 (by omega) (by omega)) (by omega) (by omega) ?_
              refine T_qcE (t_X12_game hn _ _ _ _ _ _ m1103_ g1104_ (by decide) (by decide)) ?_
              intro r1185_ m1186_ e1189_ p1188_
              have g1187_ := p1188_.2.1
              have f1190_ : (m1186_ 1 1).toInt = (m1103_ 1 1).toInt := by rw [p1188_.2.2 1 1 (by decide)]
              have f1191_ : (m1186_ 77 8).toInt = (m1103_ 77 8).toInt := by rw [p1188_.2.2 77 8 (by decide)]
              have f1192_ : (m1186_ 7 8).toInt = (m1103_ 7 8).toInt := by rw [p1188_.2.2 7 8 (by decide)]
              have f1193_ : (m1186_ 78 312).toInt = (m1103_ 78 312).toInt := by rw [p1188_.2.2 78 312 (by decide)]
              have f1194_ : (m1186_ 16 8).toInt = (m1103_ 16 8).toInt := by rw [p1188_.2.2 16 8 (by decide)]
              have f1195_ : (m1186_ 80 312).toInt = (m1103_ 80 312).toInt := by rw [p1188_.2.2 80 312 (by decide)]
              have f1196_ : (m1186_ 0 12).toInt = (m1103_ 0 12).toInt := by rw [p1188_.2.2 0 12 (by decide)]
              have f1197_ : (m1186_ 77 67).toInt = (m1103_ 77 67).toInt := by rw [p1188_.2.2 77 67 (by decide)]
              have f1198_ : (m1186_ 7 9).toInt = (m1103_ 7 9).toInt := by rw [p1188_.2.2 7 9 (by decide)]
              have f1199_ : (m1186_ 78 313).toInt = (m1103_ 78 313).toInt := by rw [p1188_.2.2 78 313 (by decide)]
              have f1200_ : (m1186_ 16 9).toInt = (m1103_ 16 9).toInt := by rw [p1188_.2.2 16 9 (by decide)]
              have f1201_ : (m1186_ 80 313).toInt = (m1103_ 80 313).toInt := by rw [p1188_.2.2 80 313 (by decide)]
              have k1202_ : KT m1186_ := KT_cg k1119_ (p1188_.2.2 3 3 (by decide))
              have d1203_ : KD m1186_ m1186_ := KD_S d1120_ (p1188_.2.2) (p1188_.2.2 3 3 (by decide)) (p1188_.2.2 77 6 (by decide)) rfl
              have l1204_ : LR j m1186_ m1186_ := LR_S hj l1121_ (p1188_.2.2) rfl rfl (p1188_.2.2 77 17 (by decide))
              have q1205_ : (m1186_ 1 1).toInt = (m1186_ 77 8).toInt := by omega
              have q1206_ : (m1186_ 7 8).toInt = (m1186_ 78 312).toInt := by omega
              have q1207_ : (m1186_ 16 8).toInt = (m1186_ 80 312).toInt := by omega
              have q1208_ : (m1186_ 0 12).toInt = (m1186_ 77 67).toInt := by omega
              have q1209_ : (m1186_ 7 9).toInt = (m1186_ 78 313).toInt := by omega
              have q1210_ : (m1186_ 16 9).toInt = (m1186_ 80 313).toInt := by omega
              have f1212_ := r_1_1 hG
              have t1211_ : TR m1186_ := TR_le hT (by omega) (funext (fun s_ => by rw [p1188_.2.2 2 s_ (outc rfl), p1105_.2.2 2 s_ (outc rfl)])) (funext (fun s_ => by rw [p1188_.2.2 84 s_ (outc rfl), p1105_.2.2 84 s_ (outc rfl)]))
              refine T_ql (i_add rfl l_7 (by omega) (by omega)) ?_
              intro x1213_ h1214_
              exact ih j r hj hr hjr x1213_ m1186_ (by omega) (by omega) g1187_ q1205_ q1206_ q1207_ q1208_ q1209_ q1210_ t1211_ d1203_ l1204_ k1202_ (by omega)
            · refine T_qg (i_add rfl l_6 (by omega) (by omega)) (by omega) (by omega) ?_
              refine T_qcE (t_X12_game hn _ _ _ _ _ _ m1103_ g1104_ (by decide) (by decide)) ?_
              intro r1215_ m1216_ e1219_ p1218_
              have g1217_ := p1218_.2.1
              have f1220_ : (m1216_ 1 1).toInt = (m1103_ 1 1).toInt := by rw [p1218_.2.2 1 1 (by decide)]
              have f1221_ : (m1216_ 77 8).toInt = (m1103_ 77 8).toInt := by rw [p1218_.2.2 77 8 (by decide)]
              have f1222_ : (m1216_ 7 8).toInt = (m1103_ 7 8).toInt := by rw [p1218_.2.2 7 8 (by decide)]
              have f1223_ : (m1216_ 78 312).toInt = (m1103_ 78 312).toInt := by rw [p1218_.2.2 78 312 (by decide)]
              have f1224_ : (m1216_ 16 8).toInt = (m1103_ 16 8).toInt := by rw [p1218_.2.2 16 8 (by decide)]
              have f1225_ : (m1216_ 80 312).toInt = (m1103_ 80 312).toInt := by rw [p1218_.2.2 80 312 (by decide)]
              have f1226_ : (m1216_ 0 12).toInt = (m1103_ 0 12).toInt := by rw [p1218_.2.2 0 12 (by decide)]
              have f1227_ : (m1216_ 77 67).toInt = (m1103_ 77 67).toInt := by rw [p1218_.2.2 77 67 (by decide)]
              have f1228_ : (m1216_ 7 9).toInt = (m1103_ 7 9).toInt := by rw [p1218_.2.2 7 9 (by decide)]
              have f1229_ : (m1216_ 78 313).toInt = (m1103_ 78 313).toInt := by rw [p1218_.2.2 78 313 (by decide)]
              have f1230_ : (m1216_ 16 9).toInt = (m1103_ 16 9).toInt := by rw [p1218_.2.2 16 9 (by decide)]
              have f1231_ : (m1216_ 80 313).toInt = (m1103_ 80 313).toInt := by rw [p1218_.2.2 80 313 (by decide)]
              have k1232_ : KT m1216_ := KT_cg k1119_ (p1218_.2.2 3 3 (by decide))
              have d1233_ : KD m1216_ m1216_ := KD_S d1120_ (p1218_.2.2) (p1218_.2.2 3 3 (by decide)) (p1218_.2.2 77 6 (by decide)) rfl
              have l1234_ : LR j m1216_ m1216_ := LR_S hj l1121_ (p1218_.2.2) rfl rfl (p1218_.2.2 77 17 (by decide))
              have q1235_ : (m1216_ 1 1).toInt = (m1216_ 77 8).toInt := by omega
              have q1236_ : (m1216_ 7 8).toInt = (m1216_ 78 312).toInt := by omega
              have q1237_ : (m1216_ 16 8).toInt = (m1216_ 80 312).toInt := by omega
              have q1238_ : (m1216_ 0 12).toInt = (m1216_ 77 67).toInt := by omega
              have q1239_ : (m1216_ 7 9).toInt = (m1216_ 78 313).toInt := by omega
              have q1240_ : (m1216_ 16 9).toInt = (m1216_ 80 313).toInt := by omega
              have f1242_ := r_1_1 hG
              have t1241_ : TR m1216_ := TR_le hT (by omega) (funext (fun s_ => by rw [p1218_.2.2 2 s_ (outc rfl), p1105_.2.2 2 s_ (outc rfl)])) (funext (fun s_ => by rw [p1218_.2.2 84 s_ (outc rfl), p1105_.2.2 84 s_ (outc rfl)]))
              refine T_ql (i_add rfl l_7 (by omega) (by omega)) ?_
              intro x1243_ h1244_
              exact ih j r hj hr hjr x1243_ m1216_ (by omega) (by omega) g1217_ q1235_ q1236_ q1237_ q1238_ q1239_ q1240_ t1241_ d1233_ l1234_ k1232_ (by omega)
      · refine T_qg (i_add rfl l_5 (by omega) (by omega)) (by omega) (by omega) ?_
        refine T_eq rfl l_0 (fun c1245_ => ?_) (fun c1245_ => ?_)
        · refine T_qg (i_add rfl l_6 (by omega) (by omega)) (by omega) (by omega) ?_
          refine T_qcE (t_X11_game hn _ _ _ _ _ _ M hG (by decide) (by decide)) ?_
          intro r1246_ m1247_ e1250_ p1249_
          have g1248_ := p1249_.2.1
          have f1251_ : (m1247_ 1 1).toInt = (M 1 1).toInt := by rw [p1249_.2.2 1 1 (by decide)]
          have f1252_ : (m1247_ 77 8).toInt = (M 77 8).toInt := by rw [p1249_.2.2 77 8 (by decide)]
          have f1253_ : (m1247_ 7 8).toInt = (M 7 8).toInt := by rw [p1249_.2.2 7 8 (by decide)]
          have f1254_ : (m1247_ 78 312).toInt = (M 78 312).toInt := by rw [p1249_.2.2 78 312 (by decide)]
          have f1255_ : (m1247_ 16 8).toInt = (M 16 8).toInt := by rw [p1249_.2.2 16 8 (by decide)]
          have f1256_ : (m1247_ 80 312).toInt = (M 80 312).toInt := by rw [p1249_.2.2 80 312 (by decide)]
          have f1257_ : (m1247_ 0 12).toInt = (M 0 12).toInt := by rw [p1249_.2.2 0 12 (by decide)]
          have f1258_ : (m1247_ 77 67).toInt = (M 77 67).toInt := by rw [p1249_.2.2 77 67 (by decide)]
          have f1259_ : (m1247_ 7 9).toInt = (M 7 9).toInt := by rw [p1249_.2.2 7 9 (by decide)]
          have f1260_ : (m1247_ 78 313).toInt = (M 78 313).toInt := by rw [p1249_.2.2 78 313 (by decide)]
          have f1261_ : (m1247_ 16 9).toInt = (M 16 9).toInt := by rw [p1249_.2.2 16 9 (by decide)]
          have f1262_ : (m1247_ 80 313).toInt = (M 80 313).toInt := by rw [p1249_.2.2 80 313 (by decide)]
          have k1263_ : KT m1247_ := KT_cg hK (p1249_.2.2 3 3 (by decide))
          have d1264_ : KD m1247_ m1247_ := KD_S hD (p1249_.2.2) (p1249_.2.2 3 3 (by decide)) (p1249_.2.2 77 6 (by decide)) rfl
          have l1265_ : LR j m1247_ m1247_ := LR_S hj hL (p1249_.2.2) rfl rfl (p1249_.2.2 77 17 (by decide))
          refine T_qg (i_add rfl l_1 (by omega) (by omega)) (by omega) (by omega) ?_
          refine T_qg (i_add rfl l_2 (by omega) (by omega)) (by omega) (by omega) ?_
          refine T_qg (i_add rfl l_3 (by omega) (by omega)) (by omega) (by omega) ?_
          refine T_qg (i_add rfl l_4 (by omega) (by omega)) (by omega) (by omega) ?_
          refine T_eq rfl l_0 (fun c1266_ => ?_) (fun c1266_ => ?_)
          · refine T_qg (i_add rfl l_5 (by omega) (by omega)) (by omega) (by omega) ?_
            refine T_eq rfl l_0 (fun c1267_ => ?_) (fun c1267_ => ?_)
            · refine T_qg (i_add rfl l_6 (by omega) (by omega)) (by omega) (by omega) ?_
              refine T_qcE (t_X12_game hn _ _ _ _ _ _ m1247_ g1248_ (by decide) (by decide)) ?_
              intro r1268_ m1269_ e1272_ p1271_
              have g1270_ := p1271_.2.1
              have f1273_ : (m1269_ 1 1).toInt = (m1247_ 1 1).toInt := by rw [p1271_.2.2 1 1 (by decide)]
              have f1274_ : (m1269_ 77 8).toInt = (m1247_ 77 8).toInt := by rw [p1271_.2.2 77 8 (by decide)]
              have f1275_ : (m1269_ 7 8).toInt = (m1247_ 7 8).toInt := by rw [p1271_.2.2 7 8 (by decide)]
              have f1276_ : (m1269_ 78 312).toInt = (m1247_ 78 312).toInt := by rw [p1271_.2.2 78 312 (by decide)]
              have f1277_ : (m1269_ 16 8).toInt = (m1247_ 16 8).toInt := by rw [p1271_.2.2 16 8 (by decide)]
              have f1278_ : (m1269_ 80 312).toInt = (m1247_ 80 312).toInt := by rw [p1271_.2.2 80 312 (by decide)]
              have f1279_ : (m1269_ 0 12).toInt = (m1247_ 0 12).toInt := by rw [p1271_.2.2 0 12 (by decide)]
              have f1280_ : (m1269_ 77 67).toInt = (m1247_ 77 67).toInt := by rw [p1271_.2.2 77 67 (by decide)]
              have f1281_ : (m1269_ 7 9).toInt = (m1247_ 7 9).toInt := by rw [p1271_.2.2 7 9 (by decide)]
              have f1282_ : (m1269_ 78 313).toInt = (m1247_ 78 313).toInt := by rw [p1271_.2.2 78 313 (by decide)]
              have f1283_ : (m1269_ 16 9).toInt = (m1247_ 16 9).toInt := by rw [p1271_.2.2 16 9 (by decide)]
              have f1284_ : (m1269_ 80 313).toInt = (m1247_ 80 313).toInt := by rw [p1271_.2.2 80 313 (by decide)]
              have k1285_ : KT m1269_ := KT_cg k1263_ (p1271_.2.2 3 3 (by decide))
              have d1286_ : KD m1269_ m1269_ := KD_S d1264_ (p1271_.2.2) (p1271_.2.2 3 3 (by decide)) (p1271_.2.2 77 6 (by decide)) rfl
              have l1287_ : LR j m1269_ m1269_ := LR_S hj l1265_ (p1271_.2.2) rfl rfl (p1271_.2.2 77 17 (by decide))
              have q1288_ : (m1269_ 1 1).toInt = (m1269_ 77 8).toInt := by omega
              have q1289_ : (m1269_ 7 8).toInt = (m1269_ 78 312).toInt := by omega
              have q1290_ : (m1269_ 16 8).toInt = (m1269_ 80 312).toInt := by omega
              have q1291_ : (m1269_ 0 12).toInt = (m1269_ 77 67).toInt := by omega
              have q1292_ : (m1269_ 7 9).toInt = (m1269_ 78 313).toInt := by omega
              have q1293_ : (m1269_ 16 9).toInt = (m1269_ 80 313).toInt := by omega
              have f1295_ := r_1_1 hG
              have t1294_ : TR m1269_ := TR_le hT (by omega) (funext (fun s_ => by rw [p1271_.2.2 2 s_ (outc rfl), p1249_.2.2 2 s_ (outc rfl)])) (funext (fun s_ => by rw [p1271_.2.2 84 s_ (outc rfl), p1249_.2.2 84 s_ (outc rfl)]))
              refine T_ql (i_add rfl l_7 (by omega) (by omega)) ?_
              intro x1296_ h1297_
              exact ih j r hj hr hjr x1296_ m1269_ (by omega) (by omega) g1270_ q1288_ q1289_ q1290_ q1291_ q1292_ q1293_ t1294_ d1286_ l1287_ k1285_ (by omega)
            · refine T_qg (i_add rfl l_6 (by omega) (by omega)) (by omega) (by omega) ?_
              refine T_qcE (t_X12_game hn _ _ _ _ _ _ m1247_ g1248_ (by decide) (by decide)) ?_
              intro r1298_ m1299_ e1302_ p1301_
              have g1300_ := p1301_.2.1
              have f1303_ : (m1299_ 1 1).toInt = (m1247_ 1 1).toInt := by rw [p1301_.2.2 1 1 (by decide)]
              have f1304_ : (m1299_ 77 8).toInt = (m1247_ 77 8).toInt := by rw [p1301_.2.2 77 8 (by decide)]
              have f1305_ : (m1299_ 7 8).toInt = (m1247_ 7 8).toInt := by rw [p1301_.2.2 7 8 (by decide)]
              have f1306_ : (m1299_ 78 312).toInt = (m1247_ 78 312).toInt := by rw [p1301_.2.2 78 312 (by decide)]
              have f1307_ : (m1299_ 16 8).toInt = (m1247_ 16 8).toInt := by rw [p1301_.2.2 16 8 (by decide)]
              have f1308_ : (m1299_ 80 312).toInt = (m1247_ 80 312).toInt := by rw [p1301_.2.2 80 312 (by decide)]
              have f1309_ : (m1299_ 0 12).toInt = (m1247_ 0 12).toInt := by rw [p1301_.2.2 0 12 (by decide)]
              have f1310_ : (m1299_ 77 67).toInt = (m1247_ 77 67).toInt := by rw [p1301_.2.2 77 67 (by decide)]
              have f1311_ : (m1299_ 7 9).toInt = (m1247_ 7 9).toInt := by rw [p1301_.2.2 7 9 (by decide)]
              have f1312_ : (m1299_ 78 313).toInt = (m1247_ 78 313).toInt := by rw [p1301_.2.2 78 313 (by decide)]
              have f1313_ : (m1299_ 16 9).toInt = (m1247_ 16 9).toInt := by rw [p1301_.2.2 16 9 (by decide)]
              have f1314_ : (m1299_ 80 313).toInt = (m1247_ 80 313).toInt := by rw [p1301_.2.2 80 313 (by decide)]
              have k1315_ : KT m1299_ := KT_cg k1263_ (p1301_.2.2 3 3 (by decide))
              have d1316_ : KD m1299_ m1299_ := KD_S d1264_ (p1301_.2.2) (p1301_.2.2 3 3 (by decide)) (p1301_.2.2 77 6 (by decide)) rfl
              have l1317_ : LR j m1299_ m1299_ := LR_S hj l1265_ (p1301_.2.2) rfl rfl (p1301_.2.2 77 17 (by decide))
              have q1318_ : (m1299_ 1 1).toInt = (m1299_ 77 8).toInt := by omega
              have q1319_ : (m1299_ 7 8).toInt = (m1299_ 78 312).toInt := by omega
              have q1320_ : (m1299_ 16 8).toInt = (m1299_ 80 312).toInt := by omega
              have q1321_ : (m1299_ 0 12).toInt = (m1299_ 77 67).toInt := by omega
              have q1322_ : (m1299_ 7 9).toInt = (m1299_ 78 313).toInt := by omega
              have q1323_ : (m1299_ 16 9).toInt = (m1299_ 80 313).toInt := by omega
              have f1325_ := r_1_1 hG
              have t1324_ : TR m1299_ := TR_le hT (by omega) (funext (fun s_ => by rw [p1301_.2.2 2 s_ (outc rfl), p1249_.2.2 2 s_ (outc rfl)])) (funext (fun s_ => by rw [p1301_.2.2 84 s_ (outc rfl), p1249_.2.2 84 s_ (outc rfl)]))
              refine T_ql (i_add rfl l_7 (by omega) (by omega)) ?_
              intro x1326_ h1327_
              exact ih j r hj hr hjr x1326_ m1299_ (by omega) (by omega) g1300_ q1318_ q1319_ q1320_ q1321_ q1322_ q1323_ t1324_ d1316_ l1317_ k1315_ (by omega)
          · refine T_qg (i_add rfl l_5 (by omega) (by omega)) (by omega) (by omega) ?_
            refine T_eq rfl l_0 (fun c1328_ => ?_) (fun c1328_ => ?_)
            · refine T_qg (i_add rfl l_6 (by omega) (by omega)) (by omega) (by omega) ?_
              refine T_qcE (t_X12_game hn _ _ _ _ _ _ m1247_ g1248_ (by decide) (by decide)) ?_
              intro r1329_ m1330_ e1333_ p1332_
              have g1331_ := p1332_.2.1
              have f1334_ : (m1330_ 1 1).toInt = (m1247_ 1 1).toInt := by rw [p1332_.2.2 1 1 (by decide)]
              have f1335_ : (m1330_ 77 8).toInt = (m1247_ 77 8).toInt := by rw [p1332_.2.2 77 8 (by decide)]
              have f1336_ : (m1330_ 7 8).toInt = (m1247_ 7 8).toInt := by rw [p1332_.2.2 7 8 (by decide)]
              have f1337_ : (m1330_ 78 312).toInt = (m1247_ 78 312).toInt := by rw [p1332_.2.2 78 312 (by decide)]
              have f1338_ : (m1330_ 16 8).toInt = (m1247_ 16 8).toInt := by rw [p1332_.2.2 16 8 (by decide)]
              have f1339_ : (m1330_ 80 312).toInt = (m1247_ 80 312).toInt := by rw [p1332_.2.2 80 312 (by decide)]
              have f1340_ : (m1330_ 0 12).toInt = (m1247_ 0 12).toInt := by rw [p1332_.2.2 0 12 (by decide)]
              have f1341_ : (m1330_ 77 67).toInt = (m1247_ 77 67).toInt := by rw [p1332_.2.2 77 67 (by decide)]
              have f1342_ : (m1330_ 7 9).toInt = (m1247_ 7 9).toInt := by rw [p1332_.2.2 7 9 (by decide)]
              have f1343_ : (m1330_ 78 313).toInt = (m1247_ 78 313).toInt := by rw [p1332_.2.2 78 313 (by decide)]
              have f1344_ : (m1330_ 16 9).toInt = (m1247_ 16 9).toInt := by rw [p1332_.2.2 16 9 (by decide)]
              have f1345_ : (m1330_ 80 313).toInt = (m1247_ 80 313).toInt := by rw [p1332_.2.2 80 313 (by decide)]
              have k1346_ : KT m1330_ := KT_cg k1263_ (p1332_.2.2 3 3 (by decide))
              have d1347_ : KD m1330_ m1330_ := KD_S d1264_ (p1332_.2.2) (p1332_.2.2 3 3 (by decide)) (p1332_.2.2 77 6 (by decide)) rfl
              have l1348_ : LR j m1330_ m1330_ := LR_S hj l1265_ (p1332_.2.2) rfl rfl (p1332_.2.2 77 17 (by decide))
              have q1349_ : (m1330_ 1 1).toInt = (m1330_ 77 8).toInt := by omega
              have q1350_ : (m1330_ 7 8).toInt = (m1330_ 78 312).toInt := by omega
              have q1351_ : (m1330_ 16 8).toInt = (m1330_ 80 312).toInt := by omega
              have q1352_ : (m1330_ 0 12).toInt = (m1330_ 77 67).toInt := by omega
              have q1353_ : (m1330_ 7 9).toInt = (m1330_ 78 313).toInt := by omega
              have q1354_ : (m1330_ 16 9).toInt = (m1330_ 80 313).toInt := by omega
              have f1356_ := r_1_1 hG
              have t1355_ : TR m1330_ := TR_le hT (by omega) (funext (fun s_ => by rw [p1332_.2.2 2 s_ (outc rfl), p1249_.2.2 2 s_ (outc rfl)])) (funext (fun s_ => by rw [p1332_.2.2 84 s_ (outc rfl), p1249_.2.2 84 s_ (outc rfl)]))
              refine T_ql (i_add rfl l_7 (by omega) (by omega)) ?_
              intro x1357_ h1358_
              exact ih j r hj hr hjr x1357_ m1330_ (by omega) (by omega) g1331_ q1349_ q1350_ q1351_ q1352_ q1353_ q1354_ t1355_ d1347_ l1348_ k1346_ (by omega)
            · refine T_qg (i_add rfl l_6 (by omega) (by omega)) (by omega) (by omega) ?_
              refine T_qcE (t_X12_game hn _ _ _ _ _ _ m1247_ g1248_ (by decide) (by decide)) ?_
              intro r1359_ m1360_ e1363_ p1362_
              have g1361_ := p1362_.2.1
              have f1364_ : (m1360_ 1 1).toInt = (m1247_ 1 1).toInt := by rw [p1362_.2.2 1 1 (by decide)]
              have f1365_ : (m1360_ 77 8).toInt = (m1247_ 77 8).toInt := by rw [p1362_.2.2 77 8 (by decide)]
              have f1366_ : (m1360_ 7 8).toInt = (m1247_ 7 8).toInt := by rw [p1362_.2.2 7 8 (by decide)]
              have f1367_ : (m1360_ 78 312).toInt = (m1247_ 78 312).toInt := by rw [p1362_.2.2 78 312 (by decide)]
              have f1368_ : (m1360_ 16 8).toInt = (m1247_ 16 8).toInt := by rw [p1362_.2.2 16 8 (by decide)]
              have f1369_ : (m1360_ 80 312).toInt = (m1247_ 80 312).toInt := by rw [p1362_.2.2 80 312 (by decide)]
              have f1370_ : (m1360_ 0 12).toInt = (m1247_ 0 12).toInt := by rw [p1362_.2.2 0 12 (by decide)]
              have f1371_ : (m1360_ 77 67).toInt = (m1247_ 77 67).toInt := by rw [p1362_.2.2 77 67 (by decide)]
              have f1372_ : (m1360_ 7 9).toInt = (m1247_ 7 9).toInt := by rw [p1362_.2.2 7 9 (by decide)]
              have f1373_ : (m1360_ 78 313).toInt = (m1247_ 78 313).toInt := by rw [p1362_.2.2 78 313 (by decide)]
              have f1374_ : (m1360_ 16 9).toInt = (m1247_ 16 9).toInt := by rw [p1362_.2.2 16 9 (by decide)]
              have f1375_ : (m1360_ 80 313).toInt = (m1247_ 80 313).toInt := by rw [p1362_.2.2 80 313 (by decide)]
              have k1376_ : KT m1360_ := KT_cg k1263_ (p1362_.2.2 3 3 (by decide))
              have d1377_ : KD m1360_ m1360_ := KD_S d1264_ (p1362_.2.2) (p1362_.2.2 3 3 (by decide)) (p1362_.2.2 77 6 (by decide)) rfl
              have l1378_ : LR j m1360_ m1360_ := LR_S hj l1265_ (p1362_.2.2) rfl rfl (p1362_.2.2 77 17 (by decide))
              have q1379_ : (m1360_ 1 1).toInt = (m1360_ 77 8).toInt := by omega
              have q1380_ : (m1360_ 7 8).toInt = (m1360_ 78 312).toInt := by omega
              have q1381_ : (m1360_ 16 8).toInt = (m1360_ 80 312).toInt := by omega
              have q1382_ : (m1360_ 0 12).toInt = (m1360_ 77 67).toInt := by omega
              have q1383_ : (m1360_ 7 9).toInt = (m1360_ 78 313).toInt := by omega
              have q1384_ : (m1360_ 16 9).toInt = (m1360_ 80 313).toInt := by omega
              have f1386_ := r_1_1 hG
              have t1385_ : TR m1360_ := TR_le hT (by omega) (funext (fun s_ => by rw [p1362_.2.2 2 s_ (outc rfl), p1249_.2.2 2 s_ (outc rfl)])) (funext (fun s_ => by rw [p1362_.2.2 84 s_ (outc rfl), p1249_.2.2 84 s_ (outc rfl)]))
              refine T_ql (i_add rfl l_7 (by omega) (by omega)) ?_
              intro x1387_ h1388_
              exact ih j r hj hr hjr x1387_ m1360_ (by omega) (by omega) g1361_ q1379_ q1380_ q1381_ q1382_ q1383_ q1384_ t1385_ d1377_ l1378_ k1376_ (by omega)
        · refine T_qg (i_add rfl l_6 (by omega) (by omega)) (by omega) (by omega) ?_
          refine T_qcE (t_X11_game hn _ _ _ _ _ _ M hG (by decide) (by decide)) ?_
          intro r1389_ m1390_ e1393_ p1392_
          have g1391_ := p1392_.2.1
          have f1394_ : (m1390_ 1 1).toInt = (M 1 1).toInt := by rw [p1392_.2.2 1 1 (by decide)]
          have f1395_ : (m1390_ 77 8).toInt = (M 77 8).toInt := by rw [p1392_.2.2 77 8 (by decide)]
          have f1396_ : (m1390_ 7 8).toInt = (M 7 8).toInt := by rw [p1392_.2.2 7 8 (by decide)]
          have f1397_ : (m1390_ 78 312).toInt = (M 78 312).toInt := by rw [p1392_.2.2 78 312 (by decide)]
          have f1398_ : (m1390_ 16 8).toInt = (M 16 8).toInt := by rw [p1392_.2.2 16 8 (by decide)]
          have f1399_ : (m1390_ 80 312).toInt = (M 80 312).toInt := by rw [p1392_.2.2 80 312 (by decide)]
          have f1400_ : (m1390_ 0 12).toInt = (M 0 12).toInt := by rw [p1392_.2.2 0 12 (by decide)]
          have f1401_ : (m1390_ 77 67).toInt = (M 77 67).toInt := by rw [p1392_.2.2 77 67 (by decide)]
          have f1402_ : (m1390_ 7 9).toInt = (M 7 9).toInt := by rw [p1392_.2.2 7 9 (by decide)]
          have f1403_ : (m1390_ 78 313).toInt = (M 78 313).toInt := by rw [p1392_.2.2 78 313 (by decide)]
          have f1404_ : (m1390_ 16 9).toInt = (M 16 9).toInt := by rw [p1392_.2.2 16 9 (by decide)]
          have f1405_ : (m1390_ 80 313).toInt = (M 80 313).toInt := by rw [p1392_.2.2 80 313 (by decide)]
          have k1406_ : KT m1390_ := KT_cg hK (p1392_.2.2 3 3 (by decide))
          have d1407_ : KD m1390_ m1390_ := KD_S hD (p1392_.2.2) (p1392_.2.2 3 3 (by decide)) (p1392_.2.2 77 6 (by decide)) rfl
          have l1408_ : LR j m1390_ m1390_ := LR_S hj hL (p1392_.2.2) rfl rfl (p1392_.2.2 77 17 (by decide))
          refine T_qg (i_add rfl l_1 (by omega) (by omega)) (by omega) (by omega) ?_
          refine T_qg (i_add rfl l_2 (by omega) (by omega)) (by omega) (by omega) ?_
          refine T_qg (i_add rfl l_3 (by omega) (by omega)) (by omega) (by omega) ?_
          refine T_qg (i_add rfl l_4 (by omega) (by omega)) (by omega) (by omega) ?_
          refine T_eq rfl l_0 (fun c1409_ => ?_) (fun c1409_ => ?_)
          · refine T_qg (i_add rfl l_5 (by omega) (by omega)) (by omega) (by omega) ?_
            refine T_eq rfl l_0 (fun c1410_ => ?_) (fun c1410_ => ?_)
            · refine T_qg (i_add rfl l_6 (by omega) (by omega)) (by omega) (by omega) ?_
              refine T_qcE (t_X12_game hn _ _ _ _ _ _ m1390_ g1391_ (by decide) (by decide)) ?_
              intro r1411_ m1412_ e1415_ p1414_
              have g1413_ := p1414_.2.1
              have f1416_ : (m1412_ 1 1).toInt = (m1390_ 1 1).toInt := by rw [p1414_.2.2 1 1 (by decide)]
              have f1417_ : (m1412_ 77 8).toInt = (m1390_ 77 8).toInt := by rw [p1414_.2.2 77 8 (by decide)]
              have f1418_ : (m1412_ 7 8).toInt = (m1390_ 7 8).toInt := by rw [p1414_.2.2 7 8 (by decide)]
              have f1419_ : (m1412_ 78 312).toInt = (m1390_ 78 312).toInt := by rw [p1414_.2.2 78 312 (by decide)]
              have f1420_ : (m1412_ 16 8).toInt = (m1390_ 16 8).toInt := by rw [p1414_.2.2 16 8 (by decide)]
              have f1421_ : (m1412_ 80 312).toInt = (m1390_ 80 312).toInt := by rw [p1414_.2.2 80 312 (by decide)]
              have f1422_ : (m1412_ 0 12).toInt = (m1390_ 0 12).toInt := by rw [p1414_.2.2 0 12 (by decide)]
              have f1423_ : (m1412_ 77 67).toInt = (m1390_ 77 67).toInt := by rw [p1414_.2.2 77 67 (by decide)]
              have f1424_ : (m1412_ 7 9).toInt = (m1390_ 7 9).toInt := by rw [p1414_.2.2 7 9 (by decide)]
              have f1425_ : (m1412_ 78 313).toInt = (m1390_ 78 313).toInt := by rw [p1414_.2.2 78 313 (by decide)]
              have f1426_ : (m1412_ 16 9).toInt = (m1390_ 16 9).toInt := by rw [p1414_.2.2 16 9 (by decide)]
              have f1427_ : (m1412_ 80 313).toInt = (m1390_ 80 313).toInt := by rw [p1414_.2.2 80 313 (by decide)]
              have k1428_ : KT m1412_ := KT_cg k1406_ (p1414_.2.2 3 3 (by decide))
              have d1429_ : KD m1412_ m1412_ := KD_S d1407_ (p1414_.2.2) (p1414_.2.2 3 3 (by decide)) (p1414_.2.2 77 6 (by decide)) rfl
              have l1430_ : LR j m1412_ m1412_ := LR_S hj l1408_ (p1414_.2.2) rfl rfl (p1414_.2.2 77 17 (by decide))
              have q1431_ : (m1412_ 1 1).toInt = (m1412_ 77 8).toInt := by omega
              have q1432_ : (m1412_ 7 8).toInt = (m1412_ 78 312).toInt := by omega
              have q1433_ : (m1412_ 16 8).toInt = (m1412_ 80 312).toInt := by omega
              have q1434_ : (m1412_ 0 12).toInt = (m1412_ 77 67).toInt := by omega
              have q1435_ : (m1412_ 7 9).toInt = (m1412_ 78 313).toInt := by omega
              have q1436_ : (m1412_ 16 9).toInt = (m1412_ 80 313).toInt := by omega
              have f1438_ := r_1_1 hG
              have t1437_ : TR m1412_ := TR_le hT (by omega) (funext (fun s_ => by rw [p1414_.2.2 2 s_ (outc rfl), p1392_.2.2 2 s_ (outc rfl)])) (funext (fun s_ => by rw [p1414_.2.2 84 s_ (outc rfl), p1392_.2.2 84 s_ (outc rfl)]))
              refine T_ql (i_add rfl l_7 (by omega) (by omega)) ?_
              intro x1439_ h1440_
              exact ih j r hj hr hjr x1439_ m1412_ (by omega) (by omega) g1413_ q1431_ q1432_ q1433_ q1434_ q1435_ q1436_ t1437_ d1429_ l1430_ k1428_ (by omega)
            · refine T_qg (i_add rfl l_6 (by omega) (by omega)) (by omega) (by omega) ?_
              refine T_qcE (t_X12_game hn _ _ _ _ _ _ m1390_ g1391_ (by decide) (by decide)) ?_
              intro r1441_ m1442_ e1445_ p1444_
              have g1443_ := p1444_.2.1
              have f1446_ : (m1442_ 1 1).toInt = (m1390_ 1 1).toInt := by rw [p1444_.2.2 1 1 (by decide)]
              have f1447_ : (m1442_ 77 8).toInt = (m1390_ 77 8).toInt := by rw [p1444_.2.2 77 8 (by decide)]
              have f1448_ : (m1442_ 7 8).toInt = (m1390_ 7 8).toInt := by rw [p1444_.2.2 7 8 (by decide)]
              have f1449_ : (m1442_ 78 312).toInt = (m1390_ 78 312).toInt := by rw [p1444_.2.2 78 312 (by decide)]
              have f1450_ : (m1442_ 16 8).toInt = (m1390_ 16 8).toInt := by rw [p1444_.2.2 16 8 (by decide)]
              have f1451_ : (m1442_ 80 312).toInt = (m1390_ 80 312).toInt := by rw [p1444_.2.2 80 312 (by decide)]
              have f1452_ : (m1442_ 0 12).toInt = (m1390_ 0 12).toInt := by rw [p1444_.2.2 0 12 (by decide)]
              have f1453_ : (m1442_ 77 67).toInt = (m1390_ 77 67).toInt := by rw [p1444_.2.2 77 67 (by decide)]
              have f1454_ : (m1442_ 7 9).toInt = (m1390_ 7 9).toInt := by rw [p1444_.2.2 7 9 (by decide)]
              have f1455_ : (m1442_ 78 313).toInt = (m1390_ 78 313).toInt := by rw [p1444_.2.2 78 313 (by decide)]
              have f1456_ : (m1442_ 16 9).toInt = (m1390_ 16 9).toInt := by rw [p1444_.2.2 16 9 (by decide)]
              have f1457_ : (m1442_ 80 313).toInt = (m1390_ 80 313).toInt := by rw [p1444_.2.2 80 313 (by decide)]
              have k1458_ : KT m1442_ := KT_cg k1406_ (p1444_.2.2 3 3 (by decide))
              have d1459_ : KD m1442_ m1442_ := KD_S d1407_ (p1444_.2.2) (p1444_.2.2 3 3 (by decide)) (p1444_.2.2 77 6 (by decide)) rfl
              have l1460_ : LR j m1442_ m1442_ := LR_S hj l1408_ (p1444_.2.2) rfl rfl (p1444_.2.2 77 17 (by decide))
              have q1461_ : (m1442_ 1 1).toInt = (m1442_ 77 8).toInt := by omega
              have q1462_ : (m1442_ 7 8).toInt = (m1442_ 78 312).toInt := by omega
              have q1463_ : (m1442_ 16 8).toInt = (m1442_ 80 312).toInt := by omega
              have q1464_ : (m1442_ 0 12).toInt = (m1442_ 77 67).toInt := by omega
              have q1465_ : (m1442_ 7 9).toInt = (m1442_ 78 313).toInt := by omega
              have q1466_ : (m1442_ 16 9).toInt = (m1442_ 80 313).toInt := by omega
              have f1468_ := r_1_1 hG
              have t1467_ : TR m1442_ := TR_le hT (by omega) (funext (fun s_ => by rw [p1444_.2.2 2 s_ (outc rfl), p1392_.2.2 2 s_ (outc rfl)])) (funext (fun s_ => by rw [p1444_.2.2 84 s_ (outc rfl), p1392_.2.2 84 s_ (outc rfl)]))
              refine T_ql (i_add rfl l_7 (by omega) (by omega)) ?_
              intro x1469_ h1470_
              exact ih j r hj hr hjr x1469_ m1442_ (by omega) (by omega) g1443_ q1461_ q1462_ q1463_ q1464_ q1465_ q1466_ t1467_ d1459_ l1460_ k1458_ (by omega)
          · refine T_qg (i_add rfl l_5 (by omega) (by omega)) (by omega) (by omega) ?_
            refine T_eq rfl l_0 (fun c1471_ => ?_) (fun c1471_ => ?_)
            · refine T_qg (i_add rfl l_6 (by omega) (by omega)) (by omega) (by omega) ?_
              refine T_qcE (t_X12_game hn _ _ _ _ _ _ m1390_ g1391_ (by decide) (by decide)) ?_
              intro r1472_ m1473_ e1476_ p1475_
              have g1474_ := p1475_.2.1
              have f1477_ : (m1473_ 1 1).toInt = (m1390_ 1 1).toInt := by rw [p1475_.2.2 1 1 (by decide)]
              have f1478_ : (m1473_ 77 8).toInt = (m1390_ 77 8).toInt := by rw [p1475_.2.2 77 8 (by decide)]
              have f1479_ : (m1473_ 7 8).toInt = (m1390_ 7 8).toInt := by rw [p1475_.2.2 7 8 (by decide)]
              have f1480_ : (m1473_ 78 312).toInt = (m1390_ 78 312).toInt := by rw [p1475_.2.2 78 312 (by decide)]
              have f1481_ : (m1473_ 16 8).toInt = (m1390_ 16 8).toInt := by rw [p1475_.2.2 16 8 (by decide)]
              have f1482_ : (m1473_ 80 312).toInt = (m1390_ 80 312).toInt := by rw [p1475_.2.2 80 312 (by decide)]
              have f1483_ : (m1473_ 0 12).toInt = (m1390_ 0 12).toInt := by rw [p1475_.2.2 0 12 (by decide)]
              have f1484_ : (m1473_ 77 67).toInt = (m1390_ 77 67).toInt := by rw [p1475_.2.2 77 67 (by decide)]
              have f1485_ : (m1473_ 7 9).toInt = (m1390_ 7 9).toInt := by rw [p1475_.2.2 7 9 (by decide)]
              have f1486_ : (m1473_ 78 313).toInt = (m1390_ 78 313).toInt := by rw [p1475_.2.2 78 313 (by decide)]
              have f1487_ : (m1473_ 16 9).toInt = (m1390_ 16 9).toInt := by rw [p1475_.2.2 16 9 (by decide)]
              have f1488_ : (m1473_ 80 313).toInt = (m1390_ 80 313).toInt := by rw [p1475_.2.2 80 313 (by decide)]
              have k1489_ : KT m1473_ := KT_cg k1406_ (p1475_.2.2 3 3 (by decide))
              have d1490_ : KD m1473_ m1473_ := KD_S d1407_ (p1475_.2.2) (p1475_.2.2 3 3 (by decide)) (p1475_.2.2 77 6 (by decide)) rfl
              have l1491_ : LR j m1473_ m1473_ := LR_S hj l1408_ (p1475_.2.2) rfl rfl (p1475_.2.2 77 17 (by decide))
              have q1492_ : (m1473_ 1 1).toInt = (m1473_ 77 8).toInt := by omega
              have q1493_ : (m1473_ 7 8).toInt = (m1473_ 78 312).toInt := by omega
              have q1494_ : (m1473_ 16 8).toInt = (m1473_ 80 312).toInt := by omega
              have q1495_ : (m1473_ 0 12).toInt = (m1473_ 77 67).toInt := by omega
              have q1496_ : (m1473_ 7 9).toInt = (m1473_ 78 313).toInt := by omega
              have q1497_ : (m1473_ 16 9).toInt = (m1473_ 80 313).toInt := by omega
              have f1499_ := r_1_1 hG
              have t1498_ : TR m1473_ := TR_le hT (by omega) (funext (fun s_ => by rw [p1475_.2.2 2 s_ (outc rfl), p1392_.2.2 2 s_ (outc rfl)])) (funext (fun s_ => by rw [p1475_.2.2 84 s_ (outc rfl), p1392_.2.2 84 s_ (outc rfl)]))
              refine T_ql (i_add rfl l_7 (by omega) (by omega)) ?_
              intro x1500_ h1501_
              exact ih j r hj hr hjr x1500_ m1473_ (by omega) (by omega) g1474_ q1492_ q1493_ q1494_ q1495_ q1496_ q1497_ t1498_ d1490_ l1491_ k1489_ (by omega)
            · refine T_qg (i_add rfl l_6 (by omega) (by omega)) (by omega) (by omega) ?_
              refine T_qcE (t_X12_game hn _ _ _ _ _ _ m1390_ g1391_ (by decide) (by decide)) ?_
              intro r1502_ m1503_ e1506_ p1505_
              have g1504_ := p1505_.2.1
              have f1507_ : (m1503_ 1 1).toInt = (m1390_ 1 1).toInt := by rw [p1505_.2.2 1 1 (by decide)]
              have f1508_ : (m1503_ 77 8).toInt = (m1390_ 77 8).toInt := by rw [p1505_.2.2 77 8 (by decide)]
              have f1509_ : (m1503_ 7 8).toInt = (m1390_ 7 8).toInt := by rw [p1505_.2.2 7 8 (by decide)]
              have f1510_ : (m1503_ 78 312).toInt = (m1390_ 78 312).toInt := by rw [p1505_.2.2 78 312 (by decide)]
              have f1511_ : (m1503_ 16 8).toInt = (m1390_ 16 8).toInt := by rw [p1505_.2.2 16 8 (by decide)]
              have f1512_ : (m1503_ 80 312).toInt = (m1390_ 80 312).toInt := by rw [p1505_.2.2 80 312 (by decide)]
              have f1513_ : (m1503_ 0 12).toInt = (m1390_ 0 12).toInt := by rw [p1505_.2.2 0 12 (by decide)]
              have f1514_ : (m1503_ 77 67).toInt = (m1390_ 77 67).toInt := by rw [p1505_.2.2 77 67 (by decide)]
              have f1515_ : (m1503_ 7 9).toInt = (m1390_ 7 9).toInt := by rw [p1505_.2.2 7 9 (by decide)]
              have f1516_ : (m1503_ 78 313).toInt = (m1390_ 78 313).toInt := by rw [p1505_.2.2 78 313 (by decide)]
              have f1517_ : (m1503_ 16 9).toInt = (m1390_ 16 9).toInt := by rw [p1505_.2.2 16 9 (by decide)]
              have f1518_ : (m1503_ 80 313).toInt = (m1390_ 80 313).toInt := by rw [p1505_.2.2 80 313 (by decide)]
              have k1519_ : KT m1503_ := KT_cg k1406_ (p1505_.2.2 3 3 (by decide))
              have d1520_ : KD m1503_ m1503_ := KD_S d1407_ (p1505_.2.2) (p1505_.2.2 3 3 (by decide)) (p1505_.2.2 77 6 (by decide)) rfl
              have l1521_ : LR j m1503_ m1503_ := LR_S hj l1408_ (p1505_.2.2) rfl rfl (p1505_.2.2 77 17 (by decide))
              have q1522_ : (m1503_ 1 1).toInt = (m1503_ 77 8).toInt := by omega
              have q1523_ : (m1503_ 7 8).toInt = (m1503_ 78 312).toInt := by omega
              have q1524_ : (m1503_ 16 8).toInt = (m1503_ 80 312).toInt := by omega
              have q1525_ : (m1503_ 0 12).toInt = (m1503_ 77 67).toInt := by omega
              have q1526_ : (m1503_ 7 9).toInt = (m1503_ 78 313).toInt := by omega
              have q1527_ : (m1503_ 16 9).toInt = (m1503_ 80 313).toInt := by omega
              have f1529_ := r_1_1 hG
              have t1528_ : TR m1503_ := TR_le hT (by omega) (funext (fun s_ => by rw [p1505_.2.2 2 s_ (outc rfl), p1392_.2.2 2 s_ (outc rfl)])) (funext (fun s_ => by rw [p1505_.2.2 84 s_ (outc rfl), p1392_.2.2 84 s_ (outc rfl)]))
              refine T_ql (i_add rfl l_7 (by omega) (by omega)) ?_
              intro x1530_ h1531_
              exact ih j r hj hr hjr x1530_ m1503_ (by omega) (by omega) g1504_ q1522_ q1523_ q1524_ q1525_ q1526_ q1527_ t1528_ d1520_ l1521_ k1519_ (by omega)
    refine T_sw rfl l_19 (fun s1532_ => ?_) (fun s1532_ => ?_)
    · refine T_qg (i_add rfl l_1 (by omega) (by omega)) (by omega) (by omega) ?_
      refine T_qg (i_add rfl l_2 (by omega) (by omega)) (by omega) (by omega) ?_
      refine T_qg (i_add rfl l_3 (by omega) (by omega)) (by omega) (by omega) ?_
      refine T_qg (i_add rfl l_4 (by omega) (by omega)) (by omega) (by omega) ?_
      refine T_qg (i_add rfl l_5 (by omega) (by omega)) (by omega) (by omega) ?_
      refine T_qg (i_add rfl l_6 (by omega) (by omega)) (by omega) (by omega) ?_
      refine T_qcE (t_X11_court hn _ _ _ _ _ _ M hG) ?_
      intro r1533_ m1534_ e1537_ p1536_
      have g1535_ := p1536_.2.1
      have f1538_ : (m1534_ 1 1).toInt = (M 1 1).toInt := by rw [p1536_.2.2 1 1 (by decide)]
      have f1539_ : (m1534_ 77 8).toInt = (M 77 8).toInt := by rw [p1536_.2.2 77 8 (by decide)]
      have f1540_ : (m1534_ 7 8).toInt = (M 7 8).toInt := by rw [p1536_.2.2 7 8 (by decide)]
      have f1541_ : (m1534_ 78 312).toInt = (M 78 312).toInt := by rw [p1536_.2.2 78 312 (by decide)]
      have f1542_ : (m1534_ 16 8).toInt = (M 16 8).toInt := by rw [p1536_.2.2 16 8 (by decide)]
      have f1543_ : (m1534_ 80 312).toInt = (M 80 312).toInt := by rw [p1536_.2.2 80 312 (by decide)]
      have f1544_ : (m1534_ 0 12).toInt = (M 0 12).toInt := by rw [p1536_.2.2 0 12 (by decide)]
      have f1545_ : (m1534_ 77 67).toInt = (M 77 67).toInt := by rw [p1536_.2.2 77 67 (by decide)]
      have f1546_ : (m1534_ 7 9).toInt = (M 7 9).toInt := by rw [p1536_.2.2 7 9 (by decide)]
      have f1547_ : (m1534_ 78 313).toInt = (M 78 313).toInt := by rw [p1536_.2.2 78 313 (by decide)]
      have f1548_ : (m1534_ 16 9).toInt = (M 16 9).toInt := by rw [p1536_.2.2 16 9 (by decide)]
      have f1549_ : (m1534_ 80 313).toInt = (M 80 313).toInt := by rw [p1536_.2.2 80 313 (by decide)]
      have k1550_ : KT m1534_ := KT_cg hK (p1536_.2.2 3 3 (by decide))
      have d1551_ : KD m1534_ m1534_ := KD_S hD (p1536_.2.2) (p1536_.2.2 3 3 (by decide)) (p1536_.2.2 77 6 (by decide)) rfl
      have l1552_ : LR j m1534_ m1534_ := LR_S hj hL (p1536_.2.2) rfl rfl (p1536_.2.2 77 17 (by decide))
      refine T_qg (i_add rfl l_1 (by omega) (by omega)) (by omega) (by omega) ?_
      refine T_qg (i_add rfl l_2 (by omega) (by omega)) (by omega) (by omega) ?_
      refine T_qg (i_add rfl l_3 (by omega) (by omega)) (by omega) (by omega) ?_
      refine T_qg (i_add rfl l_4 (by omega) (by omega)) (by omega) (by omega) ?_
      refine T_qg (i_add rfl l_5 (by omega) (by omega)) (by omega) (by omega) ?_
      refine T_qg (i_add rfl l_6 (by omega) (by omega)) (by omega) (by omega) ?_
      refine T_qcE (t_X12_court hn _ _ _ _ _ _ m1534_ g1535_) ?_
      intro r1553_ m1554_ e1557_ p1556_
      have g1555_ := p1556_.2.1
      have f1558_ : (m1554_ 1 1).toInt = (m1534_ 1 1).toInt := by rw [p1556_.2.2 1 1 (by decide)]
      have f1559_ : (m1554_ 77 8).toInt = (m1534_ 77 8).toInt := by rw [p1556_.2.2 77 8 (by decide)]
      have f1560_ : (m1554_ 7 8).toInt = (m1534_ 7 8).toInt := by rw [p1556_.2.2 7 8 (by decide)]
      have f1561_ : (m1554_ 78 312).toInt = (m1534_ 78 312).toInt := by rw [p1556_.2.2 78 312 (by decide)]
      have f1562_ : (m1554_ 16 8).toInt = (m1534_ 16 8).toInt := by rw [p1556_.2.2 16 8 (by decide)]
      have f1563_ : (m1554_ 80 312).toInt = (m1534_ 80 312).toInt := by rw [p1556_.2.2 80 312 (by decide)]
      have f1564_ : (m1554_ 0 12).toInt = (m1534_ 0 12).toInt := by rw [p1556_.2.2 0 12 (by decide)]
      have f1565_ : (m1554_ 77 67).toInt = (m1534_ 77 67).toInt := by rw [p1556_.2.2 77 67 (by decide)]
      have f1566_ : (m1554_ 7 9).toInt = (m1534_ 7 9).toInt := by rw [p1556_.2.2 7 9 (by decide)]
      have f1567_ : (m1554_ 78 313).toInt = (m1534_ 78 313).toInt := by rw [p1556_.2.2 78 313 (by decide)]
      have f1568_ : (m1554_ 16 9).toInt = (m1534_ 16 9).toInt := by rw [p1556_.2.2 16 9 (by decide)]
      have f1569_ : (m1554_ 80 313).toInt = (m1534_ 80 313).toInt := by rw [p1556_.2.2 80 313 (by decide)]
      have k1570_ : KT m1554_ := KT_cg k1550_ (p1556_.2.2 3 3 (by decide))
      have d1571_ : KD m1554_ m1554_ := KD_S d1551_ (p1556_.2.2) (p1556_.2.2 3 3 (by decide)) (p1556_.2.2 77 6 (by decide)) rfl
      have l1572_ : LR j m1554_ m1554_ := LR_S hj l1552_ (p1556_.2.2) rfl rfl (p1556_.2.2 77 17 (by decide))
      have q1573_ : (m1554_ 1 1).toInt = (m1554_ 77 8).toInt := by omega
      have q1574_ : (m1554_ 7 8).toInt = (m1554_ 78 312).toInt := by omega
      have q1575_ : (m1554_ 16 8).toInt = (m1554_ 80 312).toInt := by omega
      have q1576_ : (m1554_ 0 12).toInt = (m1554_ 77 67).toInt := by omega
      have q1577_ : (m1554_ 7 9).toInt = (m1554_ 78 313).toInt := by omega
      have q1578_ : (m1554_ 16 9).toInt = (m1554_ 80 313).toInt := by omega
      have f1580_ := r_1_1 hG
      have t1579_ : TR m1554_ := TR_le hT (by omega) (funext (fun s_ => by rw [p1556_.2.2 2 s_ (outc rfl), p1536_.2.2 2 s_ (outc rfl)])) (funext (fun s_ => by rw [p1556_.2.2 84 s_ (outc rfl), p1536_.2.2 84 s_ (outc rfl)]))
      refine T_ql (i_add rfl l_7 (by omega) (by omega)) ?_
      intro x1581_ h1582_
      exact ih j r hj hr hjr x1581_ m1554_ (by omega) (by omega) g1555_ q1573_ q1574_ q1575_ q1576_ q1577_ q1578_ t1579_ d1571_ l1572_ k1570_ (by omega)
    refine T_sw rfl l_20 (fun s1583_ => ?_) (fun s1583_ => ?_)
    · refine T_qcE (t_X11_keep hn M hG) ?_
      intro r1584_ m1585_ e1588_ p1587_
      have g1586_ := p1587_.2.1
      have f1589_ : (m1585_ 1 1).toInt = (M 1 1).toInt := by rw [p1587_.2.2 1 1 (by decide)]
      have f1590_ : (m1585_ 77 8).toInt = (M 77 8).toInt := by rw [p1587_.2.2 77 8 (by decide)]
      have f1591_ : (m1585_ 7 8).toInt = (M 7 8).toInt := by rw [p1587_.2.2 7 8 (by decide)]
      have f1592_ : (m1585_ 78 312).toInt = (M 78 312).toInt := by rw [p1587_.2.2 78 312 (by decide)]
      have f1593_ : (m1585_ 80 312).toInt = (M 80 312).toInt := by rw [p1587_.2.2 80 312 (by decide)]
      have f1594_ : (m1585_ 77 67).toInt = (M 77 67).toInt := by rw [p1587_.2.2 77 67 (by decide)]
      have f1595_ : (m1585_ 7 9).toInt = (M 7 9).toInt := by rw [p1587_.2.2 7 9 (by decide)]
      have f1596_ : (m1585_ 78 313).toInt = (M 78 313).toInt := by rw [p1587_.2.2 78 313 (by decide)]
      have f1597_ : (m1585_ 80 313).toInt = (M 80 313).toInt := by rw [p1587_.2.2 80 313 (by decide)]
      have w1598_ := p1587_.1
      have k1599_ : KT m1585_ := KT_cg hK (p1587_.2.2 3 3 (by decide))
      have d1600_ : KD m1585_ m1585_ := KD_S hD (p1587_.2.2) (p1587_.2.2 3 3 (by decide)) (p1587_.2.2 77 6 (by decide)) rfl
      have l1601_ : LR j m1585_ m1585_ := LR_S hj hL (p1587_.2.2) rfl rfl (p1587_.2.2 77 17 (by decide))
      refine T_qcE (t_X12_keep hn m1585_ g1586_) ?_
      intro r1602_ m1603_ e1606_ p1605_
      have g1604_ := p1605_.2.1
      have f1607_ : (m1603_ 1 1).toInt = (m1585_ 1 1).toInt := by rw [p1605_.2.2 1 1 (by decide)]
      have f1608_ : (m1603_ 77 8).toInt = (m1585_ 77 8).toInt := by rw [p1605_.2.2 77 8 (by decide)]
      have f1609_ : (m1603_ 7 8).toInt = (m1585_ 7 8).toInt := by rw [p1605_.2.2 7 8 (by decide)]
      have f1610_ : (m1603_ 78 312).toInt = (m1585_ 78 312).toInt := by rw [p1605_.2.2 78 312 (by decide)]
      have f1611_ : (m1603_ 16 8).toInt = (m1585_ 16 8).toInt := by rw [p1605_.2.2 16 8 (by decide)]
      have f1612_ : (m1603_ 0 12).toInt = (m1585_ 0 12).toInt := by rw [p1605_.2.2 0 12 (by decide)]
      have f1613_ : (m1603_ 7 9).toInt = (m1585_ 7 9).toInt := by rw [p1605_.2.2 7 9 (by decide)]
      have f1614_ : (m1603_ 78 313).toInt = (m1585_ 78 313).toInt := by rw [p1605_.2.2 78 313 (by decide)]
      have f1615_ : (m1603_ 16 9).toInt = (m1585_ 16 9).toInt := by rw [p1605_.2.2 16 9 (by decide)]
      have w1616_ := p1605_.1
      have k1617_ : KT m1603_ := KT_cg k1599_ (p1605_.2.2 3 3 (by decide))
      have d1618_ : KD m1603_ m1603_ := KD_S d1600_ (p1605_.2.2) (p1605_.2.2 3 3 (by decide)) (p1605_.2.2 77 6 (by decide)) rfl
      have l1619_ : LR j m1603_ m1603_ := LR_S hj l1601_ (p1605_.2.2) rfl rfl (p1605_.2.2 77 17 (by decide))
      have q1620_ : (m1603_ 1 1).toInt = (m1603_ 77 8).toInt := by omega
      have q1621_ : (m1603_ 7 8).toInt = (m1603_ 78 312).toInt := by omega
      have q1622_ : (m1603_ 16 8).toInt = (m1603_ 80 312).toInt := by omega
      have q1623_ : (m1603_ 0 12).toInt = (m1603_ 77 67).toInt := by omega
      have q1624_ : (m1603_ 7 9).toInt = (m1603_ 78 313).toInt := by omega
      have q1625_ : (m1603_ 16 9).toInt = (m1603_ 80 313).toInt := by omega
      have f1627_ := r_1_1 hG
      have t1626_ : TR m1603_ := TR_le hT (by omega) (funext (fun s_ => by rw [p1605_.2.2 2 s_ (outc rfl), p1587_.2.2 2 s_ (outc rfl)])) (funext (fun s_ => by rw [p1605_.2.2 84 s_ (outc rfl), p1587_.2.2 84 s_ (outc rfl)]))
      refine T_ql (i_add rfl l_7 (by omega) (by omega)) ?_
      intro x1628_ h1629_
      exact ih j r hj hr hjr x1628_ m1603_ (by omega) (by omega) g1604_ q1620_ q1621_ q1622_ q1623_ q1624_ q1625_ t1626_ d1618_ l1619_ k1617_ (by omega)
    refine T_sw rfl l_21 (fun s1630_ => ?_) (fun s1630_ => ?_)
    · refine T_qcE (t_X11_undo hn M hG) ?_
      intro r1631_ m1632_ e1635_ p1634_
      have g1633_ := p1634_.2.2.1
      have f1636_ : (m1632_ 1 1).toInt = (M 1 1).toInt := by rw [p1634_.2.2.2 1 1 (by decide)]
      have f1637_ : (m1632_ 77 8).toInt = (M 77 8).toInt := by rw [p1634_.2.2.2 77 8 (by decide)]
      have f1638_ : (m1632_ 78 312).toInt = (M 78 312).toInt := by rw [p1634_.2.2.2 78 312 (by decide)]
      have f1639_ : (m1632_ 16 8).toInt = (M 16 8).toInt := by rw [p1634_.2.2.2 16 8 (by decide)]
      have f1640_ : (m1632_ 80 312).toInt = (M 80 312).toInt := by rw [p1634_.2.2.2 80 312 (by decide)]
      have f1641_ : (m1632_ 0 12).toInt = (M 0 12).toInt := by rw [p1634_.2.2.2 0 12 (by decide)]
      have f1642_ : (m1632_ 77 67).toInt = (M 77 67).toInt := by rw [p1634_.2.2.2 77 67 (by decide)]
      have f1643_ : (m1632_ 78 313).toInt = (M 78 313).toInt := by rw [p1634_.2.2.2 78 313 (by decide)]
      have f1644_ : (m1632_ 16 9).toInt = (M 16 9).toInt := by rw [p1634_.2.2.2 16 9 (by decide)]
      have f1645_ : (m1632_ 80 313).toInt = (M 80 313).toInt := by rw [p1634_.2.2.2 80 313 (by decide)]
      have w1646_ := p1634_.2.1
      have k1647_ : KT m1632_ := KT_cg hK (p1634_.2.2.2 3 3 (by decide))
      have d1648_ : KD m1632_ m1632_ := KD_S hD (p1634_.2.2.2) (p1634_.2.2.2 3 3 (by decide)) (p1634_.2.2.2 77 6 (by decide)) rfl
      have l1649_ : LR j m1632_ m1632_ := LR_S hj hL (p1634_.2.2.2) rfl rfl (p1634_.2.2.2 77 17 (by decide))
      refine T_qcE (t_X12_undo hn m1632_ g1633_) ?_
      intro r1650_ m1651_ e1654_ p1653_
      have g1652_ := p1653_.2.2.1
      have f1655_ : (m1651_ 1 1).toInt = (m1632_ 1 1).toInt := by rw [p1653_.2.2.2 1 1 (by decide)]
      have f1656_ : (m1651_ 77 8).toInt = (m1632_ 77 8).toInt := by rw [p1653_.2.2.2 77 8 (by decide)]
      have f1657_ : (m1651_ 7 8).toInt = (m1632_ 7 8).toInt := by rw [p1653_.2.2.2 7 8 (by decide)]
      have f1658_ : (m1651_ 16 8).toInt = (m1632_ 16 8).toInt := by rw [p1653_.2.2.2 16 8 (by decide)]
      have f1659_ : (m1651_ 80 312).toInt = (m1632_ 80 312).toInt := by rw [p1653_.2.2.2 80 312 (by decide)]
      have f1660_ : (m1651_ 0 12).toInt = (m1632_ 0 12).toInt := by rw [p1653_.2.2.2 0 12 (by decide)]
      have f1661_ : (m1651_ 77 67).toInt = (m1632_ 77 67).toInt := by rw [p1653_.2.2.2 77 67 (by decide)]
      have f1662_ : (m1651_ 7 9).toInt = (m1632_ 7 9).toInt := by rw [p1653_.2.2.2 7 9 (by decide)]
      have f1663_ : (m1651_ 16 9).toInt = (m1632_ 16 9).toInt := by rw [p1653_.2.2.2 16 9 (by decide)]
      have f1664_ : (m1651_ 80 313).toInt = (m1632_ 80 313).toInt := by rw [p1653_.2.2.2 80 313 (by decide)]
      have w1665_ := p1653_.2.1
      have k1666_ : KT m1651_ := KT_cg k1647_ (p1653_.2.2.2 3 3 (by decide))
      have d1667_ : KD m1651_ m1651_ := KD_S d1648_ (p1653_.2.2.2) (p1653_.2.2.2 3 3 (by decide)) (p1653_.2.2.2 77 6 (by decide)) rfl
      have l1668_ : LR j m1651_ m1651_ := LR_S hj l1649_ (p1653_.2.2.2) rfl rfl (p1653_.2.2.2 77 17 (by decide))
      have q1669_ : (m1651_ 1 1).toInt = (m1651_ 77 8).toInt := by omega
      have q1670_ : (m1651_ 7 8).toInt = (m1651_ 78 312).toInt := by omega
      have q1671_ : (m1651_ 16 8).toInt = (m1651_ 80 312).toInt := by omega
      have q1672_ : (m1651_ 0 12).toInt = (m1651_ 77 67).toInt := by omega
      have q1673_ : (m1651_ 7 9).toInt = (m1651_ 78 313).toInt := by omega
      have q1674_ : (m1651_ 16 9).toInt = (m1651_ 80 313).toInt := by omega
      have f1676_ := r_1_1 hG
      have t1675_ : TR m1651_ := TR_le hT (by omega) (funext (fun s_ => by rw [p1653_.2.2.2 2 s_ (outc rfl), p1634_.2.2.2 2 s_ (outc rfl)])) (funext (fun s_ => by rw [p1653_.2.2.2 84 s_ (outc rfl), p1634_.2.2.2 84 s_ (outc rfl)]))
      refine T_ql (i_add rfl l_7 (by omega) (by omega)) ?_
      intro x1677_ h1678_
      exact ih j r hj hr hjr x1677_ m1651_ (by omega) (by omega) g1652_ q1669_ q1670_ q1671_ q1672_ q1673_ q1674_ t1675_ d1667_ l1668_ k1666_ (by omega)
    refine T_sw rfl l_22 (fun s1679_ => ?_) (fun s1679_ => ?_)
    · refine T_qg (i_add rfl l_1 (by omega) (by omega)) (by omega) (by omega) ?_
      refine T_qg (i_add rfl l_2 (by omega) (by omega)) (by omega) (by omega) ?_
      refine T_qcE (t_X11_check hn _ _ M hG) ?_
      intro r1680_ m1681_ e1684_ p1683_
      have g1682_ := p1683_.2.2.1
      have f1685_ : (m1681_ 77 8).toInt = (M 77 8).toInt := by rw [p1683_.2.2.2 77 8 (by decide)]
      have f1686_ : (m1681_ 7 8).toInt = (M 7 8).toInt := by rw [p1683_.2.2.2 7 8 (by decide)]
      have f1687_ : (m1681_ 78 312).toInt = (M 78 312).toInt := by rw [p1683_.2.2.2 78 312 (by decide)]
      have f1688_ : (m1681_ 16 8).toInt = (M 16 8).toInt := by rw [p1683_.2.2.2 16 8 (by decide)]
      have f1689_ : (m1681_ 80 312).toInt = (M 80 312).toInt := by rw [p1683_.2.2.2 80 312 (by decide)]
      have f1690_ : (m1681_ 0 12).toInt = (M 0 12).toInt := by rw [p1683_.2.2.2 0 12 (by decide)]
      have f1691_ : (m1681_ 77 67).toInt = (M 77 67).toInt := by rw [p1683_.2.2.2 77 67 (by decide)]
      have f1692_ : (m1681_ 7 9).toInt = (M 7 9).toInt := by rw [p1683_.2.2.2 7 9 (by decide)]
      have f1693_ : (m1681_ 78 313).toInt = (M 78 313).toInt := by rw [p1683_.2.2.2 78 313 (by decide)]
      have f1694_ : (m1681_ 16 9).toInt = (M 16 9).toInt := by rw [p1683_.2.2.2 16 9 (by decide)]
      have f1695_ : (m1681_ 80 313).toInt = (M 80 313).toInt := by rw [p1683_.2.2.2 80 313 (by decide)]
      have w1696_ := p1683_.2.1
      have k1697_ : KT m1681_ := KT_cg hK (p1683_.2.2.2 3 3 (by decide))
      have d1698_ : KD m1681_ m1681_ := KD_S hD (p1683_.2.2.2) (p1683_.2.2.2 3 3 (by decide)) (p1683_.2.2.2 77 6 (by decide)) rfl
      have l1699_ : LR j m1681_ m1681_ := LR_S hj hL (p1683_.2.2.2) rfl rfl (p1683_.2.2.2 77 17 (by decide))
      refine T_qg (i_add rfl l_1 (by omega) (by omega)) (by omega) (by omega) ?_
      refine T_qg (i_add rfl l_2 (by omega) (by omega)) (by omega) (by omega) ?_
      refine T_qcE (t_X12_check hn _ _ m1681_ g1682_) ?_
      intro r1700_ m1701_ e1704_ p1703_
      have g1702_ := p1703_.2.2.1
      have f1705_ : (m1701_ 1 1).toInt = (m1681_ 1 1).toInt := by rw [p1703_.2.2.2 1 1 (by decide)]
      have f1706_ : (m1701_ 7 8).toInt = (m1681_ 7 8).toInt := by rw [p1703_.2.2.2 7 8 (by decide)]
      have f1707_ : (m1701_ 78 312).toInt = (m1681_ 78 312).toInt := by rw [p1703_.2.2.2 78 312 (by decide)]
      have f1708_ : (m1701_ 16 8).toInt = (m1681_ 16 8).toInt := by rw [p1703_.2.2.2 16 8 (by decide)]
      have f1709_ : (m1701_ 80 312).toInt = (m1681_ 80 312).toInt := by rw [p1703_.2.2.2 80 312 (by decide)]
      have f1710_ : (m1701_ 0 12).toInt = (m1681_ 0 12).toInt := by rw [p1703_.2.2.2 0 12 (by decide)]
      have f1711_ : (m1701_ 77 67).toInt = (m1681_ 77 67).toInt := by rw [p1703_.2.2.2 77 67 (by decide)]
      have f1712_ : (m1701_ 7 9).toInt = (m1681_ 7 9).toInt := by rw [p1703_.2.2.2 7 9 (by decide)]
      have f1713_ : (m1701_ 78 313).toInt = (m1681_ 78 313).toInt := by rw [p1703_.2.2.2 78 313 (by decide)]
      have f1714_ : (m1701_ 16 9).toInt = (m1681_ 16 9).toInt := by rw [p1703_.2.2.2 16 9 (by decide)]
      have f1715_ : (m1701_ 80 313).toInt = (m1681_ 80 313).toInt := by rw [p1703_.2.2.2 80 313 (by decide)]
      have w1716_ := p1703_.2.1
      have k1717_ : KT m1701_ := KT_cg k1697_ (p1703_.2.2.2 3 3 (by decide))
      have d1718_ : KD m1701_ m1701_ := KD_S d1698_ (p1703_.2.2.2) (p1703_.2.2.2 3 3 (by decide)) (p1703_.2.2.2 77 6 (by decide)) rfl
      have l1719_ : LR j m1701_ m1701_ := LR_S hj l1699_ (p1703_.2.2.2) rfl rfl (p1703_.2.2.2 77 17 (by decide))
      have b1720_ : m1681_ 78 312 = M 7 8 := Int32.toInt_inj.mp (by omega)
      rw [b1720_] at w1716_
      have q1721_ : (m1701_ 1 1).toInt = (m1701_ 77 8).toInt := by omega
      have q1722_ : (m1701_ 7 8).toInt = (m1701_ 78 312).toInt := by omega
      have q1723_ : (m1701_ 16 8).toInt = (m1701_ 80 312).toInt := by omega
      have q1724_ : (m1701_ 0 12).toInt = (m1701_ 77 67).toInt := by omega
      have q1725_ : (m1701_ 7 9).toInt = (m1701_ 78 313).toInt := by omega
      have q1726_ : (m1701_ 16 9).toInt = (m1701_ 80 313).toInt := by omega
      have f1728_ := r_1_1 hG
      have t1727_ : TR m1701_ := TR_le hT (by omega) (funext (fun s_ => by rw [p1703_.2.2.2 2 s_ (outc rfl), p1683_.2.2.2 2 s_ (outc rfl)])) (funext (fun s_ => by rw [p1703_.2.2.2 84 s_ (outc rfl), p1683_.2.2.2 84 s_ (outc rfl)]))
      refine T_ql (i_add rfl l_7 (by omega) (by omega)) ?_
      intro x1729_ h1730_
      exact ih j r hj hr hjr x1729_ m1701_ (by omega) (by omega) g1702_ q1721_ q1722_ q1723_ q1724_ q1725_ q1726_ t1727_ d1718_ l1719_ k1717_ (by omega)
    refine T_sw rfl l_23 (fun s1731_ => ?_) (fun s1731_ => ?_)
    · refine T_qg (i_add rfl l_1 (by omega) (by omega)) (by omega) (by omega) ?_
      refine T_qcE (t_X11_count hn hj _ M hG) ?_
      intro r1732_ m1733_ e1736_ p1735_
      have g1734_ := p1735_.1
      have f1737_ : (m1733_ 1 1).toInt = (M 1 1).toInt := by rw [p1735_.2 1 1 (by decide)]
      have f1738_ : (m1733_ 77 8).toInt = (M 77 8).toInt := by rw [p1735_.2 77 8 (by decide)]
      have f1739_ : (m1733_ 7 8).toInt = (M 7 8).toInt := by rw [p1735_.2 7 8 (by decide)]
      have f1740_ : (m1733_ 78 312).toInt = (M 78 312).toInt := by rw [p1735_.2 78 312 (by decide)]
      have f1741_ : (m1733_ 16 8).toInt = (M 16 8).toInt := by rw [p1735_.2 16 8 (by decide)]
      have f1742_ : (m1733_ 80 312).toInt = (M 80 312).toInt := by rw [p1735_.2 80 312 (by decide)]
      have f1743_ : (m1733_ 0 12).toInt = (M 0 12).toInt := by rw [p1735_.2 0 12 (by decide)]
      have f1744_ : (m1733_ 77 67).toInt = (M 77 67).toInt := by rw [p1735_.2 77 67 (by decide)]
      have f1745_ : (m1733_ 7 9).toInt = (M 7 9).toInt := by rw [p1735_.2 7 9 (by decide)]
      have f1746_ : (m1733_ 78 313).toInt = (M 78 313).toInt := by rw [p1735_.2 78 313 (by decide)]
      have f1747_ : (m1733_ 16 9).toInt = (M 16 9).toInt := by rw [p1735_.2 16 9 (by decide)]
      have f1748_ : (m1733_ 80 313).toInt = (M 80 313).toInt := by rw [p1735_.2 80 313 (by decide)]
      have k1749_ : KT m1733_ := KT_cg hK (p1735_.2 3 3 (by decide))
      have d1750_ : KD m1733_ m1733_ := KD_S hD (p1735_.2) (p1735_.2 3 3 (by decide)) (p1735_.2 77 6 (by decide)) rfl
      have l1751_ : LR j m1733_ m1733_ := LR_S hj hL (p1735_.2) rfl rfl (p1735_.2 77 17 (by decide))
      refine T_qg (i_add rfl l_1 (by omega) (by omega)) (by omega) (by omega) ?_
      refine T_qcE (t_X12_count hn _ m1733_ g1734_) ?_
      intro r1752_ m1753_ e1756_ p1755_
      have g1754_ := p1755_.1
      have f1757_ : (m1753_ 1 1).toInt = (m1733_ 1 1).toInt := by rw [p1755_.2 1 1 (by decide)]
      have f1758_ : (m1753_ 77 8).toInt = (m1733_ 77 8).toInt := by rw [p1755_.2 77 8 (by decide)]
      have f1759_ : (m1753_ 7 8).toInt = (m1733_ 7 8).toInt := by rw [p1755_.2 7 8 (by decide)]
      have f1760_ : (m1753_ 78 312).toInt = (m1733_ 78 312).toInt := by rw [p1755_.2 78 312 (by decide)]
      have f1761_ : (m1753_ 16 8).toInt = (m1733_ 16 8).toInt := by rw [p1755_.2 16 8 (by decide)]
      have f1762_ : (m1753_ 80 312).toInt = (m1733_ 80 312).toInt := by rw [p1755_.2 80 312 (by decide)]
      have f1763_ : (m1753_ 0 12).toInt = (m1733_ 0 12).toInt := by rw [p1755_.2 0 12 (by decide)]
      have f1764_ : (m1753_ 77 67).toInt = (m1733_ 77 67).toInt := by rw [p1755_.2 77 67 (by decide)]
      have f1765_ : (m1753_ 7 9).toInt = (m1733_ 7 9).toInt := by rw [p1755_.2 7 9 (by decide)]
      have f1766_ : (m1753_ 78 313).toInt = (m1733_ 78 313).toInt := by rw [p1755_.2 78 313 (by decide)]
      have f1767_ : (m1753_ 16 9).toInt = (m1733_ 16 9).toInt := by rw [p1755_.2 16 9 (by decide)]
      have f1768_ : (m1753_ 80 313).toInt = (m1733_ 80 313).toInt := by rw [p1755_.2 80 313 (by decide)]
      have k1769_ : KT m1753_ := KT_cg k1749_ (p1755_.2 3 3 (by decide))
      have d1770_ : KD m1753_ m1753_ := KD_S d1750_ (p1755_.2) (p1755_.2 3 3 (by decide)) (p1755_.2 77 6 (by decide)) rfl
      have l1771_ : LR j m1753_ m1753_ := LR_S hj l1751_ (p1755_.2) rfl rfl (p1755_.2 77 17 (by decide))
      have q1772_ : (m1753_ 1 1).toInt = (m1753_ 77 8).toInt := by omega
      have q1773_ : (m1753_ 7 8).toInt = (m1753_ 78 312).toInt := by omega
      have q1774_ : (m1753_ 16 8).toInt = (m1753_ 80 312).toInt := by omega
      have q1775_ : (m1753_ 0 12).toInt = (m1753_ 77 67).toInt := by omega
      have q1776_ : (m1753_ 7 9).toInt = (m1753_ 78 313).toInt := by omega
      have q1777_ : (m1753_ 16 9).toInt = (m1753_ 80 313).toInt := by omega
      have f1779_ := r_1_1 hG
      have t1778_ : TR m1753_ := TR_le hT (by omega) (funext (fun s_ => by rw [p1755_.2 2 s_ (outc rfl), p1735_.2 2 s_ (outc rfl)])) (funext (fun s_ => by rw [p1755_.2 84 s_ (outc rfl), p1735_.2 84 s_ (outc rfl)]))
      refine T_ql (i_add rfl l_7 (by omega) (by omega)) ?_
      intro x1780_ h1781_
      exact ih j r hj hr hjr x1780_ m1753_ (by omega) (by omega) g1754_ q1772_ q1773_ q1774_ q1775_ q1776_ q1777_ t1778_ d1770_ l1771_ k1769_ (by omega)
    refine T_sw0 ?_
    refine T_ql (i_add rfl l_7 (by omega) (by omega)) ?_
    intro x1782_ h1783_
    exact ih j r hj hr hjr x1782_ M (by omega) (by omega) hG hR0 hR1 hR2 hR3 hR4 hR5 hT hD hL hK (by omega)
theorem pure_all : qPure := by
  intro g hN
  obtain ⟨M0, e, hF, hG⟩ := freshG
  obtain ⟨v, M', e2, hv⟩ := L_go (n := 200000) (Nat.le_refl _) g hN 4000 37 46 (Or.inl rfl) (Or.inr rfl) (by decide) 0 M0 (by decide) (by decide) hG (by rw [hF.1 1 1 (by decide), hF.1 77 8 (by decide)]) (by rw [hF.1 7 8 (by decide), hF.2.1 312 (by decide)]) (by rw [hF.1 16 8 (by decide), hF.2.2 80 312 (by decide) (by decide) (by decide) (by decide)]) (by rw [hF.1 0 12 (by decide), hF.1 77 67 (by decide)]) (by rw [hF.1 7 9 (by decide), hF.2.1 313 (by decide)]) (by rw [hF.1 16 9 (by decide), hF.2.2 80 313 (by decide) (by decide) (by decide) (by decide)]) (fun i hi => absurd hi (by rw [hF.1 1 1 (by decide)]; have z : ((0 : Int32).toInt : Int) = 0 := rfl; omega)) (KD_0 hF) (LR_0 hF) (KT_0 hF) (by have z : ((0 : Int32).toInt : Int) = 0 := rfl; omega)
  subst hv
  exact ⟨200000, 4000, M0, M', e, e2⟩
