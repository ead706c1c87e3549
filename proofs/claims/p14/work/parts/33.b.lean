theorem T_qcE {F : qR} {f : Int32 → qM → qR} {P Q : Int32 → qM → Prop} (h : qT F Q) (k : ∀ v m, F = some (v, m) → Q v m → qT (f v m) P) : qT (qc F f) P := by
  obtain ⟨v, M, e, p⟩ := h
  have := k v M e p
  rw [e, qc_v]
  exact this
abbrev l_law : List Bx := [(1, 2, 1, 5), (37, 53, 0, 0)]
abbrev LQ (a1 : Int32) (M m : qM) : Prop := G m ∧ Sm l_law M m ∧ (((1 ≤ a1.toInt ∧ a1.toInt ≤ 240 ∧ a1.toInt ≤ (M 1 1).toInt) ∧ (m 1 1).toInt = 0) ∨ (¬ (1 ≤ a1.toInt ∧ a1.toInt ≤ 240 ∧ a1.toInt ≤ (M 1 1).toInt) ∧ (m 1 1).toInt = (M 1 1).toInt))
theorem T_qc2s {a1 : Int32} {M : qM} {F1 F2 : qR} {E1 E2 : Int32 → qM → qR} {P : Int32 → qM → Prop} (h : (∃ v m, F1 = some (v, m) ∧ LQ a1 M m) ∨ (F1 = none ∧ ∃ v m, F2 = some (v, m) ∧ LQ a1 M m)) (h1 : ∀ v m, F1 = some (v, m) → LQ a1 M m → qT (E1 v m) P) (h2 : ∀ v m, F2 = some (v, m) → LQ a1 M m → qT (E2 v m) P) : qT (qc2 F1 F2 E1 E2) P := by
  rcases h with ⟨v, m, e, g⟩ | ⟨e, v, m, e2, g⟩
  · have := h1 v m e g
    rw [e]; exact this
  · have := h2 v m e2 g
    rw [e, e2]; exact this
theorem law_tots {n : Nat} (hn : 200000 ≤ n) {j r : Nat} (hr : q_isLaw r) (a1 : Int32) (M : qM) (hG : G M) : (∃ v m, f_X11_law n j r a1 M = some (v, m) ∧ LQ a1 M m) ∨ (f_X11_law n j r a1 M = none ∧ ∃ v m, f_X11_lawS n j r a1 M = some (v, m) ∧ LQ a1 M m) := by
  unfold f_X11_law f_X11_lawS
  by_cases c1 : a1 < (1 : Int32)
  · rw [if_pos c1]; rw [Int32.lt_iff_toInt_lt] at c1; have z1 : (1 : Int32).toInt = 1 := rfl; exact Or.inl ⟨_, _, rfl, hG, Sm.rf, Or.inr ⟨by omega, rfl⟩⟩
  · rw [if_neg c1, if_neg c1]
    by_cases c2 : (240 : Int32) < a1
    · rw [if_pos c2]; rw [Int32.lt_iff_toInt_lt] at c2; have z1 : (240 : Int32).toInt = 240 := rfl; exact Or.inl ⟨_, _, rfl, hG, Sm.rf, Or.inr ⟨by omega, rfl⟩⟩
    · rw [if_neg c2, if_neg c2]
      by_cases c3 : a1 ≤ M 1 1
      · rw [if_pos c3, if_pos c3]
        rw [Int32.lt_iff_toInt_lt] at c1 c2
        rw [Int32.le_iff_toInt_le] at c3
        have z1 : (1 : Int32).toInt = 1 := rfl
        have z2 : (240 : Int32).toInt = 240 := rfl
        obtain ⟨v, m2, e, p⟩ := t_X4_read hn hr a1 M hG (by omega)
        obtain ⟨v3, m3, e3, p3⟩ := t_X9_clear hn m2 (p.1)
        have hs : Sm l_law M m3 := (Sm.mono (p.2) rfl).tr (Sm.mono (p3.2.2.2) rfl)
        have hz := p3.2.1
        rw [e, qc_v, qc_v, e3, qc_v, qc_v]
        by_cases c4 : v ≤ (0 : Int32)
        · rw [if_pos c4]; exact Or.inl ⟨_, _, rfl, p3.2.2.1, hs, Or.inl ⟨by omega, hz⟩⟩
        · rw [if_neg c4, if_neg c4]; exact Or.inr ⟨rfl, _, _, rfl, p3.2.2.1, hs, Or.inl ⟨by omega, hz⟩⟩
      · rw [if_neg c3]; rw [Int32.le_iff_toInt_le] at c3; exact Or.inl ⟨_, _, rfl, hG, Sm.rf, Or.inr ⟨by omega, rfl⟩⟩
theorem ofN {k : Nat} (h : k ≤ 3584) : (Int32.ofNat k).toInt = (k : Int) := nI_toInt (by omega)
set_option maxRecDepth 8000 in
set_option maxHeartbeats 4000000 in
theorem L_go {n : Nat} (hn : 200000 ≤ n) (g : qG) (hN : g.2.2.2.2.2.1 ≤ 3584) : ∀ (m j r : Nat), q_isLaw j → q_isLaw r → j ≠ r → ∀ (a3 : Int32) (M : qM), 0 ≤ a3.toInt → a3.toInt ≤ 3600 → G M → (M 1 1).toInt = (M 77 8).toInt → (M 7 8).toInt = (M 78 312).toInt → (M 16 8).toInt = (M 80 312).toInt → (M 0 12).toInt = (M 77 67).toInt → (M 7 9).toInt = (M 78 313).toInt → (M 16 9).toInt = (M 80 313).toInt → TR M → KD M M → LR j M M → WKS M → TN 7 78 M M → (M 0 12 ≠ 0 → TN 16 80 M M) → 3700 - a3.toInt < (m : Int) → qT (f_L_law g n m j r a3 M) (fun v _ => v = 1) := by
  intro m
  induction m with
  | zero => intro j r _ _ _ a3 M _ _ _ _ _ _ _ _ _ _ _ _ _ _ _ h; exfalso; omega
  | succ m ih =>
    intro j r hj hr hjr a3 M h0 h1 hG hR0 hR1 hR2 hR3 hR4 hR5 hT hD hL hK hW hX hm
    show qT (b_L_law g n j r (f_L_law g n m j r) (f_L_law g n m r j) a3 M) _
    unfold b_L_law
    refine T_lt (i_sub (ofN hN) l_7 (by omega) (by omega)) rfl (fun c => T_ret rfl) (fun c => ?_)
    refine T_qg rfl (by omega) (by omega) ?_
    refine T_sw rfl l_0 (fun s1_ => ?_) (fun s1_ => ?_)
    · refine T_qg (i_add rfl l_1 (by omega) (by omega)) (by omega) (by omega) ?_
      refine T_qg (i_add rfl l_2 (by omega) (by omega)) (by omega) (by omega) ?_
      refine T_qg (i_add rfl l_3 (by omega) (by omega)) (by omega) (by omega) ?_
      refine T_qg (i_add rfl l_4 (by omega) (by omega)) (by omega) (by omega) ?_
      refine T_qcE (t_X11_kind hn _ _ _ _ M hG) ?_
      intro r2_ m3_ e6_ p5_
      have g4_ := p5_.2.1
      have f7_ : (m3_ 1 1).toInt = (M 1 1).toInt := by rw [p5_.2.2 1 1 (by decide)]
      have f8_ : (m3_ 77 8).toInt = (M 77 8).toInt := by rw [p5_.2.2 77 8 (by decide)]
      have f9_ : (m3_ 7 8).toInt = (M 7 8).toInt := by rw [p5_.2.2 7 8 (by decide)]
      have f10_ : (m3_ 78 312).toInt = (M 78 312).toInt := by rw [p5_.2.2 78 312 (by decide)]
      have f11_ : (m3_ 16 8).toInt = (M 16 8).toInt := by rw [p5_.2.2 16 8 (by decide)]
      have f12_ : (m3_ 80 312).toInt = (M 80 312).toInt := by rw [p5_.2.2 80 312 (by decide)]
      have f13_ : (m3_ 0 12).toInt = (M 0 12).toInt := by rw [p5_.2.2 0 12 (by decide)]
      have f14_ : (m3_ 77 67).toInt = (M 77 67).toInt := by rw [p5_.2.2 77 67 (by decide)]
      have f15_ : (m3_ 7 9).toInt = (M 7 9).toInt := by rw [p5_.2.2 7 9 (by decide)]
      have f16_ : (m3_ 78 313).toInt = (M 78 313).toInt := by rw [p5_.2.2 78 313 (by decide)]
      have f17_ : (m3_ 16 9).toInt = (M 16 9).toInt := by rw [p5_.2.2 16 9 (by decide)]
      have f18_ : (m3_ 80 313).toInt = (M 80 313).toInt := by rw [p5_.2.2 80 313 (by decide)]
      have k19_ : WKS m3_ := kind_WKS hK e6_
      have l20_ : LR j m3_ m3_ := LR_S hj hL (p5_.2.2) rfl rfl (p5_.2.2 77 17 (by decide))
      have tw21_ : TN 7 78 m3_ m3_ := TN_S hW (p5_.2.2) rfl rfl
      have tx22_ : m3_ 0 12 ≠ 0 → TN 16 80 m3_ m3_ := KX_S hX (p5_.2.2) (p5_.2.2 0 12 (by decide)) rfl rfl
      refine T_qg (i_add rfl l_1 (by omega) (by omega)) (by omega) (by omega) ?_
      refine T_qg (i_add rfl l_2 (by omega) (by omega)) (by omega) (by omega) ?_
      refine T_qg (i_add rfl l_3 (by omega) (by omega)) (by omega) (by omega) ?_
      refine T_qg (i_add rfl l_4 (by omega) (by omega)) (by omega) (by omega) ?_
      refine T_qcE (t_X12_kind hn _ _ _ _ m3_ g4_) ?_
      intro r23_ m24_ e27_ p26_
      have g25_ := p26_.2.1
      have f28_ : (m24_ 1 1).toInt = (m3_ 1 1).toInt := by rw [p26_.2.2 1 1 (by decide)]
      have f29_ : (m24_ 77 8).toInt = (m3_ 77 8).toInt := by rw [p26_.2.2 77 8 (by decide)]
      have f30_ : (m24_ 7 8).toInt = (m3_ 7 8).toInt := by rw [p26_.2.2 7 8 (by decide)]
      have f31_ : (m24_ 78 312).toInt = (m3_ 78 312).toInt := by rw [p26_.2.2 78 312 (by decide)]
      have f32_ : (m24_ 16 8).toInt = (m3_ 16 8).toInt := by rw [p26_.2.2 16 8 (by decide)]
      have f33_ : (m24_ 80 312).toInt = (m3_ 80 312).toInt := by rw [p26_.2.2 80 312 (by decide)]
      have f34_ : (m24_ 0 12).toInt = (m3_ 0 12).toInt := by rw [p26_.2.2 0 12 (by decide)]
      have f35_ : (m24_ 77 67).toInt = (m3_ 77 67).toInt := by rw [p26_.2.2 77 67 (by decide)]
      have f36_ : (m24_ 7 9).toInt = (m3_ 7 9).toInt := by rw [p26_.2.2 7 9 (by decide)]
      have f37_ : (m24_ 78 313).toInt = (m3_ 78 313).toInt := by rw [p26_.2.2 78 313 (by decide)]
      have f38_ : (m24_ 16 9).toInt = (m3_ 16 9).toInt := by rw [p26_.2.2 16 9 (by decide)]
      have f39_ : (m24_ 80 313).toInt = (m3_ 80 313).toInt := by rw [p26_.2.2 80 313 (by decide)]
      have k40_ : WKS m24_ := WKS_S k19_ (p26_.2.2) (p26_.2.2 3 3 (by decide)) rfl rfl
      have l41_ : LR j m24_ m24_ := LR_S hj l20_ (p26_.2.2) rfl rfl (p26_.2.2 77 17 (by decide))
      have tw42_ : TN 7 78 m24_ m24_ := TN_S tw21_ (p26_.2.2) rfl rfl
      have tx43_ : m24_ 0 12 ≠ 0 → TN 16 80 m24_ m24_ := KX_S tx22_ (p26_.2.2) (p26_.2.2 0 12 (by decide)) rfl rfl
      have d44_ : KD m24_ m24_ := (kind_st hD e6_ e27_).2
      have q45_ : (m24_ 1 1).toInt = (m24_ 77 8).toInt := by omega
      have q46_ : (m24_ 7 8).toInt = (m24_ 78 312).toInt := by omega
      have q47_ : (m24_ 16 8).toInt = (m24_ 80 312).toInt := by omega
      have q48_ : (m24_ 0 12).toInt = (m24_ 77 67).toInt := by omega
      have q49_ : (m24_ 7 9).toInt = (m24_ 78 313).toInt := by omega
      have q50_ : (m24_ 16 9).toInt = (m24_ 80 313).toInt := by omega
      have f52_ := r_1_1 hG
      have t51_ : TR m24_ := TR_le hT (by omega) (funext (fun s_ => by rw [p26_.2.2 2 s_ (outc rfl), p5_.2.2 2 s_ (outc rfl)])) (funext (fun s_ => by rw [p26_.2.2 84 s_ (outc rfl), p5_.2.2 84 s_ (outc rfl)]))
      refine T_ql (i_add rfl l_7 (by omega) (by omega)) ?_
      intro x53_ h54_
      exact ih j r hj hr hjr x53_ m24_ (by omega) (by omega) g25_ q45_ q46_ q47_ q48_ q49_ q50_ t51_ d44_ l41_ k40_ tw42_ tx43_ (by omega)
    refine T_sw rfl l_1 (fun s55_ => ?_) (fun s55_ => ?_)
    · refine T_qg (i_add rfl l_1 (by omega) (by omega)) (by omega) (by omega) ?_
      refine T_qg (i_add rfl l_2 (by omega) (by omega)) (by omega) (by omega) ?_
      refine T_qcE (t_X11_person hn _ _ M hG) ?_
      intro r56_ m57_ e60_ p59_
      have g58_ := p59_.2.2.1
      have f61_ : (m57_ 1 1).toInt = (M 1 1).toInt := by rw [p59_.2.2.2 1 1 (by decide)]
      have f62_ : (m57_ 77 8).toInt = (M 77 8).toInt := by rw [p59_.2.2.2 77 8 (by decide)]
      have f63_ : (m57_ 78 312).toInt = (M 78 312).toInt := by rw [p59_.2.2.2 78 312 (by decide)]
      have f64_ : (m57_ 16 8).toInt = (M 16 8).toInt := by rw [p59_.2.2.2 16 8 (by decide)]
      have f65_ : (m57_ 80 312).toInt = (M 80 312).toInt := by rw [p59_.2.2.2 80 312 (by decide)]
      have f66_ : (m57_ 0 12).toInt = (M 0 12).toInt := by rw [p59_.2.2.2 0 12 (by decide)]
      have f67_ : (m57_ 77 67).toInt = (M 77 67).toInt := by rw [p59_.2.2.2 77 67 (by decide)]
      have f68_ : (m57_ 7 9).toInt = (M 7 9).toInt := by rw [p59_.2.2.2 7 9 (by decide)]
      have f69_ : (m57_ 78 313).toInt = (M 78 313).toInt := by rw [p59_.2.2.2 78 313 (by decide)]
      have f70_ : (m57_ 16 9).toInt = (M 16 9).toInt := by rw [p59_.2.2.2 16 9 (by decide)]
      have f71_ : (m57_ 80 313).toInt = (M 80 313).toInt := by rw [p59_.2.2.2 80 313 (by decide)]
      have w72_ := p59_.2.1
      have k73_ : WKS m57_ := WKS_S hK (p59_.2.2.2) (p59_.2.2.2 3 3 (by decide)) rfl rfl
      have d74_ : KD m57_ m57_ := KD_S hD (p59_.2.2.2) (p59_.2.2.2 3 3 (by decide)) (p59_.2.2.2 77 6 (by decide)) rfl
      have l75_ : LR j m57_ m57_ := LR_S hj hL (p59_.2.2.2) rfl rfl (p59_.2.2.2 77 17 (by decide))
      have tx76_ : m57_ 0 12 ≠ 0 → TN 16 80 m57_ m57_ := KX_S hX (p59_.2.2.2) (p59_.2.2.2 0 12 (by decide)) rfl rfl
      refine T_qg (i_add rfl l_1 (by omega) (by omega)) (by omega) (by omega) ?_
      refine T_qg (i_add rfl l_2 (by omega) (by omega)) (by omega) (by omega) ?_
      refine T_qcE (t_X12_person hn _ _ m57_ g58_) ?_
      intro r77_ m78_ e81_ p80_
      have g79_ := p80_.2.2.1
      have f82_ : (m78_ 1 1).toInt = (m57_ 1 1).toInt := by rw [p80_.2.2.2 1 1 (by decide)]
      have f83_ : (m78_ 77 8).toInt = (m57_ 77 8).toInt := by rw [p80_.2.2.2 77 8 (by decide)]
      have f84_ : (m78_ 7 8).toInt = (m57_ 7 8).toInt := by rw [p80_.2.2.2 7 8 (by decide)]
      have f85_ : (m78_ 16 8).toInt = (m57_ 16 8).toInt := by rw [p80_.2.2.2 16 8 (by decide)]
      have f86_ : (m78_ 80 312).toInt = (m57_ 80 312).toInt := by rw [p80_.2.2.2 80 312 (by decide)]
      have f87_ : (m78_ 0 12).toInt = (m57_ 0 12).toInt := by rw [p80_.2.2.2 0 12 (by decide)]
      have f88_ : (m78_ 77 67).toInt = (m57_ 77 67).toInt := by rw [p80_.2.2.2 77 67 (by decide)]
      have f89_ : (m78_ 7 9).toInt = (m57_ 7 9).toInt := by rw [p80_.2.2.2 7 9 (by decide)]
      have f90_ : (m78_ 78 313).toInt = (m57_ 78 313).toInt := by rw [p80_.2.2.2 78 313 (by decide)]
      have f91_ : (m78_ 16 9).toInt = (m57_ 16 9).toInt := by rw [p80_.2.2.2 16 9 (by decide)]
      have f92_ : (m78_ 80 313).toInt = (m57_ 80 313).toInt := by rw [p80_.2.2.2 80 313 (by decide)]
      have w93_ := p80_.2.1
      have k94_ : WKS m78_ := WKS_S k73_ (p80_.2.2.2) (p80_.2.2.2 3 3 (by decide)) rfl rfl
      have d95_ : KD m78_ m78_ := KD_S d74_ (p80_.2.2.2) (p80_.2.2.2 3 3 (by decide)) (p80_.2.2.2 77 6 (by decide)) rfl
      have l96_ : LR j m78_ m78_ := LR_S hj l75_ (p80_.2.2.2) rfl rfl (p80_.2.2.2 77 17 (by decide))
      have tx97_ : m78_ 0 12 ≠ 0 → TN 16 80 m78_ m78_ := KX_S tx76_ (p80_.2.2.2) (p80_.2.2.2 0 12 (by decide)) rfl rfl
      have b98_ : m57_ 78 312 = M 7 8 := Int32.toInt_inj.mp (by omega)
      rw [b98_] at w93_
      have q99_ : (m78_ 1 1).toInt = (m78_ 77 8).toInt := by omega
      have q100_ : (m78_ 7 8).toInt = (m78_ 78 312).toInt := by omega
      have q101_ : (m78_ 16 8).toInt = (m78_ 80 312).toInt := by omega
      have q102_ : (m78_ 0 12).toInt = (m78_ 77 67).toInt := by omega
      have q103_ : (m78_ 7 9).toInt = (m78_ 78 313).toInt := by omega
      have q104_ : (m78_ 16 9).toInt = (m78_ 80 313).toInt := by omega
      have f106_ := r_1_1 hG
      have t105_ : TR m78_ := TR_le hT (by omega) (funext (fun s_ => by rw [p80_.2.2.2 2 s_ (outc rfl), p59_.2.2.2 2 s_ (outc rfl)])) (funext (fun s_ => by rw [p80_.2.2.2 84 s_ (outc rfl), p59_.2.2.2 84 s_ (outc rfl)]))
      have wk107_ := person_st hW (fun c_ hc_ => funext (fun s_ => p59_.2.2.2 c_ s_ (out77 hc_ rfl))) e60_ e81_
      have tw108_ : TN 7 78 m78_ m78_ := TN_fr wk107_.2 (fun x_ h1_ h2_ => funext (fun s_ => p80_.2.2.2 x_ s_ (out715 h1_ h2_ rfl))) (fun _ _ => rfl)
      refine T_ql (i_add rfl l_7 (by omega) (by omega)) ?_
      intro x109_ h110_
      exact ih j r hj hr hjr x109_ m78_ (by omega) (by omega) g79_ q99_ q100_ q101_ q102_ q103_ q104_ t105_ d95_ l96_ k94_ tw108_ tx97_ (by omega)
    refine T_sw rfl l_2 (fun s111_ => ?_) (fun s111_ => ?_)
    · refine T_qg (i_add rfl l_1 (by omega) (by omega)) (by omega) (by omega) ?_
      refine T_qg (i_add rfl l_2 (by omega) (by omega)) (by omega) (by omega) ?_
      refine T_qg (i_add rfl l_3 (by omega) (by omega)) (by omega) (by omega) ?_
      refine T_qg (i_add rfl l_4 (by omega) (by omega)) (by omega) (by omega) ?_
      refine T_qg (i_add rfl l_5 (by omega) (by omega)) (by omega) (by omega) ?_
      refine T_qcE (t_X11_feed hn _ _ _ _ _ M hG) ?_
      intro r112_ m113_ e116_ p115_
      have g114_ := p115_.2.2.1
      have f117_ : (m113_ 77 8).toInt = (M 77 8).toInt := by rw [p115_.2.2.2 77 8 (by decide)]
      have f118_ : (m113_ 7 8).toInt = (M 7 8).toInt := by rw [p115_.2.2.2 7 8 (by decide)]
      have f119_ : (m113_ 78 312).toInt = (M 78 312).toInt := by rw [p115_.2.2.2 78 312 (by decide)]
      have f120_ : (m113_ 16 8).toInt = (M 16 8).toInt := by rw [p115_.2.2.2 16 8 (by decide)]
      have f121_ : (m113_ 80 312).toInt = (M 80 312).toInt := by rw [p115_.2.2.2 80 312 (by decide)]
      have f122_ : (m113_ 0 12).toInt = (M 0 12).toInt := by rw [p115_.2.2.2 0 12 (by decide)]
      have f123_ : (m113_ 77 67).toInt = (M 77 67).toInt := by rw [p115_.2.2.2 77 67 (by decide)]
      have f124_ : (m113_ 7 9).toInt = (M 7 9).toInt := by rw [p115_.2.2.2 7 9 (by decide)]
      have f125_ : (m113_ 78 313).toInt = (M 78 313).toInt := by rw [p115_.2.2.2 78 313 (by decide)]
      have f126_ : (m113_ 16 9).toInt = (M 16 9).toInt := by rw [p115_.2.2.2 16 9 (by decide)]
      have f127_ : (m113_ 80 313).toInt = (M 80 313).toInt := by rw [p115_.2.2.2 80 313 (by decide)]
      have w128_ := p115_.2.1
      have k129_ : WKS m113_ := WKS_S hK (p115_.2.2.2) (p115_.2.2.2 3 3 (by decide)) rfl rfl
      have d130_ : KD m113_ m113_ := KD_S hD (p115_.2.2.2) (p115_.2.2.2 3 3 (by decide)) (p115_.2.2.2 77 6 (by decide)) rfl
      have l131_ : LR j m113_ m113_ := LR_S hj hL (p115_.2.2.2) rfl rfl (p115_.2.2.2 77 17 (by decide))
      have tw132_ : TN 7 78 m113_ m113_ := TN_S hW (p115_.2.2.2) rfl rfl
      have tx133_ : m113_ 0 12 ≠ 0 → TN 16 80 m113_ m113_ := KX_S hX (p115_.2.2.2) (p115_.2.2.2 0 12 (by decide)) rfl rfl
      refine T_qg (i_add rfl l_1 (by omega) (by omega)) (by omega) (by omega) ?_
      refine T_qg (i_add rfl l_2 (by omega) (by omega)) (by omega) (by omega) ?_
      refine T_qg (i_add rfl l_3 (by omega) (by omega)) (by omega) (by omega) ?_
      refine T_qg (i_add rfl l_4 (by omega) (by omega)) (by omega) (by omega) ?_
      refine T_qg (i_add rfl l_5 (by omega) (by omega)) (by omega) (by omega) ?_
      refine T_qcE (t_X12_feed hn _ _ _ _ _ m113_ g114_) ?_
      intro r134_ m135_ e138_ p137_
      have g136_ := p137_.2.2.1
      have f139_ : (m135_ 1 1).toInt = (m113_ 1 1).toInt := by rw [p137_.2.2.2 1 1 (by decide)]
      have f140_ : (m135_ 7 8).toInt = (m113_ 7 8).toInt := by rw [p137_.2.2.2 7 8 (by decide)]
      have f141_ : (m135_ 78 312).toInt = (m113_ 78 312).toInt := by rw [p137_.2.2.2 78 312 (by decide)]
      have f142_ : (m135_ 16 8).toInt = (m113_ 16 8).toInt := by rw [p137_.2.2.2 16 8 (by decide)]
      have f143_ : (m135_ 80 312).toInt = (m113_ 80 312).toInt := by rw [p137_.2.2.2 80 312 (by decide)]
      have f144_ : (m135_ 0 12).toInt = (m113_ 0 12).toInt := by rw [p137_.2.2.2 0 12 (by decide)]
      have f145_ : (m135_ 77 67).toInt = (m113_ 77 67).toInt := by rw [p137_.2.2.2 77 67 (by decide)]
      have f146_ : (m135_ 7 9).toInt = (m113_ 7 9).toInt := by rw [p137_.2.2.2 7 9 (by decide)]
      have f147_ : (m135_ 78 313).toInt = (m113_ 78 313).toInt := by rw [p137_.2.2.2 78 313 (by decide)]
      have f148_ : (m135_ 16 9).toInt = (m113_ 16 9).toInt := by rw [p137_.2.2.2 16 9 (by decide)]
      have f149_ : (m135_ 80 313).toInt = (m113_ 80 313).toInt := by rw [p137_.2.2.2 80 313 (by decide)]
      have w150_ := p137_.2.1
      have k151_ : WKS m135_ := WKS_S k129_ (p137_.2.2.2) (p137_.2.2.2 3 3 (by decide)) rfl rfl
      have d152_ : KD m135_ m135_ := KD_S d130_ (p137_.2.2.2) (p137_.2.2.2 3 3 (by decide)) (p137_.2.2.2 77 6 (by decide)) rfl
      have l153_ : LR j m135_ m135_ := LR_S hj l131_ (p137_.2.2.2) rfl rfl (p137_.2.2.2 77 17 (by decide))
      have tw154_ : TN 7 78 m135_ m135_ := TN_S tw132_ (p137_.2.2.2) rfl rfl
      have tx155_ : m135_ 0 12 ≠ 0 → TN 16 80 m135_ m135_ := KX_S tx133_ (p137_.2.2.2) (p137_.2.2.2 0 12 (by decide)) rfl rfl
      have q156_ : (m135_ 1 1).toInt = (m135_ 77 8).toInt := by omega
      have q157_ : (m135_ 7 8).toInt = (m135_ 78 312).toInt := by omega
      have q158_ : (m135_ 16 8).toInt = (m135_ 80 312).toInt := by omega
      have q159_ : (m135_ 0 12).toInt = (m135_ 77 67).toInt := by omega
      have q160_ : (m135_ 7 9).toInt = (m135_ 78 313).toInt := by omega
      have q161_ : (m135_ 16 9).toInt = (m135_ 80 313).toInt := by omega
      have t162_ : TR m135_ := feed_TR hn hG hT hR0 e116_ e138_
      refine T_ql (i_add rfl l_7 (by omega) (by omega)) ?_
      intro x163_ h164_
      exact ih j r hj hr hjr x163_ m135_ (by omega) (by omega) g136_ q156_ q157_ q158_ q159_ q160_ q161_ t162_ d152_ l153_ k151_ tw154_ tx155_ (by omega)
    refine T_sw rfl l_3 (fun s165_ => ?_) (fun s165_ => ?_)
    · refine T_qg (i_add rfl l_1 (by omega) (by omega)) (by omega) (by omega) ?_
      refine T_qc2s (law_tots hn hr _ M hG) (fun v_ m_ ee_ p_ => ?_) (fun v_ m_ ee_ p_ => ?_)
      · have f166_ : (m_ 77 8).toInt = (M 77 8).toInt := by rw [p_.2.1 77 8 (by decide)]
        have f167_ : (m_ 7 8).toInt = (M 7 8).toInt := by rw [p_.2.1 7 8 (by decide)]
        have f168_ : (m_ 78 312).toInt = (M 78 312).toInt := by rw [p_.2.1 78 312 (by decide)]
        have f169_ : (m_ 16 8).toInt = (M 16 8).toInt := by rw [p_.2.1 16 8 (by decide)]
        have f170_ : (m_ 80 312).toInt = (M 80 312).toInt := by rw [p_.2.1 80 312 (by decide)]
        have f171_ : (m_ 0 12).toInt = (M 0 12).toInt := by rw [p_.2.1 0 12 (by decide)]
        have f172_ : (m_ 77 67).toInt = (M 77 67).toInt := by rw [p_.2.1 77 67 (by decide)]
        have f173_ : (m_ 7 9).toInt = (M 7 9).toInt := by rw [p_.2.1 7 9 (by decide)]
        have f174_ : (m_ 78 313).toInt = (M 78 313).toInt := by rw [p_.2.1 78 313 (by decide)]
        have f175_ : (m_ 16 9).toInt = (M 16 9).toInt := by rw [p_.2.1 16 9 (by decide)]
        have f176_ : (m_ 80 313).toInt = (M 80 313).toInt := by rw [p_.2.1 80 313 (by decide)]
        have w177_ := p_.2.2
        have d178_ : KD m_ m_ := KD_S hD (p_.2.1) (p_.2.1 3 3 (by decide)) (p_.2.1 77 6 (by decide)) rfl
        have k179_ : WKS m_ := WKS_S hK (p_.2.1) (p_.2.1 3 3 (by decide)) rfl rfl
        have tw180_ : TN 7 78 m_ m_ := TN_S hW (p_.2.1) rfl rfl
        have tx181_ : m_ 0 12 ≠ 0 → TN 16 80 m_ m_ := KX_S hX (p_.2.1) (p_.2.1 0 12 (by decide)) rfl rfl
        refine T_qg (i_add rfl l_1 (by omega) (by omega)) (by omega) (by omega) ?_
        refine T_qcE (t_X12_law hn _ m_ p_.1) ?_
        intro r182_ m183_ e186_ p185_
        have g184_ := p185_.1
        have f187_ : (m183_ 1 1).toInt = (m_ 1 1).toInt := by rw [show m183_ 1 1 = m_ 1 1 from congrFun (p185_.2.1.2 1 (by decide) (by decide)) 1]
        have f188_ : (m183_ 7 8).toInt = (m_ 7 8).toInt := by rw [show m183_ 7 8 = m_ 7 8 from congrFun (p185_.2.1.2 7 (by decide) (by decide)) 8]
        have f189_ : (m183_ 78 312).toInt = (m_ 78 312).toInt := by rw [show m183_ 78 312 = m_ 78 312 from congrFun (p185_.2.1.2 78 (by decide) (by decide)) 312]
        have f190_ : (m183_ 16 8).toInt = (m_ 16 8).toInt := by rw [show m183_ 16 8 = m_ 16 8 from congrFun (p185_.2.1.2 16 (by decide) (by decide)) 8]
        have f191_ : (m183_ 80 312).toInt = (m_ 80 312).toInt := by rw [show m183_ 80 312 = m_ 80 312 from congrFun (p185_.2.1.2 80 (by decide) (by decide)) 312]
        have f192_ : (m183_ 0 12).toInt = (m_ 0 12).toInt := by rw [show m183_ 0 12 = m_ 0 12 from congrFun (p185_.2.1.2 0 (by decide) (by decide)) 12]
        have f193_ : (m183_ 77 67).toInt = (m_ 77 67).toInt := by rw [show m183_ 77 67 = m_ 77 67 from p185_.2.1.1 67 (by decide)]
        have f194_ : (m183_ 7 9).toInt = (m_ 7 9).toInt := by rw [show m183_ 7 9 = m_ 7 9 from congrFun (p185_.2.1.2 7 (by decide) (by decide)) 9]
        have f195_ : (m183_ 78 313).toInt = (m_ 78 313).toInt := by rw [show m183_ 78 313 = m_ 78 313 from congrFun (p185_.2.1.2 78 (by decide) (by decide)) 313]
        have f196_ : (m183_ 16 9).toInt = (m_ 16 9).toInt := by rw [show m183_ 16 9 = m_ 16 9 from congrFun (p185_.2.1.2 16 (by decide) (by decide)) 9]
        have f197_ : (m183_ 80 313).toInt = (m_ 80 313).toInt := by rw [show m183_ 80 313 = m_ 80 313 from congrFun (p185_.2.1.2 80 (by decide) (by decide)) 313]
        have w198_ := p185_.2.2
        have q199_ : (m183_ 1 1).toInt = (m183_ 77 8).toInt := by omega
        have q200_ : (m183_ 7 8).toInt = (m183_ 78 312).toInt := by omega
        have q201_ : (m183_ 16 8).toInt = (m183_ 80 312).toInt := by omega
        have q202_ : (m183_ 0 12).toInt = (m183_ 77 67).toInt := by omega
        have q203_ : (m183_ 7 9).toInt = (m183_ 78 313).toInt := by omega
        have q204_ : (m183_ 16 9).toInt = (m183_ 80 313).toInt := by omega
        have f206_ := r_1_1 hG
        have t205_ : TR m183_ := TR_le hT (by omega) (by rw [p185_.2.1.2 2 (by decide) (by decide)]; exact funext (fun s_ => p_.2.1 2 s_ (outc rfl))) (by rw [p185_.2.1.2 84 (by decide) (by decide)]; exact funext (fun s_ => p_.2.1 84 s_ (outc rfl)))
        have d207_ : KD m183_ m183_ := KD_cg d178_ (by rw [p185_.2.1.2 3 (by decide) (by decide)]) (by rw [p185_.2.1.1 6 (by decide)]) (fun q_ _ => by rw [p185_.2.1.2 4 (by decide) (by decide)]) (fun q_ _ => by rw [p185_.2.1.2 5 (by decide) (by decide)]) (fun q_ _ => by rw [p185_.2.1.2 6 (by decide) (by decide)]) (fun q_ _ => by rw [p185_.2.1.2 81 (by decide) (by decide)]) (fun q_ _ => by rw [p185_.2.1.2 82 (by decide) (by decide)]) (fun q_ _ => by rw [p185_.2.1.2 83 (by decide) (by decide)])
        have l208_ : LR j m183_ m183_ := by
          have l_ := ((law_st hn hj hr hjr hG p_.1 hT (by omega) (funext (fun s_ => p_.2.1 84 s_ (outc rfl))) (fun c_ h1_ h2_ => funext (fun s_ => p_.2.1 c_ s_ (out77 (by omega) rfl))) (p_.2.1 77 17 (by decide)) hL e186_).1 ee_).2
          exact LR_cg l_ (fun k_ hk_ => p185_.2.1.2 _ (by rcases hj with rfl | rfl <;> rcases hr with rfl | rfl <;> omega) (by rcases hj with rfl | rfl <;> rcases hr with rfl | rfl <;> omega)) (fun _ _ _ => rfl) rfl
        have k209_ : WKS m183_ := WKS_cg k179_ (by rw [p185_.2.1.2 3 (by decide) (by decide)]) (p185_.2.1.2 4 (by decide) (by decide)) (p185_.2.1.2 6 (by decide) (by decide)) (p185_.2.1.2 102 (by decide) (by decide)) (p185_.2.1.2 103 (by decide) (by decide)) (p185_.2.1.2 104 (by decide) (by decide))
        have tw210_ : TN 7 78 m183_ m183_ := TN_fr tw180_ (fun x_ h1_ h2_ => p185_.2.1.2 x_ (by omega) (by omega)) (fun i_ _ => by rw [p185_.2.1.2 78 (by decide) (by decide)])
        have tx211_ : m183_ 0 12 ≠ 0 → TN 16 80 m183_ m183_ := fun q_ => TN_fr (tx181_ (fun z_ => q_ (by rw [p185_.2.1.2 0 (by decide) (by decide)]; exact z_))) (fun x_ h1_ h2_ => p185_.2.1.2 x_ (by omega) (by omega)) (fun i_ _ => by rw [p185_.2.1.2 80 (by decide) (by decide)])
        refine T_ql (i_add rfl l_7 (by omega) (by omega)) ?_
        intro x212_ h213_
        exact ih j r hj hr hjr x212_ m183_ (by omega) (by omega) g184_ q199_ q200_ q201_ q202_ q203_ q204_ t205_ d207_ l208_ k209_ tw210_ tx211_ (by omega)
      · have f214_ : (m_ 77 8).toInt = (M 77 8).toInt := by rw [p_.2.1 77 8 (by decide)]
        have f215_ : (m_ 7 8).toInt = (M 7 8).toInt := by rw [p_.2.1 7 8 (by decide)]
        have f216_ : (m_ 78 312).toInt = (M 78 312).toInt := by rw [p_.2.1 78 312 (by decide)]
        have f217_ : (m_ 16 8).toInt = (M 16 8).toInt := by rw [p_.2.1 16 8 (by decide)]
        have f218_ : (m_ 80 312).toInt = (M 80 312).toInt := by rw [p_.2.1 80 312 (by decide)]
        have f219_ : (m_ 0 12).toInt = (M 0 12).toInt := by rw [p_.2.1 0 12 (by decide)]
        have f220_ : (m_ 77 67).toInt = (M 77 67).toInt := by rw [p_.2.1 77 67 (by decide)]
        have f221_ : (m_ 7 9).toInt = (M 7 9).toInt := by rw [p_.2.1 7 9 (by decide)]
        have f222_ : (m_ 78 313).toInt = (M 78 313).toInt := by rw [p_.2.1 78 313 (by decide)]
        have f223_ : (m_ 16 9).toInt = (M 16 9).toInt := by rw [p_.2.1 16 9 (by decide)]
        have f224_ : (m_ 80 313).toInt = (M 80 313).toInt := by rw [p_.2.1 80 313 (by decide)]
        have w225_ := p_.2.2
        have d226_ : KD m_ m_ := KD_S hD (p_.2.1) (p_.2.1 3 3 (by decide)) (p_.2.1 77 6 (by decide)) rfl
        have k227_ : WKS m_ := WKS_S hK (p_.2.1) (p_.2.1 3 3 (by decide)) rfl rfl
        have tw228_ : TN 7 78 m_ m_ := TN_S hW (p_.2.1) rfl rfl
        have tx229_ : m_ 0 12 ≠ 0 → TN 16 80 m_ m_ := KX_S hX (p_.2.1) (p_.2.1 0 12 (by decide)) rfl rfl
        refine T_qg (i_add rfl l_1 (by omega) (by omega)) (by omega) (by omega) ?_
        refine T_qcE (t_X12_law hn _ m_ p_.1) ?_
        intro r230_ m231_ e234_ p233_
        have g232_ := p233_.1
        have f235_ : (m231_ 1 1).toInt = (m_ 1 1).toInt := by rw [show m231_ 1 1 = m_ 1 1 from congrFun (p233_.2.1.2 1 (by decide) (by decide)) 1]
        have f236_ : (m231_ 7 8).toInt = (m_ 7 8).toInt := by rw [show m231_ 7 8 = m_ 7 8 from congrFun (p233_.2.1.2 7 (by decide) (by decide)) 8]
        have f237_ : (m231_ 78 312).toInt = (m_ 78 312).toInt := by rw [show m231_ 78 312 = m_ 78 312 from congrFun (p233_.2.1.2 78 (by decide) (by decide)) 312]
        have f238_ : (m231_ 16 8).toInt = (m_ 16 8).toInt := by rw [show m231_ 16 8 = m_ 16 8 from congrFun (p233_.2.1.2 16 (by decide) (by decide)) 8]
        have f239_ : (m231_ 80 312).toInt = (m_ 80 312).toInt := by rw [show m231_ 80 312 = m_ 80 312 from congrFun (p233_.2.1.2 80 (by decide) (by decide)) 312]
        have f240_ : (m231_ 0 12).toInt = (m_ 0 12).toInt := by rw [show m231_ 0 12 = m_ 0 12 from congrFun (p233_.2.1.2 0 (by decide) (by decide)) 12]
        have f241_ : (m231_ 77 67).toInt = (m_ 77 67).toInt := by rw [show m231_ 77 67 = m_ 77 67 from p233_.2.1.1 67 (by decide)]
        have f242_ : (m231_ 7 9).toInt = (m_ 7 9).toInt := by rw [show m231_ 7 9 = m_ 7 9 from congrFun (p233_.2.1.2 7 (by decide) (by decide)) 9]
        have f243_ : (m231_ 78 313).toInt = (m_ 78 313).toInt := by rw [show m231_ 78 313 = m_ 78 313 from congrFun (p233_.2.1.2 78 (by decide) (by decide)) 313]
        have f244_ : (m231_ 16 9).toInt = (m_ 16 9).toInt := by rw [show m231_ 16 9 = m_ 16 9 from congrFun (p233_.2.1.2 16 (by decide) (by decide)) 9]
        have f245_ : (m231_ 80 313).toInt = (m_ 80 313).toInt := by rw [show m231_ 80 313 = m_ 80 313 from congrFun (p233_.2.1.2 80 (by decide) (by decide)) 313]
        have w246_ := p233_.2.2
        have q247_ : (m231_ 1 1).toInt = (m231_ 77 8).toInt := by omega
        have q248_ : (m231_ 7 8).toInt = (m231_ 78 312).toInt := by omega
        have q249_ : (m231_ 16 8).toInt = (m231_ 80 312).toInt := by omega
        have q250_ : (m231_ 0 12).toInt = (m231_ 77 67).toInt := by omega
        have q251_ : (m231_ 7 9).toInt = (m231_ 78 313).toInt := by omega
        have q252_ : (m231_ 16 9).toInt = (m231_ 80 313).toInt := by omega
        have f254_ := r_1_1 hG
        have t253_ : TR m231_ := TR_le hT (by omega) (by rw [p233_.2.1.2 2 (by decide) (by decide)]; exact funext (fun s_ => p_.2.1 2 s_ (outc rfl))) (by rw [p233_.2.1.2 84 (by decide) (by decide)]; exact funext (fun s_ => p_.2.1 84 s_ (outc rfl)))
        have d255_ : KD m231_ m231_ := KD_cg d226_ (by rw [p233_.2.1.2 3 (by decide) (by decide)]) (by rw [p233_.2.1.1 6 (by decide)]) (fun q_ _ => by rw [p233_.2.1.2 4 (by decide) (by decide)]) (fun q_ _ => by rw [p233_.2.1.2 5 (by decide) (by decide)]) (fun q_ _ => by rw [p233_.2.1.2 6 (by decide) (by decide)]) (fun q_ _ => by rw [p233_.2.1.2 81 (by decide) (by decide)]) (fun q_ _ => by rw [p233_.2.1.2 82 (by decide) (by decide)]) (fun q_ _ => by rw [p233_.2.1.2 83 (by decide) (by decide)])
        have l256_ : LR r m231_ m231_ := by
          have l_ := ((law_st hn hj hr hjr hG p_.1 hT (by omega) (funext (fun s_ => p_.2.1 84 s_ (outc rfl))) (fun c_ h1_ h2_ => funext (fun s_ => p_.2.1 c_ s_ (out77 (by omega) rfl))) (p_.2.1 77 17 (by decide)) hL e234_).2 ee_).2
          exact LR_cg l_ (fun k_ hk_ => p233_.2.1.2 _ (by rcases hj with rfl | rfl <;> rcases hr with rfl | rfl <;> omega) (by rcases hj with rfl | rfl <;> rcases hr with rfl | rfl <;> omega)) (fun _ _ _ => rfl) rfl
        have k257_ : WKS m231_ := WKS_cg k227_ (by rw [p233_.2.1.2 3 (by decide) (by decide)]) (p233_.2.1.2 4 (by decide) (by decide)) (p233_.2.1.2 6 (by decide) (by decide)) (p233_.2.1.2 102 (by decide) (by decide)) (p233_.2.1.2 103 (by decide) (by decide)) (p233_.2.1.2 104 (by decide) (by decide))
        have tw258_ : TN 7 78 m231_ m231_ := TN_fr tw228_ (fun x_ h1_ h2_ => p233_.2.1.2 x_ (by omega) (by omega)) (fun i_ _ => by rw [p233_.2.1.2 78 (by decide) (by decide)])
        have tx259_ : m231_ 0 12 ≠ 0 → TN 16 80 m231_ m231_ := fun q_ => TN_fr (tx229_ (fun z_ => q_ (by rw [p233_.2.1.2 0 (by decide) (by decide)]; exact z_))) (fun x_ h1_ h2_ => p233_.2.1.2 x_ (by omega) (by omega)) (fun i_ _ => by rw [p233_.2.1.2 80 (by decide) (by decide)])
        refine T_ql (i_add rfl l_7 (by omega) (by omega)) ?_
        intro x260_ h261_
        exact ih r j hr hj (fun e_ => hjr e_.symm) x260_ m231_ (by omega) (by omega) g232_ q247_ q248_ q249_ q250_ q251_ q252_ t253_ d255_ l256_ k257_ tw258_ tx259_ (by omega)
    refine T_sw rfl l_4 (fun s262_ => ?_) (fun s262_ => ?_)
    · refine T_qg (i_add rfl l_1 (by omega) (by omega)) (by omega) (by omega) ?_
      refine T_qg (i_add rfl l_2 (by omega) (by omega)) (by omega) (by omega) ?_
      refine T_qcE (t_X11_plan hn _ _ M hG) ?_
      intro r263_ m264_ e267_ p266_
      have g265_ := p266_.2.1
      have f268_ : (m264_ 77 8).toInt = (M 77 8).toInt := by rw [p266_.2.2 77 8 (by decide)]
      have f269_ : (m264_ 7 8).toInt = (M 7 8).toInt := by rw [p266_.2.2 7 8 (by decide)]
      have f270_ : (m264_ 78 312).toInt = (M 78 312).toInt := by rw [p266_.2.2 78 312 (by decide)]
      have f271_ : (m264_ 16 8).toInt = (M 16 8).toInt := by rw [p266_.2.2 16 8 (by decide)]
      have f272_ : (m264_ 80 312).toInt = (M 80 312).toInt := by rw [p266_.2.2 80 312 (by decide)]
      have f273_ : (m264_ 0 12).toInt = (M 0 12).toInt := by rw [p266_.2.2 0 12 (by decide)]
      have f274_ : (m264_ 77 67).toInt = (M 77 67).toInt := by rw [p266_.2.2 77 67 (by decide)]
      have f275_ : (m264_ 7 9).toInt = (M 7 9).toInt := by rw [p266_.2.2 7 9 (by decide)]
      have f276_ : (m264_ 78 313).toInt = (M 78 313).toInt := by rw [p266_.2.2 78 313 (by decide)]
      have f277_ : (m264_ 16 9).toInt = (M 16 9).toInt := by rw [p266_.2.2 16 9 (by decide)]
      have f278_ : (m264_ 80 313).toInt = (M 80 313).toInt := by rw [p266_.2.2 80 313 (by decide)]
      have w279_ := p266_.1
      have k280_ : WKS m264_ := WKS_S hK (p266_.2.2) (p266_.2.2 3 3 (by decide)) rfl rfl
      have d281_ : KD m264_ m264_ := KD_S hD (p266_.2.2) (p266_.2.2 3 3 (by decide)) (p266_.2.2 77 6 (by decide)) rfl
      have l282_ : LR j m264_ m264_ := LR_S hj hL (p266_.2.2) rfl rfl (p266_.2.2 77 17 (by decide))
      have tx283_ : m264_ 0 12 ≠ 0 → TN 16 80 m264_ m264_ := KX_S hX (p266_.2.2) (p266_.2.2 0 12 (by decide)) rfl rfl
      refine T_qg (i_add rfl l_1 (by omega) (by omega)) (by omega) (by omega) ?_
      refine T_qg (i_add rfl l_2 (by omega) (by omega)) (by omega) (by omega) ?_
      refine T_qcE (t_X12_plan hn _ _ m264_ g265_) ?_
      intro r284_ m285_ e288_ p287_
      have g286_ := p287_.2.1
      have f289_ : (m285_ 1 1).toInt = (m264_ 1 1).toInt := by rw [p287_.2.2 1 1 (by decide)]
      have f290_ : (m285_ 7 8).toInt = (m264_ 7 8).toInt := by rw [p287_.2.2 7 8 (by decide)]
      have f291_ : (m285_ 78 312).toInt = (m264_ 78 312).toInt := by rw [p287_.2.2 78 312 (by decide)]
      have f292_ : (m285_ 16 8).toInt = (m264_ 16 8).toInt := by rw [p287_.2.2 16 8 (by decide)]
      have f293_ : (m285_ 80 312).toInt = (m264_ 80 312).toInt := by rw [p287_.2.2 80 312 (by decide)]
      have f294_ : (m285_ 0 12).toInt = (m264_ 0 12).toInt := by rw [p287_.2.2 0 12 (by decide)]
      have f295_ : (m285_ 77 67).toInt = (m264_ 77 67).toInt := by rw [p287_.2.2 77 67 (by decide)]
      have f296_ : (m285_ 7 9).toInt = (m264_ 7 9).toInt := by rw [p287_.2.2 7 9 (by decide)]
      have f297_ : (m285_ 78 313).toInt = (m264_ 78 313).toInt := by rw [p287_.2.2 78 313 (by decide)]
      have f298_ : (m285_ 16 9).toInt = (m264_ 16 9).toInt := by rw [p287_.2.2 16 9 (by decide)]
      have f299_ : (m285_ 80 313).toInt = (m264_ 80 313).toInt := by rw [p287_.2.2 80 313 (by decide)]
      have w300_ := p287_.1
      have k301_ : WKS m285_ := WKS_S k280_ (p287_.2.2) (p287_.2.2 3 3 (by decide)) rfl rfl
      have d302_ : KD m285_ m285_ := KD_S d281_ (p287_.2.2) (p287_.2.2 3 3 (by decide)) (p287_.2.2 77 6 (by decide)) rfl
      have l303_ : LR j m285_ m285_ := LR_S hj l282_ (p287_.2.2) rfl rfl (p287_.2.2 77 17 (by decide))
      have tx304_ : m285_ 0 12 ≠ 0 → TN 16 80 m285_ m285_ := KX_S tx283_ (p287_.2.2) (p287_.2.2 0 12 (by decide)) rfl rfl
      have b305_ : m264_ 78 312 = M 7 8 := Int32.toInt_inj.mp (by omega)
      rw [b305_] at w300_
      have q306_ : (m285_ 1 1).toInt = (m285_ 77 8).toInt := by omega
      have q307_ : (m285_ 7 8).toInt = (m285_ 78 312).toInt := by omega
      have q308_ : (m285_ 16 8).toInt = (m285_ 80 312).toInt := by omega
      have q309_ : (m285_ 0 12).toInt = (m285_ 77 67).toInt := by omega
      have q310_ : (m285_ 7 9).toInt = (m285_ 78 313).toInt := by omega
      have q311_ : (m285_ 16 9).toInt = (m285_ 80 313).toInt := by omega
      have f313_ := r_1_1 hG
      have t312_ : TR m285_ := TR_le hT (by omega) (funext (fun s_ => by rw [p287_.2.2 2 s_ (outc rfl), p266_.2.2 2 s_ (outc rfl)])) (funext (fun s_ => by rw [p287_.2.2 84 s_ (outc rfl), p266_.2.2 84 s_ (outc rfl)]))
      have wk314_ := plan_st hn hG g265_ hT (by omega) (funext (fun s_ => p266_.2.2 84 s_ (outc rfl))) (TN_fr hW (fun _ _ _ => rfl) (fun i_ _ => by rw [(fun c_ hc_ => funext (fun s_ => p266_.2.2 c_ s_ (out77 hc_ rfl))) 78 (by decide)])) e267_ e288_
      have tw315_ : TN 7 78 m285_ m285_ := TN_fr wk314_ (fun x_ h1_ h2_ => funext (fun s_ => p287_.2.2 x_ s_ (out715 h1_ h2_ rfl))) (fun _ _ => rfl)
      refine T_ql (i_add rfl l_7 (by omega) (by omega)) ?_
      intro x316_ h317_
      exact ih j r hj hr hjr x316_ m285_ (by omega) (by omega) g286_ q306_ q307_ q308_ q309_ q310_ q311_ t312_ d302_ l303_ k301_ tw315_ tx304_ (by omega)
    refine T_sw rfl l_5 (fun s318_ => ?_) (fun s318_ => ?_)
    · refine T_qg (i_add rfl l_1 (by omega) (by omega)) (by omega) (by omega) ?_
      refine T_qg (i_add rfl l_2 (by omega) (by omega)) (by omega) (by omega) ?_
      refine T_qg (i_add rfl l_3 (by omega) (by omega)) (by omega) (by omega) ?_
      refine T_qcE (t_X11_tries hn hj _ _ _ M hG) ?_
      intro r319_ m320_ e323_ p322_
      have g321_ := p322_.2.1
      have f324_ : (m320_ 1 1).toInt = (M 1 1).toInt := by rw [p322_.2.2 1 1 (by decide)]
      have f325_ : (m320_ 77 8).toInt = (M 77 8).toInt := by rw [p322_.2.2 77 8 (by decide)]
      have f326_ : (m320_ 7 8).toInt = (M 7 8).toInt := by rw [p322_.2.2 7 8 (by decide)]
      have f327_ : (m320_ 78 312).toInt = (M 78 312).toInt := by rw [p322_.2.2 78 312 (by decide)]
      have f328_ : (m320_ 16 8).toInt = (M 16 8).toInt := by rw [p322_.2.2 16 8 (by decide)]
      have f329_ : (m320_ 80 312).toInt = (M 80 312).toInt := by rw [p322_.2.2 80 312 (by decide)]
      have f330_ : (m320_ 0 12).toInt = (M 0 12).toInt := by rw [p322_.2.2 0 12 (by decide)]
      have f331_ : (m320_ 77 67).toInt = (M 77 67).toInt := by rw [p322_.2.2 77 67 (by decide)]
      have f332_ : (m320_ 7 9).toInt = (M 7 9).toInt := by rw [p322_.2.2 7 9 (by decide)]
      have f333_ : (m320_ 78 313).toInt = (M 78 313).toInt := by rw [p322_.2.2 78 313 (by decide)]
      have f334_ : (m320_ 16 9).toInt = (M 16 9).toInt := by rw [p322_.2.2 16 9 (by decide)]
      have f335_ : (m320_ 80 313).toInt = (M 80 313).toInt := by rw [p322_.2.2 80 313 (by decide)]
      have k336_ : WKS m320_ := WKS_S hK (p322_.2.2) (p322_.2.2 3 3 (by decide)) rfl rfl
      have d337_ : KD m320_ m320_ := KD_S hD (p322_.2.2) (p322_.2.2 3 3 (by decide)) (p322_.2.2 77 6 (by decide)) rfl
      have l338_ : LR j m320_ m320_ := LR_S hj hL (p322_.2.2) rfl rfl (p322_.2.2 77 17 (by decide))
      have tx339_ : m320_ 0 12 ≠ 0 → TN 16 80 m320_ m320_ := KX_S hX (p322_.2.2) (p322_.2.2 0 12 (by decide)) rfl rfl
      refine T_qg (i_add rfl l_1 (by omega) (by omega)) (by omega) (by omega) ?_
      refine T_qg (i_add rfl l_2 (by omega) (by omega)) (by omega) (by omega) ?_
      refine T_qg (i_add rfl l_3 (by omega) (by omega)) (by omega) (by omega) ?_
      refine T_qcE (t_X12_tries hn _ _ _ m320_ g321_) ?_
      intro r340_ m341_ e344_ p343_
      have g342_ := p343_.2.1
      have f345_ : (m341_ 1 1).toInt = (m320_ 1 1).toInt := by rw [p343_.2.2 1 1 (by decide)]
      have f346_ : (m341_ 77 8).toInt = (m320_ 77 8).toInt := by rw [p343_.2.2 77 8 (by decide)]
      have f347_ : (m341_ 7 8).toInt = (m320_ 7 8).toInt := by rw [p343_.2.2 7 8 (by decide)]
      have f348_ : (m341_ 78 312).toInt = (m320_ 78 312).toInt := by rw [p343_.2.2 78 312 (by decide)]
      have f349_ : (m341_ 16 8).toInt = (m320_ 16 8).toInt := by rw [p343_.2.2 16 8 (by decide)]
      have f350_ : (m341_ 80 312).toInt = (m320_ 80 312).toInt := by rw [p343_.2.2 80 312 (by decide)]
      have f351_ : (m341_ 0 12).toInt = (m320_ 0 12).toInt := by rw [p343_.2.2 0 12 (by decide)]
      have f352_ : (m341_ 77 67).toInt = (m320_ 77 67).toInt := by rw [p343_.2.2 77 67 (by decide)]
      have f353_ : (m341_ 7 9).toInt = (m320_ 7 9).toInt := by rw [p343_.2.2 7 9 (by decide)]
      have f354_ : (m341_ 78 313).toInt = (m320_ 78 313).toInt := by rw [p343_.2.2 78 313 (by decide)]
      have f355_ : (m341_ 16 9).toInt = (m320_ 16 9).toInt := by rw [p343_.2.2 16 9 (by decide)]
      have f356_ : (m341_ 80 313).toInt = (m320_ 80 313).toInt := by rw [p343_.2.2 80 313 (by decide)]
      have k357_ : WKS m341_ := WKS_S k336_ (p343_.2.2) (p343_.2.2 3 3 (by decide)) rfl rfl
      have d358_ : KD m341_ m341_ := KD_S d337_ (p343_.2.2) (p343_.2.2 3 3 (by decide)) (p343_.2.2 77 6 (by decide)) rfl
      have l359_ : LR j m341_ m341_ := LR_S hj l338_ (p343_.2.2) rfl rfl (p343_.2.2 77 17 (by decide))
      have tx360_ : m341_ 0 12 ≠ 0 → TN 16 80 m341_ m341_ := KX_S tx339_ (p343_.2.2) (p343_.2.2 0 12 (by decide)) rfl rfl
      have q361_ : (m341_ 1 1).toInt = (m341_ 77 8).toInt := by omega
      have q362_ : (m341_ 7 8).toInt = (m341_ 78 312).toInt := by omega
      have q363_ : (m341_ 16 8).toInt = (m341_ 80 312).toInt := by omega
      have q364_ : (m341_ 0 12).toInt = (m341_ 77 67).toInt := by omega
      have q365_ : (m341_ 7 9).toInt = (m341_ 78 313).toInt := by omega
      have q366_ : (m341_ 16 9).toInt = (m341_ 80 313).toInt := by omega
      have f368_ := r_1_1 hG
      have t367_ : TR m341_ := TR_le hT (by omega) (funext (fun s_ => by rw [p343_.2.2 2 s_ (outc rfl), p322_.2.2 2 s_ (outc rfl)])) (funext (fun s_ => by rw [p343_.2.2 84 s_ (outc rfl), p322_.2.2 84 s_ (outc rfl)]))
      have wk369_ := tries_st hn hj hG g321_ hD hL hW (fun c_ hc_ => funext (fun s_ => p322_.2.2 c_ s_ (out77 hc_ rfl))) e323_ e344_
      have tw370_ : TN 7 78 m341_ m341_ := TN_fr wk369_.2 (fun x_ h1_ h2_ => funext (fun s_ => p343_.2.2 x_ s_ (out715 h1_ h2_ rfl))) (fun _ _ => rfl)
      refine T_ql (i_add rfl l_7 (by omega) (by omega)) ?_
      intro x371_ h372_
      exact ih j r hj hr hjr x371_ m341_ (by omega) (by omega) g342_ q361_ q362_ q363_ q364_ q365_ q366_ t367_ d358_ l359_ k357_ tw370_ tx360_ (by omega)
    refine T_sw rfl l_6 (fun s373_ => ?_) (fun s373_ => ?_)
    · refine T_qg (i_add rfl l_1 (by omega) (by omega)) (by omega) (by omega) ?_
      refine T_qg (i_add rfl l_2 (by omega) (by omega)) (by omega) (by omega) ?_
      refine T_qg (i_add rfl l_3 (by omega) (by omega)) (by omega) (by omega) ?_
      refine T_qcE (t_X11_buys hn hj _ _ _ M hG) ?_
      intro r374_ m375_ e378_ p377_
      have g376_ := p377_.2.1
      have f379_ : (m375_ 1 1).toInt = (M 1 1).toInt := by rw [p377_.2.2 1 1 (by decide)]
      have f380_ : (m375_ 77 8).toInt = (M 77 8).toInt := by rw [p377_.2.2 77 8 (by decide)]
      have f381_ : (m375_ 7 8).toInt = (M 7 8).toInt := by rw [p377_.2.2 7 8 (by decide)]
      have f382_ : (m375_ 78 312).toInt = (M 78 312).toInt := by rw [p377_.2.2 78 312 (by decide)]
      have f383_ : (m375_ 16 8).toInt = (M 16 8).toInt := by rw [p377_.2.2 16 8 (by decide)]
      have f384_ : (m375_ 80 312).toInt = (M 80 312).toInt := by rw [p377_.2.2 80 312 (by decide)]
      have f385_ : (m375_ 0 12).toInt = (M 0 12).toInt := by rw [p377_.2.2 0 12 (by decide)]
      have f386_ : (m375_ 77 67).toInt = (M 77 67).toInt := by rw [p377_.2.2 77 67 (by decide)]
      have f387_ : (m375_ 7 9).toInt = (M 7 9).toInt := by rw [p377_.2.2 7 9 (by decide)]
      have f388_ : (m375_ 78 313).toInt = (M 78 313).toInt := by rw [p377_.2.2 78 313 (by decide)]
      have f389_ : (m375_ 16 9).toInt = (M 16 9).toInt := by rw [p377_.2.2 16 9 (by decide)]
      have f390_ : (m375_ 80 313).toInt = (M 80 313).toInt := by rw [p377_.2.2 80 313 (by decide)]
      have k391_ : WKS m375_ := WKS_S hK (p377_.2.2) (p377_.2.2 3 3 (by decide)) rfl rfl
      have d392_ : KD m375_ m375_ := KD_S hD (p377_.2.2) (p377_.2.2 3 3 (by decide)) (p377_.2.2 77 6 (by decide)) rfl
      have l393_ : LR j m375_ m375_ := LR_S hj hL (p377_.2.2) rfl rfl (p377_.2.2 77 17 (by decide))
      have tx394_ : m375_ 0 12 ≠ 0 → TN 16 80 m375_ m375_ := KX_S hX (p377_.2.2) (p377_.2.2 0 12 (by decide)) rfl rfl
      refine T_qg (i_add rfl l_1 (by omega) (by omega)) (by omega) (by omega) ?_
      refine T_qg (i_add rfl l_2 (by omega) (by omega)) (by omega) (by omega) ?_
      refine T_qg (i_add rfl l_3 (by omega) (by omega)) (by omega) (by omega) ?_
      refine T_qcE (t_X12_buys hn _ _ _ m375_ g376_) ?_
      intro r395_ m396_ e399_ p398_
      have g397_ := p398_.2.1
      have f400_ : (m396_ 1 1).toInt = (m375_ 1 1).toInt := by rw [p398_.2.2 1 1 (by decide)]
      have f401_ : (m396_ 77 8).toInt = (m375_ 77 8).toInt := by rw [p398_.2.2 77 8 (by decide)]
      have f402_ : (m396_ 7 8).toInt = (m375_ 7 8).toInt := by rw [p398_.2.2 7 8 (by decide)]
      have f403_ : (m396_ 78 312).toInt = (m375_ 78 312).toInt := by rw [p398_.2.2 78 312 (by decide)]
      have f404_ : (m396_ 16 8).toInt = (m375_ 16 8).toInt := by rw [p398_.2.2 16 8 (by decide)]
      have f405_ : (m396_ 80 312).toInt = (m375_ 80 312).toInt := by rw [p398_.2.2 80 312 (by decide)]
      have f406_ : (m396_ 0 12).toInt = (m375_ 0 12).toInt := by rw [p398_.2.2 0 12 (by decide)]
      have f407_ : (m396_ 77 67).toInt = (m375_ 77 67).toInt := by rw [p398_.2.2 77 67 (by decide)]
      have f408_ : (m396_ 7 9).toInt = (m375_ 7 9).toInt := by rw [p398_.2.2 7 9 (by decide)]
      have f409_ : (m396_ 78 313).toInt = (m375_ 78 313).toInt := by rw [p398_.2.2 78 313 (by decide)]
      have f410_ : (m396_ 16 9).toInt = (m375_ 16 9).toInt := by rw [p398_.2.2 16 9 (by decide)]
      have f411_ : (m396_ 80 313).toInt = (m375_ 80 313).toInt := by rw [p398_.2.2 80 313 (by decide)]
      have k412_ : WKS m396_ := WKS_S k391_ (p398_.2.2) (p398_.2.2 3 3 (by decide)) rfl rfl
      have d413_ : KD m396_ m396_ := KD_S d392_ (p398_.2.2) (p398_.2.2 3 3 (by decide)) (p398_.2.2 77 6 (by decide)) rfl
      have l414_ : LR j m396_ m396_ := LR_S hj l393_ (p398_.2.2) rfl rfl (p398_.2.2 77 17 (by decide))
      have tx415_ : m396_ 0 12 ≠ 0 → TN 16 80 m396_ m396_ := KX_S tx394_ (p398_.2.2) (p398_.2.2 0 12 (by decide)) rfl rfl
      have q416_ : (m396_ 1 1).toInt = (m396_ 77 8).toInt := by omega
      have q417_ : (m396_ 7 8).toInt = (m396_ 78 312).toInt := by omega
      have q418_ : (m396_ 16 8).toInt = (m396_ 80 312).toInt := by omega
      have q419_ : (m396_ 0 12).toInt = (m396_ 77 67).toInt := by omega
      have q420_ : (m396_ 7 9).toInt = (m396_ 78 313).toInt := by omega
      have q421_ : (m396_ 16 9).toInt = (m396_ 80 313).toInt := by omega
      have f423_ := r_1_1 hG
      have t422_ : TR m396_ := TR_le hT (by omega) (funext (fun s_ => by rw [p398_.2.2 2 s_ (outc rfl), p377_.2.2 2 s_ (outc rfl)])) (funext (fun s_ => by rw [p398_.2.2 84 s_ (outc rfl), p377_.2.2 84 s_ (outc rfl)]))
      have wk424_ := buys_st hn hj hG g376_ hD hL hW (fun c_ hc_ => funext (fun s_ => p377_.2.2 c_ s_ (out77 hc_ rfl))) e378_ e399_
      have tw425_ : TN 7 78 m396_ m396_ := TN_fr wk424_.2 (fun x_ h1_ h2_ => funext (fun s_ => p398_.2.2 x_ s_ (out715 h1_ h2_ rfl))) (fun _ _ => rfl)
      refine T_ql (i_add rfl l_7 (by omega) (by omega)) ?_
      intro x426_ h427_
      exact ih j r hj hr hjr x426_ m396_ (by omega) (by omega) g397_ q416_ q417_ q418_ q419_ q420_ q421_ t422_ d413_ l414_ k412_ tw425_ tx415_ (by omega)
    refine T_sw rfl l_7 (fun s428_ => ?_) (fun s428_ => ?_)
    · refine T_qg (i_add rfl l_1 (by omega) (by omega)) (by omega) (by omega) ?_
      refine T_qcE (t_X11_days hn hj _ M hG) ?_
      intro r429_ m430_ e433_ p432_
      have g431_ := p432_.2.1
      have f434_ : (m430_ 1 1).toInt = (M 1 1).toInt := by rw [p432_.2.2 1 1 (by decide)]
      have f435_ : (m430_ 77 8).toInt = (M 77 8).toInt := by rw [p432_.2.2 77 8 (by decide)]
      have f436_ : (m430_ 7 8).toInt = (M 7 8).toInt := by rw [p432_.2.2 7 8 (by decide)]
      have f437_ : (m430_ 78 312).toInt = (M 78 312).toInt := by rw [p432_.2.2 78 312 (by decide)]
      have f438_ : (m430_ 16 8).toInt = (M 16 8).toInt := by rw [p432_.2.2 16 8 (by decide)]
      have f439_ : (m430_ 80 312).toInt = (M 80 312).toInt := by rw [p432_.2.2 80 312 (by decide)]
      have f440_ : (m430_ 0 12).toInt = (M 0 12).toInt := by rw [p432_.2.2 0 12 (by decide)]
      have f441_ : (m430_ 77 67).toInt = (M 77 67).toInt := by rw [p432_.2.2 77 67 (by decide)]
      have f442_ : (m430_ 78 313).toInt = (M 78 313).toInt := by rw [p432_.2.2 78 313 (by decide)]
      have f443_ : (m430_ 16 9).toInt = (M 16 9).toInt := by rw [p432_.2.2 16 9 (by decide)]
      have f444_ : (m430_ 80 313).toInt = (M 80 313).toInt := by rw [p432_.2.2 80 313 (by decide)]
      have w445_ := p432_.1
      have k446_ : WKS m430_ := WKS_S hK (p432_.2.2) (p432_.2.2 3 3 (by decide)) rfl rfl
      have d447_ : KD m430_ m430_ := KD_S hD (p432_.2.2) (p432_.2.2 3 3 (by decide)) (p432_.2.2 77 6 (by decide)) rfl
      have l448_ : LR j m430_ m430_ := LR_S hj hL (p432_.2.2) rfl rfl (p432_.2.2 77 17 (by decide))
      have tx449_ : m430_ 0 12 ≠ 0 → TN 16 80 m430_ m430_ := KX_S hX (p432_.2.2) (p432_.2.2 0 12 (by decide)) rfl rfl
      refine T_qg (i_add rfl l_1 (by omega) (by omega)) (by omega) (by omega) ?_
      refine T_qcE (t_X12_days hn _ m430_ g431_) ?_
      intro r450_ m451_ e454_ p453_
      have g452_ := p453_.2.1
      have f455_ : (m451_ 1 1).toInt = (m430_ 1 1).toInt := by rw [p453_.2.2 1 1 (by decide)]
      have f456_ : (m451_ 77 8).toInt = (m430_ 77 8).toInt := by rw [p453_.2.2 77 8 (by decide)]
      have f457_ : (m451_ 7 8).toInt = (m430_ 7 8).toInt := by rw [p453_.2.2 7 8 (by decide)]
      have f458_ : (m451_ 78 312).toInt = (m430_ 78 312).toInt := by rw [p453_.2.2 78 312 (by decide)]
      have f459_ : (m451_ 16 8).toInt = (m430_ 16 8).toInt := by rw [p453_.2.2 16 8 (by decide)]
      have f460_ : (m451_ 80 312).toInt = (m430_ 80 312).toInt := by rw [p453_.2.2 80 312 (by decide)]
      have f461_ : (m451_ 0 12).toInt = (m430_ 0 12).toInt := by rw [p453_.2.2 0 12 (by decide)]
      have f462_ : (m451_ 77 67).toInt = (m430_ 77 67).toInt := by rw [p453_.2.2 77 67 (by decide)]
      have f463_ : (m451_ 7 9).toInt = (m430_ 7 9).toInt := by rw [p453_.2.2 7 9 (by decide)]
      have f464_ : (m451_ 16 9).toInt = (m430_ 16 9).toInt := by rw [p453_.2.2 16 9 (by decide)]
      have f465_ : (m451_ 80 313).toInt = (m430_ 80 313).toInt := by rw [p453_.2.2 80 313 (by decide)]
      have w466_ := p453_.1
      have k467_ : WKS m451_ := WKS_S k446_ (p453_.2.2) (p453_.2.2 3 3 (by decide)) rfl rfl
      have d468_ : KD m451_ m451_ := KD_S d447_ (p453_.2.2) (p453_.2.2 3 3 (by decide)) (p453_.2.2 77 6 (by decide)) rfl
      have l469_ : LR j m451_ m451_ := LR_S hj l448_ (p453_.2.2) rfl rfl (p453_.2.2 77 17 (by decide))
      have tx470_ : m451_ 0 12 ≠ 0 → TN 16 80 m451_ m451_ := KX_S tx449_ (p453_.2.2) (p453_.2.2 0 12 (by decide)) rfl rfl
      have q471_ : (m451_ 1 1).toInt = (m451_ 77 8).toInt := by omega
      have q472_ : (m451_ 7 8).toInt = (m451_ 78 312).toInt := by omega
      have q473_ : (m451_ 16 8).toInt = (m451_ 80 312).toInt := by omega
      have q474_ : (m451_ 0 12).toInt = (m451_ 77 67).toInt := by omega
      have q475_ : (m451_ 7 9).toInt = (m451_ 78 313).toInt := by omega
      have q476_ : (m451_ 16 9).toInt = (m451_ 80 313).toInt := by omega
      have f478_ := r_1_1 hG
      have t477_ : TR m451_ := TR_le hT (by omega) (funext (fun s_ => by rw [p453_.2.2 2 s_ (outc rfl), p432_.2.2 2 s_ (outc rfl)])) (funext (fun s_ => by rw [p453_.2.2 84 s_ (outc rfl), p432_.2.2 84 s_ (outc rfl)]))
      have wk479_ := days_st hn hj hG g431_ hD hL hW (fun c_ hc_ => funext (fun s_ => p432_.2.2 c_ s_ (out77 hc_ rfl))) e433_ e454_
      have tw480_ : TN 7 78 m451_ m451_ := TN_fr wk479_.2 (fun x_ h1_ h2_ => funext (fun s_ => p453_.2.2 x_ s_ (out715 h1_ h2_ rfl))) (fun _ _ => rfl)
      refine T_ql (i_add rfl l_7 (by omega) (by omega)) ?_
      intro x481_ h482_
      exact ih j r hj hr hjr x481_ m451_ (by omega) (by omega) g452_ q471_ q472_ q473_ q474_ q475_ q476_ t477_ d468_ l469_ k467_ tw480_ tx470_ (by omega)
    refine T_sw rfl l_8 (fun s483_ => ?_) (fun s483_ => ?_)
    · refine T_qg (i_add rfl l_1 (by omega) (by omega)) (by omega) (by omega) ?_
      refine T_qg (i_add rfl l_2 (by omega) (by omega)) (by omega) (by omega) ?_
      refine T_qcE (t_X11_tried hn hj _ _ M hG) ?_
      intro r484_ m485_ e488_ p487_
      have g486_ := p487_.1
      have f489_ : (m485_ 1 1).toInt = (M 1 1).toInt := by rw [p487_.2 1 1 (by decide)]
      have f490_ : (m485_ 77 8).toInt = (M 77 8).toInt := by rw [p487_.2 77 8 (by decide)]
      have f491_ : (m485_ 7 8).toInt = (M 7 8).toInt := by rw [p487_.2 7 8 (by decide)]
      have f492_ : (m485_ 78 312).toInt = (M 78 312).toInt := by rw [p487_.2 78 312 (by decide)]
      have f493_ : (m485_ 16 8).toInt = (M 16 8).toInt := by rw [p487_.2 16 8 (by decide)]
      have f494_ : (m485_ 80 312).toInt = (M 80 312).toInt := by rw [p487_.2 80 312 (by decide)]
      have f495_ : (m485_ 0 12).toInt = (M 0 12).toInt := by rw [p487_.2 0 12 (by decide)]
      have f496_ : (m485_ 77 67).toInt = (M 77 67).toInt := by rw [p487_.2 77 67 (by decide)]
      have f497_ : (m485_ 7 9).toInt = (M 7 9).toInt := by rw [p487_.2 7 9 (by decide)]
      have f498_ : (m485_ 78 313).toInt = (M 78 313).toInt := by rw [p487_.2 78 313 (by decide)]
      have f499_ : (m485_ 16 9).toInt = (M 16 9).toInt := by rw [p487_.2 16 9 (by decide)]
      have f500_ : (m485_ 80 313).toInt = (M 80 313).toInt := by rw [p487_.2 80 313 (by decide)]
      have k501_ : WKS m485_ := WKS_S hK (p487_.2) (p487_.2 3 3 (by decide)) rfl rfl
      have d502_ : KD m485_ m485_ := KD_S hD (p487_.2) (p487_.2 3 3 (by decide)) (p487_.2 77 6 (by decide)) rfl
      have l503_ : LR j m485_ m485_ := LR_S hj hL (p487_.2) rfl rfl (p487_.2 77 17 (by decide))
      have tx504_ : m485_ 0 12 ≠ 0 → TN 16 80 m485_ m485_ := KX_S hX (p487_.2) (p487_.2 0 12 (by decide)) rfl rfl
      refine T_qg (i_add rfl l_1 (by omega) (by omega)) (by omega) (by omega) ?_
      refine T_qg (i_add rfl l_2 (by omega) (by omega)) (by omega) (by omega) ?_
      refine T_qcE (t_X12_tried hn _ _ m485_ g486_) ?_
      intro r505_ m506_ e509_ p508_
      have g507_ := p508_.2.1
      have f510_ : (m506_ 1 1).toInt = (m485_ 1 1).toInt := by rw [p508_.2.2 1 1 (by decide)]
      have f511_ : (m506_ 77 8).toInt = (m485_ 77 8).toInt := by rw [p508_.2.2 77 8 (by decide)]
      have f512_ : (m506_ 7 8).toInt = (m485_ 7 8).toInt := by rw [p508_.2.2 7 8 (by decide)]
      have f513_ : (m506_ 16 8).toInt = (m485_ 16 8).toInt := by rw [p508_.2.2 16 8 (by decide)]
      have f514_ : (m506_ 80 312).toInt = (m485_ 80 312).toInt := by rw [p508_.2.2 80 312 (by decide)]
      have f515_ : (m506_ 0 12).toInt = (m485_ 0 12).toInt := by rw [p508_.2.2 0 12 (by decide)]
      have f516_ : (m506_ 77 67).toInt = (m485_ 77 67).toInt := by rw [p508_.2.2 77 67 (by decide)]
      have f517_ : (m506_ 7 9).toInt = (m485_ 7 9).toInt := by rw [p508_.2.2 7 9 (by decide)]
      have f518_ : (m506_ 16 9).toInt = (m485_ 16 9).toInt := by rw [p508_.2.2 16 9 (by decide)]
      have f519_ : (m506_ 80 313).toInt = (m485_ 80 313).toInt := by rw [p508_.2.2 80 313 (by decide)]
      have w520_ := p508_.1
      have k521_ : WKS m506_ := WKS_S k501_ (p508_.2.2) (p508_.2.2 3 3 (by decide)) rfl rfl
      have d522_ : KD m506_ m506_ := KD_S d502_ (p508_.2.2) (p508_.2.2 3 3 (by decide)) (p508_.2.2 77 6 (by decide)) rfl
      have l523_ : LR j m506_ m506_ := LR_S hj l503_ (p508_.2.2) rfl rfl (p508_.2.2 77 17 (by decide))
      have tx524_ : m506_ 0 12 ≠ 0 → TN 16 80 m506_ m506_ := KX_S tx504_ (p508_.2.2) (p508_.2.2 0 12 (by decide)) rfl rfl
      have q525_ : (m506_ 1 1).toInt = (m506_ 77 8).toInt := by omega
      have q526_ : (m506_ 7 8).toInt = (m506_ 78 312).toInt := by omega
      have q527_ : (m506_ 16 8).toInt = (m506_ 80 312).toInt := by omega
      have q528_ : (m506_ 0 12).toInt = (m506_ 77 67).toInt := by omega
      have q529_ : (m506_ 7 9).toInt = (m506_ 78 313).toInt := by omega
      have q530_ : (m506_ 16 9).toInt = (m506_ 80 313).toInt := by omega
      have f532_ := r_1_1 hG
      have t531_ : TR m506_ := TR_le hT (by omega) (funext (fun s_ => by rw [p508_.2.2 2 s_ (outc rfl), p487_.2 2 s_ (outc rfl)])) (funext (fun s_ => by rw [p508_.2.2 84 s_ (outc rfl), p487_.2 84 s_ (outc rfl)]))
      have wk533_ := tried_st hn hj hG g486_ hD hL hW (fun c_ hc_ => funext (fun s_ => p487_.2 c_ s_ (out77 hc_ rfl))) e488_ e509_
      have tw534_ : TN 7 78 m506_ m506_ := TN_fr hW (fun x_ h1_ h2_ => funext (fun s_ => (p508_.2.2 x_ s_ (out715 h1_ h2_ rfl)).trans (p487_.2 x_ s_ (out715 h1_ h2_ rfl)))) (fun i_ hi_ => (wk533_.2 i_ hi_).trans (by rw [(fun c_ hc_ => funext (fun s_ => p487_.2 c_ s_ (out77 hc_ rfl))) 78 (by decide)]))
      refine T_ql (i_add rfl l_7 (by omega) (by omega)) ?_
      intro x535_ h536_
      exact ih j r hj hr hjr x535_ m506_ (by omega) (by omega) g507_ q525_ q526_ q527_ q528_ q529_ q530_ t531_ d522_ l523_ k521_ tw534_ tx524_ (by omega)
    refine T_sw rfl l_9 (fun s537_ => ?_) (fun s537_ => ?_)
    · refine T_qg (i_add rfl l_1 (by omega) (by omega)) (by omega) (by omega) ?_
      refine T_qg (i_add rfl l_2 (by omega) (by omega)) (by omega) (by omega) ?_
      refine T_qg (i_add rfl l_3 (by omega) (by omega)) (by omega) (by omega) ?_
      refine T_qcE (t_X11_has hn hj _ _ _ M hG) ?_
      intro r538_ m539_ e542_ p541_
      have g540_ := p541_.1
      have f543_ : (m539_ 1 1).toInt = (M 1 1).toInt := by rw [p541_.2 1 1 (by decide)]
      have f544_ : (m539_ 77 8).toInt = (M 77 8).toInt := by rw [p541_.2 77 8 (by decide)]
      have f545_ : (m539_ 7 8).toInt = (M 7 8).toInt := by rw [p541_.2 7 8 (by decide)]
      have f546_ : (m539_ 78 312).toInt = (M 78 312).toInt := by rw [p541_.2 78 312 (by decide)]
      have f547_ : (m539_ 16 8).toInt = (M 16 8).toInt := by rw [p541_.2 16 8 (by decide)]
      have f548_ : (m539_ 80 312).toInt = (M 80 312).toInt := by rw [p541_.2 80 312 (by decide)]
      have f549_ : (m539_ 0 12).toInt = (M 0 12).toInt := by rw [p541_.2 0 12 (by decide)]
      have f550_ : (m539_ 77 67).toInt = (M 77 67).toInt := by rw [p541_.2 77 67 (by decide)]
      have f551_ : (m539_ 7 9).toInt = (M 7 9).toInt := by rw [p541_.2 7 9 (by decide)]
      have f552_ : (m539_ 78 313).toInt = (M 78 313).toInt := by rw [p541_.2 78 313 (by decide)]
      have f553_ : (m539_ 16 9).toInt = (M 16 9).toInt := by rw [p541_.2 16 9 (by decide)]
      have f554_ : (m539_ 80 313).toInt = (M 80 313).toInt := by rw [p541_.2 80 313 (by decide)]
      have k555_ : WKS m539_ := WKS_S hK (p541_.2) (p541_.2 3 3 (by decide)) rfl rfl
      have d556_ : KD m539_ m539_ := KD_S hD (p541_.2) (p541_.2 3 3 (by decide)) (p541_.2 77 6 (by decide)) rfl
      have l557_ : LR j m539_ m539_ := LR_S hj hL (p541_.2) rfl rfl (p541_.2 77 17 (by decide))
      have tx558_ : m539_ 0 12 ≠ 0 → TN 16 80 m539_ m539_ := KX_S hX (p541_.2) (p541_.2 0 12 (by decide)) rfl rfl
      refine T_qg (i_add rfl l_1 (by omega) (by omega)) (by omega) (by omega) ?_
      refine T_qg (i_add rfl l_2 (by omega) (by omega)) (by omega) (by omega) ?_
      refine T_qg (i_add rfl l_3 (by omega) (by omega)) (by omega) (by omega) ?_
      refine T_qcE (t_X12_has hn _ _ _ m539_ g540_) ?_
      intro r559_ m560_ e563_ p562_
      have g561_ := p562_.2.1
      have f564_ : (m560_ 1 1).toInt = (m539_ 1 1).toInt := by rw [p562_.2.2 1 1 (by decide)]
      have f565_ : (m560_ 77 8).toInt = (m539_ 77 8).toInt := by rw [p562_.2.2 77 8 (by decide)]
      have f566_ : (m560_ 7 8).toInt = (m539_ 7 8).toInt := by rw [p562_.2.2 7 8 (by decide)]
      have f567_ : (m560_ 16 8).toInt = (m539_ 16 8).toInt := by rw [p562_.2.2 16 8 (by decide)]
      have f568_ : (m560_ 80 312).toInt = (m539_ 80 312).toInt := by rw [p562_.2.2 80 312 (by decide)]
      have f569_ : (m560_ 0 12).toInt = (m539_ 0 12).toInt := by rw [p562_.2.2 0 12 (by decide)]
      have f570_ : (m560_ 77 67).toInt = (m539_ 77 67).toInt := by rw [p562_.2.2 77 67 (by decide)]
      have f571_ : (m560_ 7 9).toInt = (m539_ 7 9).toInt := by rw [p562_.2.2 7 9 (by decide)]
      have f572_ : (m560_ 16 9).toInt = (m539_ 16 9).toInt := by rw [p562_.2.2 16 9 (by decide)]
      have f573_ : (m560_ 80 313).toInt = (m539_ 80 313).toInt := by rw [p562_.2.2 80 313 (by decide)]
      have w574_ := p562_.1
      have k575_ : WKS m560_ := WKS_S k555_ (p562_.2.2) (p562_.2.2 3 3 (by decide)) rfl rfl
      have d576_ : KD m560_ m560_ := KD_S d556_ (p562_.2.2) (p562_.2.2 3 3 (by decide)) (p562_.2.2 77 6 (by decide)) rfl
      have l577_ : LR j m560_ m560_ := LR_S hj l557_ (p562_.2.2) rfl rfl (p562_.2.2 77 17 (by decide))
      have tx578_ : m560_ 0 12 ≠ 0 → TN 16 80 m560_ m560_ := KX_S tx558_ (p562_.2.2) (p562_.2.2 0 12 (by decide)) rfl rfl
      have q579_ : (m560_ 1 1).toInt = (m560_ 77 8).toInt := by omega
      have q580_ : (m560_ 7 8).toInt = (m560_ 78 312).toInt := by omega
      have q581_ : (m560_ 16 8).toInt = (m560_ 80 312).toInt := by omega
      have q582_ : (m560_ 0 12).toInt = (m560_ 77 67).toInt := by omega
      have q583_ : (m560_ 7 9).toInt = (m560_ 78 313).toInt := by omega
      have q584_ : (m560_ 16 9).toInt = (m560_ 80 313).toInt := by omega
      have f586_ := r_1_1 hG
      have t585_ : TR m560_ := TR_le hT (by omega) (funext (fun s_ => by rw [p562_.2.2 2 s_ (outc rfl), p541_.2 2 s_ (outc rfl)])) (funext (fun s_ => by rw [p562_.2.2 84 s_ (outc rfl), p541_.2 84 s_ (outc rfl)]))
      have wk587_ := has_st hn hj hG g540_ hD hL hW (fun c_ hc_ => funext (fun s_ => p541_.2 c_ s_ (out77 hc_ rfl))) e542_ e563_
      have tw588_ : TN 7 78 m560_ m560_ := TN_fr hW (fun x_ h1_ h2_ => funext (fun s_ => (p562_.2.2 x_ s_ (out715 h1_ h2_ rfl)).trans (p541_.2 x_ s_ (out715 h1_ h2_ rfl)))) (fun i_ hi_ => (wk587_.2 i_ hi_).trans (by rw [(fun c_ hc_ => funext (fun s_ => p541_.2 c_ s_ (out77 hc_ rfl))) 78 (by decide)]))
      refine T_ql (i_add rfl l_7 (by omega) (by omega)) ?_
      intro x589_ h590_
      exact ih j r hj hr hjr x589_ m560_ (by omega) (by omega) g561_ q579_ q580_ q581_ q582_ q583_ q584_ t585_ d576_ l577_ k575_ tw588_ tx578_ (by omega)
    refine T_sw rfl l_10 (fun s591_ => ?_) (fun s591_ => ?_)
    · refine T_qg (i_add rfl l_1 (by omega) (by omega)) (by omega) (by omega) ?_
      refine T_qg (i_add rfl l_2 (by omega) (by omega)) (by omega) (by omega) ?_
      refine T_qcE (t_X11_alike hn hj _ _ M hG) ?_
      intro r592_ m593_ e596_ p595_
      have g594_ := p595_.2.1
      have f597_ : (m593_ 1 1).toInt = (M 1 1).toInt := by rw [p595_.2.2 1 1 (by decide)]
      have f598_ : (m593_ 77 8).toInt = (M 77 8).toInt := by rw [p595_.2.2 77 8 (by decide)]
      have f599_ : (m593_ 7 8).toInt = (M 7 8).toInt := by rw [p595_.2.2 7 8 (by decide)]
      have f600_ : (m593_ 78 312).toInt = (M 78 312).toInt := by rw [p595_.2.2 78 312 (by decide)]
      have f601_ : (m593_ 16 8).toInt = (M 16 8).toInt := by rw [p595_.2.2 16 8 (by decide)]
      have f602_ : (m593_ 80 312).toInt = (M 80 312).toInt := by rw [p595_.2.2 80 312 (by decide)]
      have f603_ : (m593_ 0 12).toInt = (M 0 12).toInt := by rw [p595_.2.2 0 12 (by decide)]
      have f604_ : (m593_ 77 67).toInt = (M 77 67).toInt := by rw [p595_.2.2 77 67 (by decide)]
      have f605_ : (m593_ 7 9).toInt = (M 7 9).toInt := by rw [p595_.2.2 7 9 (by decide)]
      have f606_ : (m593_ 78 313).toInt = (M 78 313).toInt := by rw [p595_.2.2 78 313 (by decide)]
      have f607_ : (m593_ 16 9).toInt = (M 16 9).toInt := by rw [p595_.2.2 16 9 (by decide)]
      have f608_ : (m593_ 80 313).toInt = (M 80 313).toInt := by rw [p595_.2.2 80 313 (by decide)]
      have k609_ : WKS m593_ := WKS_S hK (p595_.2.2) (p595_.2.2 3 3 (by decide)) rfl rfl
      have d610_ : KD m593_ m593_ := KD_S hD (p595_.2.2) (p595_.2.2 3 3 (by decide)) (p595_.2.2 77 6 (by decide)) rfl
      have l611_ : LR j m593_ m593_ := LR_S hj hL (p595_.2.2) rfl rfl (p595_.2.2 77 17 (by decide))
      have tw612_ : TN 7 78 m593_ m593_ := TN_S hW (p595_.2.2) rfl rfl
      have tx613_ : m593_ 0 12 ≠ 0 → TN 16 80 m593_ m593_ := KX_S hX (p595_.2.2) (p595_.2.2 0 12 (by decide)) rfl rfl
      refine T_qg (i_add rfl l_1 (by omega) (by omega)) (by omega) (by omega) ?_
      refine T_qg (i_add rfl l_2 (by omega) (by omega)) (by omega) (by omega) ?_
      refine T_qcE (t_X12_alike hn _ _ m593_ g594_) ?_
      intro r614_ m615_ e618_ p617_
      have g616_ := p617_.2.1
      have f619_ : (m615_ 1 1).toInt = (m593_ 1 1).toInt := by rw [p617_.2.2 1 1 (by decide)]
      have f620_ : (m615_ 77 8).toInt = (m593_ 77 8).toInt := by rw [p617_.2.2 77 8 (by decide)]
      have f621_ : (m615_ 7 8).toInt = (m593_ 7 8).toInt := by rw [p617_.2.2 7 8 (by decide)]
      have f622_ : (m615_ 78 312).toInt = (m593_ 78 312).toInt := by rw [p617_.2.2 78 312 (by decide)]
      have f623_ : (m615_ 16 8).toInt = (m593_ 16 8).toInt := by rw [p617_.2.2 16 8 (by decide)]
      have f624_ : (m615_ 80 312).toInt = (m593_ 80 312).toInt := by rw [p617_.2.2 80 312 (by decide)]
      have f625_ : (m615_ 0 12).toInt = (m593_ 0 12).toInt := by rw [p617_.2.2 0 12 (by decide)]
      have f626_ : (m615_ 77 67).toInt = (m593_ 77 67).toInt := by rw [p617_.2.2 77 67 (by decide)]
      have f627_ : (m615_ 7 9).toInt = (m593_ 7 9).toInt := by rw [p617_.2.2 7 9 (by decide)]
      have f628_ : (m615_ 78 313).toInt = (m593_ 78 313).toInt := by rw [p617_.2.2 78 313 (by decide)]
      have f629_ : (m615_ 16 9).toInt = (m593_ 16 9).toInt := by rw [p617_.2.2 16 9 (by decide)]
      have f630_ : (m615_ 80 313).toInt = (m593_ 80 313).toInt := by rw [p617_.2.2 80 313 (by decide)]
      have k631_ : WKS m615_ := WKS_S k609_ (p617_.2.2) (p617_.2.2 3 3 (by decide)) rfl rfl
      have d632_ : KD m615_ m615_ := KD_S d610_ (p617_.2.2) (p617_.2.2 3 3 (by decide)) (p617_.2.2 77 6 (by decide)) rfl
      have l633_ : LR j m615_ m615_ := LR_S hj l611_ (p617_.2.2) rfl rfl (p617_.2.2 77 17 (by decide))
      have tw634_ : TN 7 78 m615_ m615_ := TN_S tw612_ (p617_.2.2) rfl rfl
      have tx635_ : m615_ 0 12 ≠ 0 → TN 16 80 m615_ m615_ := KX_S tx613_ (p617_.2.2) (p617_.2.2 0 12 (by decide)) rfl rfl
      have q636_ : (m615_ 1 1).toInt = (m615_ 77 8).toInt := by omega
      have q637_ : (m615_ 7 8).toInt = (m615_ 78 312).toInt := by omega
      have q638_ : (m615_ 16 8).toInt = (m615_ 80 312).toInt := by omega
      have q639_ : (m615_ 0 12).toInt = (m615_ 77 67).toInt := by omega
      have q640_ : (m615_ 7 9).toInt = (m615_ 78 313).toInt := by omega
      have q641_ : (m615_ 16 9).toInt = (m615_ 80 313).toInt := by omega
      have f643_ := r_1_1 hG
      have t642_ : TR m615_ := TR_le hT (by omega) (funext (fun s_ => by rw [p617_.2.2 2 s_ (outc rfl), p595_.2.2 2 s_ (outc rfl)])) (funext (fun s_ => by rw [p617_.2.2 84 s_ (outc rfl), p595_.2.2 84 s_ (outc rfl)]))
      refine T_ql (i_add rfl l_7 (by omega) (by omega)) ?_
      intro x644_ h645_
      exact ih j r hj hr hjr x644_ m615_ (by omega) (by omega) g616_ q636_ q637_ q638_ q639_ q640_ q641_ t642_ d632_ l633_ k631_ tw634_ tx635_ (by omega)
    refine T_sw rfl l_11 (fun s646_ => ?_) (fun s646_ => ?_)
    · refine T_qg (i_add rfl l_1 (by omega) (by omega)) (by omega) (by omega) ?_
      refine T_qg (i_add rfl l_2 (by omega) (by omega)) (by omega) (by omega) ?_
      refine T_qg (i_add rfl l_3 (by omega) (by omega)) (by omega) (by omega) ?_
      refine T_qcE (t_X11_cost hn hj _ _ _ M hG) ?_
      intro r647_ m648_ e651_ p650_
      have g649_ := p650_.2.1
      have f652_ : (m648_ 1 1).toInt = (M 1 1).toInt := by rw [p650_.2.2 1 1 (by decide)]
      have f653_ : (m648_ 77 8).toInt = (M 77 8).toInt := by rw [p650_.2.2 77 8 (by decide)]
      have f654_ : (m648_ 7 8).toInt = (M 7 8).toInt := by rw [p650_.2.2 7 8 (by decide)]
      have f655_ : (m648_ 78 312).toInt = (M 78 312).toInt := by rw [p650_.2.2 78 312 (by decide)]
      have f656_ : (m648_ 16 8).toInt = (M 16 8).toInt := by rw [p650_.2.2 16 8 (by decide)]
      have f657_ : (m648_ 80 312).toInt = (M 80 312).toInt := by rw [p650_.2.2 80 312 (by decide)]
      have f658_ : (m648_ 0 12).toInt = (M 0 12).toInt := by rw [p650_.2.2 0 12 (by decide)]
      have f659_ : (m648_ 77 67).toInt = (M 77 67).toInt := by rw [p650_.2.2 77 67 (by decide)]
      have f660_ : (m648_ 7 9).toInt = (M 7 9).toInt := by rw [p650_.2.2 7 9 (by decide)]
      have f661_ : (m648_ 78 313).toInt = (M 78 313).toInt := by rw [p650_.2.2 78 313 (by decide)]
      have f662_ : (m648_ 16 9).toInt = (M 16 9).toInt := by rw [p650_.2.2 16 9 (by decide)]
      have f663_ : (m648_ 80 313).toInt = (M 80 313).toInt := by rw [p650_.2.2 80 313 (by decide)]
      have k664_ : WKS m648_ := WKS_S hK (p650_.2.2) (p650_.2.2 3 3 (by decide)) rfl rfl
      have d665_ : KD m648_ m648_ := KD_S hD (p650_.2.2) (p650_.2.2 3 3 (by decide)) (p650_.2.2 77 6 (by decide)) rfl
      have l666_ : LR j m648_ m648_ := LR_S hj hL (p650_.2.2) rfl rfl (p650_.2.2 77 17 (by decide))
      have tw667_ : TN 7 78 m648_ m648_ := TN_S hW (p650_.2.2) rfl rfl
      have tx668_ : m648_ 0 12 ≠ 0 → TN 16 80 m648_ m648_ := KX_S hX (p650_.2.2) (p650_.2.2 0 12 (by decide)) rfl rfl
      refine T_qg (i_add rfl l_1 (by omega) (by omega)) (by omega) (by omega) ?_
      refine T_qg (i_add rfl l_2 (by omega) (by omega)) (by omega) (by omega) ?_
      refine T_qg (i_add rfl l_3 (by omega) (by omega)) (by omega) (by omega) ?_
      refine T_qcE (t_X12_cost hn _ _ _ m648_ g649_) ?_
      intro r669_ m670_ e673_ p672_
      have g671_ := p672_.2.1
      have f674_ : (m670_ 1 1).toInt = (m648_ 1 1).toInt := by rw [p672_.2.2 1 1 (by decide)]
      have f675_ : (m670_ 77 8).toInt = (m648_ 77 8).toInt := by rw [p672_.2.2 77 8 (by decide)]
      have f676_ : (m670_ 7 8).toInt = (m648_ 7 8).toInt := by rw [p672_.2.2 7 8 (by decide)]
      have f677_ : (m670_ 78 312).toInt = (m648_ 78 312).toInt := by rw [p672_.2.2 78 312 (by decide)]
      have f678_ : (m670_ 16 8).toInt = (m648_ 16 8).toInt := by rw [p672_.2.2 16 8 (by decide)]
      have f679_ : (m670_ 80 312).toInt = (m648_ 80 312).toInt := by rw [p672_.2.2 80 312 (by decide)]
      have f680_ : (m670_ 0 12).toInt = (m648_ 0 12).toInt := by rw [p672_.2.2 0 12 (by decide)]
      have f681_ : (m670_ 77 67).toInt = (m648_ 77 67).toInt := by rw [p672_.2.2 77 67 (by decide)]
      have f682_ : (m670_ 7 9).toInt = (m648_ 7 9).toInt := by rw [p672_.2.2 7 9 (by decide)]
      have f683_ : (m670_ 78 313).toInt = (m648_ 78 313).toInt := by rw [p672_.2.2 78 313 (by decide)]
      have f684_ : (m670_ 16 9).toInt = (m648_ 16 9).toInt := by rw [p672_.2.2 16 9 (by decide)]
      have f685_ : (m670_ 80 313).toInt = (m648_ 80 313).toInt := by rw [p672_.2.2 80 313 (by decide)]
      have k686_ : WKS m670_ := WKS_S k664_ (p672_.2.2) (p672_.2.2 3 3 (by decide)) rfl rfl
      have d687_ : KD m670_ m670_ := KD_S d665_ (p672_.2.2) (p672_.2.2 3 3 (by decide)) (p672_.2.2 77 6 (by decide)) rfl
      have l688_ : LR j m670_ m670_ := LR_S hj l666_ (p672_.2.2) rfl rfl (p672_.2.2 77 17 (by decide))
      have tw689_ : TN 7 78 m670_ m670_ := TN_S tw667_ (p672_.2.2) rfl rfl
      have tx690_ : m670_ 0 12 ≠ 0 → TN 16 80 m670_ m670_ := KX_S tx668_ (p672_.2.2) (p672_.2.2 0 12 (by decide)) rfl rfl
      have q691_ : (m670_ 1 1).toInt = (m670_ 77 8).toInt := by omega
      have q692_ : (m670_ 7 8).toInt = (m670_ 78 312).toInt := by omega
      have q693_ : (m670_ 16 8).toInt = (m670_ 80 312).toInt := by omega
      have q694_ : (m670_ 0 12).toInt = (m670_ 77 67).toInt := by omega
      have q695_ : (m670_ 7 9).toInt = (m670_ 78 313).toInt := by omega
      have q696_ : (m670_ 16 9).toInt = (m670_ 80 313).toInt := by omega
      have f698_ := r_1_1 hG
      have t697_ : TR m670_ := TR_le hT (by omega) (funext (fun s_ => by rw [p672_.2.2 2 s_ (outc rfl), p650_.2.2 2 s_ (outc rfl)])) (funext (fun s_ => by rw [p672_.2.2 84 s_ (outc rfl), p650_.2.2 84 s_ (outc rfl)]))
      refine T_ql (i_add rfl l_7 (by omega) (by omega)) ?_
      intro x699_ h700_
      exact ih j r hj hr hjr x699_ m670_ (by omega) (by omega) g671_ q691_ q692_ q693_ q694_ q695_ q696_ t697_ d687_ l688_ k686_ tw689_ tx690_ (by omega)
    refine T_sw rfl l_12 (fun s701_ => ?_) (fun s701_ => ?_)
    · refine T_qg (i_add rfl l_1 (by omega) (by omega)) (by omega) (by omega) ?_
      refine T_qg (i_add rfl l_2 (by omega) (by omega)) (by omega) (by omega) ?_
      refine T_qg (i_add rfl l_3 (by omega) (by omega)) (by omega) (by omega) ?_
      refine T_qg (i_add rfl l_4 (by omega) (by omega)) (by omega) (by omega) ?_
      refine T_qg (i_add rfl l_5 (by omega) (by omega)) (by omega) (by omega) ?_
      refine T_qcE (t_X11_soonest hn hj _ _ _ _ _ M hG) ?_
      intro r702_ m703_ e706_ p705_
      have g704_ := p705_.1
      have f707_ : (m703_ 1 1).toInt = (M 1 1).toInt := by rw [p705_.2 1 1 (by decide)]
      have f708_ : (m703_ 77 8).toInt = (M 77 8).toInt := by rw [p705_.2 77 8 (by decide)]
      have f709_ : (m703_ 7 8).toInt = (M 7 8).toInt := by rw [p705_.2 7 8 (by decide)]
      have f710_ : (m703_ 78 312).toInt = (M 78 312).toInt := by rw [p705_.2 78 312 (by decide)]
      have f711_ : (m703_ 16 8).toInt = (M 16 8).toInt := by rw [p705_.2 16 8 (by decide)]
      have f712_ : (m703_ 80 312).toInt = (M 80 312).toInt := by rw [p705_.2 80 312 (by decide)]
      have f713_ : (m703_ 0 12).toInt = (M 0 12).toInt := by rw [p705_.2 0 12 (by decide)]
      have f714_ : (m703_ 77 67).toInt = (M 77 67).toInt := by rw [p705_.2 77 67 (by decide)]
      have f715_ : (m703_ 7 9).toInt = (M 7 9).toInt := by rw [p705_.2 7 9 (by decide)]
      have f716_ : (m703_ 78 313).toInt = (M 78 313).toInt := by rw [p705_.2 78 313 (by decide)]
      have f717_ : (m703_ 16 9).toInt = (M 16 9).toInt := by rw [p705_.2 16 9 (by decide)]
      have f718_ : (m703_ 80 313).toInt = (M 80 313).toInt := by rw [p705_.2 80 313 (by decide)]
      have k719_ : WKS m703_ := WKS_S hK (p705_.2) (p705_.2 3 3 (by decide)) rfl rfl
      have d720_ : KD m703_ m703_ := KD_S hD (p705_.2) (p705_.2 3 3 (by decide)) (p705_.2 77 6 (by decide)) rfl
      have l721_ : LR j m703_ m703_ := LR_S hj hL (p705_.2) rfl rfl (p705_.2 77 17 (by decide))
      have tw722_ : TN 7 78 m703_ m703_ := TN_S hW (p705_.2) rfl rfl
      have tx723_ : m703_ 0 12 ≠ 0 → TN 16 80 m703_ m703_ := KX_S hX (p705_.2) (p705_.2 0 12 (by decide)) rfl rfl
      refine T_qg (i_add rfl l_1 (by omega) (by omega)) (by omega) (by omega) ?_
      refine T_qg (i_add rfl l_2 (by omega) (by omega)) (by omega) (by omega) ?_
      refine T_qg (i_add rfl l_3 (by omega) (by omega)) (by omega) (by omega) ?_
      refine T_qg (i_add rfl l_4 (by omega) (by omega)) (by omega) (by omega) ?_
      refine T_qg (i_add rfl l_5 (by omega) (by omega)) (by omega) (by omega) ?_
      refine T_qcE (t_X12_soonest hn _ _ _ _ _ m703_ g704_) ?_
      intro r724_ m725_ e728_ p727_
      have g726_ := p727_.1
      have f729_ : (m725_ 1 1).toInt = (m703_ 1 1).toInt := by rw [p727_.2 1 1 (by decide)]
      have f730_ : (m725_ 77 8).toInt = (m703_ 77 8).toInt := by rw [p727_.2 77 8 (by decide)]
      have f731_ : (m725_ 7 8).toInt = (m703_ 7 8).toInt := by rw [p727_.2 7 8 (by decide)]
      have f732_ : (m725_ 78 312).toInt = (m703_ 78 312).toInt := by rw [p727_.2 78 312 (by decide)]
      have f733_ : (m725_ 16 8).toInt = (m703_ 16 8).toInt := by rw [p727_.2 16 8 (by decide)]
      have f734_ : (m725_ 80 312).toInt = (m703_ 80 312).toInt := by rw [p727_.2 80 312 (by decide)]
      have f735_ : (m725_ 0 12).toInt = (m703_ 0 12).toInt := by rw [p727_.2 0 12 (by decide)]
      have f736_ : (m725_ 77 67).toInt = (m703_ 77 67).toInt := by rw [p727_.2 77 67 (by decide)]
      have f737_ : (m725_ 7 9).toInt = (m703_ 7 9).toInt := by rw [p727_.2 7 9 (by decide)]
      have f738_ : (m725_ 78 313).toInt = (m703_ 78 313).toInt := by rw [p727_.2 78 313 (by decide)]
      have f739_ : (m725_ 16 9).toInt = (m703_ 16 9).toInt := by rw [p727_.2 16 9 (by decide)]
      have f740_ : (m725_ 80 313).toInt = (m703_ 80 313).toInt := by rw [p727_.2 80 313 (by decide)]
      have k741_ : WKS m725_ := WKS_S k719_ (p727_.2) (p727_.2 3 3 (by decide)) rfl rfl
      have d742_ : KD m725_ m725_ := KD_S d720_ (p727_.2) (p727_.2 3 3 (by decide)) (p727_.2 77 6 (by decide)) rfl
      have l743_ : LR j m725_ m725_ := LR_S hj l721_ (p727_.2) rfl rfl (p727_.2 77 17 (by decide))
      have tw744_ : TN 7 78 m725_ m725_ := TN_S tw722_ (p727_.2) rfl rfl
      have tx745_ : m725_ 0 12 ≠ 0 → TN 16 80 m725_ m725_ := KX_S tx723_ (p727_.2) (p727_.2 0 12 (by decide)) rfl rfl
      have q746_ : (m725_ 1 1).toInt = (m725_ 77 8).toInt := by omega
      have q747_ : (m725_ 7 8).toInt = (m725_ 78 312).toInt := by omega
      have q748_ : (m725_ 16 8).toInt = (m725_ 80 312).toInt := by omega
      have q749_ : (m725_ 0 12).toInt = (m725_ 77 67).toInt := by omega
      have q750_ : (m725_ 7 9).toInt = (m725_ 78 313).toInt := by omega
      have q751_ : (m725_ 16 9).toInt = (m725_ 80 313).toInt := by omega
      have f753_ := r_1_1 hG
      have t752_ : TR m725_ := TR_le hT (by omega) (funext (fun s_ => by rw [p727_.2 2 s_ (outc rfl), p705_.2 2 s_ (outc rfl)])) (funext (fun s_ => by rw [p727_.2 84 s_ (outc rfl), p705_.2 84 s_ (outc rfl)]))
      have w754_ : r702_ = r724_ := soonest_st hn hj hG g704_ hD hL hW (fun c_ hc_ => funext (fun s_ => p705_.2 c_ s_ (out77 hc_ rfl))) e706_ e728_ hK
      rw [if_pos w754_]
      refine T_ql (i_add rfl l_7 (by omega) (by omega)) ?_
      intro x755_ h756_
      exact ih j r hj hr hjr x755_ m725_ (by omega) (by omega) g726_ q746_ q747_ q748_ q749_ q750_ q751_ t752_ d742_ l743_ k741_ tw744_ tx745_ (by omega)
    refine T_sw rfl l_13 (fun s757_ => ?_) (fun s757_ => ?_)
    · refine T_qg (i_add rfl l_1 (by omega) (by omega)) (by omega) (by omega) ?_
      refine T_qg (i_add rfl l_2 (by omega) (by omega)) (by omega) (by omega) ?_
      refine T_qg (i_add rfl l_3 (by omega) (by omega)) (by omega) (by omega) ?_
      refine T_qg (i_add rfl l_4 (by omega) (by omega)) (by omega) (by omega) ?_
      refine T_qg (i_add rfl l_5 (by omega) (by omega)) (by omega) (by omega) ?_
      refine T_qcE (t_X11_cheapest hn hj _ _ _ _ _ M hG) ?_
      intro r758_ m759_ e762_ p761_
      have g760_ := p761_.1
      have f763_ : (m759_ 1 1).toInt = (M 1 1).toInt := by rw [p761_.2 1 1 (by decide)]
      have f764_ : (m759_ 77 8).toInt = (M 77 8).toInt := by rw [p761_.2 77 8 (by decide)]
      have f765_ : (m759_ 7 8).toInt = (M 7 8).toInt := by rw [p761_.2 7 8 (by decide)]
      have f766_ : (m759_ 78 312).toInt = (M 78 312).toInt := by rw [p761_.2 78 312 (by decide)]
      have f767_ : (m759_ 16 8).toInt = (M 16 8).toInt := by rw [p761_.2 16 8 (by decide)]
      have f768_ : (m759_ 80 312).toInt = (M 80 312).toInt := by rw [p761_.2 80 312 (by decide)]
      have f769_ : (m759_ 0 12).toInt = (M 0 12).toInt := by rw [p761_.2 0 12 (by decide)]
      have f770_ : (m759_ 77 67).toInt = (M 77 67).toInt := by rw [p761_.2 77 67 (by decide)]
      have f771_ : (m759_ 7 9).toInt = (M 7 9).toInt := by rw [p761_.2 7 9 (by decide)]
      have f772_ : (m759_ 78 313).toInt = (M 78 313).toInt := by rw [p761_.2 78 313 (by decide)]
      have f773_ : (m759_ 16 9).toInt = (M 16 9).toInt := by rw [p761_.2 16 9 (by decide)]
      have f774_ : (m759_ 80 313).toInt = (M 80 313).toInt := by rw [p761_.2 80 313 (by decide)]
      have k775_ : WKS m759_ := WKS_S hK (p761_.2) (p761_.2 3 3 (by decide)) rfl rfl
      have d776_ : KD m759_ m759_ := KD_S hD (p761_.2) (p761_.2 3 3 (by decide)) (p761_.2 77 6 (by decide)) rfl
      have l777_ : LR j m759_ m759_ := LR_S hj hL (p761_.2) rfl rfl (p761_.2 77 17 (by decide))
      have tw778_ : TN 7 78 m759_ m759_ := TN_S hW (p761_.2) rfl rfl
      have tx779_ : m759_ 0 12 ≠ 0 → TN 16 80 m759_ m759_ := KX_S hX (p761_.2) (p761_.2 0 12 (by decide)) rfl rfl
      refine T_qg (i_add rfl l_1 (by omega) (by omega)) (by omega) (by omega) ?_
      refine T_qg (i_add rfl l_2 (by omega) (by omega)) (by omega) (by omega) ?_
      refine T_qg (i_add rfl l_3 (by omega) (by omega)) (by omega) (by omega) ?_
      refine T_qg (i_add rfl l_4 (by omega) (by omega)) (by omega) (by omega) ?_
      refine T_qg (i_add rfl l_5 (by omega) (by omega)) (by omega) (by omega) ?_
      refine T_qcE (t_X12_cheapest hn _ _ _ _ _ m759_ g760_) ?_
      intro r780_ m781_ e784_ p783_
      have g782_ := p783_.1
      have f785_ : (m781_ 1 1).toInt = (m759_ 1 1).toInt := by rw [p783_.2 1 1 (by decide)]
      have f786_ : (m781_ 77 8).toInt = (m759_ 77 8).toInt := by rw [p783_.2 77 8 (by decide)]
      have f787_ : (m781_ 7 8).toInt = (m759_ 7 8).toInt := by rw [p783_.2 7 8 (by decide)]
      have f788_ : (m781_ 78 312).toInt = (m759_ 78 312).toInt := by rw [p783_.2 78 312 (by decide)]
      have f789_ : (m781_ 16 8).toInt = (m759_ 16 8).toInt := by rw [p783_.2 16 8 (by decide)]
      have f790_ : (m781_ 80 312).toInt = (m759_ 80 312).toInt := by rw [p783_.2 80 312 (by decide)]
      have f791_ : (m781_ 0 12).toInt = (m759_ 0 12).toInt := by rw [p783_.2 0 12 (by decide)]
      have f792_ : (m781_ 77 67).toInt = (m759_ 77 67).toInt := by rw [p783_.2 77 67 (by decide)]
      have f793_ : (m781_ 7 9).toInt = (m759_ 7 9).toInt := by rw [p783_.2 7 9 (by decide)]
      have f794_ : (m781_ 78 313).toInt = (m759_ 78 313).toInt := by rw [p783_.2 78 313 (by decide)]
      have f795_ : (m781_ 16 9).toInt = (m759_ 16 9).toInt := by rw [p783_.2 16 9 (by decide)]
      have f796_ : (m781_ 80 313).toInt = (m759_ 80 313).toInt := by rw [p783_.2 80 313 (by decide)]
      have k797_ : WKS m781_ := WKS_S k775_ (p783_.2) (p783_.2 3 3 (by decide)) rfl rfl
      have d798_ : KD m781_ m781_ := KD_S d776_ (p783_.2) (p783_.2 3 3 (by decide)) (p783_.2 77 6 (by decide)) rfl
      have l799_ : LR j m781_ m781_ := LR_S hj l777_ (p783_.2) rfl rfl (p783_.2 77 17 (by decide))
      have tw800_ : TN 7 78 m781_ m781_ := TN_S tw778_ (p783_.2) rfl rfl
      have tx801_ : m781_ 0 12 ≠ 0 → TN 16 80 m781_ m781_ := KX_S tx779_ (p783_.2) (p783_.2 0 12 (by decide)) rfl rfl
      have q802_ : (m781_ 1 1).toInt = (m781_ 77 8).toInt := by omega
      have q803_ : (m781_ 7 8).toInt = (m781_ 78 312).toInt := by omega
      have q804_ : (m781_ 16 8).toInt = (m781_ 80 312).toInt := by omega
      have q805_ : (m781_ 0 12).toInt = (m781_ 77 67).toInt := by omega
      have q806_ : (m781_ 7 9).toInt = (m781_ 78 313).toInt := by omega
      have q807_ : (m781_ 16 9).toInt = (m781_ 80 313).toInt := by omega
      have f809_ := r_1_1 hG
      have t808_ : TR m781_ := TR_le hT (by omega) (funext (fun s_ => by rw [p783_.2 2 s_ (outc rfl), p761_.2 2 s_ (outc rfl)])) (funext (fun s_ => by rw [p783_.2 84 s_ (outc rfl), p761_.2 84 s_ (outc rfl)]))
      refine T_ql (i_add rfl l_7 (by omega) (by omega)) ?_
      intro x810_ h811_
      exact ih j r hj hr hjr x810_ m781_ (by omega) (by omega) g782_ q802_ q803_ q804_ q805_ q806_ q807_ t808_ d798_ l799_ k797_ tw800_ tx801_ (by omega)
    refine T_sw rfl l_14 (fun s812_ => ?_) (fun s812_ => ?_)
    · refine T_qg (i_add rfl l_1 (by omega) (by omega)) (by omega) (by omega) ?_
      refine T_qg (i_add rfl l_2 (by omega) (by omega)) (by omega) (by omega) ?_
      refine T_qg (i_add rfl l_3 (by omega) (by omega)) (by omega) (by omega) ?_
      refine T_qcE (t_X11_loophole hn hj _ _ _ M hG) ?_
      intro r813_ m814_ e817_ p816_
      have g815_ := p816_.1
      have f818_ : (m814_ 1 1).toInt = (M 1 1).toInt := by rw [p816_.2 1 1 (by decide)]
      have f819_ : (m814_ 77 8).toInt = (M 77 8).toInt := by rw [p816_.2 77 8 (by decide)]
      have f820_ : (m814_ 7 8).toInt = (M 7 8).toInt := by rw [p816_.2 7 8 (by decide)]
      have f821_ : (m814_ 78 312).toInt = (M 78 312).toInt := by rw [p816_.2 78 312 (by decide)]
      have f822_ : (m814_ 16 8).toInt = (M 16 8).toInt := by rw [p816_.2 16 8 (by decide)]
      have f823_ : (m814_ 80 312).toInt = (M 80 312).toInt := by rw [p816_.2 80 312 (by decide)]
      have f824_ : (m814_ 0 12).toInt = (M 0 12).toInt := by rw [p816_.2 0 12 (by decide)]
      have f825_ : (m814_ 77 67).toInt = (M 77 67).toInt := by rw [p816_.2 77 67 (by decide)]
      have f826_ : (m814_ 7 9).toInt = (M 7 9).toInt := by rw [p816_.2 7 9 (by decide)]
      have f827_ : (m814_ 78 313).toInt = (M 78 313).toInt := by rw [p816_.2 78 313 (by decide)]
      have f828_ : (m814_ 16 9).toInt = (M 16 9).toInt := by rw [p816_.2 16 9 (by decide)]
      have f829_ : (m814_ 80 313).toInt = (M 80 313).toInt := by rw [p816_.2 80 313 (by decide)]
      have k830_ : WKS m814_ := WKS_S hK (p816_.2) (p816_.2 3 3 (by decide)) rfl rfl
      have d831_ : KD m814_ m814_ := KD_S hD (p816_.2) (p816_.2 3 3 (by decide)) (p816_.2 77 6 (by decide)) rfl
      have l832_ : LR j m814_ m814_ := LR_S hj hL (p816_.2) rfl rfl (p816_.2 77 17 (by decide))
      have tw833_ : TN 7 78 m814_ m814_ := TN_S hW (p816_.2) rfl rfl
      have tx834_ : m814_ 0 12 ≠ 0 → TN 16 80 m814_ m814_ := KX_S hX (p816_.2) (p816_.2 0 12 (by decide)) rfl rfl
      refine T_qg (i_add rfl l_1 (by omega) (by omega)) (by omega) (by omega) ?_
      refine T_qg (i_add rfl l_2 (by omega) (by omega)) (by omega) (by omega) ?_
      refine T_qg (i_add rfl l_3 (by omega) (by omega)) (by omega) (by omega) ?_
      refine T_qcE (t_X12_loophole hn _ _ _ m814_ g815_) ?_
      intro r835_ m836_ e839_ p838_
      have g837_ := p838_.1
      have f840_ : (m836_ 1 1).toInt = (m814_ 1 1).toInt := by rw [p838_.2 1 1 (by decide)]
      have f841_ : (m836_ 77 8).toInt = (m814_ 77 8).toInt := by rw [p838_.2 77 8 (by decide)]
      have f842_ : (m836_ 7 8).toInt = (m814_ 7 8).toInt := by rw [p838_.2 7 8 (by decide)]
      have f843_ : (m836_ 78 312).toInt = (m814_ 78 312).toInt := by rw [p838_.2 78 312 (by decide)]
      have f844_ : (m836_ 16 8).toInt = (m814_ 16 8).toInt := by rw [p838_.2 16 8 (by decide)]
      have f845_ : (m836_ 80 312).toInt = (m814_ 80 312).toInt := by rw [p838_.2 80 312 (by decide)]
      have f846_ : (m836_ 0 12).toInt = (m814_ 0 12).toInt := by rw [p838_.2 0 12 (by decide)]
      have f847_ : (m836_ 77 67).toInt = (m814_ 77 67).toInt := by rw [p838_.2 77 67 (by decide)]
      have f848_ : (m836_ 7 9).toInt = (m814_ 7 9).toInt := by rw [p838_.2 7 9 (by decide)]
      have f849_ : (m836_ 78 313).toInt = (m814_ 78 313).toInt := by rw [p838_.2 78 313 (by decide)]
      have f850_ : (m836_ 16 9).toInt = (m814_ 16 9).toInt := by rw [p838_.2 16 9 (by decide)]
      have f851_ : (m836_ 80 313).toInt = (m814_ 80 313).toInt := by rw [p838_.2 80 313 (by decide)]
      have k852_ : WKS m836_ := WKS_S k830_ (p838_.2) (p838_.2 3 3 (by decide)) rfl rfl
      have d853_ : KD m836_ m836_ := KD_S d831_ (p838_.2) (p838_.2 3 3 (by decide)) (p838_.2 77 6 (by decide)) rfl
      have l854_ : LR j m836_ m836_ := LR_S hj l832_ (p838_.2) rfl rfl (p838_.2 77 17 (by decide))
      have tw855_ : TN 7 78 m836_ m836_ := TN_S tw833_ (p838_.2) rfl rfl
      have tx856_ : m836_ 0 12 ≠ 0 → TN 16 80 m836_ m836_ := KX_S tx834_ (p838_.2) (p838_.2 0 12 (by decide)) rfl rfl
      have q857_ : (m836_ 1 1).toInt = (m836_ 77 8).toInt := by omega
      have q858_ : (m836_ 7 8).toInt = (m836_ 78 312).toInt := by omega
      have q859_ : (m836_ 16 8).toInt = (m836_ 80 312).toInt := by omega
      have q860_ : (m836_ 0 12).toInt = (m836_ 77 67).toInt := by omega
      have q861_ : (m836_ 7 9).toInt = (m836_ 78 313).toInt := by omega
      have q862_ : (m836_ 16 9).toInt = (m836_ 80 313).toInt := by omega
      have f864_ := r_1_1 hG
      have t863_ : TR m836_ := TR_le hT (by omega) (funext (fun s_ => by rw [p838_.2 2 s_ (outc rfl), p816_.2 2 s_ (outc rfl)])) (funext (fun s_ => by rw [p838_.2 84 s_ (outc rfl), p816_.2 84 s_ (outc rfl)]))
      refine T_ql (i_add rfl l_7 (by omega) (by omega)) ?_
      intro x865_ h866_
      exact ih j r hj hr hjr x865_ m836_ (by omega) (by omega) g837_ q857_ q858_ q859_ q860_ q861_ q862_ t863_ d853_ l854_ k852_ tw855_ tx856_ (by omega)
    refine T_sw rfl l_15 (fun s867_ => ?_) (fun s867_ => ?_)
    · refine T_qg (i_add rfl l_1 (by omega) (by omega)) (by omega) (by omega) ?_
      refine T_qg (i_add rfl l_2 (by omega) (by omega)) (by omega) (by omega) ?_
      refine T_qg (i_add rfl l_3 (by omega) (by omega)) (by omega) (by omega) ?_
      refine T_qcE (t_X11_jobs hn hj _ _ _ M hG) ?_
      intro r868_ m869_ e872_ p871_
      have g870_ := p871_.2.2.1
      have f873_ : (m869_ 77 8).toInt = (M 77 8).toInt := by rw [p871_.2.2.2 77 8 (by decide)]
      have f874_ : (m869_ 7 8).toInt = (M 7 8).toInt := by rw [p871_.2.2.2 7 8 (by decide)]
      have f875_ : (m869_ 78 312).toInt = (M 78 312).toInt := by rw [p871_.2.2.2 78 312 (by decide)]
      have f876_ : (m869_ 16 8).toInt = (M 16 8).toInt := by rw [p871_.2.2.2 16 8 (by decide)]
      have f877_ : (m869_ 80 312).toInt = (M 80 312).toInt := by rw [p871_.2.2.2 80 312 (by decide)]
      have f878_ : (m869_ 0 12).toInt = (M 0 12).toInt := by rw [p871_.2.2.2 0 12 (by decide)]
      have f879_ : (m869_ 77 67).toInt = (M 77 67).toInt := by rw [p871_.2.2.2 77 67 (by decide)]
      have f880_ : (m869_ 7 9).toInt = (M 7 9).toInt := by rw [p871_.2.2.2 7 9 (by decide)]
      have f881_ : (m869_ 78 313).toInt = (M 78 313).toInt := by rw [p871_.2.2.2 78 313 (by decide)]
      have f882_ : (m869_ 16 9).toInt = (M 16 9).toInt := by rw [p871_.2.2.2 16 9 (by decide)]
      have f883_ : (m869_ 80 313).toInt = (M 80 313).toInt := by rw [p871_.2.2.2 80 313 (by decide)]
      have w884_ := p871_.2.1
      have k885_ : WKS m869_ := WKS_S hK (p871_.2.2.2) (p871_.2.2.2 3 3 (by decide)) rfl rfl
      have d886_ : KD m869_ m869_ := KD_S hD (p871_.2.2.2) (p871_.2.2.2 3 3 (by decide)) (p871_.2.2.2 77 6 (by decide)) rfl
      have l887_ : LR j m869_ m869_ := LR_S hj hL (p871_.2.2.2) rfl rfl (p871_.2.2.2 77 17 (by decide))
      have tw888_ : TN 7 78 m869_ m869_ := TN_S hW (p871_.2.2.2) rfl rfl
      have tx889_ : m869_ 0 12 ≠ 0 → TN 16 80 m869_ m869_ := KX_S hX (p871_.2.2.2) (p871_.2.2.2 0 12 (by decide)) rfl rfl
      refine T_qg (i_add rfl l_1 (by omega) (by omega)) (by omega) (by omega) ?_
      refine T_qg (i_add rfl l_2 (by omega) (by omega)) (by omega) (by omega) ?_
      refine T_qg (i_add rfl l_3 (by omega) (by omega)) (by omega) (by omega) ?_
      refine T_qcE (t_X12_jobs hn _ _ _ m869_ g870_) ?_
      intro r890_ m891_ e894_ p893_
      have g892_ := p893_.2.1
      have f895_ : (m891_ 1 1).toInt = (m869_ 1 1).toInt := by rw [p893_.2.2 1 1 (by decide)]
      have f896_ : (m891_ 7 8).toInt = (m869_ 7 8).toInt := by rw [p893_.2.2 7 8 (by decide)]
      have f897_ : (m891_ 78 312).toInt = (m869_ 78 312).toInt := by rw [p893_.2.2 78 312 (by decide)]
      have f898_ : (m891_ 16 8).toInt = (m869_ 16 8).toInt := by rw [p893_.2.2 16 8 (by decide)]
      have f899_ : (m891_ 80 312).toInt = (m869_ 80 312).toInt := by rw [p893_.2.2 80 312 (by decide)]
      have f900_ : (m891_ 0 12).toInt = (m869_ 0 12).toInt := by rw [p893_.2.2 0 12 (by decide)]
      have f901_ : (m891_ 77 67).toInt = (m869_ 77 67).toInt := by rw [p893_.2.2 77 67 (by decide)]
      have f902_ : (m891_ 7 9).toInt = (m869_ 7 9).toInt := by rw [p893_.2.2 7 9 (by decide)]
      have f903_ : (m891_ 78 313).toInt = (m869_ 78 313).toInt := by rw [p893_.2.2 78 313 (by decide)]
      have f904_ : (m891_ 16 9).toInt = (m869_ 16 9).toInt := by rw [p893_.2.2 16 9 (by decide)]
      have f905_ : (m891_ 80 313).toInt = (m869_ 80 313).toInt := by rw [p893_.2.2 80 313 (by decide)]
      have w906_ := p893_.1
      have k907_ : WKS m891_ := WKS_S k885_ (p893_.2.2) (p893_.2.2 3 3 (by decide)) rfl rfl
      have d908_ : KD m891_ m891_ := KD_S d886_ (p893_.2.2) (p893_.2.2 3 3 (by decide)) (p893_.2.2 77 6 (by decide)) rfl
      have l909_ : LR j m891_ m891_ := LR_S hj l887_ (p893_.2.2) rfl rfl (p893_.2.2 77 17 (by decide))
      have tw910_ : TN 7 78 m891_ m891_ := TN_S tw888_ (p893_.2.2) rfl rfl
      have tx911_ : m891_ 0 12 ≠ 0 → TN 16 80 m891_ m891_ := KX_S tx889_ (p893_.2.2) (p893_.2.2 0 12 (by decide)) rfl rfl
      have q912_ : (m891_ 1 1).toInt = (m891_ 77 8).toInt := by omega
      have q913_ : (m891_ 7 8).toInt = (m891_ 78 312).toInt := by omega
      have q914_ : (m891_ 16 8).toInt = (m891_ 80 312).toInt := by omega
      have q915_ : (m891_ 0 12).toInt = (m891_ 77 67).toInt := by omega
      have q916_ : (m891_ 7 9).toInt = (m891_ 78 313).toInt := by omega
      have q917_ : (m891_ 16 9).toInt = (m891_ 80 313).toInt := by omega
      have f919_ := r_1_1 hG
      have t918_ : TR m891_ := TR_le hT (by omega) (funext (fun s_ => by rw [p893_.2.2 2 s_ (outc rfl), p871_.2.2.2 2 s_ (outc rfl)])) (funext (fun s_ => by rw [p893_.2.2 84 s_ (outc rfl), p871_.2.2.2 84 s_ (outc rfl)]))
      refine T_ql (i_add rfl l_7 (by omega) (by omega)) ?_
      intro x920_ h921_
      exact ih j r hj hr hjr x920_ m891_ (by omega) (by omega) g892_ q912_ q913_ q914_ q915_ q916_ q917_ t918_ d908_ l909_ k907_ tw910_ tx911_ (by omega)
    refine T_sw rfl l_16 (fun s922_ => ?_) (fun s922_ => ?_)
    · refine T_qg (i_add rfl l_1 (by omega) (by omega)) (by omega) (by omega) ?_
      refine T_qg (i_add rfl l_2 (by omega) (by omega)) (by omega) (by omega) ?_
      refine T_qg (i_add rfl l_3 (by omega) (by omega)) (by omega) (by omega) ?_
      refine T_qcE (t_X11_rivals hn _ _ _ M hG) ?_
      intro r923_ m924_ e927_ p926_
      have g925_ := p926_.1
      have f928_ : (m924_ 1 1).toInt = (M 1 1).toInt := by rw [p926_.2 1 1 (by decide)]
      have f929_ : (m924_ 77 8).toInt = (M 77 8).toInt := by rw [p926_.2 77 8 (by decide)]
      have f930_ : (m924_ 7 8).toInt = (M 7 8).toInt := by rw [p926_.2 7 8 (by decide)]
      have f931_ : (m924_ 78 312).toInt = (M 78 312).toInt := by rw [p926_.2 78 312 (by decide)]
      have f932_ : (m924_ 16 8).toInt = (M 16 8).toInt := by rw [p926_.2 16 8 (by decide)]
      have f933_ : (m924_ 80 312).toInt = (M 80 312).toInt := by rw [p926_.2 80 312 (by decide)]
      have f934_ : (m924_ 0 12).toInt = (M 0 12).toInt := by rw [p926_.2 0 12 (by decide)]
      have f935_ : (m924_ 77 67).toInt = (M 77 67).toInt := by rw [p926_.2 77 67 (by decide)]
      have f936_ : (m924_ 7 9).toInt = (M 7 9).toInt := by rw [p926_.2 7 9 (by decide)]
      have f937_ : (m924_ 78 313).toInt = (M 78 313).toInt := by rw [p926_.2 78 313 (by decide)]
      have f938_ : (m924_ 16 9).toInt = (M 16 9).toInt := by rw [p926_.2 16 9 (by decide)]
      have f939_ : (m924_ 80 313).toInt = (M 80 313).toInt := by rw [p926_.2 80 313 (by decide)]
      have k940_ : WKS m924_ := WKS_S hK (p926_.2) (p926_.2 3 3 (by decide)) rfl rfl
      have d941_ : KD m924_ m924_ := KD_S hD (p926_.2) (p926_.2 3 3 (by decide)) (p926_.2 77 6 (by decide)) rfl
      have l942_ : LR j m924_ m924_ := LR_S hj hL (p926_.2) rfl rfl (p926_.2 77 17 (by decide))
      have tw943_ : TN 7 78 m924_ m924_ := TN_S hW (p926_.2) rfl rfl
      have tx944_ : m924_ 0 12 ≠ 0 → TN 16 80 m924_ m924_ := KX_S hX (p926_.2) (p926_.2 0 12 (by decide)) rfl rfl
      refine T_qg (i_add rfl l_1 (by omega) (by omega)) (by omega) (by omega) ?_
      refine T_qg (i_add rfl l_2 (by omega) (by omega)) (by omega) (by omega) ?_
      refine T_qg (i_add rfl l_3 (by omega) (by omega)) (by omega) (by omega) ?_
      refine T_qcE (t_X12_rivals hn _ _ _ m924_ g925_) ?_
      intro r945_ m946_ e949_ p948_
      have g947_ := p948_.1
      have f950_ : (m946_ 1 1).toInt = (m924_ 1 1).toInt := by rw [p948_.2 1 1 (by decide)]
      have f951_ : (m946_ 77 8).toInt = (m924_ 77 8).toInt := by rw [p948_.2 77 8 (by decide)]
      have f952_ : (m946_ 7 8).toInt = (m924_ 7 8).toInt := by rw [p948_.2 7 8 (by decide)]
      have f953_ : (m946_ 78 312).toInt = (m924_ 78 312).toInt := by rw [p948_.2 78 312 (by decide)]
      have f954_ : (m946_ 16 8).toInt = (m924_ 16 8).toInt := by rw [p948_.2 16 8 (by decide)]
      have f955_ : (m946_ 80 312).toInt = (m924_ 80 312).toInt := by rw [p948_.2 80 312 (by decide)]
      have f956_ : (m946_ 0 12).toInt = (m924_ 0 12).toInt := by rw [p948_.2 0 12 (by decide)]
      have f957_ : (m946_ 77 67).toInt = (m924_ 77 67).toInt := by rw [p948_.2 77 67 (by decide)]
      have f958_ : (m946_ 7 9).toInt = (m924_ 7 9).toInt := by rw [p948_.2 7 9 (by decide)]
      have f959_ : (m946_ 78 313).toInt = (m924_ 78 313).toInt := by rw [p948_.2 78 313 (by decide)]
      have f960_ : (m946_ 16 9).toInt = (m924_ 16 9).toInt := by rw [p948_.2 16 9 (by decide)]
      have f961_ : (m946_ 80 313).toInt = (m924_ 80 313).toInt := by rw [p948_.2 80 313 (by decide)]
      have k962_ : WKS m946_ := WKS_S k940_ (p948_.2) (p948_.2 3 3 (by decide)) rfl rfl
      have d963_ : KD m946_ m946_ := KD_S d941_ (p948_.2) (p948_.2 3 3 (by decide)) (p948_.2 77 6 (by decide)) rfl
      have l964_ : LR j m946_ m946_ := LR_S hj l942_ (p948_.2) rfl rfl (p948_.2 77 17 (by decide))
      have tw965_ : TN 7 78 m946_ m946_ := TN_S tw943_ (p948_.2) rfl rfl
      have tx966_ : m946_ 0 12 ≠ 0 → TN 16 80 m946_ m946_ := KX_S tx944_ (p948_.2) (p948_.2 0 12 (by decide)) rfl rfl
      have q967_ : (m946_ 1 1).toInt = (m946_ 77 8).toInt := by omega
      have q968_ : (m946_ 7 8).toInt = (m946_ 78 312).toInt := by omega
      have q969_ : (m946_ 16 8).toInt = (m946_ 80 312).toInt := by omega
      have q970_ : (m946_ 0 12).toInt = (m946_ 77 67).toInt := by omega
      have q971_ : (m946_ 7 9).toInt = (m946_ 78 313).toInt := by omega
      have q972_ : (m946_ 16 9).toInt = (m946_ 80 313).toInt := by omega
      have f974_ := r_1_1 hG
      have t973_ : TR m946_ := TR_le hT (by omega) (funext (fun s_ => by rw [p948_.2 2 s_ (outc rfl), p926_.2 2 s_ (outc rfl)])) (funext (fun s_ => by rw [p948_.2 84 s_ (outc rfl), p926_.2 84 s_ (outc rfl)]))
      refine T_ql (i_add rfl l_7 (by omega) (by omega)) ?_
      intro x975_ h976_
      exact ih j r hj hr hjr x975_ m946_ (by omega) (by omega) g947_ q967_ q968_ q969_ q970_ q971_ q972_ t973_ d963_ l964_ k962_ tw965_ tx966_ (by omega)
    refine T_sw rfl l_17 (fun s977_ => ?_) (fun s977_ => ?_)
    · refine T_qg (i_add rfl l_1 (by omega) (by omega)) (by omega) (by omega) ?_
      refine T_qg (i_add rfl l_2 (by omega) (by omega)) (by omega) (by omega) ?_
      refine T_qg (i_add rfl l_3 (by omega) (by omega)) (by omega) (by omega) ?_
      refine T_qg (i_add rfl l_4 (by omega) (by omega)) (by omega) (by omega) ?_
      refine T_qcE (t_X11_histories hn hj _ _ _ _ M hG) ?_
      intro r978_ m979_ e982_ p981_
      have g980_ := p981_.2.1
      have f983_ : (m979_ 77 8).toInt = (M 77 8).toInt := by rw [p981_.2.2 77 8 (by decide)]
      have f984_ : (m979_ 7 8).toInt = (M 7 8).toInt := by rw [p981_.2.2 7 8 (by decide)]
      have f985_ : (m979_ 78 312).toInt = (M 78 312).toInt := by rw [p981_.2.2 78 312 (by decide)]
      have f986_ : (m979_ 16 8).toInt = (M 16 8).toInt := by rw [p981_.2.2 16 8 (by decide)]
      have f987_ : (m979_ 80 312).toInt = (M 80 312).toInt := by rw [p981_.2.2 80 312 (by decide)]
      have f988_ : (m979_ 0 12).toInt = (M 0 12).toInt := by rw [p981_.2.2 0 12 (by decide)]
      have f989_ : (m979_ 77 67).toInt = (M 77 67).toInt := by rw [p981_.2.2 77 67 (by decide)]
      have f990_ : (m979_ 7 9).toInt = (M 7 9).toInt := by rw [p981_.2.2 7 9 (by decide)]
      have f991_ : (m979_ 78 313).toInt = (M 78 313).toInt := by rw [p981_.2.2 78 313 (by decide)]
      have f992_ : (m979_ 16 9).toInt = (M 16 9).toInt := by rw [p981_.2.2 16 9 (by decide)]
      have f993_ : (m979_ 80 313).toInt = (M 80 313).toInt := by rw [p981_.2.2 80 313 (by decide)]
      have w994_ := p981_.1
      have k995_ : WKS m979_ := WKS_S hK (p981_.2.2) (p981_.2.2 3 3 (by decide)) rfl rfl
      have d996_ : KD m979_ m979_ := KD_S hD (p981_.2.2) (p981_.2.2 3 3 (by decide)) (p981_.2.2 77 6 (by decide)) rfl
      have l997_ : LR j m979_ m979_ := LR_S hj hL (p981_.2.2) rfl rfl (p981_.2.2 77 17 (by decide))
      have tw998_ : TN 7 78 m979_ m979_ := TN_S hW (p981_.2.2) rfl rfl
      have tx999_ : m979_ 0 12 ≠ 0 → TN 16 80 m979_ m979_ := KX_S hX (p981_.2.2) (p981_.2.2 0 12 (by decide)) rfl rfl
      refine T_qg (i_add rfl l_1 (by omega) (by omega)) (by omega) (by omega) ?_
      refine T_qg (i_add rfl l_2 (by omega) (by omega)) (by omega) (by omega) ?_
      refine T_qg (i_add rfl l_3 (by omega) (by omega)) (by omega) (by omega) ?_
      refine T_qg (i_add rfl l_4 (by omega) (by omega)) (by omega) (by omega) ?_
      refine T_qcE (t_X12_histories hn _ _ _ _ m979_ g980_) ?_
      intro r1000_ m1001_ e1004_ p1003_
      have g1002_ := p1003_.2.1
      have f1005_ : (m1001_ 1 1).toInt = (m979_ 1 1).toInt := by rw [p1003_.2.2 1 1 (by decide)]
      have f1006_ : (m1001_ 7 8).toInt = (m979_ 7 8).toInt := by rw [p1003_.2.2 7 8 (by decide)]
      have f1007_ : (m1001_ 78 312).toInt = (m979_ 78 312).toInt := by rw [p1003_.2.2 78 312 (by decide)]
      have f1008_ : (m1001_ 16 8).toInt = (m979_ 16 8).toInt := by rw [p1003_.2.2 16 8 (by decide)]
      have f1009_ : (m1001_ 80 312).toInt = (m979_ 80 312).toInt := by rw [p1003_.2.2 80 312 (by decide)]
      have f1010_ : (m1001_ 0 12).toInt = (m979_ 0 12).toInt := by rw [p1003_.2.2 0 12 (by decide)]
      have f1011_ : (m1001_ 77 67).toInt = (m979_ 77 67).toInt := by rw [p1003_.2.2 77 67 (by decide)]
      have f1012_ : (m1001_ 7 9).toInt = (m979_ 7 9).toInt := by rw [p1003_.2.2 7 9 (by decide)]
      have f1013_ : (m1001_ 78 313).toInt = (m979_ 78 313).toInt := by rw [p1003_.2.2 78 313 (by decide)]
      have f1014_ : (m1001_ 16 9).toInt = (m979_ 16 9).toInt := by rw [p1003_.2.2 16 9 (by decide)]
      have f1015_ : (m1001_ 80 313).toInt = (m979_ 80 313).toInt := by rw [p1003_.2.2 80 313 (by decide)]
      have w1016_ := p1003_.1
      have k1017_ : WKS m1001_ := WKS_S k995_ (p1003_.2.2) (p1003_.2.2 3 3 (by decide)) rfl rfl
      have d1018_ : KD m1001_ m1001_ := KD_S d996_ (p1003_.2.2) (p1003_.2.2 3 3 (by decide)) (p1003_.2.2 77 6 (by decide)) rfl
      have l1019_ : LR j m1001_ m1001_ := LR_S hj l997_ (p1003_.2.2) rfl rfl (p1003_.2.2 77 17 (by decide))
      have tw1020_ : TN 7 78 m1001_ m1001_ := TN_S tw998_ (p1003_.2.2) rfl rfl
      have tx1021_ : m1001_ 0 12 ≠ 0 → TN 16 80 m1001_ m1001_ := KX_S tx999_ (p1003_.2.2) (p1003_.2.2 0 12 (by decide)) rfl rfl
      have q1022_ : (m1001_ 1 1).toInt = (m1001_ 77 8).toInt := by omega
      have q1023_ : (m1001_ 7 8).toInt = (m1001_ 78 312).toInt := by omega
      have q1024_ : (m1001_ 16 8).toInt = (m1001_ 80 312).toInt := by omega
      have q1025_ : (m1001_ 0 12).toInt = (m1001_ 77 67).toInt := by omega
      have q1026_ : (m1001_ 7 9).toInt = (m1001_ 78 313).toInt := by omega
      have q1027_ : (m1001_ 16 9).toInt = (m1001_ 80 313).toInt := by omega
      have f1029_ := r_1_1 hG
      have t1028_ : TR m1001_ := TR_le hT (by omega) (funext (fun s_ => by rw [p1003_.2.2 2 s_ (outc rfl), p981_.2.2 2 s_ (outc rfl)])) (funext (fun s_ => by rw [p1003_.2.2 84 s_ (outc rfl), p981_.2.2 84 s_ (outc rfl)]))
      refine T_ql (i_add rfl l_7 (by omega) (by omega)) ?_
      intro x1030_ h1031_
      exact ih j r hj hr hjr x1030_ m1001_ (by omega) (by omega) g1002_ q1022_ q1023_ q1024_ q1025_ q1026_ q1027_ t1028_ d1018_ l1019_ k1017_ tw1020_ tx1021_ (by omega)
    refine T_sw rfl l_18 (fun s1032_ => ?_) (fun s1032_ => ?_)
    · refine T_qg (i_add rfl l_1 (by omega) (by omega)) (by omega) (by omega) ?_
      refine T_qg (i_add rfl l_2 (by omega) (by omega)) (by omega) (by omega) ?_
      refine T_qg (i_add rfl l_3 (by omega) (by omega)) (by omega) (by omega) ?_
      refine T_qg (i_add rfl l_4 (by omega) (by omega)) (by omega) (by omega) ?_
      refine T_eq rfl l_0 (fun c1033_ => ?_) (fun c1033_ => ?_)
      · refine T_qg (i_add rfl l_5 (by omega) (by omega)) (by omega) (by omega) ?_
        refine T_eq rfl l_0 (fun c1034_ => ?_) (fun c1034_ => ?_)
        · refine T_qg (i_add rfl l_6 (by omega) (by omega)) (by omega) (by omega) ?_
          refine T_qcE (t_X11_game hn _ _ _ _ _ _ M hG (by decide) (by decide)) ?_
          intro r1035_ m1036_ e1039_ p1038_
          have g1037_ := p1038_.2.1
          have f1040_ : (m1036_ 1 1).toInt = (M 1 1).toInt := by rw [p1038_.2.2 1 1 (by decide)]
          have f1041_ : (m1036_ 77 8).toInt = (M 77 8).toInt := by rw [p1038_.2.2 77 8 (by decide)]
          have f1042_ : (m1036_ 7 8).toInt = (M 7 8).toInt := by rw [p1038_.2.2 7 8 (by decide)]
          have f1043_ : (m1036_ 78 312).toInt = (M 78 312).toInt := by rw [p1038_.2.2 78 312 (by decide)]
          have f1044_ : (m1036_ 16 8).toInt = (M 16 8).toInt := by rw [p1038_.2.2 16 8 (by decide)]
          have f1045_ : (m1036_ 80 312).toInt = (M 80 312).toInt := by rw [p1038_.2.2 80 312 (by decide)]
          have f1046_ : (m1036_ 0 12).toInt = (M 0 12).toInt := by rw [p1038_.2.2 0 12 (by decide)]
          have f1047_ : (m1036_ 77 67).toInt = (M 77 67).toInt := by rw [p1038_.2.2 77 67 (by decide)]
          have f1048_ : (m1036_ 7 9).toInt = (M 7 9).toInt := by rw [p1038_.2.2 7 9 (by decide)]
          have f1049_ : (m1036_ 78 313).toInt = (M 78 313).toInt := by rw [p1038_.2.2 78 313 (by decide)]
          have f1050_ : (m1036_ 16 9).toInt = (M 16 9).toInt := by rw [p1038_.2.2 16 9 (by decide)]
          have f1051_ : (m1036_ 80 313).toInt = (M 80 313).toInt := by rw [p1038_.2.2 80 313 (by decide)]
          have k1052_ : WKS m1036_ := WKS_S hK (p1038_.2.2) (p1038_.2.2 3 3 (by decide)) rfl rfl
          have d1053_ : KD m1036_ m1036_ := KD_S hD (p1038_.2.2) (p1038_.2.2 3 3 (by decide)) (p1038_.2.2 77 6 (by decide)) rfl
          have l1054_ : LR j m1036_ m1036_ := LR_S hj hL (p1038_.2.2) rfl rfl (p1038_.2.2 77 17 (by decide))
          have tw1055_ : TN 7 78 m1036_ m1036_ := TN_S hW (p1038_.2.2) rfl rfl
          have tx1056_ : m1036_ 0 12 ≠ 0 → TN 16 80 m1036_ m1036_ := KX_S hX (p1038_.2.2) (p1038_.2.2 0 12 (by decide)) rfl rfl
          refine T_qg (i_add rfl l_1 (by omega) (by omega)) (by omega) (by omega) ?_
          refine T_qg (i_add rfl l_2 (by omega) (by omega)) (by omega) (by omega) ?_
          refine T_qg (i_add rfl l_3 (by omega) (by omega)) (by omega) (by omega) ?_
          refine T_qg (i_add rfl l_4 (by omega) (by omega)) (by omega) (by omega) ?_
          refine T_eq rfl l_0 (fun c1057_ => ?_) (fun c1057_ => ?_)
          · refine T_qg (i_add rfl l_5 (by omega) (by omega)) (by omega) (by omega) ?_
            refine T_eq rfl l_0 (fun c1058_ => ?_) (fun c1058_ => ?_)
            · refine T_qg (i_add rfl l_6 (by omega) (by omega)) (by omega) (by omega) ?_
              refine T_qcE (t_X12_game hn _ _ _ _ _ _ m1036_ g1037_ (by decide) (by decide)) ?_
              intro r1059_ m1060_ e1063_ p1062_
              have g1061_ := p1062_.2.1
              have f1064_ : (m1060_ 1 1).toInt = (m1036_ 1 1).toInt := by rw [p1062_.2.2 1 1 (by decide)]
              have f1065_ : (m1060_ 77 8).toInt = (m1036_ 77 8).toInt := by rw [p1062_.2.2 77 8 (by decide)]
              have f1066_ : (m1060_ 7 8).toInt = (m1036_ 7 8).toInt := by rw [p1062_.2.2 7 8 (by decide)]
              have f1067_ : (m1060_ 78 312).toInt = (m1036_ 78 312).toInt := by rw [p1062_.2.2 78 312 (by decide)]
              have f1068_ : (m1060_ 16 8).toInt = (m1036_ 16 8).toInt := by rw [p1062_.2.2 16 8 (by decide)]
              have f1069_ : (m1060_ 80 312).toInt = (m1036_ 80 312).toInt := by rw [p1062_.2.2 80 312 (by decide)]
              have f1070_ : (m1060_ 0 12).toInt = (m1036_ 0 12).toInt := by rw [p1062_.2.2 0 12 (by decide)]
              have f1071_ : (m1060_ 77 67).toInt = (m1036_ 77 67).toInt := by rw [p1062_.2.2 77 67 (by decide)]
              have f1072_ : (m1060_ 7 9).toInt = (m1036_ 7 9).toInt := by rw [p1062_.2.2 7 9 (by decide)]
              have f1073_ : (m1060_ 78 313).toInt = (m1036_ 78 313).toInt := by rw [p1062_.2.2 78 313 (by decide)]
              have f1074_ : (m1060_ 16 9).toInt = (m1036_ 16 9).toInt := by rw [p1062_.2.2 16 9 (by decide)]
              have f1075_ : (m1060_ 80 313).toInt = (m1036_ 80 313).toInt := by rw [p1062_.2.2 80 313 (by decide)]
              have k1076_ : WKS m1060_ := WKS_S k1052_ (p1062_.2.2) (p1062_.2.2 3 3 (by decide)) rfl rfl
              have d1077_ : KD m1060_ m1060_ := KD_S d1053_ (p1062_.2.2) (p1062_.2.2 3 3 (by decide)) (p1062_.2.2 77 6 (by decide)) rfl
              have l1078_ : LR j m1060_ m1060_ := LR_S hj l1054_ (p1062_.2.2) rfl rfl (p1062_.2.2 77 17 (by decide))
              have tw1079_ : TN 7 78 m1060_ m1060_ := TN_S tw1055_ (p1062_.2.2) rfl rfl
              have tx1080_ : m1060_ 0 12 ≠ 0 → TN 16 80 m1060_ m1060_ := KX_S tx1056_ (p1062_.2.2) (p1062_.2.2 0 12 (by decide)) rfl rfl
              have q1081_ : (m1060_ 1 1).toInt = (m1060_ 77 8).toInt := by omega
              have q1082_ : (m1060_ 7 8).toInt = (m1060_ 78 312).toInt := by omega
              have q1083_ : (m1060_ 16 8).toInt = (m1060_ 80 312).toInt := by omega
              have q1084_ : (m1060_ 0 12).toInt = (m1060_ 77 67).toInt := by omega
              have q1085_ : (m1060_ 7 9).toInt = (m1060_ 78 313).toInt := by omega
              have q1086_ : (m1060_ 16 9).toInt = (m1060_ 80 313).toInt := by omega
              have f1088_ := r_1_1 hG
              have t1087_ : TR m1060_ := TR_le hT (by omega) (funext (fun s_ => by rw [p1062_.2.2 2 s_ (outc rfl), p1038_.2.2 2 s_ (outc rfl)])) (funext (fun s_ => by rw [p1062_.2.2 84 s_ (outc rfl), p1038_.2.2 84 s_ (outc rfl)]))
              refine T_ql (i_add rfl l_7 (by omega) (by omega)) ?_
              intro x1089_ h1090_
              exact ih j r hj hr hjr x1089_ m1060_ (by omega) (by omega) g1061_ q1081_ q1082_ q1083_ q1084_ q1085_ q1086_ t1087_ d1077_ l1078_ k1076_ tw1079_ tx1080_ (by omega)
            · refine T_qg (i_add rfl l_6 (by omega) (by omega)) (by omega) (by omega) ?_
              refine T_qcE (t_X12_game hn _ _ _ _ _ _ m1036_ g1037_ (by decide) (by decide)) ?_
              intro r1091_ m1092_ e1095_ p1094_
              have g1093_ := p1094_.2.1
              have f1096_ : (m1092_ 1 1).toInt = (m1036_ 1 1).toInt := by rw [p1094_.2.2 1 1 (by decide)]
              have f1097_ : (m1092_ 77 8).toInt = (m1036_ 77 8).toInt := by rw [p1094_.2.2 77 8 (by decide)]
              have f1098_ : (m1092_ 7 8).toInt = (m1036_ 7 8).toInt := by rw [p1094_.2.2 7 8 (by decide)]
              have f1099_ : (m1092_ 78 312).toInt = (m1036_ 78 312).toInt := by rw [p1094_.2.2 78 312 (by decide)]
              have f1100_ : (m1092_ 16 8).toInt = (m1036_ 16 8).toInt := by rw [p1094_.2.2 16 8 (by decide)]
              have f1101_ : (m1092_ 80 312).toInt = (m1036_ 80 312).toInt := by rw [p1094_.2.2 80 312 (by decide)]
              have f1102_ : (m1092_ 0 12).toInt = (m1036_ 0 12).toInt := by rw [p1094_.2.2 0 12 (by decide)]
              have f1103_ : (m1092_ 77 67).toInt = (m1036_ 77 67).toInt := by rw [p1094_.2.2 77 67 (by decide)]
              have f1104_ : (m1092_ 7 9).toInt = (m1036_ 7 9).toInt := by rw [p1094_.2.2 7 9 (by decide)]
              have f1105_ : (m1092_ 78 313).toInt = (m1036_ 78 313).toInt := by rw [p1094_.2.2 78 313 (by decide)]
              have f1106_ : (m1092_ 16 9).toInt = (m1036_ 16 9).toInt := by rw [p1094_.2.2 16 9 (by decide)]
              have f1107_ : (m1092_ 80 313).toInt = (m1036_ 80 313).toInt := by rw [p1094_.2.2 80 313 (by decide)]
              have k1108_ : WKS m1092_ := WKS_S k1052_ (p1094_.2.2) (p1094_.2.2 3 3 (by decide)) rfl rfl
              have d1109_ : KD m1092_ m1092_ := KD_S d1053_ (p1094_.2.2) (p1094_.2.2 3 3 (by decide)) (p1094_.2.2 77 6 (by decide)) rfl
              have l1110_ : LR j m1092_ m1092_ := LR_S hj l1054_ (p1094_.2.2) rfl rfl (p1094_.2.2 77 17 (by decide))
              have tw1111_ : TN 7 78 m1092_ m1092_ := TN_S tw1055_ (p1094_.2.2) rfl rfl
              have tx1112_ : m1092_ 0 12 ≠ 0 → TN 16 80 m1092_ m1092_ := KX_S tx1056_ (p1094_.2.2) (p1094_.2.2 0 12 (by decide)) rfl rfl
              have q1113_ : (m1092_ 1 1).toInt = (m1092_ 77 8).toInt := by omega
              have q1114_ : (m1092_ 7 8).toInt = (m1092_ 78 312).toInt := by omega
              have q1115_ : (m1092_ 16 8).toInt = (m1092_ 80 312).toInt := by omega
              have q1116_ : (m1092_ 0 12).toInt = (m1092_ 77 67).toInt := by omega
              have q1117_ : (m1092_ 7 9).toInt = (m1092_ 78 313).toInt := by omega
              have q1118_ : (m1092_ 16 9).toInt = (m1092_ 80 313).toInt := by omega
              have f1120_ := r_1_1 hG
              have t1119_ : TR m1092_ := TR_le hT (by omega) (funext (fun s_ => by rw [p1094_.2.2 2 s_ (outc rfl), p1038_.2.2 2 s_ (outc rfl)])) (funext (fun s_ => by rw [p1094_.2.2 84 s_ (outc rfl), p1038_.2.2 84 s_ (outc rfl)]))
              refine T_ql (i_add rfl l_7 (by omega) (by omega)) ?_
              intro x1121_ h1122_
              exact ih j r hj hr hjr x1121_ m1092_ (by omega) (by omega) g1093_ q1113_ q1114_ q1115_ q1116_ q1117_ q1118_ t1119_ d1109_ l1110_ k1108_ tw1111_ tx1112_ (by omega)
          · refine T_qg (i_add rfl l_5 (by omega) (by omega)) (by omega) (by omega) ?_
            refine T_eq rfl l_0 (fun c1123_ => ?_) (fun c1123_ => ?_)
            · refine T_qg (i_add rfl l_6 (by omega) (by omega)) (by omega) (by omega) ?_
              refine T_qcE (t_X12_game hn _ _ _ _ _ _ m1036_ g1037_ (by decide) (by decide)) ?_
              intro r1124_ m1125_ e1128_ p1127_
              have g1126_ := p1127_.2.1
              have f1129_ : (m1125_ 1 1).toInt = (m1036_ 1 1).toInt := by rw [p1127_.2.2 1 1 (by decide)]
              have f1130_ : (m1125_ 77 8).toInt = (m1036_ 77 8).toInt := by rw [p1127_.2.2 77 8 (by decide)]
              have f1131_ : (m1125_ 7 8).toInt = (m1036_ 7 8).toInt := by rw [p1127_.2.2 7 8 (by decide)]
              have f1132_ : (m1125_ 78 312).toInt = (m1036_ 78 312).toInt := by rw [p1127_.2.2 78 312 (by decide)]
              have f1133_ : (m1125_ 16 8).toInt = (m1036_ 16 8).toInt := by rw [p1127_.2.2 16 8 (by decide)]
              have f1134_ : (m1125_ 80 312).toInt = (m1036_ 80 312).toInt := by rw [p1127_.2.2 80 312 (by decide)]
              have f1135_ : (m1125_ 0 12).toInt = (m1036_ 0 12).toInt := by rw [p1127_.2.2 0 12 (by decide)]
              have f1136_ : (m1125_ 77 67).toInt = (m1036_ 77 67).toInt := by rw [p1127_.2.2 77 67 (by decide)]
              have f1137_ : (m1125_ 7 9).toInt = (m1036_ 7 9).toInt := by rw [p1127_.2.2 7 9 (by decide)]
              have f1138_ : (m1125_ 78 313).toInt = (m1036_ 78 313).toInt := by rw [p1127_.2.2 78 313 (by decide)]
              have f1139_ : (m1125_ 16 9).toInt = (m1036_ 16 9).toInt := by rw [p1127_.2.2 16 9 (by decide)]
              have f1140_ : (m1125_ 80 313).toInt = (m1036_ 80 313).toInt := by rw [p1127_.2.2 80 313 (by decide)]
              have k1141_ : WKS m1125_ := WKS_S k1052_ (p1127_.2.2) (p1127_.2.2 3 3 (by decide)) rfl rfl
              have d1142_ : KD m1125_ m1125_ := KD_S d1053_ (p1127_.2.2) (p1127_.2.2 3 3 (by decide)) (p1127_.2.2 77 6 (by decide)) rfl
              have l1143_ : LR j m1125_ m1125_ := LR_S hj l1054_ (p1127_.2.2) rfl rfl (p1127_.2.2 77 17 (by decide))
              have tw1144_ : TN 7 78 m1125_ m1125_ := TN_S tw1055_ (p1127_.2.2) rfl rfl
              have tx1145_ : m1125_ 0 12 ≠ 0 → TN 16 80 m1125_ m1125_ := KX_S tx1056_ (p1127_.2.2) (p1127_.2.2 0 12 (by decide)) rfl rfl
              have q1146_ : (m1125_ 1 1).toInt = (m1125_ 77 8).toInt := by omega
              have q1147_ : (m1125_ 7 8).toInt = (m1125_ 78 312).toInt := by omega
              have q1148_ : (m1125_ 16 8).toInt = (m1125_ 80 312).toInt := by omega
              have q1149_ : (m1125_ 0 12).toInt = (m1125_ 77 67).toInt := by omega
              have q1150_ : (m1125_ 7 9).toInt = (m1125_ 78 313).toInt := by omega
              have q1151_ : (m1125_ 16 9).toInt = (m1125_ 80 313).toInt := by omega
              have f1153_ := r_1_1 hG
              have t1152_ : TR m1125_ := TR_le hT (by omega) (funext (fun s_ => by rw [p1127_.2.2 2 s_ (outc rfl), p1038_.2.2 2 s_ (outc rfl)])) (funext (fun s_ => by rw [p1127_.2.2 84 s_ (outc rfl), p1038_.2.2 84 s_ (outc rfl)]))
              refine T_ql (i_add rfl l_7 (by omega) (by omega)) ?_
              intro x1154_ h1155_
              exact ih j r hj hr hjr x1154_ m1125_ (by omega) (by omega) g1126_ q1146_ q1147_ q1148_ q1149_ q1150_ q1151_ t1152_ d1142_ l1143_ k1141_ tw1144_ tx1145_ (by omega)
            · refine T_qg (i_add rfl l_6 (by omega) (by omega)) (by omega) (by omega) ?_
              refine T_qcE (t_X12_game hn _ _ _ _ _ _ m1036_ g1037_ (by decide) (by decide)) ?_
              intro r1156_ m1157_ e1160_ p1159_
              have g1158_ := p1159_.2.1
              have f1161_ : (m1157_ 1 1).toInt = (m1036_ 1 1).toInt := by rw [p1159_.2.2 1 1 (by decide)]
              have f1162_ : (m1157_ 77 8).toInt = (m1036_ 77 8).toInt := by rw [p1159_.2.2 77 8 (by decide)]
              have f1163_ : (m1157_ 7 8).toInt = (m1036_ 7 8).toInt := by rw [p1159_.2.2 7 8 (by decide)]
              have f1164_ : (m1157_ 78 312).toInt = (m1036_ 78 312).toInt := by rw [p1159_.2.2 78 312 (by decide)]
              have f1165_ : (m1157_ 16 8).toInt = (m1036_ 16 8).toInt := by rw [p1159_.2.2 16 8 (by decide)]
              have f1166_ : (m1157_ 80 312).toInt = (m1036_ 80 312).toInt := by rw [p1159_.2.2 80 312 (by decide)]
              have f1167_ : (m1157_ 0 12).toInt = (m1036_ 0 12).toInt := by rw [p1159_.2.2 0 12 (by decide)]
              have f1168_ : (m1157_ 77 67).toInt = (m1036_ 77 67).toInt := by rw [p1159_.2.2 77 67 (by decide)]
              have f1169_ : (m1157_ 7 9).toInt = (m1036_ 7 9).toInt := by rw [p1159_.2.2 7 9 (by decide)]
              have f1170_ : (m1157_ 78 313).toInt = (m1036_ 78 313).toInt := by rw [p1159_.2.2 78 313 (by decide)]
              have f1171_ : (m1157_ 16 9).toInt = (m1036_ 16 9).toInt := by rw [p1159_.2.2 16 9 (by decide)]
              have f1172_ : (m1157_ 80 313).toInt = (m1036_ 80 313).toInt := by rw [p1159_.2.2 80 313 (by decide)]
              have k1173_ : WKS m1157_ := WKS_S k1052_ (p1159_.2.2) (p1159_.2.2 3 3 (by decide)) rfl rfl
              have d1174_ : KD m1157_ m1157_ := KD_S d1053_ (p1159_.2.2) (p1159_.2.2 3 3 (by decide)) (p1159_.2.2 77 6 (by decide)) rfl
              have l1175_ : LR j m1157_ m1157_ := LR_S hj l1054_ (p1159_.2.2) rfl rfl (p1159_.2.2 77 17 (by decide))
              have tw1176_ : TN 7 78 m1157_ m1157_ := TN_S tw1055_ (p1159_.2.2) rfl rfl
              have tx1177_ : m1157_ 0 12 ≠ 0 → TN 16 80 m1157_ m1157_ := KX_S tx1056_ (p1159_.2.2) (p1159_.2.2 0 12 (by decide)) rfl rfl
              have q1178_ : (m1157_ 1 1).toInt = (m1157_ 77 8).toInt := by omega
              have q1179_ : (m1157_ 7 8).toInt = (m1157_ 78 312).toInt := by omega
              have q1180_ : (m1157_ 16 8).toInt = (m1157_ 80 312).toInt := by omega
              have q1181_ : (m1157_ 0 12).toInt = (m1157_ 77 67).toInt := by omega
              have q1182_ : (m1157_ 7 9).toInt = (m1157_ 78 313).toInt := by omega
              have q1183_ : (m1157_ 16 9).toInt = (m1157_ 80 313).toInt := by omega
              have f1185_ := r_1_1 hG
              have t1184_ : TR m1157_ := TR_le hT (by omega) (funext (fun s_ => by rw [p1159_.2.2 2 s_ (outc rfl), p1038_.2.2 2 s_ (outc rfl)])) (funext (fun s_ => by rw [p1159_.2.2 84 s_ (outc rfl), p1038_.2.2 84 s_ (outc rfl)]))
              refine T_ql (i_add rfl l_7 (by omega) (by omega)) ?_
              intro x1186_ h1187_
              exact ih j r hj hr hjr x1186_ m1157_ (by omega) (by omega) g1158_ q1178_ q1179_ q1180_ q1181_ q1182_ q1183_ t1184_ d1174_ l1175_ k1173_ tw1176_ tx1177_ (by omega)
        · refine T_qg (i_add rfl l_6 (by omega) (by omega)) (by omega) (by omega) ?_
          refine T_qcE (t_X11_game hn _ _ _ _ _ _ M hG (by decide) (by decide)) ?_
          intro r1188_ m1189_ e1192_ p1191_
          have g1190_ := p1191_.2.1
          have f1193_ : (m1189_ 1 1).toInt = (M 1 1).toInt := by rw [p1191_.2.2 1 1 (by decide)]
          have f1194_ : (m1189_ 77 8).toInt = (M 77 8).toInt := by rw [p1191_.2.2 77 8 (by decide)]
          have f1195_ : (m1189_ 7 8).toInt = (M 7 8).toInt := by rw [p1191_.2.2 7 8 (by decide)]
          have f1196_ : (m1189_ 78 312).toInt = (M 78 312).toInt := by rw [p1191_.2.2 78 312 (by decide)]
          have f1197_ : (m1189_ 16 8).toInt = (M 16 8).toInt := by rw [p1191_.2.2 16 8 (by decide)]
          have f1198_ : (m1189_ 80 312).toInt = (M 80 312).toInt := by rw [p1191_.2.2 80 312 (by decide)]
          have f1199_ : (m1189_ 0 12).toInt = (M 0 12).toInt := by rw [p1191_.2.2 0 12 (by decide)]
          have f1200_ : (m1189_ 77 67).toInt = (M 77 67).toInt := by rw [p1191_.2.2 77 67 (by decide)]
          have f1201_ : (m1189_ 7 9).toInt = (M 7 9).toInt := by rw [p1191_.2.2 7 9 (by decide)]
          have f1202_ : (m1189_ 78 313).toInt = (M 78 313).toInt := by rw [p1191_.2.2 78 313 (by decide)]
          have f1203_ : (m1189_ 16 9).toInt = (M 16 9).toInt := by rw [p1191_.2.2 16 9 (by decide)]
          have f1204_ : (m1189_ 80 313).toInt = (M 80 313).toInt := by rw [p1191_.2.2 80 313 (by decide)]
          have k1205_ : WKS m1189_ := WKS_S hK (p1191_.2.2) (p1191_.2.2 3 3 (by decide)) rfl rfl
          have d1206_ : KD m1189_ m1189_ := KD_S hD (p1191_.2.2) (p1191_.2.2 3 3 (by decide)) (p1191_.2.2 77 6 (by decide)) rfl
          have l1207_ : LR j m1189_ m1189_ := LR_S hj hL (p1191_.2.2) rfl rfl (p1191_.2.2 77 17 (by decide))
          have tw1208_ : TN 7 78 m1189_ m1189_ := TN_S hW (p1191_.2.2) rfl rfl
          have tx1209_ : m1189_ 0 12 ≠ 0 → TN 16 80 m1189_ m1189_ := KX_S hX (p1191_.2.2) (p1191_.2.2 0 12 (by decide)) rfl rfl
          refine T_qg (i_add rfl l_1 (by omega) (by omega)) (by omega) (by omega) ?_
          refine T_qg (i_add rfl l_2 (by omega) (by omega)) (by omega) (by omega) ?_
          refine T_qg (i_add rfl l_3 (by omega) (by omega)) (by omega) (by omega) ?_
          refine T_qg (i_add rfl l_4 (by omega) (by omega)) (by omega) (by omega) ?_
          refine T_eq rfl l_0 (fun c1210_ => ?_) (fun c1210_ => ?_)
          · refine T_qg (i_add rfl l_5 (by omega) (by omega)) (by omega) (by omega) ?_
            refine T_eq rfl l_0 (fun c1211_ => ?_) (fun c1211_ => ?_)
            · refine T_qg (i_add rfl l_6 (by omega) (by omega)) (by omega) (by omega) ?_
              refine T_qcE (t_X12_game hn _ _ _ _ _ _ m1189_ g1190_ (by decide) (by decide)) ?_
              intro r1212_ m1213_ e1216_ p1215_
              have g1214_ := p1215_.2.1
              have f1217_ : (m1213_ 1 1).toInt = (m1189_ 1 1).toInt := by rw [p1215_.2.2 1 1 (by decide)]
              have f1218_ : (m1213_ 77 8).toInt = (m1189_ 77 8).toInt := by rw [p1215_.2.2 77 8 (by decide)]
              have f1219_ : (m1213_ 7 8).toInt = (m1189_ 7 8).toInt := by rw [p1215_.2.2 7 8 (by decide)]
              have f1220_ : (m1213_ 78 312).toInt = (m1189_ 78 312).toInt := by rw [p1215_.2.2 78 312 (by decide)]
              have f1221_ : (m1213_ 16 8).toInt = (m1189_ 16 8).toInt := by rw [p1215_.2.2 16 8 (by decide)]
              have f1222_ : (m1213_ 80 312).toInt = (m1189_ 80 312).toInt := by rw [p1215_.2.2 80 312 (by decide)]
              have f1223_ : (m1213_ 0 12).toInt = (m1189_ 0 12).toInt := by rw [p1215_.2.2 0 12 (by decide)]
              have f1224_ : (m1213_ 77 67).toInt = (m1189_ 77 67).toInt := by rw [p1215_.2.2 77 67 (by decide)]
              have f1225_ : (m1213_ 7 9).toInt = (m1189_ 7 9).toInt := by rw [p1215_.2.2 7 9 (by decide)]
              have f1226_ : (m1213_ 78 313).toInt = (m1189_ 78 313).toInt := by rw [p1215_.2.2 78 313 (by decide)]
              have f1227_ : (m1213_ 16 9).toInt = (m1189_ 16 9).toInt := by rw [p1215_.2.2 16 9 (by decide)]
              have f1228_ : (m1213_ 80 313).toInt = (m1189_ 80 313).toInt := by rw [p1215_.2.2 80 313 (by decide)]
              have k1229_ : WKS m1213_ := WKS_S k1205_ (p1215_.2.2) (p1215_.2.2 3 3 (by decide)) rfl rfl
              have d1230_ : KD m1213_ m1213_ := KD_S d1206_ (p1215_.2.2) (p1215_.2.2 3 3 (by decide)) (p1215_.2.2 77 6 (by decide)) rfl
              have l1231_ : LR j m1213_ m1213_ := LR_S hj l1207_ (p1215_.2.2) rfl rfl (p1215_.2.2 77 17 (by decide))
              have tw1232_ : TN 7 78 m1213_ m1213_ := TN_S tw1208_ (p1215_.2.2) rfl rfl
              have tx1233_ : m1213_ 0 12 ≠ 0 → TN 16 80 m1213_ m1213_ := KX_S tx1209_ (p1215_.2.2) (p1215_.2.2 0 12 (by decide)) rfl rfl
              have q1234_ : (m1213_ 1 1).toInt = (m1213_ 77 8).toInt := by omega
              have q1235_ : (m1213_ 7 8).toInt = (m1213_ 78 312).toInt := by omega
              have q1236_ : (m1213_ 16 8).toInt = (m1213_ 80 312).toInt := by omega
              have q1237_ : (m1213_ 0 12).toInt = (m1213_ 77 67).toInt := by omega
              have q1238_ : (m1213_ 7 9).toInt = (m1213_ 78 313).toInt := by omega
              have q1239_ : (m1213_ 16 9).toInt = (m1213_ 80 313).toInt := by omega
              have f1241_ := r_1_1 hG
              have t1240_ : TR m1213_ := TR_le hT (by omega) (funext (fun s_ => by rw [p1215_.2.2 2 s_ (outc rfl), p1191_.2.2 2 s_ (outc rfl)])) (funext (fun s_ => by rw [p1215_.2.2 84 s_ (outc rfl), p1191_.2.2 84 s_ (outc rfl)]))
              refine T_ql (i_add rfl l_7 (by omega) (by omega)) ?_
              intro x1242_ h1243_
              exact ih j r hj hr hjr x1242_ m1213_ (by omega) (by omega) g1214_ q1234_ q1235_ q1236_ q1237_ q1238_ q1239_ t1240_ d1230_ l1231_ k1229_ tw1232_ tx1233_ (by omega)
            · refine T_qg (i_add rfl l_6 (by omega) (by omega)) (by omega) (by omega) ?_
              refine T_qcE (t_X12_game hn _ _ _ _ _ _ m1189_ g1190_ (by decide) (by decide)) ?_
              intro r1244_ m1245_ e1248_ p1247_
              have g1246_ := p1247_.2.1
              have f1249_ : (m1245_ 1 1).toInt = (m1189_ 1 1).toInt := by rw [p1247_.2.2 1 1 (by decide)]
              have f1250_ : (m1245_ 77 8).toInt = (m1189_ 77 8).toInt := by rw [p1247_.2.2 77 8 (by decide)]
              have f1251_ : (m1245_ 7 8).toInt = (m1189_ 7 8).toInt := by rw [p1247_.2.2 7 8 (by decide)]
              have f1252_ : (m1245_ 78 312).toInt = (m1189_ 78 312).toInt := by rw [p1247_.2.2 78 312 (by decide)]
              have f1253_ : (m1245_ 16 8).toInt = (m1189_ 16 8).toInt := by rw [p1247_.2.2 16 8 (by decide)]
              have f1254_ : (m1245_ 80 312).toInt = (m1189_ 80 312).toInt := by rw [p1247_.2.2 80 312 (by decide)]
              have f1255_ : (m1245_ 0 12).toInt = (m1189_ 0 12).toInt := by rw [p1247_.2.2 0 12 (by decide)]
              have f1256_ : (m1245_ 77 67).toInt = (m1189_ 77 67).toInt := by rw [p1247_.2.2 77 67 (by decide)]
              have f1257_ : (m1245_ 7 9).toInt = (m1189_ 7 9).toInt := by rw [p1247_.2.2 7 9 (by decide)]
              have f1258_ : (m1245_ 78 313).toInt = (m1189_ 78 313).toInt := by rw [p1247_.2.2 78 313 (by decide)]
              have f1259_ : (m1245_ 16 9).toInt = (m1189_ 16 9).toInt := by rw [p1247_.2.2 16 9 (by decide)]
              have f1260_ : (m1245_ 80 313).toInt = (m1189_ 80 313).toInt := by rw [p1247_.2.2 80 313 (by decide)]
              have k1261_ : WKS m1245_ := WKS_S k1205_ (p1247_.2.2) (p1247_.2.2 3 3 (by decide)) rfl rfl
              have d1262_ : KD m1245_ m1245_ := KD_S d1206_ (p1247_.2.2) (p1247_.2.2 3 3 (by decide)) (p1247_.2.2 77 6 (by decide)) rfl
              have l1263_ : LR j m1245_ m1245_ := LR_S hj l1207_ (p1247_.2.2) rfl rfl (p1247_.2.2 77 17 (by decide))
              have tw1264_ : TN 7 78 m1245_ m1245_ := TN_S tw1208_ (p1247_.2.2) rfl rfl
              have tx1265_ : m1245_ 0 12 ≠ 0 → TN 16 80 m1245_ m1245_ := KX_S tx1209_ (p1247_.2.2) (p1247_.2.2 0 12 (by decide)) rfl rfl
              have q1266_ : (m1245_ 1 1).toInt = (m1245_ 77 8).toInt := by omega
              have q1267_ : (m1245_ 7 8).toInt = (m1245_ 78 312).toInt := by omega
              have q1268_ : (m1245_ 16 8).toInt = (m1245_ 80 312).toInt := by omega
              have q1269_ : (m1245_ 0 12).toInt = (m1245_ 77 67).toInt := by omega
              have q1270_ : (m1245_ 7 9).toInt = (m1245_ 78 313).toInt := by omega
              have q1271_ : (m1245_ 16 9).toInt = (m1245_ 80 313).toInt := by omega
              have f1273_ := r_1_1 hG
              have t1272_ : TR m1245_ := TR_le hT (by omega) (funext (fun s_ => by rw [p1247_.2.2 2 s_ (outc rfl), p1191_.2.2 2 s_ (outc rfl)])) (funext (fun s_ => by rw [p1247_.2.2 84 s_ (outc rfl), p1191_.2.2 84 s_ (outc rfl)]))
              refine T_ql (i_add rfl l_7 (by omega) (by omega)) ?_
              intro x1274_ h1275_
              exact ih j r hj hr hjr x1274_ m1245_ (by omega) (by omega) g1246_ q1266_ q1267_ q1268_ q1269_ q1270_ q1271_ t1272_ d1262_ l1263_ k1261_ tw1264_ tx1265_ (by omega)
          · refine T_qg (i_add rfl l_5 (by omega) (by omega)) (by omega) (by omega) ?_
            refine T_eq rfl l_0 (fun c1276_ => ?_) (fun c1276_ => ?_)
            · refine T_qg (i_add rfl l_6 (by omega) (by omega)) (by omega) (by omega) ?_
              refine T_qcE (t_X12_game hn _ _ _ _ _ _ m1189_ g1190_ (by decide) (by decide)) ?_
              intro r1277_ m1278_ e1281_ p1280_
              have g1279_ := p1280_.2.1
              have f1282_ : (m1278_ 1 1).toInt = (m1189_ 1 1).toInt := by rw [p1280_.2.2 1 1 (by decide)]
              have f1283_ : (m1278_ 77 8).toInt = (m1189_ 77 8).toInt := by rw [p1280_.2.2 77 8 (by decide)]
              have f1284_ : (m1278_ 7 8).toInt = (m1189_ 7 8).toInt := by rw [p1280_.2.2 7 8 (by decide)]
              have f1285_ : (m1278_ 78 312).toInt = (m1189_ 78 312).toInt := by rw [p1280_.2.2 78 312 (by decide)]
              have f1286_ : (m1278_ 16 8).toInt = (m1189_ 16 8).toInt := by rw [p1280_.2.2 16 8 (by decide)]
              have f1287_ : (m1278_ 80 312).toInt = (m1189_ 80 312).toInt := by rw [p1280_.2.2 80 312 (by decide)]
              have f1288_ : (m1278_ 0 12).toInt = (m1189_ 0 12).toInt := by rw [p1280_.2.2 0 12 (by decide)]
              have f1289_ : (m1278_ 77 67).toInt = (m1189_ 77 67).toInt := by rw [p1280_.2.2 77 67 (by decide)]
              have f1290_ : (m1278_ 7 9).toInt = (m1189_ 7 9).toInt := by rw [p1280_.2.2 7 9 (by decide)]
              have f1291_ : (m1278_ 78 313).toInt = (m1189_ 78 313).toInt := by rw [p1280_.2.2 78 313 (by decide)]
              have f1292_ : (m1278_ 16 9).toInt = (m1189_ 16 9).toInt := by rw [p1280_.2.2 16 9 (by decide)]
              have f1293_ : (m1278_ 80 313).toInt = (m1189_ 80 313).toInt := by rw [p1280_.2.2 80 313 (by decide)]
              have k1294_ : WKS m1278_ := WKS_S k1205_ (p1280_.2.2) (p1280_.2.2 3 3 (by decide)) rfl rfl
              have d1295_ : KD m1278_ m1278_ := KD_S d1206_ (p1280_.2.2) (p1280_.2.2 3 3 (by decide)) (p1280_.2.2 77 6 (by decide)) rfl
              have l1296_ : LR j m1278_ m1278_ := LR_S hj l1207_ (p1280_.2.2) rfl rfl (p1280_.2.2 77 17 (by decide))
              have tw1297_ : TN 7 78 m1278_ m1278_ := TN_S tw1208_ (p1280_.2.2) rfl rfl
              have tx1298_ : m1278_ 0 12 ≠ 0 → TN 16 80 m1278_ m1278_ := KX_S tx1209_ (p1280_.2.2) (p1280_.2.2 0 12 (by decide)) rfl rfl
              have q1299_ : (m1278_ 1 1).toInt = (m1278_ 77 8).toInt := by omega
              have q1300_ : (m1278_ 7 8).toInt = (m1278_ 78 312).toInt := by omega
              have q1301_ : (m1278_ 16 8).toInt = (m1278_ 80 312).toInt := by omega
              have q1302_ : (m1278_ 0 12).toInt = (m1278_ 77 67).toInt := by omega
              have q1303_ : (m1278_ 7 9).toInt = (m1278_ 78 313).toInt := by omega
              have q1304_ : (m1278_ 16 9).toInt = (m1278_ 80 313).toInt := by omega
              have f1306_ := r_1_1 hG
              have t1305_ : TR m1278_ := TR_le hT (by omega) (funext (fun s_ => by rw [p1280_.2.2 2 s_ (outc rfl), p1191_.2.2 2 s_ (outc rfl)])) (funext (fun s_ => by rw [p1280_.2.2 84 s_ (outc rfl), p1191_.2.2 84 s_ (outc rfl)]))
              refine T_ql (i_add rfl l_7 (by omega) (by omega)) ?_
              intro x1307_ h1308_
              exact ih j r hj hr hjr x1307_ m1278_ (by omega) (by omega) g1279_ q1299_ q1300_ q1301_ q1302_ q1303_ q1304_ t1305_ d1295_ l1296_ k1294_ tw1297_ tx1298_ (by omega)
            · refine T_qg (i_add rfl l_6 (by omega) (by omega)) (by omega) (by omega) ?_
              refine T_qcE (t_X12_game hn _ _ _ _ _ _ m1189_ g1190_ (by decide) (by decide)) ?_
              intro r1309_ m1310_ e1313_ p1312_
              have g1311_ := p1312_.2.1
              have f1314_ : (m1310_ 1 1).toInt = (m1189_ 1 1).toInt := by rw [p1312_.2.2 1 1 (by decide)]
              have f1315_ : (m1310_ 77 8).toInt = (m1189_ 77 8).toInt := by rw [p1312_.2.2 77 8 (by decide)]
              have f1316_ : (m1310_ 7 8).toInt = (m1189_ 7 8).toInt := by rw [p1312_.2.2 7 8 (by decide)]
              have f1317_ : (m1310_ 78 312).toInt = (m1189_ 78 312).toInt := by rw [p1312_.2.2 78 312 (by decide)]
              have f1318_ : (m1310_ 16 8).toInt = (m1189_ 16 8).toInt := by rw [p1312_.2.2 16 8 (by decide)]
              have f1319_ : (m1310_ 80 312).toInt = (m1189_ 80 312).toInt := by rw [p1312_.2.2 80 312 (by decide)]
              have f1320_ : (m1310_ 0 12).toInt = (m1189_ 0 12).toInt := by rw [p1312_.2.2 0 12 (by decide)]
              have f1321_ : (m1310_ 77 67).toInt = (m1189_ 77 67).toInt := by rw [p1312_.2.2 77 67 (by decide)]
              have f1322_ : (m1310_ 7 9).toInt = (m1189_ 7 9).toInt := by rw [p1312_.2.2 7 9 (by decide)]
              have f1323_ : (m1310_ 78 313).toInt = (m1189_ 78 313).toInt := by rw [p1312_.2.2 78 313 (by decide)]
              have f1324_ : (m1310_ 16 9).toInt = (m1189_ 16 9).toInt := by rw [p1312_.2.2 16 9 (by decide)]
              have f1325_ : (m1310_ 80 313).toInt = (m1189_ 80 313).toInt := by rw [p1312_.2.2 80 313 (by decide)]
              have k1326_ : WKS m1310_ := WKS_S k1205_ (p1312_.2.2) (p1312_.2.2 3 3 (by decide)) rfl rfl
              have d1327_ : KD m1310_ m1310_ := KD_S d1206_ (p1312_.2.2) (p1312_.2.2 3 3 (by decide)) (p1312_.2.2 77 6 (by decide)) rfl
              have l1328_ : LR j m1310_ m1310_ := LR_S hj l1207_ (p1312_.2.2) rfl rfl (p1312_.2.2 77 17 (by decide))
              have tw1329_ : TN 7 78 m1310_ m1310_ := TN_S tw1208_ (p1312_.2.2) rfl rfl
              have tx1330_ : m1310_ 0 12 ≠ 0 → TN 16 80 m1310_ m1310_ := KX_S tx1209_ (p1312_.2.2) (p1312_.2.2 0 12 (by decide)) rfl rfl
              have q1331_ : (m1310_ 1 1).toInt = (m1310_ 77 8).toInt := by omega
              have q1332_ : (m1310_ 7 8).toInt = (m1310_ 78 312).toInt := by omega
              have q1333_ : (m1310_ 16 8).toInt = (m1310_ 80 312).toInt := by omega
              have q1334_ : (m1310_ 0 12).toInt = (m1310_ 77 67).toInt := by omega
              have q1335_ : (m1310_ 7 9).toInt = (m1310_ 78 313).toInt := by omega
              have q1336_ : (m1310_ 16 9).toInt = (m1310_ 80 313).toInt := by omega
              have f1338_ := r_1_1 hG
              have t1337_ : TR m1310_ := TR_le hT (by omega) (funext (fun s_ => by rw [p1312_.2.2 2 s_ (outc rfl), p1191_.2.2 2 s_ (outc rfl)])) (funext (fun s_ => by rw [p1312_.2.2 84 s_ (outc rfl), p1191_.2.2 84 s_ (outc rfl)]))
              refine T_ql (i_add rfl l_7 (by omega) (by omega)) ?_
              intro x1339_ h1340_
              exact ih j r hj hr hjr x1339_ m1310_ (by omega) (by omega) g1311_ q1331_ q1332_ q1333_ q1334_ q1335_ q1336_ t1337_ d1327_ l1328_ k1326_ tw1329_ tx1330_ (by omega)
      · refine T_qg (i_add rfl l_5 (by omega) (by omega)) (by omega) (by omega) ?_
        refine T_eq rfl l_0 (fun c1341_ => ?_) (fun c1341_ => ?_)
        · refine T_qg (i_add rfl l_6 (by omega) (by omega)) (by omega) (by omega) ?_
          refine T_qcE (t_X11_game hn _ _ _ _ _ _ M hG (by decide) (by decide)) ?_
          intro r1342_ m1343_ e1346_ p1345_
          have g1344_ := p1345_.2.1
          have f1347_ : (m1343_ 1 1).toInt = (M 1 1).toInt := by rw [p1345_.2.2 1 1 (by decide)]
          have f1348_ : (m1343_ 77 8).toInt = (M 77 8).toInt := by rw [p1345_.2.2 77 8 (by decide)]
          have f1349_ : (m1343_ 7 8).toInt = (M 7 8).toInt := by rw [p1345_.2.2 7 8 (by decide)]
          have f1350_ : (m1343_ 78 312).toInt = (M 78 312).toInt := by rw [p1345_.2.2 78 312 (by decide)]
          have f1351_ : (m1343_ 16 8).toInt = (M 16 8).toInt := by rw [p1345_.2.2 16 8 (by decide)]
          have f1352_ : (m1343_ 80 312).toInt = (M 80 312).toInt := by rw [p1345_.2.2 80 312 (by decide)]
          have f1353_ : (m1343_ 0 12).toInt = (M 0 12).toInt := by rw [p1345_.2.2 0 12 (by decide)]
          have f1354_ : (m1343_ 77 67).toInt = (M 77 67).toInt := by rw [p1345_.2.2 77 67 (by decide)]
          have f1355_ : (m1343_ 7 9).toInt = (M 7 9).toInt := by rw [p1345_.2.2 7 9 (by decide)]
          have f1356_ : (m1343_ 78 313).toInt = (M 78 313).toInt := by rw [p1345_.2.2 78 313 (by decide)]
          have f1357_ : (m1343_ 16 9).toInt = (M 16 9).toInt := by rw [p1345_.2.2 16 9 (by decide)]
          have f1358_ : (m1343_ 80 313).toInt = (M 80 313).toInt := by rw [p1345_.2.2 80 313 (by decide)]
          have k1359_ : WKS m1343_ := WKS_S hK (p1345_.2.2) (p1345_.2.2 3 3 (by decide)) rfl rfl
          have d1360_ : KD m1343_ m1343_ := KD_S hD (p1345_.2.2) (p1345_.2.2 3 3 (by decide)) (p1345_.2.2 77 6 (by decide)) rfl
          have l1361_ : LR j m1343_ m1343_ := LR_S hj hL (p1345_.2.2) rfl rfl (p1345_.2.2 77 17 (by decide))
          have tw1362_ : TN 7 78 m1343_ m1343_ := TN_S hW (p1345_.2.2) rfl rfl
          have tx1363_ : m1343_ 0 12 ≠ 0 → TN 16 80 m1343_ m1343_ := KX_S hX (p1345_.2.2) (p1345_.2.2 0 12 (by decide)) rfl rfl
          refine T_qg (i_add rfl l_1 (by omega) (by omega)) (by omega) (by omega) ?_
          refine T_qg (i_add rfl l_2 (by omega) (by omega)) (by omega) (by omega) ?_
          refine T_qg (i_add rfl l_3 (by omega) (by omega)) (by omega) (by omega) ?_
          refine T_qg (i_add rfl l_4 (by omega) (by omega)) (by omega) (by omega) ?_
          refine T_eq rfl l_0 (fun c1364_ => ?_) (fun c1364_ => ?_)
          · refine T_qg (i_add rfl l_5 (by omega) (by omega)) (by omega) (by omega) ?_
            refine T_eq rfl l_0 (fun c1365_ => ?_) (fun c1365_ => ?_)
            · refine T_qg (i_add rfl l_6 (by omega) (by omega)) (by omega) (by omega) ?_
              refine T_qcE (t_X12_game hn _ _ _ _ _ _ m1343_ g1344_ (by decide) (by decide)) ?_
              intro r1366_ m1367_ e1370_ p1369_
              have g1368_ := p1369_.2.1
              have f1371_ : (m1367_ 1 1).toInt = (m1343_ 1 1).toInt := by rw [p1369_.2.2 1 1 (by decide)]
              have f1372_ : (m1367_ 77 8).toInt = (m1343_ 77 8).toInt := by rw [p1369_.2.2 77 8 (by decide)]
              have f1373_ : (m1367_ 7 8).toInt = (m1343_ 7 8).toInt := by rw [p1369_.2.2 7 8 (by decide)]
              have f1374_ : (m1367_ 78 312).toInt = (m1343_ 78 312).toInt := by rw [p1369_.2.2 78 312 (by decide)]
              have f1375_ : (m1367_ 16 8).toInt = (m1343_ 16 8).toInt := by rw [p1369_.2.2 16 8 (by decide)]
              have f1376_ : (m1367_ 80 312).toInt = (m1343_ 80 312).toInt := by rw [p1369_.2.2 80 312 (by decide)]
              have f1377_ : (m1367_ 0 12).toInt = (m1343_ 0 12).toInt := by rw [p1369_.2.2 0 12 (by decide)]
              have f1378_ : (m1367_ 77 67).toInt = (m1343_ 77 67).toInt := by rw [p1369_.2.2 77 67 (by decide)]
              have f1379_ : (m1367_ 7 9).toInt = (m1343_ 7 9).toInt := by rw [p1369_.2.2 7 9 (by decide)]
              have f1380_ : (m1367_ 78 313).toInt = (m1343_ 78 313).toInt := by rw [p1369_.2.2 78 313 (by decide)]
              have f1381_ : (m1367_ 16 9).toInt = (m1343_ 16 9).toInt := by rw [p1369_.2.2 16 9 (by decide)]
              have f1382_ : (m1367_ 80 313).toInt = (m1343_ 80 313).toInt := by rw [p1369_.2.2 80 313 (by decide)]
              have k1383_ : WKS m1367_ := WKS_S k1359_ (p1369_.2.2) (p1369_.2.2 3 3 (by decide)) rfl rfl
              have d1384_ : KD m1367_ m1367_ := KD_S d1360_ (p1369_.2.2) (p1369_.2.2 3 3 (by decide)) (p1369_.2.2 77 6 (by decide)) rfl
              have l1385_ : LR j m1367_ m1367_ := LR_S hj l1361_ (p1369_.2.2) rfl rfl (p1369_.2.2 77 17 (by decide))
              have tw1386_ : TN 7 78 m1367_ m1367_ := TN_S tw1362_ (p1369_.2.2) rfl rfl
              have tx1387_ : m1367_ 0 12 ≠ 0 → TN 16 80 m1367_ m1367_ := KX_S tx1363_ (p1369_.2.2) (p1369_.2.2 0 12 (by decide)) rfl rfl
              have q1388_ : (m1367_ 1 1).toInt = (m1367_ 77 8).toInt := by omega
              have q1389_ : (m1367_ 7 8).toInt = (m1367_ 78 312).toInt := by omega
              have q1390_ : (m1367_ 16 8).toInt = (m1367_ 80 312).toInt := by omega
              have q1391_ : (m1367_ 0 12).toInt = (m1367_ 77 67).toInt := by omega
              have q1392_ : (m1367_ 7 9).toInt = (m1367_ 78 313).toInt := by omega
              have q1393_ : (m1367_ 16 9).toInt = (m1367_ 80 313).toInt := by omega
              have f1395_ := r_1_1 hG
              have t1394_ : TR m1367_ := TR_le hT (by omega) (funext (fun s_ => by rw [p1369_.2.2 2 s_ (outc rfl), p1345_.2.2 2 s_ (outc rfl)])) (funext (fun s_ => by rw [p1369_.2.2 84 s_ (outc rfl), p1345_.2.2 84 s_ (outc rfl)]))
              refine T_ql (i_add rfl l_7 (by omega) (by omega)) ?_
              intro x1396_ h1397_
              exact ih j r hj hr hjr x1396_ m1367_ (by omega) (by omega) g1368_ q1388_ q1389_ q1390_ q1391_ q1392_ q1393_ t1394_ d1384_ l1385_ k1383_ tw1386_ tx1387_ (by omega)
            · refine T_qg (i_add rfl l_6 (by omega) (by omega)) (by omega) (by omega) ?_
              refine T_qcE (t_X12_game hn _ _ _ _ _ _ m1343_ g1344_ (by decide) (by decide)) ?_
              intro r1398_ m1399_ e1402_ p1401_
              have g1400_ := p1401_.2.1
              have f1403_ : (m1399_ 1 1).toInt = (m1343_ 1 1).toInt := by rw [p1401_.2.2 1 1 (by decide)]
              have f1404_ : (m1399_ 77 8).toInt = (m1343_ 77 8).toInt := by rw [p1401_.2.2 77 8 (by decide)]
              have f1405_ : (m1399_ 7 8).toInt = (m1343_ 7 8).toInt := by rw [p1401_.2.2 7 8 (by decide)]
              have f1406_ : (m1399_ 78 312).toInt = (m1343_ 78 312).toInt := by rw [p1401_.2.2 78 312 (by decide)]
              have f1407_ : (m1399_ 16 8).toInt = (m1343_ 16 8).toInt := by rw [p1401_.2.2 16 8 (by decide)]
              have f1408_ : (m1399_ 80 312).toInt = (m1343_ 80 312).toInt := by rw [p1401_.2.2 80 312 (by decide)]
              have f1409_ : (m1399_ 0 12).toInt = (m1343_ 0 12).toInt := by rw [p1401_.2.2 0 12 (by decide)]
              have f1410_ : (m1399_ 77 67).toInt = (m1343_ 77 67).toInt := by rw [p1401_.2.2 77 67 (by decide)]
              have f1411_ : (m1399_ 7 9).toInt = (m1343_ 7 9).toInt := by rw [p1401_.2.2 7 9 (by decide)]
              have f1412_ : (m1399_ 78 313).toInt = (m1343_ 78 313).toInt := by rw [p1401_.2.2 78 313 (by decide)]
              have f1413_ : (m1399_ 16 9).toInt = (m1343_ 16 9).toInt := by rw [p1401_.2.2 16 9 (by decide)]
              have f1414_ : (m1399_ 80 313).toInt = (m1343_ 80 313).toInt := by rw [p1401_.2.2 80 313 (by decide)]
              have k1415_ : WKS m1399_ := WKS_S k1359_ (p1401_.2.2) (p1401_.2.2 3 3 (by decide)) rfl rfl
              have d1416_ : KD m1399_ m1399_ := KD_S d1360_ (p1401_.2.2) (p1401_.2.2 3 3 (by decide)) (p1401_.2.2 77 6 (by decide)) rfl
              have l1417_ : LR j m1399_ m1399_ := LR_S hj l1361_ (p1401_.2.2) rfl rfl (p1401_.2.2 77 17 (by decide))
              have tw1418_ : TN 7 78 m1399_ m1399_ := TN_S tw1362_ (p1401_.2.2) rfl rfl
              have tx1419_ : m1399_ 0 12 ≠ 0 → TN 16 80 m1399_ m1399_ := KX_S tx1363_ (p1401_.2.2) (p1401_.2.2 0 12 (by decide)) rfl rfl
              have q1420_ : (m1399_ 1 1).toInt = (m1399_ 77 8).toInt := by omega
              have q1421_ : (m1399_ 7 8).toInt = (m1399_ 78 312).toInt := by omega
              have q1422_ : (m1399_ 16 8).toInt = (m1399_ 80 312).toInt := by omega
              have q1423_ : (m1399_ 0 12).toInt = (m1399_ 77 67).toInt := by omega
              have q1424_ : (m1399_ 7 9).toInt = (m1399_ 78 313).toInt := by omega
              have q1425_ : (m1399_ 16 9).toInt = (m1399_ 80 313).toInt := by omega
              have f1427_ := r_1_1 hG
              have t1426_ : TR m1399_ := TR_le hT (by omega) (funext (fun s_ => by rw [p1401_.2.2 2 s_ (outc rfl), p1345_.2.2 2 s_ (outc rfl)])) (funext (fun s_ => by rw [p1401_.2.2 84 s_ (outc rfl), p1345_.2.2 84 s_ (outc rfl)]))
              refine T_ql (i_add rfl l_7 (by omega) (by omega)) ?_
              intro x1428_ h1429_
              exact ih j r hj hr hjr x1428_ m1399_ (by omega) (by omega) g1400_ q1420_ q1421_ q1422_ q1423_ q1424_ q1425_ t1426_ d1416_ l1417_ k1415_ tw1418_ tx1419_ (by omega)
          · refine T_qg (i_add rfl l_5 (by omega) (by omega)) (by omega) (by omega) ?_
            refine T_eq rfl l_0 (fun c1430_ => ?_) (fun c1430_ => ?_)
            · refine T_qg (i_add rfl l_6 (by omega) (by omega)) (by omega) (by omega) ?_
              refine T_qcE (t_X12_game hn _ _ _ _ _ _ m1343_ g1344_ (by decide) (by decide)) ?_
              intro r1431_ m1432_ e1435_ p1434_
              have g1433_ := p1434_.2.1
              have f1436_ : (m1432_ 1 1).toInt = (m1343_ 1 1).toInt := by rw [p1434_.2.2 1 1 (by decide)]
              have f1437_ : (m1432_ 77 8).toInt = (m1343_ 77 8).toInt := by rw [p1434_.2.2 77 8 (by decide)]
              have f1438_ : (m1432_ 7 8).toInt = (m1343_ 7 8).toInt := by rw [p1434_.2.2 7 8 (by decide)]
              have f1439_ : (m1432_ 78 312).toInt = (m1343_ 78 312).toInt := by rw [p1434_.2.2 78 312 (by decide)]
              have f1440_ : (m1432_ 16 8).toInt = (m1343_ 16 8).toInt := by rw [p1434_.2.2 16 8 (by decide)]
              have f1441_ : (m1432_ 80 312).toInt = (m1343_ 80 312).toInt := by rw [p1434_.2.2 80 312 (by decide)]
              have f1442_ : (m1432_ 0 12).toInt = (m1343_ 0 12).toInt := by rw [p1434_.2.2 0 12 (by decide)]
              have f1443_ : (m1432_ 77 67).toInt = (m1343_ 77 67).toInt := by rw [p1434_.2.2 77 67 (by decide)]
              have f1444_ : (m1432_ 7 9).toInt = (m1343_ 7 9).toInt := by rw [p1434_.2.2 7 9 (by decide)]
              have f1445_ : (m1432_ 78 313).toInt = (m1343_ 78 313).toInt := by rw [p1434_.2.2 78 313 (by decide)]
              have f1446_ : (m1432_ 16 9).toInt = (m1343_ 16 9).toInt := by rw [p1434_.2.2 16 9 (by decide)]
              have f1447_ : (m1432_ 80 313).toInt = (m1343_ 80 313).toInt := by rw [p1434_.2.2 80 313 (by decide)]
              have k1448_ : WKS m1432_ := WKS_S k1359_ (p1434_.2.2) (p1434_.2.2 3 3 (by decide)) rfl rfl
              have d1449_ : KD m1432_ m1432_ := KD_S d1360_ (p1434_.2.2) (p1434_.2.2 3 3 (by decide)) (p1434_.2.2 77 6 (by decide)) rfl
              have l1450_ : LR j m1432_ m1432_ := LR_S hj l1361_ (p1434_.2.2) rfl rfl (p1434_.2.2 77 17 (by decide))
              have tw1451_ : TN 7 78 m1432_ m1432_ := TN_S tw1362_ (p1434_.2.2) rfl rfl
              have tx1452_ : m1432_ 0 12 ≠ 0 → TN 16 80 m1432_ m1432_ := KX_S tx1363_ (p1434_.2.2) (p1434_.2.2 0 12 (by decide)) rfl rfl
              have q1453_ : (m1432_ 1 1).toInt = (m1432_ 77 8).toInt := by omega
              have q1454_ : (m1432_ 7 8).toInt = (m1432_ 78 312).toInt := by omega
              have q1455_ : (m1432_ 16 8).toInt = (m1432_ 80 312).toInt := by omega
              have q1456_ : (m1432_ 0 12).toInt = (m1432_ 77 67).toInt := by omega
              have q1457_ : (m1432_ 7 9).toInt = (m1432_ 78 313).toInt := by omega
              have q1458_ : (m1432_ 16 9).toInt = (m1432_ 80 313).toInt := by omega
              have f1460_ := r_1_1 hG
              have t1459_ : TR m1432_ := TR_le hT (by omega) (funext (fun s_ => by rw [p1434_.2.2 2 s_ (outc rfl), p1345_.2.2 2 s_ (outc rfl)])) (funext (fun s_ => by rw [p1434_.2.2 84 s_ (outc rfl), p1345_.2.2 84 s_ (outc rfl)]))
              refine T_ql (i_add rfl l_7 (by omega) (by omega)) ?_
              intro x1461_ h1462_
              exact ih j r hj hr hjr x1461_ m1432_ (by omega) (by omega) g1433_ q1453_ q1454_ q1455_ q1456_ q1457_ q1458_ t1459_ d1449_ l1450_ k1448_ tw1451_ tx1452_ (by omega)
            · refine T_qg (i_add rfl l_6 (by omega) (by omega)) (by omega) (by omega) ?_
              refine T_qcE (t_X12_game hn _ _ _ _ _ _ m1343_ g1344_ (by decide) (by decide)) ?_
              intro r1463_ m1464_ e1467_ p1466_
              have g1465_ := p1466_.2.1
              have f1468_ : (m1464_ 1 1).toInt = (m1343_ 1 1).toInt := by rw [p1466_.2.2 1 1 (by decide)]
              have f1469_ : (m1464_ 77 8).toInt = (m1343_ 77 8).toInt := by rw [p1466_.2.2 77 8 (by decide)]
              have f1470_ : (m1464_ 7 8).toInt = (m1343_ 7 8).toInt := by rw [p1466_.2.2 7 8 (by decide)]
              have f1471_ : (m1464_ 78 312).toInt = (m1343_ 78 312).toInt := by rw [p1466_.2.2 78 312 (by decide)]
              have f1472_ : (m1464_ 16 8).toInt = (m1343_ 16 8).toInt := by rw [p1466_.2.2 16 8 (by decide)]
              have f1473_ : (m1464_ 80 312).toInt = (m1343_ 80 312).toInt := by rw [p1466_.2.2 80 312 (by decide)]
              have f1474_ : (m1464_ 0 12).toInt = (m1343_ 0 12).toInt := by rw [p1466_.2.2 0 12 (by decide)]
              have f1475_ : (m1464_ 77 67).toInt = (m1343_ 77 67).toInt := by rw [p1466_.2.2 77 67 (by decide)]
              have f1476_ : (m1464_ 7 9).toInt = (m1343_ 7 9).toInt := by rw [p1466_.2.2 7 9 (by decide)]
              have f1477_ : (m1464_ 78 313).toInt = (m1343_ 78 313).toInt := by rw [p1466_.2.2 78 313 (by decide)]
              have f1478_ : (m1464_ 16 9).toInt = (m1343_ 16 9).toInt := by rw [p1466_.2.2 16 9 (by decide)]
              have f1479_ : (m1464_ 80 313).toInt = (m1343_ 80 313).toInt := by rw [p1466_.2.2 80 313 (by decide)]
              have k1480_ : WKS m1464_ := WKS_S k1359_ (p1466_.2.2) (p1466_.2.2 3 3 (by decide)) rfl rfl
              have d1481_ : KD m1464_ m1464_ := KD_S d1360_ (p1466_.2.2) (p1466_.2.2 3 3 (by decide)) (p1466_.2.2 77 6 (by decide)) rfl
              have l1482_ : LR j m1464_ m1464_ := LR_S hj l1361_ (p1466_.2.2) rfl rfl (p1466_.2.2 77 17 (by decide))
              have tw1483_ : TN 7 78 m1464_ m1464_ := TN_S tw1362_ (p1466_.2.2) rfl rfl
              have tx1484_ : m1464_ 0 12 ≠ 0 → TN 16 80 m1464_ m1464_ := KX_S tx1363_ (p1466_.2.2) (p1466_.2.2 0 12 (by decide)) rfl rfl
              have q1485_ : (m1464_ 1 1).toInt = (m1464_ 77 8).toInt := by omega
              have q1486_ : (m1464_ 7 8).toInt = (m1464_ 78 312).toInt := by omega
              have q1487_ : (m1464_ 16 8).toInt = (m1464_ 80 312).toInt := by omega
              have q1488_ : (m1464_ 0 12).toInt = (m1464_ 77 67).toInt := by omega
              have q1489_ : (m1464_ 7 9).toInt = (m1464_ 78 313).toInt := by omega
              have q1490_ : (m1464_ 16 9).toInt = (m1464_ 80 313).toInt := by omega
              have f1492_ := r_1_1 hG
              have t1491_ : TR m1464_ := TR_le hT (by omega) (funext (fun s_ => by rw [p1466_.2.2 2 s_ (outc rfl), p1345_.2.2 2 s_ (outc rfl)])) (funext (fun s_ => by rw [p1466_.2.2 84 s_ (outc rfl), p1345_.2.2 84 s_ (outc rfl)]))
              refine T_ql (i_add rfl l_7 (by omega) (by omega)) ?_
              intro x1493_ h1494_
              exact ih j r hj hr hjr x1493_ m1464_ (by omega) (by omega) g1465_ q1485_ q1486_ q1487_ q1488_ q1489_ q1490_ t1491_ d1481_ l1482_ k1480_ tw1483_ tx1484_ (by omega)
        · refine T_qg (i_add rfl l_6 (by omega) (by omega)) (by omega) (by omega) ?_
          refine T_qcE (t_X11_game hn _ _ _ _ _ _ M hG (by decide) (by decide)) ?_
          intro r1495_ m1496_ e1499_ p1498_
          have g1497_ := p1498_.2.1
          have f1500_ : (m1496_ 1 1).toInt = (M 1 1).toInt := by rw [p1498_.2.2 1 1 (by decide)]
          have f1501_ : (m1496_ 77 8).toInt = (M 77 8).toInt := by rw [p1498_.2.2 77 8 (by decide)]
          have f1502_ : (m1496_ 7 8).toInt = (M 7 8).toInt := by rw [p1498_.2.2 7 8 (by decide)]
          have f1503_ : (m1496_ 78 312).toInt = (M 78 312).toInt := by rw [p1498_.2.2 78 312 (by decide)]
          have f1504_ : (m1496_ 16 8).toInt = (M 16 8).toInt := by rw [p1498_.2.2 16 8 (by decide)]
          have f1505_ : (m1496_ 80 312).toInt = (M 80 312).toInt := by rw [p1498_.2.2 80 312 (by decide)]
          have f1506_ : (m1496_ 0 12).toInt = (M 0 12).toInt := by rw [p1498_.2.2 0 12 (by decide)]
          have f1507_ : (m1496_ 77 67).toInt = (M 77 67).toInt := by rw [p1498_.2.2 77 67 (by decide)]
          have f1508_ : (m1496_ 7 9).toInt = (M 7 9).toInt := by rw [p1498_.2.2 7 9 (by decide)]
          have f1509_ : (m1496_ 78 313).toInt = (M 78 313).toInt := by rw [p1498_.2.2 78 313 (by decide)]
          have f1510_ : (m1496_ 16 9).toInt = (M 16 9).toInt := by rw [p1498_.2.2 16 9 (by decide)]
          have f1511_ : (m1496_ 80 313).toInt = (M 80 313).toInt := by rw [p1498_.2.2 80 313 (by decide)]
          have k1512_ : WKS m1496_ := WKS_S hK (p1498_.2.2) (p1498_.2.2 3 3 (by decide)) rfl rfl
          have d1513_ : KD m1496_ m1496_ := KD_S hD (p1498_.2.2) (p1498_.2.2 3 3 (by decide)) (p1498_.2.2 77 6 (by decide)) rfl
          have l1514_ : LR j m1496_ m1496_ := LR_S hj hL (p1498_.2.2) rfl rfl (p1498_.2.2 77 17 (by decide))
          have tw1515_ : TN 7 78 m1496_ m1496_ := TN_S hW (p1498_.2.2) rfl rfl
          have tx1516_ : m1496_ 0 12 ≠ 0 → TN 16 80 m1496_ m1496_ := KX_S hX (p1498_.2.2) (p1498_.2.2 0 12 (by decide)) rfl rfl
          refine T_qg (i_add rfl l_1 (by omega) (by omega)) (by omega) (by omega) ?_
          refine T_qg (i_add rfl l_2 (by omega) (by omega)) (by omega) (by omega) ?_
          refine T_qg (i_add rfl l_3 (by omega) (by omega)) (by omega) (by omega) ?_
          refine T_qg (i_add rfl l_4 (by omega) (by omega)) (by omega) (by omega) ?_
          refine T_eq rfl l_0 (fun c1517_ => ?_) (fun c1517_ => ?_)
          · refine T_qg (i_add rfl l_5 (by omega) (by omega)) (by omega) (by omega) ?_
            refine T_eq rfl l_0 (fun c1518_ => ?_) (fun c1518_ => ?_)
            · refine T_qg (i_add rfl l_6 (by omega) (by omega)) (by omega) (by omega) ?_
              refine T_qcE (t_X12_game hn _ _ _ _ _ _ m1496_ g1497_ (by decide) (by decide)) ?_
              intro r1519_ m1520_ e1523_ p1522_
              have g1521_ := p1522_.2.1
              have f1524_ : (m1520_ 1 1).toInt = (m1496_ 1 1).toInt := by rw [p1522_.2.2 1 1 (by decide)]
              have f1525_ : (m1520_ 77 8).toInt = (m1496_ 77 8).toInt := by rw [p1522_.2.2 77 8 (by decide)]
              have f1526_ : (m1520_ 7 8).toInt = (m1496_ 7 8).toInt := by rw [p1522_.2.2 7 8 (by decide)]
              have f1527_ : (m1520_ 78 312).toInt = (m1496_ 78 312).toInt := by rw [p1522_.2.2 78 312 (by decide)]
              have f1528_ : (m1520_ 16 8).toInt = (m1496_ 16 8).toInt := by rw [p1522_.2.2 16 8 (by decide)]
              have f1529_ : (m1520_ 80 312).toInt = (m1496_ 80 312).toInt := by rw [p1522_.2.2 80 312 (by decide)]
              have f1530_ : (m1520_ 0 12).toInt = (m1496_ 0 12).toInt := by rw [p1522_.2.2 0 12 (by decide)]
              have f1531_ : (m1520_ 77 67).toInt = (m1496_ 77 67).toInt := by rw [p1522_.2.2 77 67 (by decide)]
              have f1532_ : (m1520_ 7 9).toInt = (m1496_ 7 9).toInt := by rw [p1522_.2.2 7 9 (by decide)]
              have f1533_ : (m1520_ 78 313).toInt = (m1496_ 78 313).toInt := by rw [p1522_.2.2 78 313 (by decide)]
              have f1534_ : (m1520_ 16 9).toInt = (m1496_ 16 9).toInt := by rw [p1522_.2.2 16 9 (by decide)]
              have f1535_ : (m1520_ 80 313).toInt = (m1496_ 80 313).toInt := by rw [p1522_.2.2 80 313 (by decide)]
              have k1536_ : WKS m1520_ := WKS_S k1512_ (p1522_.2.2) (p1522_.2.2 3 3 (by decide)) rfl rfl
              have d1537_ : KD m1520_ m1520_ := KD_S d1513_ (p1522_.2.2) (p1522_.2.2 3 3 (by decide)) (p1522_.2.2 77 6 (by decide)) rfl
              have l1538_ : LR j m1520_ m1520_ := LR_S hj l1514_ (p1522_.2.2) rfl rfl (p1522_.2.2 77 17 (by decide))
              have tw1539_ : TN 7 78 m1520_ m1520_ := TN_S tw1515_ (p1522_.2.2) rfl rfl
              have tx1540_ : m1520_ 0 12 ≠ 0 → TN 16 80 m1520_ m1520_ := KX_S tx1516_ (p1522_.2.2) (p1522_.2.2 0 12 (by decide)) rfl rfl
              have q1541_ : (m1520_ 1 1).toInt = (m1520_ 77 8).toInt := by omega
              have q1542_ : (m1520_ 7 8).toInt = (m1520_ 78 312).toInt := by omega
              have q1543_ : (m1520_ 16 8).toInt = (m1520_ 80 312).toInt := by omega
              have q1544_ : (m1520_ 0 12).toInt = (m1520_ 77 67).toInt := by omega
              have q1545_ : (m1520_ 7 9).toInt = (m1520_ 78 313).toInt := by omega
              have q1546_ : (m1520_ 16 9).toInt = (m1520_ 80 313).toInt := by omega
              have f1548_ := r_1_1 hG
              have t1547_ : TR m1520_ := TR_le hT (by omega) (funext (fun s_ => by rw [p1522_.2.2 2 s_ (outc rfl), p1498_.2.2 2 s_ (outc rfl)])) (funext (fun s_ => by rw [p1522_.2.2 84 s_ (outc rfl), p1498_.2.2 84 s_ (outc rfl)]))
              refine T_ql (i_add rfl l_7 (by omega) (by omega)) ?_
              intro x1549_ h1550_
              exact ih j r hj hr hjr x1549_ m1520_ (by omega) (by omega) g1521_ q1541_ q1542_ q1543_ q1544_ q1545_ q1546_ t1547_ d1537_ l1538_ k1536_ tw1539_ tx1540_ (by omega)
            · refine T_qg (i_add rfl l_6 (by omega) (by omega)) (by omega) (by omega) ?_
              refine T_qcE (t_X12_game hn _ _ _ _ _ _ m1496_ g1497_ (by decide) (by decide)) ?_
              intro r1551_ m1552_ e1555_ p1554_
              have g1553_ := p1554_.2.1
              have f1556_ : (m1552_ 1 1).toInt = (m1496_ 1 1).toInt := by rw [p1554_.2.2 1 1 (by decide)]
              have f1557_ : (m1552_ 77 8).toInt = (m1496_ 77 8).toInt := by rw [p1554_.2.2 77 8 (by decide)]
              have f1558_ : (m1552_ 7 8).toInt = (m1496_ 7 8).toInt := by rw [p1554_.2.2 7 8 (by decide)]
              have f1559_ : (m1552_ 78 312).toInt = (m1496_ 78 312).toInt := by rw [p1554_.2.2 78 312 (by decide)]
              have f1560_ : (m1552_ 16 8).toInt = (m1496_ 16 8).toInt := by rw [p1554_.2.2 16 8 (by decide)]
              have f1561_ : (m1552_ 80 312).toInt = (m1496_ 80 312).toInt := by rw [p1554_.2.2 80 312 (by decide)]
              have f1562_ : (m1552_ 0 12).toInt = (m1496_ 0 12).toInt := by rw [p1554_.2.2 0 12 (by decide)]
              have f1563_ : (m1552_ 77 67).toInt = (m1496_ 77 67).toInt := by rw [p1554_.2.2 77 67 (by decide)]
              have f1564_ : (m1552_ 7 9).toInt = (m1496_ 7 9).toInt := by rw [p1554_.2.2 7 9 (by decide)]
              have f1565_ : (m1552_ 78 313).toInt = (m1496_ 78 313).toInt := by rw [p1554_.2.2 78 313 (by decide)]
              have f1566_ : (m1552_ 16 9).toInt = (m1496_ 16 9).toInt := by rw [p1554_.2.2 16 9 (by decide)]
              have f1567_ : (m1552_ 80 313).toInt = (m1496_ 80 313).toInt := by rw [p1554_.2.2 80 313 (by decide)]
              have k1568_ : WKS m1552_ := WKS_S k1512_ (p1554_.2.2) (p1554_.2.2 3 3 (by decide)) rfl rfl
              have d1569_ : KD m1552_ m1552_ := KD_S d1513_ (p1554_.2.2) (p1554_.2.2 3 3 (by decide)) (p1554_.2.2 77 6 (by decide)) rfl
              have l1570_ : LR j m1552_ m1552_ := LR_S hj l1514_ (p1554_.2.2) rfl rfl (p1554_.2.2 77 17 (by decide))
              have tw1571_ : TN 7 78 m1552_ m1552_ := TN_S tw1515_ (p1554_.2.2) rfl rfl
              have tx1572_ : m1552_ 0 12 ≠ 0 → TN 16 80 m1552_ m1552_ := KX_S tx1516_ (p1554_.2.2) (p1554_.2.2 0 12 (by decide)) rfl rfl
              have q1573_ : (m1552_ 1 1).toInt = (m1552_ 77 8).toInt := by omega
              have q1574_ : (m1552_ 7 8).toInt = (m1552_ 78 312).toInt := by omega
              have q1575_ : (m1552_ 16 8).toInt = (m1552_ 80 312).toInt := by omega
              have q1576_ : (m1552_ 0 12).toInt = (m1552_ 77 67).toInt := by omega
              have q1577_ : (m1552_ 7 9).toInt = (m1552_ 78 313).toInt := by omega
              have q1578_ : (m1552_ 16 9).toInt = (m1552_ 80 313).toInt := by omega
              have f1580_ := r_1_1 hG
              have t1579_ : TR m1552_ := TR_le hT (by omega) (funext (fun s_ => by rw [p1554_.2.2 2 s_ (outc rfl), p1498_.2.2 2 s_ (outc rfl)])) (funext (fun s_ => by rw [p1554_.2.2 84 s_ (outc rfl), p1498_.2.2 84 s_ (outc rfl)]))
              refine T_ql (i_add rfl l_7 (by omega) (by omega)) ?_
              intro x1581_ h1582_
              exact ih j r hj hr hjr x1581_ m1552_ (by omega) (by omega) g1553_ q1573_ q1574_ q1575_ q1576_ q1577_ q1578_ t1579_ d1569_ l1570_ k1568_ tw1571_ tx1572_ (by omega)
          · refine T_qg (i_add rfl l_5 (by omega) (by omega)) (by omega) (by omega) ?_
            refine T_eq rfl l_0 (fun c1583_ => ?_) (fun c1583_ => ?_)
            · refine T_qg (i_add rfl l_6 (by omega) (by omega)) (by omega) (by omega) ?_
              refine T_qcE (t_X12_game hn _ _ _ _ _ _ m1496_ g1497_ (by decide) (by decide)) ?_
              intro r1584_ m1585_ e1588_ p1587_
              have g1586_ := p1587_.2.1
              have f1589_ : (m1585_ 1 1).toInt = (m1496_ 1 1).toInt := by rw [p1587_.2.2 1 1 (by decide)]
              have f1590_ : (m1585_ 77 8).toInt = (m1496_ 77 8).toInt := by rw [p1587_.2.2 77 8 (by decide)]
              have f1591_ : (m1585_ 7 8).toInt = (m1496_ 7 8).toInt := by rw [p1587_.2.2 7 8 (by decide)]
              have f1592_ : (m1585_ 78 312).toInt = (m1496_ 78 312).toInt := by rw [p1587_.2.2 78 312 (by decide)]
              have f1593_ : (m1585_ 16 8).toInt = (m1496_ 16 8).toInt := by rw [p1587_.2.2 16 8 (by decide)]
              have f1594_ : (m1585_ 80 312).toInt = (m1496_ 80 312).toInt := by rw [p1587_.2.2 80 312 (by decide)]
              have f1595_ : (m1585_ 0 12).toInt = (m1496_ 0 12).toInt := by rw [p1587_.2.2 0 12 (by decide)]
              have f1596_ : (m1585_ 77 67).toInt = (m1496_ 77 67).toInt := by rw [p1587_.2.2 77 67 (by decide)]
              have f1597_ : (m1585_ 7 9).toInt = (m1496_ 7 9).toInt := by rw [p1587_.2.2 7 9 (by decide)]
              have f1598_ : (m1585_ 78 313).toInt = (m1496_ 78 313).toInt := by rw [p1587_.2.2 78 313 (by decide)]
              have f1599_ : (m1585_ 16 9).toInt = (m1496_ 16 9).toInt := by rw [p1587_.2.2 16 9 (by decide)]
              have f1600_ : (m1585_ 80 313).toInt = (m1496_ 80 313).toInt := by rw [p1587_.2.2 80 313 (by decide)]
              have k1601_ : WKS m1585_ := WKS_S k1512_ (p1587_.2.2) (p1587_.2.2 3 3 (by decide)) rfl rfl
              have d1602_ : KD m1585_ m1585_ := KD_S d1513_ (p1587_.2.2) (p1587_.2.2 3 3 (by decide)) (p1587_.2.2 77 6 (by decide)) rfl
              have l1603_ : LR j m1585_ m1585_ := LR_S hj l1514_ (p1587_.2.2) rfl rfl (p1587_.2.2 77 17 (by decide))
              have tw1604_ : TN 7 78 m1585_ m1585_ := TN_S tw1515_ (p1587_.2.2) rfl rfl
              have tx1605_ : m1585_ 0 12 ≠ 0 → TN 16 80 m1585_ m1585_ := KX_S tx1516_ (p1587_.2.2) (p1587_.2.2 0 12 (by decide)) rfl rfl
              have q1606_ : (m1585_ 1 1).toInt = (m1585_ 77 8).toInt := by omega
              have q1607_ : (m1585_ 7 8).toInt = (m1585_ 78 312).toInt := by omega
              have q1608_ : (m1585_ 16 8).toInt = (m1585_ 80 312).toInt := by omega
              have q1609_ : (m1585_ 0 12).toInt = (m1585_ 77 67).toInt := by omega
              have q1610_ : (m1585_ 7 9).toInt = (m1585_ 78 313).toInt := by omega
              have q1611_ : (m1585_ 16 9).toInt = (m1585_ 80 313).toInt := by omega
              have f1613_ := r_1_1 hG
              have t1612_ : TR m1585_ := TR_le hT (by omega) (funext (fun s_ => by rw [p1587_.2.2 2 s_ (outc rfl), p1498_.2.2 2 s_ (outc rfl)])) (funext (fun s_ => by rw [p1587_.2.2 84 s_ (outc rfl), p1498_.2.2 84 s_ (outc rfl)]))
              refine T_ql (i_add rfl l_7 (by omega) (by omega)) ?_
              intro x1614_ h1615_
              exact ih j r hj hr hjr x1614_ m1585_ (by omega) (by omega) g1586_ q1606_ q1607_ q1608_ q1609_ q1610_ q1611_ t1612_ d1602_ l1603_ k1601_ tw1604_ tx1605_ (by omega)
            · refine T_qg (i_add rfl l_6 (by omega) (by omega)) (by omega) (by omega) ?_
              refine T_qcE (t_X12_game hn _ _ _ _ _ _ m1496_ g1497_ (by decide) (by decide)) ?_
              intro r1616_ m1617_ e1620_ p1619_
              have g1618_ := p1619_.2.1
              have f1621_ : (m1617_ 1 1).toInt = (m1496_ 1 1).toInt := by rw [p1619_.2.2 1 1 (by decide)]
              have f1622_ : (m1617_ 77 8).toInt = (m1496_ 77 8).toInt := by rw [p1619_.2.2 77 8 (by decide)]
              have f1623_ : (m1617_ 7 8).toInt = (m1496_ 7 8).toInt := by rw [p1619_.2.2 7 8 (by decide)]
              have f1624_ : (m1617_ 78 312).toInt = (m1496_ 78 312).toInt := by rw [p1619_.2.2 78 312 (by decide)]
              have f1625_ : (m1617_ 16 8).toInt = (m1496_ 16 8).toInt := by rw [p1619_.2.2 16 8 (by decide)]
              have f1626_ : (m1617_ 80 312).toInt = (m1496_ 80 312).toInt := by rw [p1619_.2.2 80 312 (by decide)]
              have f1627_ : (m1617_ 0 12).toInt = (m1496_ 0 12).toInt := by rw [p1619_.2.2 0 12 (by decide)]
              have f1628_ : (m1617_ 77 67).toInt = (m1496_ 77 67).toInt := by rw [p1619_.2.2 77 67 (by decide)]
              have f1629_ : (m1617_ 7 9).toInt = (m1496_ 7 9).toInt := by rw [p1619_.2.2 7 9 (by decide)]
              have f1630_ : (m1617_ 78 313).toInt = (m1496_ 78 313).toInt := by rw [p1619_.2.2 78 313 (by decide)]
              have f1631_ : (m1617_ 16 9).toInt = (m1496_ 16 9).toInt := by rw [p1619_.2.2 16 9 (by decide)]
              have f1632_ : (m1617_ 80 313).toInt = (m1496_ 80 313).toInt := by rw [p1619_.2.2 80 313 (by decide)]
              have k1633_ : WKS m1617_ := WKS_S k1512_ (p1619_.2.2) (p1619_.2.2 3 3 (by decide)) rfl rfl
              have d1634_ : KD m1617_ m1617_ := KD_S d1513_ (p1619_.2.2) (p1619_.2.2 3 3 (by decide)) (p1619_.2.2 77 6 (by decide)) rfl
              have l1635_ : LR j m1617_ m1617_ := LR_S hj l1514_ (p1619_.2.2) rfl rfl (p1619_.2.2 77 17 (by decide))
              have tw1636_ : TN 7 78 m1617_ m1617_ := TN_S tw1515_ (p1619_.2.2) rfl rfl
              have tx1637_ : m1617_ 0 12 ≠ 0 → TN 16 80 m1617_ m1617_ := KX_S tx1516_ (p1619_.2.2) (p1619_.2.2 0 12 (by decide)) rfl rfl
              have q1638_ : (m1617_ 1 1).toInt = (m1617_ 77 8).toInt := by omega
              have q1639_ : (m1617_ 7 8).toInt = (m1617_ 78 312).toInt := by omega
              have q1640_ : (m1617_ 16 8).toInt = (m1617_ 80 312).toInt := by omega
              have q1641_ : (m1617_ 0 12).toInt = (m1617_ 77 67).toInt := by omega
              have q1642_ : (m1617_ 7 9).toInt = (m1617_ 78 313).toInt := by omega
              have q1643_ : (m1617_ 16 9).toInt = (m1617_ 80 313).toInt := by omega
              have f1645_ := r_1_1 hG
              have t1644_ : TR m1617_ := TR_le hT (by omega) (funext (fun s_ => by rw [p1619_.2.2 2 s_ (outc rfl), p1498_.2.2 2 s_ (outc rfl)])) (funext (fun s_ => by rw [p1619_.2.2 84 s_ (outc rfl), p1498_.2.2 84 s_ (outc rfl)]))
              refine T_ql (i_add rfl l_7 (by omega) (by omega)) ?_
              intro x1646_ h1647_
              exact ih j r hj hr hjr x1646_ m1617_ (by omega) (by omega) g1618_ q1638_ q1639_ q1640_ q1641_ q1642_ q1643_ t1644_ d1634_ l1635_ k1633_ tw1636_ tx1637_ (by omega)
    refine T_sw rfl l_19 (fun s1648_ => ?_) (fun s1648_ => ?_)
    · refine T_qg (i_add rfl l_1 (by omega) (by omega)) (by omega) (by omega) ?_
      refine T_qg (i_add rfl l_2 (by omega) (by omega)) (by omega) (by omega) ?_
      refine T_qg (i_add rfl l_3 (by omega) (by omega)) (by omega) (by omega) ?_
      refine T_qg (i_add rfl l_4 (by omega) (by omega)) (by omega) (by omega) ?_
      refine T_qg (i_add rfl l_5 (by omega) (by omega)) (by omega) (by omega) ?_
      refine T_qg (i_add rfl l_6 (by omega) (by omega)) (by omega) (by omega) ?_
      refine T_qcE (t_X11_court hn _ _ _ _ _ _ M hG) ?_
      intro r1649_ m1650_ e1653_ p1652_
      have g1651_ := p1652_.2.1
      have f1654_ : (m1650_ 1 1).toInt = (M 1 1).toInt := by rw [p1652_.2.2 1 1 (by decide)]
      have f1655_ : (m1650_ 77 8).toInt = (M 77 8).toInt := by rw [p1652_.2.2 77 8 (by decide)]
      have f1656_ : (m1650_ 7 8).toInt = (M 7 8).toInt := by rw [p1652_.2.2 7 8 (by decide)]
      have f1657_ : (m1650_ 78 312).toInt = (M 78 312).toInt := by rw [p1652_.2.2 78 312 (by decide)]
      have f1658_ : (m1650_ 16 8).toInt = (M 16 8).toInt := by rw [p1652_.2.2 16 8 (by decide)]
      have f1659_ : (m1650_ 80 312).toInt = (M 80 312).toInt := by rw [p1652_.2.2 80 312 (by decide)]
      have f1660_ : (m1650_ 0 12).toInt = (M 0 12).toInt := by rw [p1652_.2.2 0 12 (by decide)]
      have f1661_ : (m1650_ 77 67).toInt = (M 77 67).toInt := by rw [p1652_.2.2 77 67 (by decide)]
      have f1662_ : (m1650_ 7 9).toInt = (M 7 9).toInt := by rw [p1652_.2.2 7 9 (by decide)]
      have f1663_ : (m1650_ 78 313).toInt = (M 78 313).toInt := by rw [p1652_.2.2 78 313 (by decide)]
      have f1664_ : (m1650_ 16 9).toInt = (M 16 9).toInt := by rw [p1652_.2.2 16 9 (by decide)]
      have f1665_ : (m1650_ 80 313).toInt = (M 80 313).toInt := by rw [p1652_.2.2 80 313 (by decide)]
      have k1666_ : WKS m1650_ := WKS_S hK (p1652_.2.2) (p1652_.2.2 3 3 (by decide)) rfl rfl
      have d1667_ : KD m1650_ m1650_ := KD_S hD (p1652_.2.2) (p1652_.2.2 3 3 (by decide)) (p1652_.2.2 77 6 (by decide)) rfl
      have l1668_ : LR j m1650_ m1650_ := LR_S hj hL (p1652_.2.2) rfl rfl (p1652_.2.2 77 17 (by decide))
      have tw1669_ : TN 7 78 m1650_ m1650_ := TN_S hW (p1652_.2.2) rfl rfl
      have tx1670_ : m1650_ 0 12 ≠ 0 → TN 16 80 m1650_ m1650_ := KX_S hX (p1652_.2.2) (p1652_.2.2 0 12 (by decide)) rfl rfl
      refine T_qg (i_add rfl l_1 (by omega) (by omega)) (by omega) (by omega) ?_
      refine T_qg (i_add rfl l_2 (by omega) (by omega)) (by omega) (by omega) ?_
      refine T_qg (i_add rfl l_3 (by omega) (by omega)) (by omega) (by omega) ?_
      refine T_qg (i_add rfl l_4 (by omega) (by omega)) (by omega) (by omega) ?_
      refine T_qg (i_add rfl l_5 (by omega) (by omega)) (by omega) (by omega) ?_
      refine T_qg (i_add rfl l_6 (by omega) (by omega)) (by omega) (by omega) ?_
      refine T_qcE (t_X12_court hn _ _ _ _ _ _ m1650_ g1651_) ?_
      intro r1671_ m1672_ e1675_ p1674_
      have g1673_ := p1674_.2.1
      have f1676_ : (m1672_ 1 1).toInt = (m1650_ 1 1).toInt := by rw [p1674_.2.2 1 1 (by decide)]
      have f1677_ : (m1672_ 77 8).toInt = (m1650_ 77 8).toInt := by rw [p1674_.2.2 77 8 (by decide)]
      have f1678_ : (m1672_ 7 8).toInt = (m1650_ 7 8).toInt := by rw [p1674_.2.2 7 8 (by decide)]
      have f1679_ : (m1672_ 78 312).toInt = (m1650_ 78 312).toInt := by rw [p1674_.2.2 78 312 (by decide)]
      have f1680_ : (m1672_ 16 8).toInt = (m1650_ 16 8).toInt := by rw [p1674_.2.2 16 8 (by decide)]
      have f1681_ : (m1672_ 80 312).toInt = (m1650_ 80 312).toInt := by rw [p1674_.2.2 80 312 (by decide)]
      have f1682_ : (m1672_ 0 12).toInt = (m1650_ 0 12).toInt := by rw [p1674_.2.2 0 12 (by decide)]
      have f1683_ : (m1672_ 77 67).toInt = (m1650_ 77 67).toInt := by rw [p1674_.2.2 77 67 (by decide)]
      have f1684_ : (m1672_ 7 9).toInt = (m1650_ 7 9).toInt := by rw [p1674_.2.2 7 9 (by decide)]
      have f1685_ : (m1672_ 78 313).toInt = (m1650_ 78 313).toInt := by rw [p1674_.2.2 78 313 (by decide)]
      have f1686_ : (m1672_ 16 9).toInt = (m1650_ 16 9).toInt := by rw [p1674_.2.2 16 9 (by decide)]
      have f1687_ : (m1672_ 80 313).toInt = (m1650_ 80 313).toInt := by rw [p1674_.2.2 80 313 (by decide)]
      have k1688_ : WKS m1672_ := WKS_S k1666_ (p1674_.2.2) (p1674_.2.2 3 3 (by decide)) rfl rfl
      have d1689_ : KD m1672_ m1672_ := KD_S d1667_ (p1674_.2.2) (p1674_.2.2 3 3 (by decide)) (p1674_.2.2 77 6 (by decide)) rfl
      have l1690_ : LR j m1672_ m1672_ := LR_S hj l1668_ (p1674_.2.2) rfl rfl (p1674_.2.2 77 17 (by decide))
      have tw1691_ : TN 7 78 m1672_ m1672_ := TN_S tw1669_ (p1674_.2.2) rfl rfl
      have tx1692_ : m1672_ 0 12 ≠ 0 → TN 16 80 m1672_ m1672_ := KX_S tx1670_ (p1674_.2.2) (p1674_.2.2 0 12 (by decide)) rfl rfl
      have q1693_ : (m1672_ 1 1).toInt = (m1672_ 77 8).toInt := by omega
      have q1694_ : (m1672_ 7 8).toInt = (m1672_ 78 312).toInt := by omega
      have q1695_ : (m1672_ 16 8).toInt = (m1672_ 80 312).toInt := by omega
      have q1696_ : (m1672_ 0 12).toInt = (m1672_ 77 67).toInt := by omega
      have q1697_ : (m1672_ 7 9).toInt = (m1672_ 78 313).toInt := by omega
      have q1698_ : (m1672_ 16 9).toInt = (m1672_ 80 313).toInt := by omega
      have f1700_ := r_1_1 hG
      have t1699_ : TR m1672_ := TR_le hT (by omega) (funext (fun s_ => by rw [p1674_.2.2 2 s_ (outc rfl), p1652_.2.2 2 s_ (outc rfl)])) (funext (fun s_ => by rw [p1674_.2.2 84 s_ (outc rfl), p1652_.2.2 84 s_ (outc rfl)]))
      refine T_ql (i_add rfl l_7 (by omega) (by omega)) ?_
      intro x1701_ h1702_
      exact ih j r hj hr hjr x1701_ m1672_ (by omega) (by omega) g1673_ q1693_ q1694_ q1695_ q1696_ q1697_ q1698_ t1699_ d1689_ l1690_ k1688_ tw1691_ tx1692_ (by omega)
    refine T_sw rfl l_20 (fun s1703_ => ?_) (fun s1703_ => ?_)
    · refine T_qcE (t_X11_keep hn M hG) ?_
      intro r1704_ m1705_ e1708_ p1707_
      have g1706_ := p1707_.2.1
      have f1709_ : (m1705_ 1 1).toInt = (M 1 1).toInt := by rw [p1707_.2.2 1 1 (by decide)]
      have f1710_ : (m1705_ 77 8).toInt = (M 77 8).toInt := by rw [p1707_.2.2 77 8 (by decide)]
      have f1711_ : (m1705_ 7 8).toInt = (M 7 8).toInt := by rw [p1707_.2.2 7 8 (by decide)]
      have f1712_ : (m1705_ 78 312).toInt = (M 78 312).toInt := by rw [p1707_.2.2 78 312 (by decide)]
      have f1713_ : (m1705_ 80 312).toInt = (M 80 312).toInt := by rw [p1707_.2.2 80 312 (by decide)]
      have f1714_ : (m1705_ 77 67).toInt = (M 77 67).toInt := by rw [p1707_.2.2 77 67 (by decide)]
      have f1715_ : (m1705_ 7 9).toInt = (M 7 9).toInt := by rw [p1707_.2.2 7 9 (by decide)]
      have f1716_ : (m1705_ 78 313).toInt = (M 78 313).toInt := by rw [p1707_.2.2 78 313 (by decide)]
      have f1717_ : (m1705_ 80 313).toInt = (M 80 313).toInt := by rw [p1707_.2.2 80 313 (by decide)]
      have w1718_ := p1707_.1
      have k1719_ : WKS m1705_ := WKS_S hK (p1707_.2.2) (p1707_.2.2 3 3 (by decide)) rfl rfl
      have d1720_ : KD m1705_ m1705_ := KD_S hD (p1707_.2.2) (p1707_.2.2 3 3 (by decide)) (p1707_.2.2 77 6 (by decide)) rfl
      have l1721_ : LR j m1705_ m1705_ := LR_S hj hL (p1707_.2.2) rfl rfl (p1707_.2.2 77 17 (by decide))
      refine T_qcE (t_X12_keep hn m1705_ g1706_) ?_
      intro r1722_ m1723_ e1726_ p1725_
      have g1724_ := p1725_.2.1
      have f1727_ : (m1723_ 1 1).toInt = (m1705_ 1 1).toInt := by rw [p1725_.2.2 1 1 (by decide)]
      have f1728_ : (m1723_ 77 8).toInt = (m1705_ 77 8).toInt := by rw [p1725_.2.2 77 8 (by decide)]
      have f1729_ : (m1723_ 7 8).toInt = (m1705_ 7 8).toInt := by rw [p1725_.2.2 7 8 (by decide)]
      have f1730_ : (m1723_ 78 312).toInt = (m1705_ 78 312).toInt := by rw [p1725_.2.2 78 312 (by decide)]
      have f1731_ : (m1723_ 16 8).toInt = (m1705_ 16 8).toInt := by rw [p1725_.2.2 16 8 (by decide)]
      have f1732_ : (m1723_ 0 12).toInt = (m1705_ 0 12).toInt := by rw [p1725_.2.2 0 12 (by decide)]
      have f1733_ : (m1723_ 7 9).toInt = (m1705_ 7 9).toInt := by rw [p1725_.2.2 7 9 (by decide)]
      have f1734_ : (m1723_ 78 313).toInt = (m1705_ 78 313).toInt := by rw [p1725_.2.2 78 313 (by decide)]
      have f1735_ : (m1723_ 16 9).toInt = (m1705_ 16 9).toInt := by rw [p1725_.2.2 16 9 (by decide)]
      have w1736_ := p1725_.1
      have k1737_ : WKS m1723_ := WKS_S k1719_ (p1725_.2.2) (p1725_.2.2 3 3 (by decide)) rfl rfl
      have d1738_ : KD m1723_ m1723_ := KD_S d1720_ (p1725_.2.2) (p1725_.2.2 3 3 (by decide)) (p1725_.2.2 77 6 (by decide)) rfl
      have l1739_ : LR j m1723_ m1723_ := LR_S hj l1721_ (p1725_.2.2) rfl rfl (p1725_.2.2 77 17 (by decide))
      have q1740_ : (m1723_ 1 1).toInt = (m1723_ 77 8).toInt := by omega
      have q1741_ : (m1723_ 7 8).toInt = (m1723_ 78 312).toInt := by omega
      have q1742_ : (m1723_ 16 8).toInt = (m1723_ 80 312).toInt := by omega
      have q1743_ : (m1723_ 0 12).toInt = (m1723_ 77 67).toInt := by omega
      have q1744_ : (m1723_ 7 9).toInt = (m1723_ 78 313).toInt := by omega
      have q1745_ : (m1723_ 16 9).toInt = (m1723_ 80 313).toInt := by omega
      have f1747_ := r_1_1 hG
      have t1746_ : TR m1723_ := TR_le hT (by omega) (funext (fun s_ => by rw [p1725_.2.2 2 s_ (outc rfl), p1707_.2.2 2 s_ (outc rfl)])) (funext (fun s_ => by rw [p1725_.2.2 84 s_ (outc rfl), p1707_.2.2 84 s_ (outc rfl)]))
      have wk1748_ := keep_st hW (fun c_ hc_ => funext (fun s_ => p1707_.2.2 c_ s_ (out77 hc_ rfl))) e1708_ e1726_
      have tw1749_ := wk1748_.2.1
      have tx1750_ : m1723_ 0 12 ≠ 0 → TN 16 80 m1723_ m1723_ := fun _ => wk1748_.2.2
      refine T_ql (i_add rfl l_7 (by omega) (by omega)) ?_
      intro x1751_ h1752_
      exact ih j r hj hr hjr x1751_ m1723_ (by omega) (by omega) g1724_ q1740_ q1741_ q1742_ q1743_ q1744_ q1745_ t1746_ d1738_ l1739_ k1737_ tw1749_ tx1750_ (by omega)
    refine T_sw rfl l_21 (fun s1753_ => ?_) (fun s1753_ => ?_)
    · refine T_qcE (t_X11_undo hn M hG) ?_
      intro r1754_ m1755_ e1758_ p1757_
      have g1756_ := p1757_.2.2.1
      have f1759_ : (m1755_ 1 1).toInt = (M 1 1).toInt := by rw [p1757_.2.2.2 1 1 (by decide)]
      have f1760_ : (m1755_ 77 8).toInt = (M 77 8).toInt := by rw [p1757_.2.2.2 77 8 (by decide)]
      have f1761_ : (m1755_ 78 312).toInt = (M 78 312).toInt := by rw [p1757_.2.2.2 78 312 (by decide)]
      have f1762_ : (m1755_ 16 8).toInt = (M 16 8).toInt := by rw [p1757_.2.2.2 16 8 (by decide)]
      have f1763_ : (m1755_ 80 312).toInt = (M 80 312).toInt := by rw [p1757_.2.2.2 80 312 (by decide)]
      have f1764_ : (m1755_ 0 12).toInt = (M 0 12).toInt := by rw [p1757_.2.2.2 0 12 (by decide)]
      have f1765_ : (m1755_ 77 67).toInt = (M 77 67).toInt := by rw [p1757_.2.2.2 77 67 (by decide)]
      have f1766_ : (m1755_ 78 313).toInt = (M 78 313).toInt := by rw [p1757_.2.2.2 78 313 (by decide)]
      have f1767_ : (m1755_ 16 9).toInt = (M 16 9).toInt := by rw [p1757_.2.2.2 16 9 (by decide)]
      have f1768_ : (m1755_ 80 313).toInt = (M 80 313).toInt := by rw [p1757_.2.2.2 80 313 (by decide)]
      have w1769_ := p1757_.2.1
      have k1770_ : WKS m1755_ := WKS_S hK (p1757_.2.2.2) (p1757_.2.2.2 3 3 (by decide)) rfl rfl
      have d1771_ : KD m1755_ m1755_ := KD_S hD (p1757_.2.2.2) (p1757_.2.2.2 3 3 (by decide)) (p1757_.2.2.2 77 6 (by decide)) rfl
      have l1772_ : LR j m1755_ m1755_ := LR_S hj hL (p1757_.2.2.2) rfl rfl (p1757_.2.2.2 77 17 (by decide))
      have tx1773_ : m1755_ 0 12 ≠ 0 → TN 16 80 m1755_ m1755_ := KX_S hX (p1757_.2.2.2) (p1757_.2.2.2 0 12 (by decide)) rfl rfl
      refine T_qcE (t_X12_undo hn m1755_ g1756_) ?_
      intro r1774_ m1775_ e1778_ p1777_
      have g1776_ := p1777_.2.2.1
      have f1779_ : (m1775_ 1 1).toInt = (m1755_ 1 1).toInt := by rw [p1777_.2.2.2 1 1 (by decide)]
      have f1780_ : (m1775_ 77 8).toInt = (m1755_ 77 8).toInt := by rw [p1777_.2.2.2 77 8 (by decide)]
      have f1781_ : (m1775_ 7 8).toInt = (m1755_ 7 8).toInt := by rw [p1777_.2.2.2 7 8 (by decide)]
      have f1782_ : (m1775_ 16 8).toInt = (m1755_ 16 8).toInt := by rw [p1777_.2.2.2 16 8 (by decide)]
      have f1783_ : (m1775_ 80 312).toInt = (m1755_ 80 312).toInt := by rw [p1777_.2.2.2 80 312 (by decide)]
      have f1784_ : (m1775_ 0 12).toInt = (m1755_ 0 12).toInt := by rw [p1777_.2.2.2 0 12 (by decide)]
      have f1785_ : (m1775_ 77 67).toInt = (m1755_ 77 67).toInt := by rw [p1777_.2.2.2 77 67 (by decide)]
      have f1786_ : (m1775_ 7 9).toInt = (m1755_ 7 9).toInt := by rw [p1777_.2.2.2 7 9 (by decide)]
      have f1787_ : (m1775_ 16 9).toInt = (m1755_ 16 9).toInt := by rw [p1777_.2.2.2 16 9 (by decide)]
      have f1788_ : (m1775_ 80 313).toInt = (m1755_ 80 313).toInt := by rw [p1777_.2.2.2 80 313 (by decide)]
      have w1789_ := p1777_.2.1
      have k1790_ : WKS m1775_ := WKS_S k1770_ (p1777_.2.2.2) (p1777_.2.2.2 3 3 (by decide)) rfl rfl
      have d1791_ : KD m1775_ m1775_ := KD_S d1771_ (p1777_.2.2.2) (p1777_.2.2.2 3 3 (by decide)) (p1777_.2.2.2 77 6 (by decide)) rfl
      have l1792_ : LR j m1775_ m1775_ := LR_S hj l1772_ (p1777_.2.2.2) rfl rfl (p1777_.2.2.2 77 17 (by decide))
      have tx1793_ : m1775_ 0 12 ≠ 0 → TN 16 80 m1775_ m1775_ := KX_S tx1773_ (p1777_.2.2.2) (p1777_.2.2.2 0 12 (by decide)) rfl rfl
      have q1794_ : (m1775_ 1 1).toInt = (m1775_ 77 8).toInt := by omega
      have q1795_ : (m1775_ 7 8).toInt = (m1775_ 78 312).toInt := by omega
      have q1796_ : (m1775_ 16 8).toInt = (m1775_ 80 312).toInt := by omega
      have q1797_ : (m1775_ 0 12).toInt = (m1775_ 77 67).toInt := by omega
      have q1798_ : (m1775_ 7 9).toInt = (m1775_ 78 313).toInt := by omega
      have q1799_ : (m1775_ 16 9).toInt = (m1775_ 80 313).toInt := by omega
      have f1801_ := r_1_1 hG
      have t1800_ : TR m1775_ := TR_le hT (by omega) (funext (fun s_ => by rw [p1777_.2.2.2 2 s_ (outc rfl), p1757_.2.2.2 2 s_ (outc rfl)])) (funext (fun s_ => by rw [p1777_.2.2.2 84 s_ (outc rfl), p1757_.2.2.2 84 s_ (outc rfl)]))
      have wk1802_ := undo_st hW (Int32.toInt_inj.mp hR3) hX (fun c_ hc_ => funext (fun s_ => p1757_.2.2.2 c_ s_ (out77 hc_ rfl))) e1758_ e1778_
      have tw1803_ := wk1802_.2
      refine T_ql (i_add rfl l_7 (by omega) (by omega)) ?_
      intro x1804_ h1805_
      exact ih j r hj hr hjr x1804_ m1775_ (by omega) (by omega) g1776_ q1794_ q1795_ q1796_ q1797_ q1798_ q1799_ t1800_ d1791_ l1792_ k1790_ tw1803_ tx1793_ (by omega)
    refine T_sw rfl l_22 (fun s1806_ => ?_) (fun s1806_ => ?_)
    · refine T_qg (i_add rfl l_1 (by omega) (by omega)) (by omega) (by omega) ?_
      refine T_qg (i_add rfl l_2 (by omega) (by omega)) (by omega) (by omega) ?_
      refine T_qcE (t_X11_check hn _ _ M hG) ?_
      intro r1807_ m1808_ e1811_ p1810_
      have g1809_ := p1810_.2.2.1
      have f1812_ : (m1808_ 77 8).toInt = (M 77 8).toInt := by rw [p1810_.2.2.2 77 8 (by decide)]
      have f1813_ : (m1808_ 7 8).toInt = (M 7 8).toInt := by rw [p1810_.2.2.2 7 8 (by decide)]
      have f1814_ : (m1808_ 78 312).toInt = (M 78 312).toInt := by rw [p1810_.2.2.2 78 312 (by decide)]
      have f1815_ : (m1808_ 16 8).toInt = (M 16 8).toInt := by rw [p1810_.2.2.2 16 8 (by decide)]
      have f1816_ : (m1808_ 80 312).toInt = (M 80 312).toInt := by rw [p1810_.2.2.2 80 312 (by decide)]
      have f1817_ : (m1808_ 0 12).toInt = (M 0 12).toInt := by rw [p1810_.2.2.2 0 12 (by decide)]
      have f1818_ : (m1808_ 77 67).toInt = (M 77 67).toInt := by rw [p1810_.2.2.2 77 67 (by decide)]
      have f1819_ : (m1808_ 7 9).toInt = (M 7 9).toInt := by rw [p1810_.2.2.2 7 9 (by decide)]
      have f1820_ : (m1808_ 78 313).toInt = (M 78 313).toInt := by rw [p1810_.2.2.2 78 313 (by decide)]
      have f1821_ : (m1808_ 16 9).toInt = (M 16 9).toInt := by rw [p1810_.2.2.2 16 9 (by decide)]
      have f1822_ : (m1808_ 80 313).toInt = (M 80 313).toInt := by rw [p1810_.2.2.2 80 313 (by decide)]
      have w1823_ := p1810_.2.1
      have k1824_ : WKS m1808_ := WKS_S hK (p1810_.2.2.2) (p1810_.2.2.2 3 3 (by decide)) rfl rfl
      have d1825_ : KD m1808_ m1808_ := KD_S hD (p1810_.2.2.2) (p1810_.2.2.2 3 3 (by decide)) (p1810_.2.2.2 77 6 (by decide)) rfl
      have l1826_ : LR j m1808_ m1808_ := LR_S hj hL (p1810_.2.2.2) rfl rfl (p1810_.2.2.2 77 17 (by decide))
      have tw1827_ : TN 7 78 m1808_ m1808_ := TN_S hW (p1810_.2.2.2) rfl rfl
      have tx1828_ : m1808_ 0 12 ≠ 0 → TN 16 80 m1808_ m1808_ := KX_S hX (p1810_.2.2.2) (p1810_.2.2.2 0 12 (by decide)) rfl rfl
      refine T_qg (i_add rfl l_1 (by omega) (by omega)) (by omega) (by omega) ?_
      refine T_qg (i_add rfl l_2 (by omega) (by omega)) (by omega) (by omega) ?_
      refine T_qcE (t_X12_check hn _ _ m1808_ g1809_) ?_
      intro r1829_ m1830_ e1833_ p1832_
      have g1831_ := p1832_.2.2.1
      have f1834_ : (m1830_ 1 1).toInt = (m1808_ 1 1).toInt := by rw [p1832_.2.2.2 1 1 (by decide)]
      have f1835_ : (m1830_ 7 8).toInt = (m1808_ 7 8).toInt := by rw [p1832_.2.2.2 7 8 (by decide)]
      have f1836_ : (m1830_ 78 312).toInt = (m1808_ 78 312).toInt := by rw [p1832_.2.2.2 78 312 (by decide)]
      have f1837_ : (m1830_ 16 8).toInt = (m1808_ 16 8).toInt := by rw [p1832_.2.2.2 16 8 (by decide)]
      have f1838_ : (m1830_ 80 312).toInt = (m1808_ 80 312).toInt := by rw [p1832_.2.2.2 80 312 (by decide)]
      have f1839_ : (m1830_ 0 12).toInt = (m1808_ 0 12).toInt := by rw [p1832_.2.2.2 0 12 (by decide)]
      have f1840_ : (m1830_ 77 67).toInt = (m1808_ 77 67).toInt := by rw [p1832_.2.2.2 77 67 (by decide)]
      have f1841_ : (m1830_ 7 9).toInt = (m1808_ 7 9).toInt := by rw [p1832_.2.2.2 7 9 (by decide)]
      have f1842_ : (m1830_ 78 313).toInt = (m1808_ 78 313).toInt := by rw [p1832_.2.2.2 78 313 (by decide)]
      have f1843_ : (m1830_ 16 9).toInt = (m1808_ 16 9).toInt := by rw [p1832_.2.2.2 16 9 (by decide)]
      have f1844_ : (m1830_ 80 313).toInt = (m1808_ 80 313).toInt := by rw [p1832_.2.2.2 80 313 (by decide)]
      have w1845_ := p1832_.2.1
      have k1846_ : WKS m1830_ := WKS_S k1824_ (p1832_.2.2.2) (p1832_.2.2.2 3 3 (by decide)) rfl rfl
      have d1847_ : KD m1830_ m1830_ := KD_S d1825_ (p1832_.2.2.2) (p1832_.2.2.2 3 3 (by decide)) (p1832_.2.2.2 77 6 (by decide)) rfl
      have l1848_ : LR j m1830_ m1830_ := LR_S hj l1826_ (p1832_.2.2.2) rfl rfl (p1832_.2.2.2 77 17 (by decide))
      have tw1849_ : TN 7 78 m1830_ m1830_ := TN_S tw1827_ (p1832_.2.2.2) rfl rfl
      have tx1850_ : m1830_ 0 12 ≠ 0 → TN 16 80 m1830_ m1830_ := KX_S tx1828_ (p1832_.2.2.2) (p1832_.2.2.2 0 12 (by decide)) rfl rfl
      have b1851_ : m1808_ 78 312 = M 7 8 := Int32.toInt_inj.mp (by omega)
      rw [b1851_] at w1845_
      have q1852_ : (m1830_ 1 1).toInt = (m1830_ 77 8).toInt := by omega
      have q1853_ : (m1830_ 7 8).toInt = (m1830_ 78 312).toInt := by omega
      have q1854_ : (m1830_ 16 8).toInt = (m1830_ 80 312).toInt := by omega
      have q1855_ : (m1830_ 0 12).toInt = (m1830_ 77 67).toInt := by omega
      have q1856_ : (m1830_ 7 9).toInt = (m1830_ 78 313).toInt := by omega
      have q1857_ : (m1830_ 16 9).toInt = (m1830_ 80 313).toInt := by omega
      have f1859_ := r_1_1 hG
      have t1858_ : TR m1830_ := TR_le hT (by omega) (funext (fun s_ => by rw [p1832_.2.2.2 2 s_ (outc rfl), p1810_.2.2.2 2 s_ (outc rfl)])) (funext (fun s_ => by rw [p1832_.2.2.2 84 s_ (outc rfl), p1810_.2.2.2 84 s_ (outc rfl)]))
      refine T_ql (i_add rfl l_7 (by omega) (by omega)) ?_
      intro x1860_ h1861_
      exact ih j r hj hr hjr x1860_ m1830_ (by omega) (by omega) g1831_ q1852_ q1853_ q1854_ q1855_ q1856_ q1857_ t1858_ d1847_ l1848_ k1846_ tw1849_ tx1850_ (by omega)
    refine T_sw rfl l_23 (fun s1862_ => ?_) (fun s1862_ => ?_)
    · refine T_qg (i_add rfl l_1 (by omega) (by omega)) (by omega) (by omega) ?_
      refine T_qcE (t_X11_count hn hj _ M hG) ?_
      intro r1863_ m1864_ e1867_ p1866_
      have g1865_ := p1866_.1
      have f1868_ : (m1864_ 1 1).toInt = (M 1 1).toInt := by rw [p1866_.2 1 1 (by decide)]
      have f1869_ : (m1864_ 77 8).toInt = (M 77 8).toInt := by rw [p1866_.2 77 8 (by decide)]
      have f1870_ : (m1864_ 7 8).toInt = (M 7 8).toInt := by rw [p1866_.2 7 8 (by decide)]
      have f1871_ : (m1864_ 78 312).toInt = (M 78 312).toInt := by rw [p1866_.2 78 312 (by decide)]
      have f1872_ : (m1864_ 16 8).toInt = (M 16 8).toInt := by rw [p1866_.2 16 8 (by decide)]
      have f1873_ : (m1864_ 80 312).toInt = (M 80 312).toInt := by rw [p1866_.2 80 312 (by decide)]
      have f1874_ : (m1864_ 0 12).toInt = (M 0 12).toInt := by rw [p1866_.2 0 12 (by decide)]
      have f1875_ : (m1864_ 77 67).toInt = (M 77 67).toInt := by rw [p1866_.2 77 67 (by decide)]
      have f1876_ : (m1864_ 7 9).toInt = (M 7 9).toInt := by rw [p1866_.2 7 9 (by decide)]
      have f1877_ : (m1864_ 78 313).toInt = (M 78 313).toInt := by rw [p1866_.2 78 313 (by decide)]
      have f1878_ : (m1864_ 16 9).toInt = (M 16 9).toInt := by rw [p1866_.2 16 9 (by decide)]
      have f1879_ : (m1864_ 80 313).toInt = (M 80 313).toInt := by rw [p1866_.2 80 313 (by decide)]
      have k1880_ : WKS m1864_ := WKS_S hK (p1866_.2) (p1866_.2 3 3 (by decide)) rfl rfl
      have d1881_ : KD m1864_ m1864_ := KD_S hD (p1866_.2) (p1866_.2 3 3 (by decide)) (p1866_.2 77 6 (by decide)) rfl
      have l1882_ : LR j m1864_ m1864_ := LR_S hj hL (p1866_.2) rfl rfl (p1866_.2 77 17 (by decide))
      have tw1883_ : TN 7 78 m1864_ m1864_ := TN_S hW (p1866_.2) rfl rfl
      have tx1884_ : m1864_ 0 12 ≠ 0 → TN 16 80 m1864_ m1864_ := KX_S hX (p1866_.2) (p1866_.2 0 12 (by decide)) rfl rfl
      refine T_qg (i_add rfl l_1 (by omega) (by omega)) (by omega) (by omega) ?_
      refine T_qcE (t_X12_count hn _ m1864_ g1865_) ?_
      intro r1885_ m1886_ e1889_ p1888_
      have g1887_ := p1888_.1
      have f1890_ : (m1886_ 1 1).toInt = (m1864_ 1 1).toInt := by rw [p1888_.2 1 1 (by decide)]
      have f1891_ : (m1886_ 77 8).toInt = (m1864_ 77 8).toInt := by rw [p1888_.2 77 8 (by decide)]
      have f1892_ : (m1886_ 7 8).toInt = (m1864_ 7 8).toInt := by rw [p1888_.2 7 8 (by decide)]
      have f1893_ : (m1886_ 78 312).toInt = (m1864_ 78 312).toInt := by rw [p1888_.2 78 312 (by decide)]
      have f1894_ : (m1886_ 16 8).toInt = (m1864_ 16 8).toInt := by rw [p1888_.2 16 8 (by decide)]
      have f1895_ : (m1886_ 80 312).toInt = (m1864_ 80 312).toInt := by rw [p1888_.2 80 312 (by decide)]
      have f1896_ : (m1886_ 0 12).toInt = (m1864_ 0 12).toInt := by rw [p1888_.2 0 12 (by decide)]
      have f1897_ : (m1886_ 77 67).toInt = (m1864_ 77 67).toInt := by rw [p1888_.2 77 67 (by decide)]
      have f1898_ : (m1886_ 7 9).toInt = (m1864_ 7 9).toInt := by rw [p1888_.2 7 9 (by decide)]
      have f1899_ : (m1886_ 78 313).toInt = (m1864_ 78 313).toInt := by rw [p1888_.2 78 313 (by decide)]
      have f1900_ : (m1886_ 16 9).toInt = (m1864_ 16 9).toInt := by rw [p1888_.2 16 9 (by decide)]
      have f1901_ : (m1886_ 80 313).toInt = (m1864_ 80 313).toInt := by rw [p1888_.2 80 313 (by decide)]
      have k1902_ : WKS m1886_ := WKS_S k1880_ (p1888_.2) (p1888_.2 3 3 (by decide)) rfl rfl
      have d1903_ : KD m1886_ m1886_ := KD_S d1881_ (p1888_.2) (p1888_.2 3 3 (by decide)) (p1888_.2 77 6 (by decide)) rfl
      have l1904_ : LR j m1886_ m1886_ := LR_S hj l1882_ (p1888_.2) rfl rfl (p1888_.2 77 17 (by decide))
      have tw1905_ : TN 7 78 m1886_ m1886_ := TN_S tw1883_ (p1888_.2) rfl rfl
      have tx1906_ : m1886_ 0 12 ≠ 0 → TN 16 80 m1886_ m1886_ := KX_S tx1884_ (p1888_.2) (p1888_.2 0 12 (by decide)) rfl rfl
      have q1907_ : (m1886_ 1 1).toInt = (m1886_ 77 8).toInt := by omega
      have q1908_ : (m1886_ 7 8).toInt = (m1886_ 78 312).toInt := by omega
      have q1909_ : (m1886_ 16 8).toInt = (m1886_ 80 312).toInt := by omega
      have q1910_ : (m1886_ 0 12).toInt = (m1886_ 77 67).toInt := by omega
      have q1911_ : (m1886_ 7 9).toInt = (m1886_ 78 313).toInt := by omega
      have q1912_ : (m1886_ 16 9).toInt = (m1886_ 80 313).toInt := by omega
      have f1914_ := r_1_1 hG
      have t1913_ : TR m1886_ := TR_le hT (by omega) (funext (fun s_ => by rw [p1888_.2 2 s_ (outc rfl), p1866_.2 2 s_ (outc rfl)])) (funext (fun s_ => by rw [p1888_.2 84 s_ (outc rfl), p1866_.2 84 s_ (outc rfl)]))
      refine T_ql (i_add rfl l_7 (by omega) (by omega)) ?_
      intro x1915_ h1916_
      exact ih j r hj hr hjr x1915_ m1886_ (by omega) (by omega) g1887_ q1907_ q1908_ q1909_ q1910_ q1911_ q1912_ t1913_ d1903_ l1904_ k1902_ tw1905_ tx1906_ (by omega)
    refine T_sw0 ?_
    refine T_ql (i_add rfl l_7 (by omega) (by omega)) ?_
    intro x1917_ h1918_
    exact ih j r hj hr hjr x1917_ M (by omega) (by omega) hG hR0 hR1 hR2 hR3 hR4 hR5 hT hD hL hK hW hX (by omega)
theorem pure_all : qPure := by
  intro g hN
  obtain ⟨M0, e, hF, hG⟩ := freshG
  obtain ⟨v, M', e2, hv⟩ := L_go (n := 200000) (Nat.le_refl _) g hN 4000 37 46 (Or.inl rfl) (Or.inr rfl) (by decide) 0 M0 (by decide) (by decide) hG (by rw [hF.1 1 1 (by decide), hF.1 77 8 (by decide)]) (by rw [hF.1 7 8 (by decide), hF.2.1 312 (by decide)]) (by rw [hF.1 16 8 (by decide), hF.2.2 80 312 (by decide) (by decide) (by decide) (by decide)]) (by rw [hF.1 0 12 (by decide), hF.1 77 67 (by decide)]) (by rw [hF.1 7 9 (by decide), hF.2.1 313 (by decide)]) (by rw [hF.1 16 9 (by decide), hF.2.2 80 313 (by decide) (by decide) (by decide) (by decide)]) (fun i hi => absurd hi (by rw [hF.1 1 1 (by decide)]; have z : ((0 : Int32).toInt : Int) = 0 := rfl; omega)) (KD_0 hF) (LR_0 hF) (WKS_0 hF (freshW e)) (TN_0 (by decide) hF (fresh2 e)) (fun z => absurd (hF.1 0 12 (by decide)) z) (by have z : ((0 : Int32).toInt : Int) = 0 := rfl; omega)
  subst hv
  exact ⟨200000, 4000, M0, M', e, e2⟩
