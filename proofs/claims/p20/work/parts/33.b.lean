theorem T_qcE {F : qR} {f : Int32 → qM → qR} {P Q : Int32 → qM → Prop} (h : qT F Q) (k : ∀ v m, F = some (v, m) → Q v m → qT (f v m) P) : qT (qc F f) P := by
  obtain ⟨v, M, e, p⟩ := h
  have := k v M e p
  rw [e, qc_v]
  exact this
theorem Pr_eq {C D : qM → qR} {M m1 m2 : qM} {v1 v2 : Int32} (h : Pr C D M) (e1 : C M = some (v1, m1)) (e2 : D m1 = some (v2, m2)) : v1 = v2 := by
  obtain ⟨v, M1, M2, q1, q2⟩ := h
  rw [e1] at q1
  cases q1
  rw [e2] at q2
  cases q2
  rfl
theorem T_qc2 {F1 F2 : qR} {E1 E2 : Int32 → qM → qR} {P : Int32 → qM → Prop} (h : (∃ v m, F1 = some (v, m) ∧ G m) ∨ (F1 = none ∧ ∃ v m, F2 = some (v, m) ∧ G m)) (h1 : ∀ v m, G m → qT (E1 v m) P) (h2 : ∀ v m, G m → qT (E2 v m) P) : qT (qc2 F1 F2 E1 E2) P := by
  rcases h with ⟨v, m, e, g⟩ | ⟨e, v, m, e2, g⟩
  · rw [e]; exact h1 v m g
  · rw [e, e2]; exact h2 v m g
theorem law_tot {n : Nat} (hn : 200000 ≤ n) {j r : Nat} (hr : q_isLaw r) (a1 : Int32) (M : qM) (hG : G M) : (∃ v m, f_X11_law n j r a1 M = some (v, m) ∧ G m) ∨ (f_X11_law n j r a1 M = none ∧ ∃ v m, f_X11_lawS n j r a1 M = some (v, m) ∧ G m) := by
  unfold f_X11_law f_X11_lawS
  by_cases c1 : a1 < (1 : Int32)
  · rw [if_pos c1]; exact Or.inl ⟨_, _, rfl, hG⟩
  · rw [if_neg c1, if_neg c1]
    by_cases c2 : (240 : Int32) < a1
    · rw [if_pos c2]; exact Or.inl ⟨_, _, rfl, hG⟩
    · rw [if_neg c2, if_neg c2]
      by_cases c3 : a1 ≤ M 1 1
      · rw [if_pos c3, if_pos c3]
        rw [Int32.lt_iff_toInt_lt] at c1 c2
        have z1 : (1 : Int32).toInt = 1 := rfl
        have z2 : (240 : Int32).toInt = 240 := rfl
        obtain ⟨v, m2, e, p⟩ := t_X4_read hn hr a1 M hG (by omega)
        obtain ⟨v3, m3, e3, p3⟩ := t_X9_clear hn m2 (p.1)
        rw [e, qc_v, qc_v, e3, qc_v, qc_v]
        by_cases c4 : v ≤ (0 : Int32)
        · rw [if_pos c4]; exact Or.inl ⟨_, _, rfl, p3.2.1⟩
        · rw [if_neg c4, if_neg c4]; exact Or.inr ⟨rfl, _, _, rfl, p3.2.1⟩
      · rw [if_neg c3]; exact Or.inl ⟨_, _, rfl, hG⟩
theorem ofN {k : Nat} (h : k ≤ 3584) : (Int32.ofNat k).toInt = (k : Int) := nI_toInt (by omega)
set_option maxRecDepth 8000 in
set_option maxHeartbeats 4000000 in
theorem L_go {n : Nat} (hn : 200000 ≤ n) (g : qG) (hN : g.2.2.2.2.2.1 ≤ 3584) : ∀ (m j r : Nat), q_isLaw j → q_isLaw r → ∀ (a3 : Int32) (M : qM), 0 ≤ a3.toInt → a3.toInt ≤ 3600 → G M → 3700 - a3.toInt < (m : Int) → qT (f_L_law g n m j r a3 M) (fun v _ => v = 1) := by
  intro m
  induction m with
  | zero => intro j r _ _ a3 M _ _ _ h; exfalso; omega
  | succ m ih =>
    intro j r hj hr a3 M h0 h1 hG hm
    show qT (b_L_law g n j r (f_L_law g n m j r) (f_L_law g n m r j) a3 M) _
    unfold b_L_law
    refine T_lt (i_sub (ofN hN) l_7 (by omega) (by omega)) rfl (fun c => T_ret rfl) (fun c => ?_)
    refine T_qg rfl (by omega) (by omega) ?_
    refine T_sw rfl l_0 (fun s1_ => ?_) (fun s1_ => ?_)
    · refine T_qg (i_add rfl l_1 (by omega) (by omega)) (by omega) (by omega) ?_
      refine T_qg (i_add rfl l_2 (by omega) (by omega)) (by omega) (by omega) ?_
      refine T_qg (i_add rfl l_3 (by omega) (by omega)) (by omega) (by omega) ?_
      refine T_qg (i_add rfl l_4 (by omega) (by omega)) (by omega) (by omega) ?_
      refine T_qc (T_mono (t_X11_kind hn _ _ _ _ M hG) (fun _ _ p => p.2.1)) ?_
      intro r2_ m3_ g4_
      refine T_qg (i_add rfl l_1 (by omega) (by omega)) (by omega) (by omega) ?_
      refine T_qg (i_add rfl l_2 (by omega) (by omega)) (by omega) (by omega) ?_
      refine T_qg (i_add rfl l_3 (by omega) (by omega)) (by omega) (by omega) ?_
      refine T_qg (i_add rfl l_4 (by omega) (by omega)) (by omega) (by omega) ?_
      refine T_qc (T_mono (t_X12_kind hn _ _ _ _ m3_ g4_) (fun _ _ p => p.2.1)) ?_
      intro r5_ m6_ g7_
      refine T_ql (i_add rfl l_7 (by omega) (by omega)) ?_
      intro x8_ h9_
      exact ih j r hj hr x8_ m6_ (by omega) (by omega) g7_ (by omega)
    refine T_sw rfl l_1 (fun s10_ => ?_) (fun s10_ => ?_)
    · refine T_qg (i_add rfl l_1 (by omega) (by omega)) (by omega) (by omega) ?_
      refine T_qg (i_add rfl l_2 (by omega) (by omega)) (by omega) (by omega) ?_
      refine T_qc (T_mono (t_X11_person hn _ _ M hG) (fun _ _ p => p.2.1)) ?_
      intro r11_ m12_ g13_
      refine T_qg (i_add rfl l_1 (by omega) (by omega)) (by omega) (by omega) ?_
      refine T_qg (i_add rfl l_2 (by omega) (by omega)) (by omega) (by omega) ?_
      refine T_qc (T_mono (t_X12_person hn _ _ m12_ g13_) (fun _ _ p => p.2.1)) ?_
      intro r14_ m15_ g16_
      refine T_ql (i_add rfl l_7 (by omega) (by omega)) ?_
      intro x17_ h18_
      exact ih j r hj hr x17_ m15_ (by omega) (by omega) g16_ (by omega)
    refine T_sw rfl l_2 (fun s19_ => ?_) (fun s19_ => ?_)
    · refine T_qg (i_add rfl l_1 (by omega) (by omega)) (by omega) (by omega) ?_
      refine T_qg (i_add rfl l_2 (by omega) (by omega)) (by omega) (by omega) ?_
      refine T_qg (i_add rfl l_3 (by omega) (by omega)) (by omega) (by omega) ?_
      refine T_qg (i_add rfl l_4 (by omega) (by omega)) (by omega) (by omega) ?_
      refine T_qg (i_add rfl l_5 (by omega) (by omega)) (by omega) (by omega) ?_
      refine T_qc (T_mono (t_X11_feed hn _ _ _ _ _ M hG) (fun _ _ p => p.2.1)) ?_
      intro r20_ m21_ g22_
      refine T_qg (i_add rfl l_1 (by omega) (by omega)) (by omega) (by omega) ?_
      refine T_qg (i_add rfl l_2 (by omega) (by omega)) (by omega) (by omega) ?_
      refine T_qg (i_add rfl l_3 (by omega) (by omega)) (by omega) (by omega) ?_
      refine T_qg (i_add rfl l_4 (by omega) (by omega)) (by omega) (by omega) ?_
      refine T_qg (i_add rfl l_5 (by omega) (by omega)) (by omega) (by omega) ?_
      refine T_qc (T_mono (t_X12_feed hn _ _ _ _ _ m21_ g22_) (fun _ _ p => p.2.1)) ?_
      intro r23_ m24_ g25_
      refine T_ql (i_add rfl l_7 (by omega) (by omega)) ?_
      intro x26_ h27_
      exact ih j r hj hr x26_ m24_ (by omega) (by omega) g25_ (by omega)
    refine T_sw rfl l_3 (fun s28_ => ?_) (fun s28_ => ?_)
    · refine T_qg (i_add rfl l_1 (by omega) (by omega)) (by omega) (by omega) ?_
      refine T_qc2 (law_tot hn hr _ M hG) (fun v_ m_ g_ => ?_) (fun v_ m_ g_ => ?_)
      · refine T_qg (i_add rfl l_1 (by omega) (by omega)) (by omega) (by omega) ?_
        refine T_qc (T_mono (t_X12_law hn _ m_ g_) (fun _ _ p => p)) ?_
        intro r29_ m30_ g31_
        refine T_ql (i_add rfl l_7 (by omega) (by omega)) ?_
        intro x32_ h33_
        exact ih j r hj hr x32_ m30_ (by omega) (by omega) g31_ (by omega)
      · refine T_qg (i_add rfl l_1 (by omega) (by omega)) (by omega) (by omega) ?_
        refine T_qc (T_mono (t_X12_law hn _ m_ g_) (fun _ _ p => p)) ?_
        intro r34_ m35_ g36_
        refine T_ql (i_add rfl l_7 (by omega) (by omega)) ?_
        intro x37_ h38_
        exact ih r j hr hj x37_ m35_ (by omega) (by omega) g36_ (by omega)
    refine T_sw rfl l_4 (fun s39_ => ?_) (fun s39_ => ?_)
    · refine T_qg (i_add rfl l_1 (by omega) (by omega)) (by omega) (by omega) ?_
      refine T_qg (i_add rfl l_2 (by omega) (by omega)) (by omega) (by omega) ?_
      refine T_qc (T_mono (t_X11_plan hn _ _ M hG) (fun _ _ p => p.1)) ?_
      intro r40_ m41_ g42_
      refine T_qg (i_add rfl l_1 (by omega) (by omega)) (by omega) (by omega) ?_
      refine T_qg (i_add rfl l_2 (by omega) (by omega)) (by omega) (by omega) ?_
      refine T_qc (T_mono (t_X12_plan hn _ _ m41_ g42_) (fun _ _ p => p.1)) ?_
      intro r43_ m44_ g45_
      refine T_ql (i_add rfl l_7 (by omega) (by omega)) ?_
      intro x46_ h47_
      exact ih j r hj hr x46_ m44_ (by omega) (by omega) g45_ (by omega)
    refine T_sw rfl l_5 (fun s48_ => ?_) (fun s48_ => ?_)
    · refine T_qg (i_add rfl l_1 (by omega) (by omega)) (by omega) (by omega) ?_
      refine T_qg (i_add rfl l_2 (by omega) (by omega)) (by omega) (by omega) ?_
      refine T_qg (i_add rfl l_3 (by omega) (by omega)) (by omega) (by omega) ?_
      refine T_qc (T_mono (t_X11_tries hn hj _ _ _ M hG) (fun _ _ p => p.2.1)) ?_
      intro r49_ m50_ g51_
      refine T_qg (i_add rfl l_1 (by omega) (by omega)) (by omega) (by omega) ?_
      refine T_qg (i_add rfl l_2 (by omega) (by omega)) (by omega) (by omega) ?_
      refine T_qg (i_add rfl l_3 (by omega) (by omega)) (by omega) (by omega) ?_
      refine T_qc (T_mono (t_X12_tries hn _ _ _ m50_ g51_) (fun _ _ p => p.2.1)) ?_
      intro r52_ m53_ g54_
      refine T_ql (i_add rfl l_7 (by omega) (by omega)) ?_
      intro x55_ h56_
      exact ih j r hj hr x55_ m53_ (by omega) (by omega) g54_ (by omega)
    refine T_sw rfl l_6 (fun s57_ => ?_) (fun s57_ => ?_)
    · refine T_qg (i_add rfl l_1 (by omega) (by omega)) (by omega) (by omega) ?_
      refine T_qg (i_add rfl l_2 (by omega) (by omega)) (by omega) (by omega) ?_
      refine T_qg (i_add rfl l_3 (by omega) (by omega)) (by omega) (by omega) ?_
      refine T_qc (T_mono (t_X11_buys hn hj _ _ _ M hG) (fun _ _ p => p.2.1)) ?_
      intro r58_ m59_ g60_
      refine T_qg (i_add rfl l_1 (by omega) (by omega)) (by omega) (by omega) ?_
      refine T_qg (i_add rfl l_2 (by omega) (by omega)) (by omega) (by omega) ?_
      refine T_qg (i_add rfl l_3 (by omega) (by omega)) (by omega) (by omega) ?_
      refine T_qc (T_mono (t_X12_buys hn _ _ _ m59_ g60_) (fun _ _ p => p.2.1)) ?_
      intro r61_ m62_ g63_
      refine T_ql (i_add rfl l_7 (by omega) (by omega)) ?_
      intro x64_ h65_
      exact ih j r hj hr x64_ m62_ (by omega) (by omega) g63_ (by omega)
    refine T_sw rfl l_7 (fun s66_ => ?_) (fun s66_ => ?_)
    · refine T_qg (i_add rfl l_1 (by omega) (by omega)) (by omega) (by omega) ?_
      refine T_qc (T_mono (t_X11_days hn hj _ M hG) (fun _ _ p => p.1)) ?_
      intro r67_ m68_ g69_
      refine T_qg (i_add rfl l_1 (by omega) (by omega)) (by omega) (by omega) ?_
      refine T_qc (T_mono (t_X12_days hn _ m68_ g69_) (fun _ _ p => p.1)) ?_
      intro r70_ m71_ g72_
      refine T_ql (i_add rfl l_7 (by omega) (by omega)) ?_
      intro x73_ h74_
      exact ih j r hj hr x73_ m71_ (by omega) (by omega) g72_ (by omega)
    refine T_sw rfl l_8 (fun s75_ => ?_) (fun s75_ => ?_)
    · refine T_qg (i_add rfl l_1 (by omega) (by omega)) (by omega) (by omega) ?_
      refine T_qg (i_add rfl l_2 (by omega) (by omega)) (by omega) (by omega) ?_
      refine T_qc (T_mono (t_X11_tried hn hj _ _ M hG) (fun _ _ p => p.1)) ?_
      intro r76_ m77_ g78_
      refine T_qg (i_add rfl l_1 (by omega) (by omega)) (by omega) (by omega) ?_
      refine T_qg (i_add rfl l_2 (by omega) (by omega)) (by omega) (by omega) ?_
      refine T_qc (T_mono (t_X12_tried hn _ _ m77_ g78_) (fun _ _ p => p.1)) ?_
      intro r79_ m80_ g81_
      refine T_ql (i_add rfl l_7 (by omega) (by omega)) ?_
      intro x82_ h83_
      exact ih j r hj hr x82_ m80_ (by omega) (by omega) g81_ (by omega)
    refine T_sw rfl l_9 (fun s84_ => ?_) (fun s84_ => ?_)
    · refine T_qg (i_add rfl l_1 (by omega) (by omega)) (by omega) (by omega) ?_
      refine T_qg (i_add rfl l_2 (by omega) (by omega)) (by omega) (by omega) ?_
      refine T_qg (i_add rfl l_3 (by omega) (by omega)) (by omega) (by omega) ?_
      refine T_qc (T_mono (t_X11_has hn hj _ _ _ M hG) (fun _ _ p => p.1)) ?_
      intro r85_ m86_ g87_
      refine T_qg (i_add rfl l_1 (by omega) (by omega)) (by omega) (by omega) ?_
      refine T_qg (i_add rfl l_2 (by omega) (by omega)) (by omega) (by omega) ?_
      refine T_qg (i_add rfl l_3 (by omega) (by omega)) (by omega) (by omega) ?_
      refine T_qc (T_mono (t_X12_has hn _ _ _ m86_ g87_) (fun _ _ p => p.1)) ?_
      intro r88_ m89_ g90_
      refine T_ql (i_add rfl l_7 (by omega) (by omega)) ?_
      intro x91_ h92_
      exact ih j r hj hr x91_ m89_ (by omega) (by omega) g90_ (by omega)
    refine T_sw rfl l_10 (fun s93_ => ?_) (fun s93_ => ?_)
    · refine T_qg (i_add rfl l_1 (by omega) (by omega)) (by omega) (by omega) ?_
      refine T_qg (i_add rfl l_2 (by omega) (by omega)) (by omega) (by omega) ?_
      refine T_qc (T_mono (t_X11_alike hn hj _ _ M hG) (fun _ _ p => p.2.1)) ?_
      intro r94_ m95_ g96_
      refine T_qg (i_add rfl l_1 (by omega) (by omega)) (by omega) (by omega) ?_
      refine T_qg (i_add rfl l_2 (by omega) (by omega)) (by omega) (by omega) ?_
      refine T_qc (T_mono (t_X12_alike hn _ _ m95_ g96_) (fun _ _ p => p.2.1)) ?_
      intro r97_ m98_ g99_
      refine T_ql (i_add rfl l_7 (by omega) (by omega)) ?_
      intro x100_ h101_
      exact ih j r hj hr x100_ m98_ (by omega) (by omega) g99_ (by omega)
    refine T_sw rfl l_11 (fun s102_ => ?_) (fun s102_ => ?_)
    · refine T_qg (i_add rfl l_1 (by omega) (by omega)) (by omega) (by omega) ?_
      refine T_qg (i_add rfl l_2 (by omega) (by omega)) (by omega) (by omega) ?_
      refine T_qg (i_add rfl l_3 (by omega) (by omega)) (by omega) (by omega) ?_
      refine T_qc (T_mono (t_X11_cost hn hj _ _ _ M hG) (fun _ _ p => p.2.1)) ?_
      intro r103_ m104_ g105_
      refine T_qg (i_add rfl l_1 (by omega) (by omega)) (by omega) (by omega) ?_
      refine T_qg (i_add rfl l_2 (by omega) (by omega)) (by omega) (by omega) ?_
      refine T_qg (i_add rfl l_3 (by omega) (by omega)) (by omega) (by omega) ?_
      refine T_qc (T_mono (t_X12_cost hn _ _ _ m104_ g105_) (fun _ _ p => p.2.1)) ?_
      intro r106_ m107_ g108_
      refine T_ql (i_add rfl l_7 (by omega) (by omega)) ?_
      intro x109_ h110_
      exact ih j r hj hr x109_ m107_ (by omega) (by omega) g108_ (by omega)
    refine T_sw rfl l_12 (fun s111_ => ?_) (fun s111_ => ?_)
    · refine T_qg (i_add rfl l_1 (by omega) (by omega)) (by omega) (by omega) ?_
      refine T_qg (i_add rfl l_2 (by omega) (by omega)) (by omega) (by omega) ?_
      refine T_qg (i_add rfl l_3 (by omega) (by omega)) (by omega) (by omega) ?_
      refine T_qg (i_add rfl l_4 (by omega) (by omega)) (by omega) (by omega) ?_
      refine T_qg (i_add rfl l_5 (by omega) (by omega)) (by omega) (by omega) ?_
      refine T_qc (T_mono (t_X11_soonest hn hj _ _ _ _ _ M hG) (fun _ _ p => p.1)) ?_
      intro r112_ m113_ g114_
      refine T_qg (i_add rfl l_1 (by omega) (by omega)) (by omega) (by omega) ?_
      refine T_qg (i_add rfl l_2 (by omega) (by omega)) (by omega) (by omega) ?_
      refine T_qg (i_add rfl l_3 (by omega) (by omega)) (by omega) (by omega) ?_
      refine T_qg (i_add rfl l_4 (by omega) (by omega)) (by omega) (by omega) ?_
      refine T_qg (i_add rfl l_5 (by omega) (by omega)) (by omega) (by omega) ?_
      refine T_qc (T_mono (t_X12_soonest hn _ _ _ _ _ m113_ g114_) (fun _ _ p => p.1)) ?_
      intro r115_ m116_ g117_
      refine T_ql (i_add rfl l_7 (by omega) (by omega)) ?_
      intro x118_ h119_
      exact ih j r hj hr x118_ m116_ (by omega) (by omega) g117_ (by omega)
    refine T_sw rfl l_13 (fun s120_ => ?_) (fun s120_ => ?_)
    · refine T_qg (i_add rfl l_1 (by omega) (by omega)) (by omega) (by omega) ?_
      refine T_qg (i_add rfl l_2 (by omega) (by omega)) (by omega) (by omega) ?_
      refine T_qg (i_add rfl l_3 (by omega) (by omega)) (by omega) (by omega) ?_
      refine T_qg (i_add rfl l_4 (by omega) (by omega)) (by omega) (by omega) ?_
      refine T_qg (i_add rfl l_5 (by omega) (by omega)) (by omega) (by omega) ?_
      refine T_qc (T_mono (t_X11_cheapest hn hj _ _ _ _ _ M hG) (fun _ _ p => p.1)) ?_
      intro r121_ m122_ g123_
      refine T_qg (i_add rfl l_1 (by omega) (by omega)) (by omega) (by omega) ?_
      refine T_qg (i_add rfl l_2 (by omega) (by omega)) (by omega) (by omega) ?_
      refine T_qg (i_add rfl l_3 (by omega) (by omega)) (by omega) (by omega) ?_
      refine T_qg (i_add rfl l_4 (by omega) (by omega)) (by omega) (by omega) ?_
      refine T_qg (i_add rfl l_5 (by omega) (by omega)) (by omega) (by omega) ?_
      refine T_qc (T_mono (t_X12_cheapest hn _ _ _ _ _ m122_ g123_) (fun _ _ p => p.1)) ?_
      intro r124_ m125_ g126_
      refine T_ql (i_add rfl l_7 (by omega) (by omega)) ?_
      intro x127_ h128_
      exact ih j r hj hr x127_ m125_ (by omega) (by omega) g126_ (by omega)
    refine T_sw rfl l_14 (fun s129_ => ?_) (fun s129_ => ?_)
    · refine T_qg (i_add rfl l_1 (by omega) (by omega)) (by omega) (by omega) ?_
      refine T_qg (i_add rfl l_2 (by omega) (by omega)) (by omega) (by omega) ?_
      refine T_qg (i_add rfl l_3 (by omega) (by omega)) (by omega) (by omega) ?_
      refine T_qc (T_mono (t_X11_loophole hn hj _ _ _ M hG) (fun _ _ p => p.1)) ?_
      intro r130_ m131_ g132_
      refine T_qg (i_add rfl l_1 (by omega) (by omega)) (by omega) (by omega) ?_
      refine T_qg (i_add rfl l_2 (by omega) (by omega)) (by omega) (by omega) ?_
      refine T_qg (i_add rfl l_3 (by omega) (by omega)) (by omega) (by omega) ?_
      refine T_qc (T_mono (t_X12_loophole hn _ _ _ m131_ g132_) (fun _ _ p => p.1)) ?_
      intro r133_ m134_ g135_
      refine T_ql (i_add rfl l_7 (by omega) (by omega)) ?_
      intro x136_ h137_
      exact ih j r hj hr x136_ m134_ (by omega) (by omega) g135_ (by omega)
    refine T_sw rfl l_15 (fun s138_ => ?_) (fun s138_ => ?_)
    · refine T_qg (i_add rfl l_1 (by omega) (by omega)) (by omega) (by omega) ?_
      refine T_qg (i_add rfl l_2 (by omega) (by omega)) (by omega) (by omega) ?_
      refine T_qg (i_add rfl l_3 (by omega) (by omega)) (by omega) (by omega) ?_
      refine T_qc (T_mono (t_X11_jobs hn hj _ _ _ M hG) (fun _ _ p => p.2.1)) ?_
      intro r139_ m140_ g141_
      refine T_qg (i_add rfl l_1 (by omega) (by omega)) (by omega) (by omega) ?_
      refine T_qg (i_add rfl l_2 (by omega) (by omega)) (by omega) (by omega) ?_
      refine T_qg (i_add rfl l_3 (by omega) (by omega)) (by omega) (by omega) ?_
      refine T_qc (T_mono (t_X12_jobs hn _ _ _ m140_ g141_) (fun _ _ p => p.1)) ?_
      intro r142_ m143_ g144_
      refine T_ql (i_add rfl l_7 (by omega) (by omega)) ?_
      intro x145_ h146_
      exact ih j r hj hr x145_ m143_ (by omega) (by omega) g144_ (by omega)
    refine T_sw rfl l_16 (fun s147_ => ?_) (fun s147_ => ?_)
    · refine T_qg (i_add rfl l_1 (by omega) (by omega)) (by omega) (by omega) ?_
      refine T_qg (i_add rfl l_2 (by omega) (by omega)) (by omega) (by omega) ?_
      refine T_qg (i_add rfl l_3 (by omega) (by omega)) (by omega) (by omega) ?_
      refine T_qc (T_mono (t_X11_rivals hn _ _ _ M hG) (fun _ _ p => p.1)) ?_
      intro r148_ m149_ g150_
      refine T_qg (i_add rfl l_1 (by omega) (by omega)) (by omega) (by omega) ?_
      refine T_qg (i_add rfl l_2 (by omega) (by omega)) (by omega) (by omega) ?_
      refine T_qg (i_add rfl l_3 (by omega) (by omega)) (by omega) (by omega) ?_
      refine T_qc (T_mono (t_X12_rivals hn _ _ _ m149_ g150_) (fun _ _ p => p.1)) ?_
      intro r151_ m152_ g153_
      refine T_ql (i_add rfl l_7 (by omega) (by omega)) ?_
      intro x154_ h155_
      exact ih j r hj hr x154_ m152_ (by omega) (by omega) g153_ (by omega)
    refine T_sw rfl l_17 (fun s156_ => ?_) (fun s156_ => ?_)
    · refine T_qg (i_add rfl l_1 (by omega) (by omega)) (by omega) (by omega) ?_
      refine T_qg (i_add rfl l_2 (by omega) (by omega)) (by omega) (by omega) ?_
      refine T_qg (i_add rfl l_3 (by omega) (by omega)) (by omega) (by omega) ?_
      refine T_qg (i_add rfl l_4 (by omega) (by omega)) (by omega) (by omega) ?_
      refine T_qc (T_mono (t_X11_histories hn hj _ _ _ _ M hG) (fun _ _ p => p.1)) ?_
      intro r157_ m158_ g159_
      refine T_qg (i_add rfl l_1 (by omega) (by omega)) (by omega) (by omega) ?_
      refine T_qg (i_add rfl l_2 (by omega) (by omega)) (by omega) (by omega) ?_
      refine T_qg (i_add rfl l_3 (by omega) (by omega)) (by omega) (by omega) ?_
      refine T_qg (i_add rfl l_4 (by omega) (by omega)) (by omega) (by omega) ?_
      refine T_qc (T_mono (t_X12_histories hn _ _ _ _ m158_ g159_) (fun _ _ p => p.1)) ?_
      intro r160_ m161_ g162_
      refine T_ql (i_add rfl l_7 (by omega) (by omega)) ?_
      intro x163_ h164_
      exact ih j r hj hr x163_ m161_ (by omega) (by omega) g162_ (by omega)
    refine T_sw rfl l_18 (fun s165_ => ?_) (fun s165_ => ?_)
    · refine T_qg (i_add rfl l_1 (by omega) (by omega)) (by omega) (by omega) ?_
      refine T_qg (i_add rfl l_2 (by omega) (by omega)) (by omega) (by omega) ?_
      refine T_qg (i_add rfl l_3 (by omega) (by omega)) (by omega) (by omega) ?_
      refine T_qg (i_add rfl l_4 (by omega) (by omega)) (by omega) (by omega) ?_
      refine T_eq rfl l_0 (fun c166_ => ?_) (fun c166_ => ?_)
      · refine T_qg (i_add rfl l_5 (by omega) (by omega)) (by omega) (by omega) ?_
        refine T_eq rfl l_0 (fun c167_ => ?_) (fun c167_ => ?_)
        · refine T_qg (i_add rfl l_6 (by omega) (by omega)) (by omega) (by omega) ?_
          refine T_qcE (T_mono (t_X11_game hn _ _ _ _ _ _ M hG (by decide) (by decide)) (fun _ _ p => p.2.1)) ?_
          intro r168_ m169_ e171_ g170_
          refine T_qg (i_add rfl l_1 (by omega) (by omega)) (by omega) (by omega) ?_
          refine T_qg (i_add rfl l_2 (by omega) (by omega)) (by omega) (by omega) ?_
          refine T_qg (i_add rfl l_3 (by omega) (by omega)) (by omega) (by omega) ?_
          refine T_qg (i_add rfl l_4 (by omega) (by omega)) (by omega) (by omega) ?_
          refine T_eq rfl l_0 (fun c172_ => ?_) (fun c172_ => ?_)
          · refine T_qg (i_add rfl l_5 (by omega) (by omega)) (by omega) (by omega) ?_
            refine T_eq rfl l_0 (fun c173_ => ?_) (fun c173_ => ?_)
            · refine T_qg (i_add rfl l_6 (by omega) (by omega)) (by omega) (by omega) ?_
              refine T_qcE (T_mono (t_X12_game hn _ _ _ _ _ _ m169_ g170_ (by decide) (by decide)) (fun _ _ p => p.2.1)) ?_
              intro r174_ m175_ e177_ g176_
              rw [if_pos (Pr_eq (p1_game (n := n) (by omega) _ _ _ _ (m := 0) (o := 0) (by decide) (by decide)) e171_ e177_)]
              refine T_ql (i_add rfl l_7 (by omega) (by omega)) ?_
              intro x178_ h179_
              exact ih j r hj hr x178_ m175_ (by omega) (by omega) g176_ (by omega)
            · exact absurd c167_ c173_
          · exact absurd c166_ c172_
        · refine T_qg (i_add rfl l_6 (by omega) (by omega)) (by omega) (by omega) ?_
          refine T_qcE (T_mono (t_X11_game hn _ _ _ _ _ _ M hG (by decide) (by decide)) (fun _ _ p => p.2.1)) ?_
          intro r180_ m181_ e183_ g182_
          refine T_qg (i_add rfl l_1 (by omega) (by omega)) (by omega) (by omega) ?_
          refine T_qg (i_add rfl l_2 (by omega) (by omega)) (by omega) (by omega) ?_
          refine T_qg (i_add rfl l_3 (by omega) (by omega)) (by omega) (by omega) ?_
          refine T_qg (i_add rfl l_4 (by omega) (by omega)) (by omega) (by omega) ?_
          refine T_eq rfl l_0 (fun c184_ => ?_) (fun c184_ => ?_)
          · refine T_qg (i_add rfl l_5 (by omega) (by omega)) (by omega) (by omega) ?_
            refine T_eq rfl l_0 (fun c185_ => ?_) (fun c185_ => ?_)
            · exact absurd c185_ c167_
            · refine T_qg (i_add rfl l_6 (by omega) (by omega)) (by omega) (by omega) ?_
              refine T_qcE (T_mono (t_X12_game hn _ _ _ _ _ _ m181_ g182_ (by decide) (by decide)) (fun _ _ p => p.2.1)) ?_
              intro r186_ m187_ e189_ g188_
              rw [if_pos (Pr_eq (p1_game (n := n) (by omega) _ _ _ _ (m := 0) (o := 1) (by decide) (by decide)) e183_ e189_)]
              refine T_ql (i_add rfl l_7 (by omega) (by omega)) ?_
              intro x190_ h191_
              exact ih j r hj hr x190_ m187_ (by omega) (by omega) g188_ (by omega)
          · exact absurd c166_ c184_
      · refine T_qg (i_add rfl l_5 (by omega) (by omega)) (by omega) (by omega) ?_
        refine T_eq rfl l_0 (fun c192_ => ?_) (fun c192_ => ?_)
        · refine T_qg (i_add rfl l_6 (by omega) (by omega)) (by omega) (by omega) ?_
          refine T_qcE (T_mono (t_X11_game hn _ _ _ _ _ _ M hG (by decide) (by decide)) (fun _ _ p => p.2.1)) ?_
          intro r193_ m194_ e196_ g195_
          refine T_qg (i_add rfl l_1 (by omega) (by omega)) (by omega) (by omega) ?_
          refine T_qg (i_add rfl l_2 (by omega) (by omega)) (by omega) (by omega) ?_
          refine T_qg (i_add rfl l_3 (by omega) (by omega)) (by omega) (by omega) ?_
          refine T_qg (i_add rfl l_4 (by omega) (by omega)) (by omega) (by omega) ?_
          refine T_eq rfl l_0 (fun c197_ => ?_) (fun c197_ => ?_)
          · exact absurd c197_ c166_
          · refine T_qg (i_add rfl l_5 (by omega) (by omega)) (by omega) (by omega) ?_
            refine T_eq rfl l_0 (fun c198_ => ?_) (fun c198_ => ?_)
            · refine T_qg (i_add rfl l_6 (by omega) (by omega)) (by omega) (by omega) ?_
              refine T_qcE (T_mono (t_X12_game hn _ _ _ _ _ _ m194_ g195_ (by decide) (by decide)) (fun _ _ p => p.2.1)) ?_
              intro r199_ m200_ e202_ g201_
              rw [if_pos (Pr_eq (p1_game (n := n) (by omega) _ _ _ _ (m := 1) (o := 0) (by decide) (by decide)) e196_ e202_)]
              refine T_ql (i_add rfl l_7 (by omega) (by omega)) ?_
              intro x203_ h204_
              exact ih j r hj hr x203_ m200_ (by omega) (by omega) g201_ (by omega)
            · exact absurd c192_ c198_
        · refine T_qg (i_add rfl l_6 (by omega) (by omega)) (by omega) (by omega) ?_
          refine T_qcE (T_mono (t_X11_game hn _ _ _ _ _ _ M hG (by decide) (by decide)) (fun _ _ p => p.2.1)) ?_
          intro r205_ m206_ e208_ g207_
          refine T_qg (i_add rfl l_1 (by omega) (by omega)) (by omega) (by omega) ?_
          refine T_qg (i_add rfl l_2 (by omega) (by omega)) (by omega) (by omega) ?_
          refine T_qg (i_add rfl l_3 (by omega) (by omega)) (by omega) (by omega) ?_
          refine T_qg (i_add rfl l_4 (by omega) (by omega)) (by omega) (by omega) ?_
          refine T_eq rfl l_0 (fun c209_ => ?_) (fun c209_ => ?_)
          · exact absurd c209_ c166_
          · refine T_qg (i_add rfl l_5 (by omega) (by omega)) (by omega) (by omega) ?_
            refine T_eq rfl l_0 (fun c210_ => ?_) (fun c210_ => ?_)
            · exact absurd c210_ c192_
            · refine T_qg (i_add rfl l_6 (by omega) (by omega)) (by omega) (by omega) ?_
              refine T_qcE (T_mono (t_X12_game hn _ _ _ _ _ _ m206_ g207_ (by decide) (by decide)) (fun _ _ p => p.2.1)) ?_
              intro r211_ m212_ e214_ g213_
              rw [if_pos (Pr_eq (p1_game (n := n) (by omega) _ _ _ _ (m := 1) (o := 1) (by decide) (by decide)) e208_ e214_)]
              refine T_ql (i_add rfl l_7 (by omega) (by omega)) ?_
              intro x215_ h216_
              exact ih j r hj hr x215_ m212_ (by omega) (by omega) g213_ (by omega)
    refine T_sw rfl l_19 (fun s217_ => ?_) (fun s217_ => ?_)
    · refine T_qg (i_add rfl l_1 (by omega) (by omega)) (by omega) (by omega) ?_
      refine T_qg (i_add rfl l_2 (by omega) (by omega)) (by omega) (by omega) ?_
      refine T_qg (i_add rfl l_3 (by omega) (by omega)) (by omega) (by omega) ?_
      refine T_qg (i_add rfl l_4 (by omega) (by omega)) (by omega) (by omega) ?_
      refine T_qg (i_add rfl l_5 (by omega) (by omega)) (by omega) (by omega) ?_
      refine T_qg (i_add rfl l_6 (by omega) (by omega)) (by omega) (by omega) ?_
      refine T_qc (T_mono (t_X11_court hn _ _ _ _ _ _ M hG) (fun _ _ p => p.2.1)) ?_
      intro r218_ m219_ g220_
      refine T_qg (i_add rfl l_1 (by omega) (by omega)) (by omega) (by omega) ?_
      refine T_qg (i_add rfl l_2 (by omega) (by omega)) (by omega) (by omega) ?_
      refine T_qg (i_add rfl l_3 (by omega) (by omega)) (by omega) (by omega) ?_
      refine T_qg (i_add rfl l_4 (by omega) (by omega)) (by omega) (by omega) ?_
      refine T_qg (i_add rfl l_5 (by omega) (by omega)) (by omega) (by omega) ?_
      refine T_qg (i_add rfl l_6 (by omega) (by omega)) (by omega) (by omega) ?_
      refine T_qc (T_mono (t_X12_court hn _ _ _ _ _ _ m219_ g220_) (fun _ _ p => p.2.1)) ?_
      intro r221_ m222_ g223_
      refine T_ql (i_add rfl l_7 (by omega) (by omega)) ?_
      intro x224_ h225_
      exact ih j r hj hr x224_ m222_ (by omega) (by omega) g223_ (by omega)
    refine T_sw rfl l_20 (fun s226_ => ?_) (fun s226_ => ?_)
    · refine T_qc (T_mono (t_X11_keep hn M hG) (fun _ _ p => p.1)) ?_
      intro r227_ m228_ g229_
      refine T_qc (T_mono (t_X12_keep hn m228_ g229_) (fun _ _ p => p.1)) ?_
      intro r230_ m231_ g232_
      refine T_ql (i_add rfl l_7 (by omega) (by omega)) ?_
      intro x233_ h234_
      exact ih j r hj hr x233_ m231_ (by omega) (by omega) g232_ (by omega)
    refine T_sw rfl l_21 (fun s235_ => ?_) (fun s235_ => ?_)
    · refine T_qc (T_mono (t_X11_undo hn M hG) (fun _ _ p => p.2.1)) ?_
      intro r236_ m237_ g238_
      refine T_qc (T_mono (t_X12_undo hn m237_ g238_) (fun _ _ p => p.2.1)) ?_
      intro r239_ m240_ g241_
      refine T_ql (i_add rfl l_7 (by omega) (by omega)) ?_
      intro x242_ h243_
      exact ih j r hj hr x242_ m240_ (by omega) (by omega) g241_ (by omega)
    refine T_sw rfl l_22 (fun s244_ => ?_) (fun s244_ => ?_)
    · refine T_qg (i_add rfl l_1 (by omega) (by omega)) (by omega) (by omega) ?_
      refine T_qg (i_add rfl l_2 (by omega) (by omega)) (by omega) (by omega) ?_
      refine T_qc (T_mono (t_X11_check hn _ _ M hG) (fun _ _ p => p.2.1)) ?_
      intro r245_ m246_ g247_
      refine T_qg (i_add rfl l_1 (by omega) (by omega)) (by omega) (by omega) ?_
      refine T_qg (i_add rfl l_2 (by omega) (by omega)) (by omega) (by omega) ?_
      refine T_qc (T_mono (t_X12_check hn _ _ m246_ g247_) (fun _ _ p => p.2.1)) ?_
      intro r248_ m249_ g250_
      refine T_ql (i_add rfl l_7 (by omega) (by omega)) ?_
      intro x251_ h252_
      exact ih j r hj hr x251_ m249_ (by omega) (by omega) g250_ (by omega)
    refine T_sw rfl l_23 (fun s253_ => ?_) (fun s253_ => ?_)
    · refine T_qg (i_add rfl l_1 (by omega) (by omega)) (by omega) (by omega) ?_
      refine T_qc (T_mono (t_X11_count hn hj _ M hG) (fun _ _ p => p.1)) ?_
      intro r254_ m255_ g256_
      refine T_qg (i_add rfl l_1 (by omega) (by omega)) (by omega) (by omega) ?_
      refine T_qc (T_mono (t_X12_count hn _ m255_ g256_) (fun _ _ p => p.1)) ?_
      intro r257_ m258_ g259_
      refine T_ql (i_add rfl l_7 (by omega) (by omega)) ?_
      intro x260_ h261_
      exact ih j r hj hr x260_ m258_ (by omega) (by omega) g259_ (by omega)
    refine T_sw0 ?_
    refine T_ql (i_add rfl l_7 (by omega) (by omega)) ?_
    intro x262_ h263_
    exact ih j r hj hr x262_ M (by omega) (by omega) hG (by omega)
theorem pure_all : qPure := by
  intro g hN
  obtain ⟨M0, e, _, hG⟩ := freshG
  obtain ⟨v, M', e2, hv⟩ := L_go (n := 200000) (Nat.le_refl _) g hN 4000 37 46 (Or.inl rfl) (Or.inr rfl) 0 M0 (by decide) (by decide) hG (by have z : ((0 : Int32).toInt : Int) = 0 := rfl; omega)
  subst hv
  exact ⟨200000, 4000, M0, M', e, e2⟩
