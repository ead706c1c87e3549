theorem T_qcE {F : qR} {f : Int32 → qM → qR} {P Q : Int32 → qM → Prop} (h : qT F Q) (k : ∀ v m, F = some (v, m) → Q v m → qT (f v m) P) : qT (qc F f) P := by
  obtain ⟨v, M, e, p⟩ := h
  have := k v M e p
  rw [e, qc_v]
  exact this
theorem Pr_eq {C D : qM → qR} {M m1 m2 : qM} {v1 v2 : Int32} (h : Pr C D M) (e1 : C M = some (v1, m1)) (e2 : D m1 = some (v2, m2)) : v1 = v2 := by
  obtain ⟨v, M1, M2, q1, q2⟩ := h
  rw [e1] at q1
  cases q1
  rw [e2] at q2
  cases q2
  rfl
theorem T_qc2 {F1 F2 : qR} {E1 E2 : Int32 → qM → qR} {P : Int32 → qM → Prop} (h : (∃ v m, F1 = some (v, m) ∧ G m) ∨ (F1 = none ∧ ∃ v m, F2 = some (v, m) ∧ G m)) (h1 : ∀ v m, G m → qT (E1 v m) P) (h2 : ∀ v m, G m → qT (E2 v m) P) : qT (qc2 F1 F2 E1 E2) P := by
  rcases h with ⟨v, m, e, g⟩ | ⟨e, v, m, e2, g⟩
  · rw [e]; exact h1 v m g
  · rw [e, e2]; exact h2 v m g
theorem law_tot {n : Nat} (hn : 200000 ≤ n) {j r : Nat} (hr : q_isLaw r) (a1 : Int32) (M : qM) (hG : G M) : (∃ v m, f_X11_law n j r a1 M = some (v, m) ∧ G m) ∨ (f_X11_law n j r a1 M = none ∧ ∃ v m, f_X11_lawS n j r a1 M = some (v, m) ∧ G m) := by
  unfold f_X11_law f_X11_lawS
  by_cases c1 : a1 < (1 : Int32)
  · rw [if_pos c1]; exact Or.inl ⟨_, _, rfl, hG⟩
  · rw [if_neg c1, if_neg c1]
    by_cases c2 : (240 : Int32) < a1
    · rw [if_pos c2]; exact Or.inl ⟨_, _, rfl, hG⟩
    · rw [if_neg c2, if_neg c2]
      by_cases c3 : a1 ≤ M 1 1
      · rw [if_pos c3, if_pos c3]
        rw [Int32.lt_iff_toInt_lt] at c1 c2
        have z1 : (1 : Int32).toInt = 1 := rfl
        have z2 : (240 : Int32).toInt = 240 := rfl
        obtain ⟨v, m2, e, p⟩ := t_X4_read hn hr a1 M hG (by omega)
        obtain ⟨v3, m3, e3, p3⟩ := t_X9_clear hn m2 (p.1)
        rw [e, qc_v, qc_v, e3, qc_v, qc_v]
        by_cases c4 : v ≤ (0 : Int32)
        · rw [if_pos c4]; exact Or.inl ⟨_, _, rfl, p3.2.1⟩
        · rw [if_neg c4, if_neg c4]; exact Or.inr ⟨rfl, _, _, rfl, p3.2.1⟩
      · rw [if_neg c3]; exact Or.inl ⟨_, _, rfl, hG⟩
theorem ofN {k : Nat} (h : k ≤ 3584) : (Int32.ofNat k).toInt = (k : Int) := nI_toInt (by omega)
set_option maxRecDepth 8000 in
set_option maxHeartbeats 4000000 in
theorem L_go {n : Nat} (hn : 200000 ≤ n) (g : qG) (hN : g.2.2.2.2.2.1 ≤ 3584) : ∀ (m j r : Nat), q_isLaw j → q_isLaw r → ∀ (a3 : Int32) (M : qM), 0 ≤ a3.toInt → a3.toInt ≤ 3600 → G M → 3700 - a3.toInt < (m : Int) → qT (f_L_law g n m j r a3 M) (fun v _ => v = 1) := by
  intro m
  induction m with
  | zero => intro j r _ _ a3 M _ _ _ h; exfalso; omega
  | succ m ih =>
    intro j r hj hr a3 M h0 h1 hG hm
    show qT (b_L_law g n j r (f_L_law g n m j r) (f_L_law g n m r j) a3 M) _
    unfold b_L_law
    refine T_lt (i_sub (ofN hN) l_7 (by omega) (by omega)) rfl (fun c => T_ret rfl) (fun c => ?_)
    refine T_qg rfl (by omega) (by omega) ?_
    refine T_sw rfl l_0 (fun s1_ => ?_) (fun s1_ => ?_)
    · refine T_qg (i_add rfl l_1 (by omega) (by omega)) (by omega) (by omega) ?_
      refine T_qg (i_add rfl l_2 (by omega) (by omega)) (by omega) (by omega) ?_
      refine T_qg (i_add rfl l_3 (by omega) (by omega)) (by omega) (by omega) ?_
      refine T_qg (i_add rfl l_4 (by omega) (by omega)) (by omega) (by omega) ?_
      refine T_qc (T_mono (t_X11_kind hn _ _ _ _ M hG) (fun _ _ p => p.2.1)) ?_
      intro r2_ m3_ g4_
      refine T_qg (i_add rfl l_1 (by omega) (by omega)) (by omega) (by omega) ?_
      refine T_qg (i_add rfl l_2 (by omega) (by omega)) (by omega) (by omega) ?_
      refine T_qg (i_add rfl l_3 (by omega) (by omega)) (by omega) (by omega) ?_
      refine T_qg (i_add rfl l_4 (by omega) (by omega)) (by omega) (by omega) ?_
      refine T_qc (T_mono (t_X12_kind hn _ _ _ _ m3_ g4_) (fun _ _ p => p.2.1)) ?_
      intro r5_ m6_ g7_
      refine T_ql (i_add rfl l_7 (by omega) (by omega)) ?_
      intro x8_ h9_
      exact ih j r hj hr x8_ m6_ (by omega) (by omega) g7_ (by omega)
    refine T_sw rfl l_1 (fun s10_ => ?_) (fun s10_ => ?_)
    · refine T_qg (i_add rfl l_1 (by omega) (by omega)) (by omega) (by omega) ?_
      refine T_qg (i_add rfl l_2 (by omega) (by omega)) (by omega) (by omega) ?_
      refine T_qcE (T_mono (t_X11_person hn _ _ M hG) (fun _ _ p => p.2.1)) ?_
      intro r11_ m12_ e14_ g13_
      refine T_qg (i_add rfl l_1 (by omega) (by omega)) (by omega) (by omega) ?_
      refine T_qg (i_add rfl l_2 (by omega) (by omega)) (by omega) (by omega) ?_
      refine T_qcE (T_mono (t_X12_person hn _ _ m12_ g13_) (fun _ _ p => p.2.1)) ?_
      intro r15_ m16_ e18_ g17_
      rw [if_pos (Pr_eq (q_person _ _) e14_ e18_)]
      refine T_ql (i_add rfl l_7 (by omega) (by omega)) ?_
      intro x19_ h20_
      exact ih j r hj hr x19_ m16_ (by omega) (by omega) g17_ (by omega)
    refine T_sw rfl l_2 (fun s21_ => ?_) (fun s21_ => ?_)
    · refine T_qg (i_add rfl l_1 (by omega) (by omega)) (by omega) (by omega) ?_
      refine T_qg (i_add rfl l_2 (by omega) (by omega)) (by omega) (by omega) ?_
      refine T_qg (i_add rfl l_3 (by omega) (by omega)) (by omega) (by omega) ?_
      refine T_qg (i_add rfl l_4 (by omega) (by omega)) (by omega) (by omega) ?_
      refine T_qg (i_add rfl l_5 (by omega) (by omega)) (by omega) (by omega) ?_
      refine T_qc (T_mono (t_X11_feed hn _ _ _ _ _ M hG) (fun _ _ p => p.2.1)) ?_
      intro r22_ m23_ g24_
      refine T_qg (i_add rfl l_1 (by omega) (by omega)) (by omega) (by omega) ?_
      refine T_qg (i_add rfl l_2 (by omega) (by omega)) (by omega) (by omega) ?_
      refine T_qg (i_add rfl l_3 (by omega) (by omega)) (by omega) (by omega) ?_
      refine T_qg (i_add rfl l_4 (by omega) (by omega)) (by omega) (by omega) ?_
      refine T_qg (i_add rfl l_5 (by omega) (by omega)) (by omega) (by omega) ?_
      refine T_qc (T_mono (t_X12_feed hn _ _ _ _ _ m23_ g24_) (fun _ _ p => p.2.1)) ?_
      intro r25_ m26_ g27_
      refine T_ql (i_add rfl l_7 (by omega) (by omega)) ?_
      intro x28_ h29_
      exact ih j r hj hr x28_ m26_ (by omega) (by omega) g27_ (by omega)
    refine T_sw rfl l_3 (fun s30_ => ?_) (fun s30_ => ?_)
    · refine T_qg (i_add rfl l_1 (by omega) (by omega)) (by omega) (by omega) ?_
      refine T_qc2 (law_tot hn hr _ M hG) (fun v_ m_ g_ => ?_) (fun v_ m_ g_ => ?_)
      · refine T_qg (i_add rfl l_1 (by omega) (by omega)) (by omega) (by omega) ?_
        refine T_qc (T_mono (t_X12_law hn _ m_ g_) (fun _ _ p => p)) ?_
        intro r31_ m32_ g33_
        refine T_ql (i_add rfl l_7 (by omega) (by omega)) ?_
        intro x34_ h35_
        exact ih j r hj hr x34_ m32_ (by omega) (by omega) g33_ (by omega)
      · refine T_qg (i_add rfl l_1 (by omega) (by omega)) (by omega) (by omega) ?_
        refine T_qc (T_mono (t_X12_law hn _ m_ g_) (fun _ _ p => p)) ?_
        intro r36_ m37_ g38_
        refine T_ql (i_add rfl l_7 (by omega) (by omega)) ?_
        intro x39_ h40_
        exact ih r j hr hj x39_ m37_ (by omega) (by omega) g38_ (by omega)
    refine T_sw rfl l_4 (fun s41_ => ?_) (fun s41_ => ?_)
    · refine T_qg (i_add rfl l_1 (by omega) (by omega)) (by omega) (by omega) ?_
      refine T_qg (i_add rfl l_2 (by omega) (by omega)) (by omega) (by omega) ?_
      refine T_qc (T_mono (t_X11_plan hn _ _ M hG) (fun _ _ p => p.1)) ?_
      intro r42_ m43_ g44_
      refine T_qg (i_add rfl l_1 (by omega) (by omega)) (by omega) (by omega) ?_
      refine T_qg (i_add rfl l_2 (by omega) (by omega)) (by omega) (by omega) ?_
      refine T_qc (T_mono (t_X12_plan hn _ _ m43_ g44_) (fun _ _ p => p.1)) ?_
      intro r45_ m46_ g47_
      refine T_ql (i_add rfl l_7 (by omega) (by omega)) ?_
      intro x48_ h49_
      exact ih j r hj hr x48_ m46_ (by omega) (by omega) g47_ (by omega)
    refine T_sw rfl l_5 (fun s50_ => ?_) (fun s50_ => ?_)
    · refine T_qg (i_add rfl l_1 (by omega) (by omega)) (by omega) (by omega) ?_
      refine T_qg (i_add rfl l_2 (by omega) (by omega)) (by omega) (by omega) ?_
      refine T_qg (i_add rfl l_3 (by omega) (by omega)) (by omega) (by omega) ?_
      refine T_qc (T_mono (t_X11_tries hn hj _ _ _ M hG) (fun _ _ p => p.2.1)) ?_
      intro r51_ m52_ g53_
      refine T_qg (i_add rfl l_1 (by omega) (by omega)) (by omega) (by omega) ?_
      refine T_qg (i_add rfl l_2 (by omega) (by omega)) (by omega) (by omega) ?_
      refine T_qg (i_add rfl l_3 (by omega) (by omega)) (by omega) (by omega) ?_
      refine T_qc (T_mono (t_X12_tries hn _ _ _ m52_ g53_) (fun _ _ p => p.2.1)) ?_
      intro r54_ m55_ g56_
      refine T_ql (i_add rfl l_7 (by omega) (by omega)) ?_
      intro x57_ h58_
      exact ih j r hj hr x57_ m55_ (by omega) (by omega) g56_ (by omega)
    refine T_sw rfl l_6 (fun s59_ => ?_) (fun s59_ => ?_)
    · refine T_qg (i_add rfl l_1 (by omega) (by omega)) (by omega) (by omega) ?_
      refine T_qg (i_add rfl l_2 (by omega) (by omega)) (by omega) (by omega) ?_
      refine T_qg (i_add rfl l_3 (by omega) (by omega)) (by omega) (by omega) ?_
      refine T_qc (T_mono (t_X11_buys hn hj _ _ _ M hG) (fun _ _ p => p.2.1)) ?_
      intro r60_ m61_ g62_
      refine T_qg (i_add rfl l_1 (by omega) (by omega)) (by omega) (by omega) ?_
      refine T_qg (i_add rfl l_2 (by omega) (by omega)) (by omega) (by omega) ?_
      refine T_qg (i_add rfl l_3 (by omega) (by omega)) (by omega) (by omega) ?_
      refine T_qc (T_mono (t_X12_buys hn _ _ _ m61_ g62_) (fun _ _ p => p.2.1)) ?_
      intro r63_ m64_ g65_
      refine T_ql (i_add rfl l_7 (by omega) (by omega)) ?_
      intro x66_ h67_
      exact ih j r hj hr x66_ m64_ (by omega) (by omega) g65_ (by omega)
    refine T_sw rfl l_7 (fun s68_ => ?_) (fun s68_ => ?_)
    · refine T_qg (i_add rfl l_1 (by omega) (by omega)) (by omega) (by omega) ?_
      refine T_qc (T_mono (t_X11_days hn hj _ M hG) (fun _ _ p => p.1)) ?_
      intro r69_ m70_ g71_
      refine T_qg (i_add rfl l_1 (by omega) (by omega)) (by omega) (by omega) ?_
      refine T_qc (T_mono (t_X12_days hn _ m70_ g71_) (fun _ _ p => p.1)) ?_
      intro r72_ m73_ g74_
      refine T_ql (i_add rfl l_7 (by omega) (by omega)) ?_
      intro x75_ h76_
      exact ih j r hj hr x75_ m73_ (by omega) (by omega) g74_ (by omega)
    refine T_sw rfl l_8 (fun s77_ => ?_) (fun s77_ => ?_)
    · refine T_qg (i_add rfl l_1 (by omega) (by omega)) (by omega) (by omega) ?_
      refine T_qg (i_add rfl l_2 (by omega) (by omega)) (by omega) (by omega) ?_
      refine T_qc (T_mono (t_X11_tried hn hj _ _ M hG) (fun _ _ p => p.1)) ?_
      intro r78_ m79_ g80_
      refine T_qg (i_add rfl l_1 (by omega) (by omega)) (by omega) (by omega) ?_
      refine T_qg (i_add rfl l_2 (by omega) (by omega)) (by omega) (by omega) ?_
      refine T_qc (T_mono (t_X12_tried hn _ _ m79_ g80_) (fun _ _ p => p.1)) ?_
      intro r81_ m82_ g83_
      refine T_ql (i_add rfl l_7 (by omega) (by omega)) ?_
      intro x84_ h85_
      exact ih j r hj hr x84_ m82_ (by omega) (by omega) g83_ (by omega)
    refine T_sw rfl l_9 (fun s86_ => ?_) (fun s86_ => ?_)
    · refine T_qg (i_add rfl l_1 (by omega) (by omega)) (by omega) (by omega) ?_
      refine T_qg (i_add rfl l_2 (by omega) (by omega)) (by omega) (by omega) ?_
      refine T_qg (i_add rfl l_3 (by omega) (by omega)) (by omega) (by omega) ?_
      refine T_qc (T_mono (t_X11_has hn hj _ _ _ M hG) (fun _ _ p => p.1)) ?_
      intro r87_ m88_ g89_
      refine T_qg (i_add rfl l_1 (by omega) (by omega)) (by omega) (by omega) ?_
      refine T_qg (i_add rfl l_2 (by omega) (by omega)) (by omega) (by omega) ?_
      refine T_qg (i_add rfl l_3 (by omega) (by omega)) (by omega) (by omega) ?_
      refine T_qc (T_mono (t_X12_has hn _ _ _ m88_ g89_) (fun _ _ p => p.1)) ?_
      intro r90_ m91_ g92_
      refine T_ql (i_add rfl l_7 (by omega) (by omega)) ?_
      intro x93_ h94_
      exact ih j r hj hr x93_ m91_ (by omega) (by omega) g92_ (by omega)
    refine T_sw rfl l_10 (fun s95_ => ?_) (fun s95_ => ?_)
    · refine T_qg (i_add rfl l_1 (by omega) (by omega)) (by omega) (by omega) ?_
      refine T_qg (i_add rfl l_2 (by omega) (by omega)) (by omega) (by omega) ?_
      refine T_qc (T_mono (t_X11_alike hn hj _ _ M hG) (fun _ _ p => p.2.1)) ?_
      intro r96_ m97_ g98_
      refine T_qg (i_add rfl l_1 (by omega) (by omega)) (by omega) (by omega) ?_
      refine T_qg (i_add rfl l_2 (by omega) (by omega)) (by omega) (by omega) ?_
      refine T_qc (T_mono (t_X12_alike hn _ _ m97_ g98_) (fun _ _ p => p.2.1)) ?_
      intro r99_ m100_ g101_
      refine T_ql (i_add rfl l_7 (by omega) (by omega)) ?_
      intro x102_ h103_
      exact ih j r hj hr x102_ m100_ (by omega) (by omega) g101_ (by omega)
    refine T_sw rfl l_11 (fun s104_ => ?_) (fun s104_ => ?_)
    · refine T_qg (i_add rfl l_1 (by omega) (by omega)) (by omega) (by omega) ?_
      refine T_qg (i_add rfl l_2 (by omega) (by omega)) (by omega) (by omega) ?_
      refine T_qg (i_add rfl l_3 (by omega) (by omega)) (by omega) (by omega) ?_
      refine T_qc (T_mono (t_X11_cost hn hj _ _ _ M hG) (fun _ _ p => p.2.1)) ?_
      intro r105_ m106_ g107_
      refine T_qg (i_add rfl l_1 (by omega) (by omega)) (by omega) (by omega) ?_
      refine T_qg (i_add rfl l_2 (by omega) (by omega)) (by omega) (by omega) ?_
      refine T_qg (i_add rfl l_3 (by omega) (by omega)) (by omega) (by omega) ?_
      refine T_qc (T_mono (t_X12_cost hn _ _ _ m106_ g107_) (fun _ _ p => p.2.1)) ?_
      intro r108_ m109_ g110_
      refine T_ql (i_add rfl l_7 (by omega) (by omega)) ?_
      intro x111_ h112_
      exact ih j r hj hr x111_ m109_ (by omega) (by omega) g110_ (by omega)
    refine T_sw rfl l_12 (fun s113_ => ?_) (fun s113_ => ?_)
    · refine T_qg (i_add rfl l_1 (by omega) (by omega)) (by omega) (by omega) ?_
      refine T_qg (i_add rfl l_2 (by omega) (by omega)) (by omega) (by omega) ?_
      refine T_qg (i_add rfl l_3 (by omega) (by omega)) (by omega) (by omega) ?_
      refine T_qg (i_add rfl l_4 (by omega) (by omega)) (by omega) (by omega) ?_
      refine T_qg (i_add rfl l_5 (by omega) (by omega)) (by omega) (by omega) ?_
      refine T_qc (T_mono (t_X11_soonest hn hj _ _ _ _ _ M hG) (fun _ _ p => p.1)) ?_
      intro r114_ m115_ g116_
      refine T_qg (i_add rfl l_1 (by omega) (by omega)) (by omega) (by omega) ?_
      refine T_qg (i_add rfl l_2 (by omega) (by omega)) (by omega) (by omega) ?_
      refine T_qg (i_add rfl l_3 (by omega) (by omega)) (by omega) (by omega) ?_
      refine T_qg (i_add rfl l_4 (by omega) (by omega)) (by omega) (by omega) ?_
      refine T_qg (i_add rfl l_5 (by omega) (by omega)) (by omega) (by omega) ?_
      refine T_qc (T_mono (t_X12_soonest hn _ _ _ _ _ m115_ g116_) (fun _ _ p => p.1)) ?_
      intro r117_ m118_ g119_
      refine T_ql (i_add rfl l_7 (by omega) (by omega)) ?_
      intro x120_ h121_
      exact ih j r hj hr x120_ m118_ (by omega) (by omega) g119_ (by omega)
    refine T_sw rfl l_13 (fun s122_ => ?_) (fun s122_ => ?_)
    · refine T_qg (i_add rfl l_1 (by omega) (by omega)) (by omega) (by omega) ?_
      refine T_qg (i_add rfl l_2 (by omega) (by omega)) (by omega) (by omega) ?_
      refine T_qg (i_add rfl l_3 (by omega) (by omega)) (by omega) (by omega) ?_
      refine T_qg (i_add rfl l_4 (by omega) (by omega)) (by omega) (by omega) ?_
      refine T_qg (i_add rfl l_5 (by omega) (by omega)) (by omega) (by omega) ?_
      refine T_qc (T_mono (t_X11_cheapest hn hj _ _ _ _ _ M hG) (fun _ _ p => p.1)) ?_
      intro r123_ m124_ g125_
      refine T_qg (i_add rfl l_1 (by omega) (by omega)) (by omega) (by omega) ?_
      refine T_qg (i_add rfl l_2 (by omega) (by omega)) (by omega) (by omega) ?_
      refine T_qg (i_add rfl l_3 (by omega) (by omega)) (by omega) (by omega) ?_
      refine T_qg (i_add rfl l_4 (by omega) (by omega)) (by omega) (by omega) ?_
      refine T_qg (i_add rfl l_5 (by omega) (by omega)) (by omega) (by omega) ?_
      refine T_qc (T_mono (t_X12_cheapest hn _ _ _ _ _ m124_ g125_) (fun _ _ p => p.1)) ?_
      intro r126_ m127_ g128_
      refine T_ql (i_add rfl l_7 (by omega) (by omega)) ?_
      intro x129_ h130_
      exact ih j r hj hr x129_ m127_ (by omega) (by omega) g128_ (by omega)
    refine T_sw rfl l_14 (fun s131_ => ?_) (fun s131_ => ?_)
    · refine T_qg (i_add rfl l_1 (by omega) (by omega)) (by omega) (by omega) ?_
      refine T_qg (i_add rfl l_2 (by omega) (by omega)) (by omega) (by omega) ?_
      refine T_qg (i_add rfl l_3 (by omega) (by omega)) (by omega) (by omega) ?_
      refine T_qc (T_mono (t_X11_loophole hn hj _ _ _ M hG) (fun _ _ p => p.1)) ?_
      intro r132_ m133_ g134_
      refine T_qg (i_add rfl l_1 (by omega) (by omega)) (by omega) (by omega) ?_
      refine T_qg (i_add rfl l_2 (by omega) (by omega)) (by omega) (by omega) ?_
      refine T_qg (i_add rfl l_3 (by omega) (by omega)) (by omega) (by omega) ?_
      refine T_qc (T_mono (t_X12_loophole hn _ _ _ m133_ g134_) (fun _ _ p => p.1)) ?_
      intro r135_ m136_ g137_
      refine T_ql (i_add rfl l_7 (by omega) (by omega)) ?_
      intro x138_ h139_
      exact ih j r hj hr x138_ m136_ (by omega) (by omega) g137_ (by omega)
    refine T_sw rfl l_15 (fun s140_ => ?_) (fun s140_ => ?_)
    · refine T_qg (i_add rfl l_1 (by omega) (by omega)) (by omega) (by omega) ?_
      refine T_qg (i_add rfl l_2 (by omega) (by omega)) (by omega) (by omega) ?_
      refine T_qg (i_add rfl l_3 (by omega) (by omega)) (by omega) (by omega) ?_
      refine T_qc (T_mono (t_X11_jobs hn hj _ _ _ M hG) (fun _ _ p => p.2.1)) ?_
      intro r141_ m142_ g143_
      refine T_qg (i_add rfl l_1 (by omega) (by omega)) (by omega) (by omega) ?_
      refine T_qg (i_add rfl l_2 (by omega) (by omega)) (by omega) (by omega) ?_
      refine T_qg (i_add rfl l_3 (by omega) (by omega)) (by omega) (by omega) ?_
      refine T_qc (T_mono (t_X12_jobs hn _ _ _ m142_ g143_) (fun _ _ p => p.1)) ?_
      intro r144_ m145_ g146_
      refine T_ql (i_add rfl l_7 (by omega) (by omega)) ?_
      intro x147_ h148_
      exact ih j r hj hr x147_ m145_ (by omega) (by omega) g146_ (by omega)
    refine T_sw rfl l_16 (fun s149_ => ?_) (fun s149_ => ?_)
    · refine T_qg (i_add rfl l_1 (by omega) (by omega)) (by omega) (by omega) ?_
      refine T_qg (i_add rfl l_2 (by omega) (by omega)) (by omega) (by omega) ?_
      refine T_qg (i_add rfl l_3 (by omega) (by omega)) (by omega) (by omega) ?_
      refine T_qc (T_mono (t_X11_rivals hn _ _ _ M hG) (fun _ _ p => p.1)) ?_
      intro r150_ m151_ g152_
      refine T_qg (i_add rfl l_1 (by omega) (by omega)) (by omega) (by omega) ?_
      refine T_qg (i_add rfl l_2 (by omega) (by omega)) (by omega) (by omega) ?_
      refine T_qg (i_add rfl l_3 (by omega) (by omega)) (by omega) (by omega) ?_
      refine T_qc (T_mono (t_X12_rivals hn _ _ _ m151_ g152_) (fun _ _ p => p.1)) ?_
      intro r153_ m154_ g155_
      refine T_ql (i_add rfl l_7 (by omega) (by omega)) ?_
      intro x156_ h157_
      exact ih j r hj hr x156_ m154_ (by omega) (by omega) g155_ (by omega)
    refine T_sw rfl l_17 (fun s158_ => ?_) (fun s158_ => ?_)
    · refine T_qg (i_add rfl l_1 (by omega) (by omega)) (by omega) (by omega) ?_
      refine T_qg (i_add rfl l_2 (by omega) (by omega)) (by omega) (by omega) ?_
      refine T_qg (i_add rfl l_3 (by omega) (by omega)) (by omega) (by omega) ?_
      refine T_qg (i_add rfl l_4 (by omega) (by omega)) (by omega) (by omega) ?_
      refine T_qc (T_mono (t_X11_histories hn hj _ _ _ _ M hG) (fun _ _ p => p.1)) ?_
      intro r159_ m160_ g161_
      refine T_qg (i_add rfl l_1 (by omega) (by omega)) (by omega) (by omega) ?_
      refine T_qg (i_add rfl l_2 (by omega) (by omega)) (by omega) (by omega) ?_
      refine T_qg (i_add rfl l_3 (by omega) (by omega)) (by omega) (by omega) ?_
      refine T_qg (i_add rfl l_4 (by omega) (by omega)) (by omega) (by omega) ?_
      refine T_qc (T_mono (t_X12_histories hn _ _ _ _ m160_ g161_) (fun _ _ p => p.1)) ?_
      intro r162_ m163_ g164_
      refine T_ql (i_add rfl l_7 (by omega) (by omega)) ?_
      intro x165_ h166_
      exact ih j r hj hr x165_ m163_ (by omega) (by omega) g164_ (by omega)
    refine T_sw rfl l_18 (fun s167_ => ?_) (fun s167_ => ?_)
    · refine T_qg (i_add rfl l_1 (by omega) (by omega)) (by omega) (by omega) ?_
      refine T_qg (i_add rfl l_2 (by omega) (by omega)) (by omega) (by omega) ?_
      refine T_qg (i_add rfl l_3 (by omega) (by omega)) (by omega) (by omega) ?_
      refine T_qg (i_add rfl l_4 (by omega) (by omega)) (by omega) (by omega) ?_
      refine T_eq rfl l_0 (fun c168_ => ?_) (fun c168_ => ?_)
      · refine T_qg (i_add rfl l_5 (by omega) (by omega)) (by omega) (by omega) ?_
        refine T_eq rfl l_0 (fun c169_ => ?_) (fun c169_ => ?_)
        · refine T_qg (i_add rfl l_6 (by omega) (by omega)) (by omega) (by omega) ?_
          refine T_qc (T_mono (t_X11_game hn _ _ _ _ _ _ M hG (by decide) (by decide)) (fun _ _ p => p.2.1)) ?_
          intro r170_ m171_ g172_
          refine T_qg (i_add rfl l_1 (by omega) (by omega)) (by omega) (by omega) ?_
          refine T_qg (i_add rfl l_2 (by omega) (by omega)) (by omega) (by omega) ?_
          refine T_qg (i_add rfl l_3 (by omega) (by omega)) (by omega) (by omega) ?_
          refine T_qg (i_add rfl l_4 (by omega) (by omega)) (by omega) (by omega) ?_
          refine T_eq rfl l_0 (fun c173_ => ?_) (fun c173_ => ?_)
          · refine T_qg (i_add rfl l_5 (by omega) (by omega)) (by omega) (by omega) ?_
            refine T_eq rfl l_0 (fun c174_ => ?_) (fun c174_ => ?_)
            · refine T_qg (i_add rfl l_6 (by omega) (by omega)) (by omega) (by omega) ?_
              refine T_qc (T_mono (t_X12_game hn _ _ _ _ _ _ m171_ g172_ (by decide) (by decide)) (fun _ _ p => p.2.1)) ?_
              intro r175_ m176_ g177_
              refine T_ql (i_add rfl l_7 (by omega) (by omega)) ?_
              intro x178_ h179_
              exact ih j r hj hr x178_ m176_ (by omega) (by omega) g177_ (by omega)
            · exact absurd c169_ c174_
          · exact absurd c168_ c173_
        · refine T_qg (i_add rfl l_6 (by omega) (by omega)) (by omega) (by omega) ?_
          refine T_qc (T_mono (t_X11_game hn _ _ _ _ _ _ M hG (by decide) (by decide)) (fun _ _ p => p.2.1)) ?_
          intro r180_ m181_ g182_
          refine T_qg (i_add rfl l_1 (by omega) (by omega)) (by omega) (by omega) ?_
          refine T_qg (i_add rfl l_2 (by omega) (by omega)) (by omega) (by omega) ?_
          refine T_qg (i_add rfl l_3 (by omega) (by omega)) (by omega) (by omega) ?_
          refine T_qg (i_add rfl l_4 (by omega) (by omega)) (by omega) (by omega) ?_
          refine T_eq rfl l_0 (fun c183_ => ?_) (fun c183_ => ?_)
          · refine T_qg (i_add rfl l_5 (by omega) (by omega)) (by omega) (by omega) ?_
            refine T_eq rfl l_0 (fun c184_ => ?_) (fun c184_ => ?_)
            · exact absurd c184_ c169_
            · refine T_qg (i_add rfl l_6 (by omega) (by omega)) (by omega) (by omega) ?_
              refine T_qc (T_mono (t_X12_game hn _ _ _ _ _ _ m181_ g182_ (by decide) (by decide)) (fun _ _ p => p.2.1)) ?_
              intro r185_ m186_ g187_
              refine T_ql (i_add rfl l_7 (by omega) (by omega)) ?_
              intro x188_ h189_
              exact ih j r hj hr x188_ m186_ (by omega) (by omega) g187_ (by omega)
          · exact absurd c168_ c183_
      · refine T_qg (i_add rfl l_5 (by omega) (by omega)) (by omega) (by omega) ?_
        refine T_eq rfl l_0 (fun c190_ => ?_) (fun c190_ => ?_)
        · refine T_qg (i_add rfl l_6 (by omega) (by omega)) (by omega) (by omega) ?_
          refine T_qc (T_mono (t_X11_game hn _ _ _ _ _ _ M hG (by decide) (by decide)) (fun _ _ p => p.2.1)) ?_
          intro r191_ m192_ g193_
          refine T_qg (i_add rfl l_1 (by omega) (by omega)) (by omega) (by omega) ?_
          refine T_qg (i_add rfl l_2 (by omega) (by omega)) (by omega) (by omega) ?_
          refine T_qg (i_add rfl l_3 (by omega) (by omega)) (by omega) (by omega) ?_
          refine T_qg (i_add rfl l_4 (by omega) (by omega)) (by omega) (by omega) ?_
          refine T_eq rfl l_0 (fun c194_ => ?_) (fun c194_ => ?_)
          · exact absurd c194_ c168_
          · refine T_qg (i_add rfl l_5 (by omega) (by omega)) (by omega) (by omega) ?_
            refine T_eq rfl l_0 (fun c195_ => ?_) (fun c195_ => ?_)
            · refine T_qg (i_add rfl l_6 (by omega) (by omega)) (by omega) (by omega) ?_
              refine T_qc (T_mono (t_X12_game hn _ _ _ _ _ _ m192_ g193_ (by decide) (by decide)) (fun _ _ p => p.2.1)) ?_
              intro r196_ m197_ g198_
              refine T_ql (i_add rfl l_7 (by omega) (by omega)) ?_
              intro x199_ h200_
              exact ih j r hj hr x199_ m197_ (by omega) (by omega) g198_ (by omega)
            · exact absurd c190_ c195_
        · refine T_qg (i_add rfl l_6 (by omega) (by omega)) (by omega) (by omega) ?_
          refine T_qc (T_mono (t_X11_game hn _ _ _ _ _ _ M hG (by decide) (by decide)) (fun _ _ p => p.2.1)) ?_
          intro r201_ m202_ g203_
          refine T_qg (i_add rfl l_1 (by omega) (by omega)) (by omega) (by omega) ?_
          refine T_qg (i_add rfl l_2 (by omega) (by omega)) (by omega) (by omega) ?_
          refine T_qg (i_add rfl l_3 (by omega) (by omega)) (by omega) (by omega) ?_
          refine T_qg (i_add rfl l_4 (by omega) (by omega)) (by omega) (by omega) ?_
          refine T_eq rfl l_0 (fun c204_ => ?_) (fun c204_ => ?_)
          · exact absurd c204_ c168_
          · refine T_qg (i_add rfl l_5 (by omega) (by omega)) (by omega) (by omega) ?_
            refine T_eq rfl l_0 (fun c205_ => ?_) (fun c205_ => ?_)
            · exact absurd c205_ c190_
            · refine T_qg (i_add rfl l_6 (by omega) (by omega)) (by omega) (by omega) ?_
              refine T_qc (T_mono (t_X12_game hn _ _ _ _ _ _ m202_ g203_ (by decide) (by decide)) (fun _ _ p => p.2.1)) ?_
              intro r206_ m207_ g208_
              refine T_ql (i_add rfl l_7 (by omega) (by omega)) ?_
              intro x209_ h210_
              exact ih j r hj hr x209_ m207_ (by omega) (by omega) g208_ (by omega)
    refine T_sw rfl l_19 (fun s211_ => ?_) (fun s211_ => ?_)
    · refine T_qg (i_add rfl l_1 (by omega) (by omega)) (by omega) (by omega) ?_
      refine T_qg (i_add rfl l_2 (by omega) (by omega)) (by omega) (by omega) ?_
      refine T_qg (i_add rfl l_3 (by omega) (by omega)) (by omega) (by omega) ?_
      refine T_qg (i_add rfl l_4 (by omega) (by omega)) (by omega) (by omega) ?_
      refine T_qg (i_add rfl l_5 (by omega) (by omega)) (by omega) (by omega) ?_
      refine T_qg (i_add rfl l_6 (by omega) (by omega)) (by omega) (by omega) ?_
      refine T_qc (T_mono (t_X11_court hn _ _ _ _ _ _ M hG) (fun _ _ p => p.2.1)) ?_
      intro r212_ m213_ g214_
      refine T_qg (i_add rfl l_1 (by omega) (by omega)) (by omega) (by omega) ?_
      refine T_qg (i_add rfl l_2 (by omega) (by omega)) (by omega) (by omega) ?_
      refine T_qg (i_add rfl l_3 (by omega) (by omega)) (by omega) (by omega) ?_
      refine T_qg (i_add rfl l_4 (by omega) (by omega)) (by omega) (by omega) ?_
      refine T_qg (i_add rfl l_5 (by omega) (by omega)) (by omega) (by omega) ?_
      refine T_qg (i_add rfl l_6 (by omega) (by omega)) (by omega) (by omega) ?_
      refine T_qc (T_mono (t_X12_court hn _ _ _ _ _ _ m213_ g214_) (fun _ _ p => p.2.1)) ?_
      intro r215_ m216_ g217_
      refine T_ql (i_add rfl l_7 (by omega) (by omega)) ?_
      intro x218_ h219_
      exact ih j r hj hr x218_ m216_ (by omega) (by omega) g217_ (by omega)
    refine T_sw rfl l_20 (fun s220_ => ?_) (fun s220_ => ?_)
    · refine T_qc (T_mono (t_X11_keep hn M hG) (fun _ _ p => p.1)) ?_
      intro r221_ m222_ g223_
      refine T_qc (T_mono (t_X12_keep hn m222_ g223_) (fun _ _ p => p.1)) ?_
      intro r224_ m225_ g226_
      refine T_ql (i_add rfl l_7 (by omega) (by omega)) ?_
      intro x227_ h228_
      exact ih j r hj hr x227_ m225_ (by omega) (by omega) g226_ (by omega)
    refine T_sw rfl l_21 (fun s229_ => ?_) (fun s229_ => ?_)
    · refine T_qc (T_mono (t_X11_undo hn M hG) (fun _ _ p => p.2.1)) ?_
      intro r230_ m231_ g232_
      refine T_qc (T_mono (t_X12_undo hn m231_ g232_) (fun _ _ p => p.2.1)) ?_
      intro r233_ m234_ g235_
      refine T_ql (i_add rfl l_7 (by omega) (by omega)) ?_
      intro x236_ h237_
      exact ih j r hj hr x236_ m234_ (by omega) (by omega) g235_ (by omega)
    refine T_sw rfl l_22 (fun s238_ => ?_) (fun s238_ => ?_)
    · refine T_qg (i_add rfl l_1 (by omega) (by omega)) (by omega) (by omega) ?_
      refine T_qg (i_add rfl l_2 (by omega) (by omega)) (by omega) (by omega) ?_
      refine T_qc (T_mono (t_X11_check hn _ _ M hG) (fun _ _ p => p.2.1)) ?_
      intro r239_ m240_ g241_
      refine T_qg (i_add rfl l_1 (by omega) (by omega)) (by omega) (by omega) ?_
      refine T_qg (i_add rfl l_2 (by omega) (by omega)) (by omega) (by omega) ?_
      refine T_qc (T_mono (t_X12_check hn _ _ m240_ g241_) (fun _ _ p => p.2.1)) ?_
      intro r242_ m243_ g244_
      refine T_ql (i_add rfl l_7 (by omega) (by omega)) ?_
      intro x245_ h246_
      exact ih j r hj hr x245_ m243_ (by omega) (by omega) g244_ (by omega)
    refine T_sw rfl l_23 (fun s247_ => ?_) (fun s247_ => ?_)
    · refine T_qg (i_add rfl l_1 (by omega) (by omega)) (by omega) (by omega) ?_
      refine T_qc (T_mono (t_X11_count hn hj _ M hG) (fun _ _ p => p.1)) ?_
      intro r248_ m249_ g250_
      refine T_qg (i_add rfl l_1 (by omega) (by omega)) (by omega) (by omega) ?_
      refine T_qc (T_mono (t_X12_count hn _ m249_ g250_) (fun _ _ p => p.1)) ?_
      intro r251_ m252_ g253_
      refine T_ql (i_add rfl l_7 (by omega) (by omega)) ?_
      intro x254_ h255_
      exact ih j r hj hr x254_ m252_ (by omega) (by omega) g253_ (by omega)
    refine T_sw0 ?_
    refine T_ql (i_add rfl l_7 (by omega) (by omega)) ?_
    intro x256_ h257_
    exact ih j r hj hr x256_ M (by omega) (by omega) hG (by omega)
theorem pure_all : qPure := by
  intro g hN
  obtain ⟨M0, e, _, hG⟩ := freshG
  obtain ⟨v, M', e2, hv⟩ := L_go (n := 200000) (Nat.le_refl _) g hN 4000 37 46 (Or.inl rfl) (Or.inr rfl) 0 M0 (by decide) (by decide) hG (by have z : ((0 : Int32).toInt : Int) = 0 := rfl; omega)
  subst hv
  exact ⟨200000, 4000, M0, M', e, e2⟩
