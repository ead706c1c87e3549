def topS (W : List (Int × Int)) : Prop := ∀ q r, W = q :: r → ¬ (2 ≤ q.1 ∧ q.1 ≤ 6)
def topP (W : List (Int × Int)) : Prop := ∀ q r, W = q :: r → ¬ (4 ≤ q.1 ∧ q.1 ≤ 6)
theorem sg_r (x : Int) : (sg x = -1 ∧ x ≠ 43 ∧ x ≠ 45 ∧ x ≠ 42 ∧ x ≠ 47 ∧ x ≠ 37) ∨ (x = 43 ∧ sg x = 2) ∨ (x = 45 ∧ sg x = 3) ∨ (x = 42 ∧ sg x = 4) ∨ (x = 47 ∧ sg x = 5) ∨ (x = 37 ∧ sg x = 6) := by
  unfold sg
  by_cases h1 : x = 43
  · rw [if_pos h1]; omega
  · rw [if_neg h1]
    by_cases h2 : x = 45
    · rw [if_pos h2]; omega
    · rw [if_neg h2]
      by_cases h3 : x = 42
      · rw [if_pos h3]; omega
      · rw [if_neg h3]
        by_cases h4 : x = 47
        · rw [if_pos h4]; omega
        · rw [if_neg h4]
          by_cases h5 : x = 37
          · rw [if_pos h5]; omega
          · rw [if_neg h5]; omega
theorem cp_r (x : Int) : (cp x = -1 ∧ x ≠ 60 ∧ x ≠ 62 ∧ x ≠ 61) ∨ (x = 60 ∧ cp x = 7) ∨ (x = 62 ∧ cp x = 8) ∨ (x = 61 ∧ cp x = 9) := by
  unfold cp
  by_cases h1 : x = 60
  · rw [if_pos h1]; omega
  · rw [if_neg h1]
    by_cases h2 : x = 62
    · rw [if_pos h2]; omega
    · rw [if_neg h2]
      by_cases h3 : x = 61
      · rw [if_pos h3]; omega
      · rw [if_neg h3]; omega
theorem enc_s {o : Int} (h : 0 ≤ sg o) : enc o 0 = 1048576 * sg o := by
  have := sg_r o
  unfold enc
  rw [if_neg (by omega), if_neg (by omega), if_neg (by omega), if_neg (by omega), if_neg (by omega), if_pos h]
theorem enc_c {o : Int} (h : 0 ≤ cp o) : enc o 0 = 1048576 * cp o := by
  have h1 := cp_r o
  have h2 := sg_r o
  unfold enc
  rw [if_neg (by omega), if_neg (by omega), if_neg (by omega), if_neg (by omega), if_neg (by omega), if_neg (by omega)]
theorem fa_q : ∀ k : Nat, k < 12 → fa (q_let k).toInt = (k : Int) := by decide +kernel
theorem fa_n {x : Int} (h : ∀ k : Nat, k < 12 → (q_let k).toInt ≠ x) : fa x = -1 := by
  have a0 : x ≠ 107 := fun e => h 0 (by decide) (by rw [e]; decide)
  have a1 : x ≠ 104 := fun e => h 1 (by decide) (by rw [e]; decide)
  have a2 : x ≠ 120 := fun e => h 2 (by decide) (by rw [e]; decide)
  have a3 : x ≠ 106 := fun e => h 3 (by decide) (by rw [e]; decide)
  have a4 : x ≠ 121 := fun e => h 4 (by decide) (by rw [e]; decide)
  have a5 : x ≠ 109 := fun e => h 5 (by decide) (by rw [e]; decide)
  have a6 : x ≠ 100 := fun e => h 6 (by decide) (by rw [e]; decide)
  have a7 : x ≠ 112 := fun e => h 7 (by decide) (by rw [e]; decide)
  have a8 : x ≠ 113 := fun e => h 8 (by decide) (by rw [e]; decide)
  have a9 : x ≠ 110 := fun e => h 9 (by decide) (by rw [e]; decide)
  have b0 : x ≠ 111 := fun e => h 10 (by decide) (by rw [e]; decide)
  have b1 : x ≠ 119 := fun e => h 11 (by decide) (by rw [e]; decide)
  unfold fa
  rw [if_neg a0, if_neg a1, if_neg a2, if_neg a3, if_neg a4, if_neg a5, if_neg a6, if_neg a7, if_neg a8, if_neg a9, if_neg b0, if_neg b1]
theorem w_opens {n : Nat} (a : Int32) (M : qM) (hG : G M) (hlt : (M 1 3).toInt < 240) : qT (f_X4_opens n a M) (fun v m => ((v.toInt = 1 ∧ a.toInt < 6 ∧ (m 1 3).toInt = (M 1 3).toInt + 1) ∨ (v.toInt = 0 ∧ 6 ≤ a.toInt ∧ (m 1 4).toInt = -5000 - (M 1 3).toInt)) ∧ (∀ s2, s2 ≠ 3 → s2 ≠ 4 → m 1 s2 = M 1 s2) ∧ (∀ c, c ≠ 1 → m c = M c) ∧ G m) := by
  unfold f_X4_opens
  refine T_lt rfl l_6 (fun c => ?_) (fun c => ?_)
  · refine w_pl hG hlt ?_
    intro m y1 y2 y3 g
    exact T_ret ⟨Or.inl ⟨l_1, c, y1⟩, fun s2 q1 _ => y2 s2 q1, y3, g⟩
  · refine T_qc (w_fails (5 : Int32) (M 1 3) M hG (by decide) (r_1_3 hG)) ?_
    rintro r m ⟨w0, w1, w2, w3, g⟩
    rw [l_5] at w1
    exact T_qb rfl (by omega) (by omega) (T_ret ⟨Or.inr ⟨w0, c, by omega⟩, fun s2 _ q2 => w2 s2 q2, w3, g⟩)
theorem w_must {n : Nat} (hn : 200000 ≤ n) (a : Int32) (M : qM) (hG : G M) (ha : 0 ≤ a.toInt) : qT (f_X9_mustTake n a M) (fun v m => ((v.toInt = 1 ∧ tq (M 2) (M 1 2).toInt (M 1 3).toInt = a.toInt ∧ (M 1 3).toInt < (M 1 2).toInt ∧ (m 1 3).toInt = (M 1 3).toInt + 1) ∨ (v.toInt = 0 ∧ tq (M 2) (M 1 2).toInt (M 1 3).toInt ≠ a.toInt ∧ (m 1 4).toInt = -1000 - (M 1 3).toInt)) ∧ (∀ s2, s2 ≠ 3 → s2 ≠ 4 → m 1 s2 = M 1 s2) ∧ (∀ c, c ≠ 1 → m c = M c) ∧ G m) :=
  T_mono (u_must hn (M0 := M) a M hG Sm.rf ha) (fun _ _ p => ⟨p.1, p.2.1, p.2.2.1, p.2.2.2.1⟩)
theorem w_fac68 {n : Nat} (hn : 200000 ≤ n) {r : Nat} (hr : q_isLaw r) {F : Int32 → qM → qR} {R : Nat → Int32} {len ph : Int} {C : List Int} {W : List (Int × Int)} (hl : len ≤ 240) (M : qM) (hL : Ly R len r C M) (h91 : tq R len (M 1 3).toInt ≠ 91) (hd : dq (tq R len (M 1 3).toInt) < 0) (a2 : Int32) (h2 : a2.toInt = tq R len (M 1 3).toInt) : ∀ (m k : Nat) (a3 : Int32), a3.toInt = (k : Int) → k ≤ 12 → (∀ i : Nat, i < k → (q_let i).toInt ≠ tq R len (M 1 3).toInt) → 13 - k < m → qT (f_X4_readFactor_68 n r F m a2 a3 M) (Lz R len r (0, (M 1 3).toInt, ph, C, W) (M 1 3).toInt C 1 ph W (fun _ => True)) := by
  obtain ⟨hG, hX, hC, hcp, hpl⟩ := hL
  have h13 := r_1_3 hG
  have ht := tq_r R len (M 1 3).toInt
  intro m
  induction m with
  | zero => intro k a3 _ _ _ h; exfalso; omega
  | succ m ih =>
    intro k a3 h3 hk hno hm
    show qT (b_X4_readFactor_68 n r F (f_X4_readFactor_68 n r F m) a2 a3 M) _
    unfold b_X4_readFactor_68
    refine T_le l_12 rfl (fun c => ?_) (fun c => ?_)
    · have hfa := fa_n (x := tq R len (M 1 3).toInt) (fun i hi => hno i (by omega))
      refine T_qc (w_fails (1 : Int32) (M 1 3) M hG (by decide) h13) ?_
      rintro r5 m6 ⟨w0, w1, w2, w3, g6⟩
      rw [l_1] at w1
      refine T_qb rfl (by omega) (by omega) (T_ret ⟨⟨⟨by rw [w3 2 (by decide)]; exact hX.1, by rw [w2 2 (by decide)]; exact hX.2⟩, g6⟩, Or.inl ⟨w0, Lo_st ?_⟩⟩)
      rw [ls_A]
      unfold zA
      rw [if_neg h91, if_neg (by omega), if_pos hfa]
      unfold zF
      rw [w1]
    · refine T_qg rfl (by omega) (by omega) ?_
      have ei : a3.toNatClampNeg = k := by rw [tnc, h3]; rfl
      rw [ei]
      have hq := q_let_a k (by omega)
      refine T_eq rfl rfl (fun d => ?_) (fun d => ?_)
      · have hfa : fa (tq R len (M 1 3).toInt) = (k : Int) := by rw [← h2, ← d]; exact fa_q k (by omega)
        refine w_pl hG (by omega) ?_
        intro m4 y1 y2 y3 g4
        refine T_qc (w_add hr (C := C) (1 : Int32) a3 m4 g4 (CR_1 hr hC y3) (by omega) (by omega) (fun _ => by omega)) ?_
        rintro r5 m6 ⟨q1, q2, q3, q4, q5, g6⟩
        obtain ⟨⟨n1, n2, n3⟩, n4, n5, n6⟩ := nr hr
        have e1 : m6 1 = m4 1 := q4 1 n1 n2 n3
        have e2 : m6 2 = m4 2 := q4 2 n4 n5 n6
        refine T_ret ⟨⟨⟨by rw [e2, y3 2 (by decide)]; exact hX.1, by rw [e1, y2 2 (by decide)]; exact hX.2⟩, g6⟩, Or.inr ⟨l_1, _, Lo_st ?_, q2, ?_, by rw [e1]; omega, by rw [e1]; omega, trivial⟩⟩
        · rw [ls_A]
          unfold zA
          rw [if_neg h91, if_neg (by omega), if_neg (by omega), hfa, e1, y1]
          unfold enc
          rw [l_1, if_neg (by decide), if_pos rfl, h3]
        · rw [List.length_append, List.length_singleton, e1]; omega
      · refine T_ql (i_add rfl l_1 (by omega) (by omega)) ?_
        intro x hx
        refine ih (k + 1) x (by omega) (by omega) (fun i hi => ?_) (by omega)
        by_cases q : i = k
        · rw [q]; omega
        · exact hno i (by omega)
theorem w_factor {n : Nat} (hn : 200000 ≤ n) {r : Nat} (hr : q_isLaw r) {R : Nat → Int32} {len : Int} (hl : len ≤ 240) {F : Int32 → qM → qR} {B : Nat}
    (hF : ∀ (a1 : Int32) (M : qM) (C : List Int) (ph : Int) (W : List (Int × Int)), Ly R len r C M → opn W = a1.toInt → 0 ≤ a1.toInt ∧ a1.toInt ≤ 6 → topS W → 3 * (6 - a1.toInt) + 2 < (B : Int) → qT (F a1 M) (Lz R len r (0, (M 1 3).toInt, ph, C, W) (M 1 3).toInt C 1 ph W (fun x => sg x = -1)))
    (a1 : Int32) (M : qM) (C : List Int) (ph : Int) (W : List (Int × Int)) (hL : Ly R len r C M) (ho : opn W = a1.toInt) (ha : 0 ≤ a1.toInt ∧ a1.toInt ≤ 6) (hB : 3 * (6 - a1.toInt) < (B : Int) + 1) : qT (fo_X4_readFactor n r F a1 M) (Lz R len r (0, (M 1 3).toInt, ph, C, W) (M 1 3).toInt C 1 ph W (fun _ => True)) := by
  have hL2 := hL
  obtain ⟨hG, hX, hC, hcp, hpl⟩ := hL2
  have h13 := r_1_3 hG
  have ht := tq_r R len (M 1 3).toInt
  have hd := dq_r (tq R len (M 1 3).toInt)
  unfold fo_X4_readFactor
  refine T_qc (u_sign hn M hG) ?_
  rintro r1 m2 ⟨rfl, hr1⟩
  rw [hX.1, hX.2] at hr1
  refine T_eq rfl l_91 (fun c => ?_) (fun c => ?_)
  · have h91 : tq R len (m2 1 3).toInt = 91 := by omega
    refine T_qc (w_opens a1 m2 hG (by omega)) ?_
    rintro r7 m8 ⟨ho8, z2, z3, g8⟩
    have hX8 : Cx R len m8 := ⟨by rw [z3 2 (by decide)]; exact hX.1, by rw [z2 2 (by decide) (by decide)]; exact hX.2⟩
    refine T_eq rfl l_0 (fun d => ?_) (fun d => ?_)
    · refine T_ret ⟨⟨hX8, g8⟩, Or.inl ⟨l_0, Lo_st ?_⟩⟩
      rw [ls_A]
      unfold zA zO
      rw [if_pos h91, if_pos (by omega)]
      unfold zF
      have : (m8 1 4).toInt = -5000 - (m2 1 3).toInt := by omega
      rw [this]
      rfl
    · have e3 : (m8 1 3).toInt = (m2 1 3).toInt + 1 := by omega
      have hst : Lo (tq R len) (0, (m2 1 3).toInt, ph, C, W) (0, (m8 1 3).toInt, ph, C, (14, 0) :: W) := by
        refine Lo_st ?_
        rw [ls_A]
        unfold zA zO
        rw [if_pos h91, if_neg (by omega), e3]
      have ea : (a1 + 1).toInt = a1.toInt + 1 := i_add rfl l_1 (by omega) (by omega)
      refine T_qc (hF (a1 + 1) m8 C ph ((14, 0) :: W) ⟨g8, hX8, CR_1 hr hC z3, by omega, by omega⟩ (by show opn W + _ = _; rw [if_pos (Or.inr (Or.inr rfl)), ea, ho]) (by omega) (fun q q2 e => by cases e; decide) (by omega)) ?_
      rintro r9 m10 ⟨⟨hX10, g10⟩, ho10⟩
      refine T_eq rfl l_0 (fun e => ?_) (fun e => ?_)
      · rcases ho10 with ⟨q1, q2⟩ | ⟨q1, q2⟩
        · exact T_ret ⟨⟨hX10, g10⟩, Or.inl ⟨l_0, Lo_tr hst q2⟩⟩
        · omega
      · obtain ⟨q1, C', q2, q3, q4, q5, q6, q7⟩ := ho10.resolve_left (fun q => e q.1)
        clear ho10
        refine T_qc (w_must hn (93 : Int32) m10 g10 (by decide)) ?_
        rintro r11 m12 ⟨ho12, v2, v3, g12⟩
        rw [hX10.1, hX10.2, l_93] at ho12
        have hX12 : Cx R len m12 := ⟨by rw [v3 2 (by decide)]; exact hX10.1, by rw [v2 2 (by decide) (by decide)]; exact hX10.2⟩
        have hzB : zS (tq R len) (1, (m10 1 3).toInt, ph, C', (14, 0) :: W) = (if tq R len (m10 1 3).toInt = 93 then (1, (m10 1 3).toInt + 1, ph, C', W) else zF 1 (m10 1 3).toInt) := by
          rw [ls_B, zB_c]
          rw [if_neg (by decide), if_neg (fun q => absurd q.1 (by decide))]
          unfold zG
          rw [if_neg (by omega), if_pos rfl]
        refine T_eq rfl l_0 (fun f => ?_) (fun f => ?_)
        · refine T_ret ⟨⟨hX12, g12⟩, Or.inl ⟨l_0, Lo_tr hst (Lo_tr q2 (Lo_st ?_))⟩⟩
          rw [hzB, if_neg (by omega)]
          unfold zF
          have : (m12 1 4).toInt = -1000 - (m10 1 3).toInt := by omega
          rw [this]
          rfl
        · have e12 : (m12 1 3).toInt = (m10 1 3).toInt + 1 := by omega
          refine T_ret ⟨⟨hX12, g12⟩, Or.inr ⟨l_1, C', Lo_tr hst (Lo_tr q2 (Lo_st ?_)), CR_1 hr q3 v3, by omega, by omega, by omega, trivial⟩⟩
          rw [hzB, if_pos (by omega), e12]
  · refine T_qc (u_digit hn m2 hG) ?_
    rintro r3 m4 ⟨rfl, hr3⟩
    rw [hX.1, hX.2] at hr3
    refine T_eq rfl l_m1 (fun d => ?_) (fun d => ?_)
    · exact w_fac68 hn hr hl m4 hL (by omega) (by omega) r1 (by omega) n 0 0 (by rw [l_0]; rfl) (by omega) (fun i hi => absurd hi (by omega)) (by omega)
    · unfold f_X4_readNumber
      refine T_qc (w_num4 hn hr (pl := (m4 1 3).toInt) (ph := ph) (W := W) hl h13.1 (by omega) (by omega) hcp n 0 0 0 m4 hG hX hC (by omega) hpl (by rw [l_0]; rfl) (by rw [l_0]; rfl) (by rw [l_0]; omega) (by rw [l_0]; omega) (fun i hi => absurd hi (by omega)) (by omega)) ?_
      rintro r5 m6 ⟨hx6, ho6⟩
      refine T_qb rfl ?_ ?_ (T_ret ⟨hx6, ho6⟩)
      · rcases ho6 with q | q <;> omega
      · rcases ho6 with q | q <;> omega
