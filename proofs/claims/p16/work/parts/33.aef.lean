/-- top of what waits -/
def tpk (W : List (Int × Int)) : Int := match W with
  | [] => -1
  | q :: _ => q.1
theorem tpk_S {W : List (Int × Int)} (h : 10 ≤ tpk W) : topS W := by
  intro q r e
  subst e
  have : 10 ≤ q.1 := h
  omega
theorem w_piece {n : Nat} (hn : 200000 ≤ n) {r : Nat} (hr : q_isLaw r) {R : Nat → Int32} {len : Int} (hl : len ≤ 240) {FC FP : Int32 → qM → qR} {B : Nat}
    (hFC : ∀ (a1 : Int32) (M : qM) (C : List Int) (W : List (Int × Int)), Ly R len r C M → opn W = a1.toInt → 0 ≤ a1.toInt ∧ a1.toInt ≤ 6 → tpk W = 13 → 3 * (6 - a1.toInt) + 2 < (B : Int) → qT (FC a1 M) (Lz R len r (2, (M 1 3).toInt, 0, C, W) (M 1 3).toInt C 3 0 W (fun x => x ≠ 38 ∧ x ≠ 124)))
    (hFP : ∀ (a1 : Int32) (M : qM) (C : List Int) (W : List (Int × Int)), Ly R len r C M → opn W = a1.toInt → 0 ≤ a1.toInt ∧ a1.toInt ≤ 6 → 10 ≤ tpk W → tpk W ≠ 14 → 3 * (6 - a1.toInt) < (B : Int) → qT (FP a1 M) (Lz R len r (2, (M 1 3).toInt, 0, C, W) (M 1 3).toInt C 3 0 W (fun _ => True)))
    (a1 : Int32) (M : qM) (C : List Int) (W : List (Int × Int)) (hL : Ly R len r C M) (ho : opn W = a1.toInt) (ha : 0 ≤ a1.toInt ∧ a1.toInt ≤ 6) (hW : 10 ≤ tpk W) (h14 : tpk W ≠ 14) (hB : 3 * (6 - a1.toInt) < (B : Int) + 1) : qT (fo_X4_readPiece n r FC FP a1 M) (Lz R len r (2, (M 1 3).toInt, 0, C, W) (M 1 3).toInt C 3 0 W (fun _ => True)) := by
  have hL2 := hL
  obtain ⟨hG, hX, hC, hcp, hpl⟩ := hL2
  have h13 := r_1_3 hG
  have ht := tq_r R len (M 1 3).toInt
  have hWne : ∃ q w, W = q :: w := by
    cases W with
    | nil => exact absurd hW (by show ¬ (10 : Int) ≤ -1; decide)
    | cons q w => exact ⟨q, w, rfl⟩
  have hop : ∀ (k : Int), (k = 10 ∨ k = 13) → (tq R len (M 1 3).toInt = (if k = 10 then 33 else 40)) → zS (tq R len) (2, (M 1 3).toInt, 0, C, W) = (if opn W = 6 then zF 5 (M 1 3).toInt else (2, (M 1 3).toInt + 1, 0, C, (k, 0) :: W)) := by
    intro k hk hT
    rw [ls_C]
    unfold zC zO
    rcases hk with rfl | rfl
    · rw [if_pos rfl] at hT
      rw [if_pos hT]
    · rw [if_neg (by decide)] at hT
      rw [if_neg (by omega), if_pos hT]
  unfold fo_X4_readPiece
  refine T_qc (u_sign hn M hG) ?_
  rintro r1 m2 ⟨rfl, hr1⟩
  rw [hX.1, hX.2] at hr1
  refine T_eq rfl l_40 (fun c => ?_) (fun c => ?_)
  · have hz := hop 13 (Or.inr rfl) (by rw [if_neg (by decide)]; omega)
    refine T_qc (w_opens a1 m2 hG (by omega)) ?_
    rintro r7 m8 ⟨ho8, z2, z3, g8⟩
    have hX8 : Cx R len m8 := ⟨by rw [z3 2 (by decide)]; exact hX.1, by rw [z2 2 (by decide) (by decide)]; exact hX.2⟩
    refine T_eq rfl l_0 (fun d => ?_) (fun d => ?_)
    · refine T_ret ⟨⟨hX8, g8⟩, Or.inl ⟨l_0, Lo_st ?_⟩⟩
      rw [hz, if_pos (by omega)]
      unfold zF
      have : (m8 1 4).toInt = -5000 - (m2 1 3).toInt := by omega
      rw [this]
      rfl
    · have e3 : (m8 1 3).toInt = (m2 1 3).toInt + 1 := by omega
      have hst : Lo (tq R len) (2, (m2 1 3).toInt, 0, C, W) (2, (m8 1 3).toInt, 0, C, (13, 0) :: W) := by
        refine Lo_st ?_
        rw [hz, if_neg (by omega), e3]
      have ea : (a1 + 1).toInt = a1.toInt + 1 := i_add rfl l_1 (by omega) (by omega)
      refine T_qc (hFC (a1 + 1) m8 C ((13, 0) :: W) ⟨g8, hX8, CR_1 hr hC z3, by omega, by omega⟩ (by show opn W + _ = _; rw [if_pos (Or.inr (Or.inl rfl)), ea, ho]) (by omega) rfl (by omega)) ?_
      rintro r9 m10 ⟨⟨hX10, g10⟩, ho10⟩
      refine T_eq rfl l_0 (fun e => ?_) (fun e => ?_)
      · rcases ho10 with ⟨q1, q2⟩ | ⟨q1, q2⟩
        · exact T_ret ⟨⟨hX10, g10⟩, Or.inl ⟨l_0, Lo_tr hst q2⟩⟩
        · omega
      · obtain ⟨q1, C', q2, q3, q4, q5, q6, q7⟩ := ho10.resolve_left (fun q => e q.1)
        clear ho10
        refine T_qc (w_must hn (41 : Int32) m10 g10 (by decide)) ?_
        rintro r11 m12 ⟨ho12, v2, v3, g12⟩
        rw [hX10.1, hX10.2, l_41] at ho12
        have hX12 : Cx R len m12 := ⟨by rw [v3 2 (by decide)]; exact hX10.1, by rw [v2 2 (by decide) (by decide)]; exact hX10.2⟩
        have hzD : zS (tq R len) (3, (m10 1 3).toInt, 0, C', (13, 0) :: W) = (if tq R len (m10 1 3).toInt = 41 then (3, (m10 1 3).toInt + 1, 0, C', W) else zF 1 (m10 1 3).toInt) := by
          rw [ls_D, zD_c]
          rw [if_neg (by decide), if_neg (by decide), if_neg (fun q => absurd q.1 (by decide))]
          unfold zH
          by_cases h41 : tq R len (m10 1 3).toInt = 41
          · rw [if_pos ⟨h41, rfl⟩, if_pos h41, if_neg (by obtain ⟨x, w, e⟩ := hWne; rw [e]; exact List.cons_ne_nil _ _)]
          · rw [if_neg (fun q => h41 q.1), if_neg h41, if_neg q7.1, if_neg q7.2]
        refine T_eq rfl l_0 (fun f => ?_) (fun f => ?_)
        · refine T_ret ⟨⟨hX12, g12⟩, Or.inl ⟨l_0, Lo_tr hst (Lo_tr q2 (Lo_st ?_))⟩⟩
          rw [hzD, if_neg (by omega)]
          unfold zF
          have : (m12 1 4).toInt = -1000 - (m10 1 3).toInt := by omega
          rw [this]
          rfl
        · have e12 : (m12 1 3).toInt = (m10 1 3).toInt + 1 := by omega
          refine T_ret ⟨⟨hX12, g12⟩, Or.inr ⟨l_1, C', Lo_tr hst (Lo_tr q2 (Lo_st ?_)), CR_1 hr q3 v3, by omega, by omega, by omega, trivial⟩⟩
          rw [hzD, if_pos (by omega), e12]
  · refine T_qc (u_sign hn m2 hG) ?_
    rintro r3 m4 ⟨rfl, hr3⟩
    rw [hX.1, hX.2] at hr3
    refine T_eq rfl l_33 (fun d => ?_) (fun d => ?_)
    · have hz := hop 10 (Or.inl rfl) (by rw [if_pos rfl]; omega)
      refine T_qc (w_opens a1 m4 hG (by omega)) ?_
      rintro r11 m12 ⟨ho12, z2, z3, g12⟩
      have hX12 : Cx R len m12 := ⟨by rw [z3 2 (by decide)]; exact hX.1, by rw [z2 2 (by decide) (by decide)]; exact hX.2⟩
      have bad : ∀ (m : qM), G m → Cx R len m → Lo (tq R len) (2, (m4 1 3).toInt, 0, C, W) (4, (m 1 4).toInt, 0, [], []) → qT (f_X4_readPiece_82 n r FC FP m) (Lz R len r (2, (m4 1 3).toInt, 0, C, W) (m4 1 3).toInt C 3 0 W (fun _ => True)) := by
        intro m g hX' hLo
        unfold f_X4_readPiece_82 f_X4_readPiece_83
        refine T_qc (w_addx hn hr (2 : Int32) 0 m g hX' (by rw [l_0]; omega) (fun q => absurd q (by decide))) ?_
        rintro _ m5 ⟨e1, hX5, g5⟩
        exact T_qb l_0 (by omega) (by omega) (T_ret ⟨⟨hX5, g5⟩, Or.inl ⟨l_0, by rw [e1]; exact hLo⟩⟩)
      refine T_eq rfl l_0 (fun e => ?_) (fun e => ?_)
      · refine bad m12 g12 hX12 (Lo_st ?_)
        rw [hz, if_pos (by omega)]
        unfold zF
        have : (m12 1 4).toInt = -5000 - (m4 1 3).toInt := by omega
        rw [this]
        rfl
      · have e3 : (m12 1 3).toInt = (m4 1 3).toInt + 1 := by omega
        have hst : Lo (tq R len) (2, (m4 1 3).toInt, 0, C, W) (2, (m12 1 3).toInt, 0, C, (10, 0) :: W) := by
          refine Lo_st ?_
          rw [hz, if_neg (by omega), e3]
        have ea : (a1 + 1).toInt = a1.toInt + 1 := i_add rfl l_1 (by omega) (by omega)
        refine T_qc (hFP (a1 + 1) m12 C ((10, 0) :: W) ⟨g12, hX12, CR_1 hr hC z3, by omega, by omega⟩ (by show opn W + _ = _; rw [if_pos (Or.inl rfl), ea, ho]) (by omega) (by show (10 : Int) ≤ 10; decide) (by show (10 : Int) ≠ 14; decide) (by omega)) ?_
        rintro r13 m14 ⟨⟨hX14, g14⟩, ho14⟩
        refine T_eq rfl l_0 (fun f => ?_) (fun f => ?_)
        · rcases ho14 with ⟨q1, q2⟩ | ⟨q1, q2⟩
          · exact bad m14 g14 hX14 (Lo_tr hst q2)
          · omega
        · obtain ⟨q1, C', q2, q3, q4, q5, q6, q7⟩ := ho14.resolve_left (fun q => f q.1)
          clear ho14
          unfold f_X4_readPiece_83
          refine T_qc (w_add hr (C := C') (2 : Int32) 0 m14 g14 q3 (by omega) (by rw [l_0]; omega) (fun q => absurd q (by decide))) ?_
          rintro _ m5 ⟨v1, v2, v3, v4, v5, g5⟩
          obtain ⟨⟨n1, n2, n3⟩, n4, n5, n6⟩ := nr hr
          have e1 : m5 1 = m14 1 := v4 1 n1 n2 n3
          have e2 : m5 2 = m14 2 := v4 2 n4 n5 n6
          refine T_qb l_1 (by omega) (by omega) (T_ret ⟨⟨⟨by rw [e2]; exact hX14.1, by rw [e1]; exact hX14.2⟩, g5⟩, Or.inr ⟨l_1, _, Lo_tr hst (Lo_tr q2 (Lo_st ?_)), v2, ?_, by rw [e1]; omega, by rw [e1]; exact q6, trivial⟩⟩)
          · rw [ls_D, zD_c]
            rw [if_pos rfl, e1]
            unfold enc
            rw [l_2, if_neg (by decide), if_neg (by decide), if_pos rfl]
          · rw [List.length_append, List.length_singleton, e1]; omega
    · have hst : Lo (tq R len) (2, (m4 1 3).toInt, 0, C, W) (0, (m4 1 3).toInt, 1, C, W) := by
        refine Lo_st ?_
        rw [ls_C]
        unfold zC
        rw [if_neg (by omega), if_neg (by omega)]
      have hsE : ∀ (pl ph : Int) (C' : List Int), sg (tq R len pl) = -1 → zS (tq R len) (1, pl, ph, C', W) = zE (tq R len) pl ph C' W := by
        intro pl ph C' hs
        obtain ⟨q, w, e⟩ := hWne
        subst e
        have hq : 10 ≤ q.1 := hW
        have hq14 : q.1 ≠ 14 := h14
        rw [ls_B, zB_c]
        rw [if_neg (by omega), if_neg (fun x => absurd x.1.2 (by omega))]
        unfold zG
        rw [if_neg (by omega), if_neg hq14]
      refine T_qc (w_sum hn hr hl a1 m4 C 1 W hL ho ha (tpk_S hW)) ?_
      rintro r5 m6 ⟨⟨hX6, g6⟩, ho6⟩
      refine T_eq rfl l_0 (fun e => ?_) (fun e => ?_)
      · rcases ho6 with ⟨q1, q2⟩ | ⟨q1, q2⟩
        · exact T_ret ⟨⟨hX6, g6⟩, Or.inl ⟨l_0, Lo_tr hst q2⟩⟩
        · omega
      · obtain ⟨q1, C', q2, q3, q4, q5, q6, q7⟩ := ho6.resolve_left (fun q => e q.1)
        clear ho6
        have hcp6 := cp_r (tq R len (m6 1 3).toInt)
        have ht6 := tq_r R len (m6 1 3).toInt
        have h136 := r_1_3 g6
        have hE1 := hsE (m6 1 3).toInt 1 C' q7
        refine T_qc (u_sign hn m6 g6) ?_
        rintro r7 m8 ⟨rfl, hr7⟩
        rw [hX6.1, hX6.2] at hr7
        have go : 0 ≤ cp (tq R len (m8 1 3).toInt) → qT (f_X4_readPiece_148 n r FC FP a1 r7 m8) (Lz R len r (2, (m4 1 3).toInt, 0, C, W) (m4 1 3).toInt C 3 0 W (fun _ => True)) := by
          intro hcpos
          unfold f_X4_readPiece_148
          refine w_pl g6 (by omega) ?_
          intro m1 y1 y2 y3 g1
          have hX1 : Cx R len m1 := ⟨by rw [y3 2 (by decide)]; exact hX6.1, by rw [y2 2 (by decide)]; exact hX6.2⟩
          have hst2 : Lo (tq R len) (2, (m4 1 3).toInt, 0, C, W) (0, (m1 1 3).toInt, cp (tq R len (m8 1 3).toInt), C', W) := by
            refine Lo_tr hst (Lo_tr q2 (Lo_st ?_))
            rw [hE1]
            unfold zE
            rw [if_neg (by decide), if_pos rfl, if_neg (by omega), y1]
          refine T_qc (w_sum hn hr hl a1 m1 C' (cp (tq R len (m8 1 3).toInt)) W ⟨g1, hX1, CR_1 hr q3 y3, by omega, by omega⟩ ho ha (tpk_S hW)) ?_
          rintro r2 m3 ⟨⟨hX3, g3⟩, ho3⟩
          rcases ho3 with ⟨u1, u2⟩ | ⟨u1, C2, u2, u3, u4, u5, u6, u7⟩
          · refine T_qc (w_addx hn hr r7 0 m3 g3 hX3 (by rw [l_0]; omega) (fun q => by rw [l_0]; omega)) ?_
            rintro _ m5 ⟨e1, hX5, g5⟩
            exact T_qb rfl (by omega) (by omega) (T_ret ⟨⟨hX5, g5⟩, Or.inl ⟨u1, by rw [e1]; exact Lo_tr hst2 u2⟩⟩)
          · refine T_qc (w_add hr (C := C2) r7 0 m3 g3 u3 (by omega) (by rw [l_0]; omega) (fun q => by rw [l_0]; omega)) ?_
            rintro _ m5 ⟨v1, v2, v3, v4, v5, g5⟩
            obtain ⟨⟨n1, n2, n3⟩, n4, n5, n6⟩ := nr hr
            have e1 : m5 1 = m3 1 := v4 1 n1 n2 n3
            have e2 : m5 2 = m3 2 := v4 2 n4 n5 n6
            refine T_qb rfl (by omega) (by omega) (T_ret ⟨⟨⟨by rw [e2]; exact hX3.1, by rw [e1]; exact hX3.2⟩, g5⟩, Or.inr ⟨u1, _, Lo_tr hst2 (Lo_tr u2 (Lo_st ?_)), v2, ?_, by rw [e1]; omega, by rw [e1]; exact u6, trivial⟩⟩)
            · rw [hsE _ _ _ u7]
              unfold zE
              rw [if_neg (by omega), if_neg (by omega), e1, l_0, show r7.toInt = tq R len (m8 1 3).toInt from hr7, enc_c hcpos]
            · rw [List.length_append, List.length_singleton, e1]; omega
        refine T_eq rfl l_60 (fun f => go (by omega)) (fun f => ?_)
        refine T_eq rfl l_62 (fun f2 => go (by omega)) (fun f2 => ?_)
        refine T_eq rfl l_61 (fun f3 => go (by omega)) (fun f3 => ?_)
        refine T_qc (w_fails (1 : Int32) (m8 1 3) m8 g6 (by decide) h136) ?_
        rintro r9 m10 ⟨w0, w1, w2, w3, g10⟩
        rw [l_1] at w1
        refine T_qb rfl (by omega) (by omega) (T_ret ⟨⟨⟨by rw [w3 2 (by decide)]; exact hX6.1, by rw [w2 2 (by decide)]; exact hX6.2⟩, g10⟩, Or.inl ⟨w0, Lo_tr hst (Lo_tr q2 (Lo_st ?_))⟩⟩)
        rw [hE1]
        unfold zE
        rw [if_neg (by decide), if_pos rfl, if_pos (by omega)]
        unfold zF
        rw [w1]
