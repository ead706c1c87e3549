/-- a sign's code is added, whether the reading went well or not -/
theorem w_addx {n : Nat} (hn : 200000 ≤ n) {r : Nat} (hr : q_isLaw r) {R : Nat → Int32} {len : Int} (a1 a2 : Int32) (M : qM) (hG : G M) (hX : Cx R len M) (pa2 : 0 ≤ a2.toInt ∧ a2.toInt ≤ 1000000) (pe : a1.toInt = 1 → a2.toInt ≤ 11) : qT (f_X3_add n r a1 a2 M) (fun _ m => m 1 = M 1 ∧ Cx R len m ∧ G m) := by
  refine T_mono (t_X3_add hn hr a1 a2 M hG pa2 pe) ?_
  rintro v m ⟨_, _, _, g, s⟩
  have e1 : m 1 = M 1 := funext (fun s_ => s 1 s_ (outc rfl))
  have e2 : m 2 = M 2 := funext (fun s_ => s 2 s_ (outc rfl))
  exact ⟨e1, ⟨by rw [e2]; exact hX.1, by rw [e1]; exact hX.2⟩, g⟩
theorem w_prod8 {n : Nat} (hn : 200000 ≤ n) {r : Nat} (hr : q_isLaw r) {R : Nat → Int32} {len : Int} (hl : len ≤ 240) {F : Int32 → qM → qR} (a1 : Int32) {c0 : Lc} {pl0 ph : Int} {C0 : List Int} {W : List (Int × Int)} (hW : topP W) (h0 : 0 ≤ pl0) (hC00 : (C0.length : Int) ≤ pl0)
    (hF : ∀ (M : qM) (C : List Int) (W : List (Int × Int)), Ly R len r C M → opn W = a1.toInt → qT (F a1 M) (Lz R len r (0, (M 1 3).toInt, ph, C, W) (M 1 3).toInt C 1 ph W (fun _ => True))) (ho : opn W = a1.toInt) :
    ∀ (m : Nat) (a2 a3 : Int32) (M : qM), 0 ≤ a3.toInt → a3.toInt ≤ 240 → Lz R len r c0 pl0 C0 1 ph W (fun _ => True) a2 M → (a2.toInt = 0 ∨ 2 * a3.toInt + 1 ≤ (M 1 3).toInt) → (a2.toInt = 0 ∨ 241 - a3.toInt < (m : Int)) → 0 < m → qT (f_X4_readProduct_8 n r F m a1 a2 a3 M) (Lz R len r c0 pl0 C0 1 ph W (fun x => ¬ 4 ≤ sg x)) := by
  intro m
  induction m with
  | zero => intro a2 a3 M _ _ _ _ _ h; exfalso; omega
  | succ m ih =>
    intro a2 a3 M ha3 ha4 hL h2 h4 hm
    obtain ⟨⟨hX, hG⟩, hor⟩ := hL
    have h13 := r_1_3 hG
    have hlen := hX.2
    show qT (b_X4_readProduct_8 n r F (f_X4_readProduct_8 n r F m) a1 a2 a3 M) _
    unfold b_X4_readProduct_8
    refine T_le l_240 rfl (fun c => ?_) (fun c => ?_)
    · rcases hor with ⟨q1, q2⟩ | ⟨q1, C', q2, q3, q4, q5, q6, _⟩
      · exact T_qb rfl (by omega) (by omega) (T_ret ⟨⟨hX, hG⟩, Or.inl ⟨q1, q2⟩⟩)
      · exfalso; omega
    · refine T_eq rfl l_0 (fun d => ?_) (fun d => ?_)
      · rcases hor with ⟨q1, q2⟩ | ⟨q1, q2⟩
        · exact T_qb rfl (by omega) (by omega) (T_ret ⟨⟨hX, hG⟩, Or.inl ⟨q1, q2⟩⟩)
        · omega
      · obtain ⟨q1, C', q2, q3, q4, q5, q6, _⟩ := hor.resolve_left (fun q => d q.1)
        clear hor
        refine T_qc (u_sign hn M hG) ?_
        rintro r1 m2 ⟨rfl, hr1⟩
        rw [hX.1, hX.2] at hr1
        have hs := sg_r (tq R len (m2 1 3).toInt)
        have ht := tq_r R len (m2 1 3).toInt
        have go : 4 ≤ sg (tq R len (m2 1 3).toInt) → qT (f_X4_readProduct_51 n r F (f_X4_readProduct_8 n r F m) a1 a3 r1 m2) (Lz R len r c0 pl0 C0 1 ph W (fun x => ¬ 4 ≤ sg x)) := by
          intro h4s
          unfold f_X4_readProduct_51
          refine w_pl hG (by omega) ?_
          intro m1 y1 y2 y3 g1
          have hX1 : Cx R len m1 := ⟨by rw [y3 2 (by decide)]; exact hX.1, by rw [y2 2 (by decide)]; exact hX.2⟩
          have hst : Lo (tq R len) c0 (0, (m1 1 3).toInt, ph, C', (sg (tq R len (m2 1 3).toInt), 0) :: W) := by
            refine Lo_tr q2 (Lo_st ?_)
            rw [ls_B, y1]
            cases W with
            | nil =>
              show zG _ _ _ _ _ _ _ = _
              unfold zG
              rw [if_pos (by omega)]
            | cons x y =>
              have hx := hW x y rfl
              show (if _ then _ else _) = _
              rw [if_neg hx, if_neg (fun q => q.2 h4s)]
              unfold zG
              rw [if_pos (by omega)]
          refine T_qc (hF m1 C' ((sg (tq R len (m2 1 3).toInt), 0) :: W) ⟨g1, hX1, CR_1 hr q3 y3, by omega, by omega⟩ (by show opn W + _ = _; rw [if_neg (by show ¬ (sg (tq R len (m2 1 3).toInt) = 10 ∨ sg (tq R len (m2 1 3).toInt) = 13 ∨ sg (tq R len (m2 1 3).toInt) = 14); omega)]; omega)) ?_
          rintro r2 m3 ⟨⟨hX3, g3⟩, ho3⟩
          rcases ho3 with ⟨u1, u2⟩ | ⟨u1, C2, u2, u3, u4, u5, u6, _⟩
          · refine T_qc (w_addx hn hr r1 0 m3 g3 hX3 (by rw [l_0]; omega) (fun q => by rw [l_0]; omega)) ?_
            rintro _ m5 ⟨e1, hX5, g5⟩
            refine T_ql (i_add rfl l_1 (by omega) (by omega)) ?_
            intro x6 hx6
            exact ih r2 x6 m5 (by omega) (by omega) ⟨⟨hX5, g5⟩, Or.inl ⟨u1, by rw [e1]; exact Lo_tr hst u2⟩⟩ (Or.inl u1) (Or.inl u1) (by omega)
          · refine T_qc (w_add hr (C := C2) r1 0 m3 g3 u3 (by omega) (by rw [l_0]; omega) (fun q => by rw [l_0]; omega)) ?_
            rintro _ m5 ⟨v1, v2, v3, v4, v5, g5⟩
            obtain ⟨⟨n1, n2, n3⟩, n4, n5, n6⟩ := nr hr
            have e1 : m5 1 = m3 1 := v4 1 n1 n2 n3
            have e2 : m5 2 = m3 2 := v4 2 n4 n5 n6
            refine T_ql (i_add rfl l_1 (by omega) (by omega)) ?_
            intro x6 hx6
            have h13b := r_1_3 g5
            refine ih r2 x6 m5 (by omega) (by omega) ⟨⟨⟨by rw [e2]; exact hX3.1, by rw [e1]; exact hX3.2⟩, g5⟩, Or.inr ⟨u1, C2 ++ [enc r1.toInt ((0 : Int32)).toInt], Lo_tr hst (Lo_tr u2 (Lo_st ?_)), v2, ?_, by rw [e1]; omega, by rw [e1]; exact u6, trivial⟩⟩ (Or.inr (by rw [e1]; omega)) (Or.inr (by rw [e1] at h13b; omega)) (by omega)
            · rw [ls_B, zB_c]
              rw [if_pos (by show 4 ≤ sg _ ∧ sg _ ≤ 6; omega), e1, l_0, show r1.toInt = tq R len (m2 1 3).toInt from hr1, enc_s (by omega)]
            · rw [List.length_append, List.length_singleton, e1]; omega
        refine T_eq rfl l_42 (fun f => go (by omega)) (fun f => ?_)
        refine T_eq rfl l_47 (fun f2 => go (by omega)) (fun f2 => ?_)
        refine T_eq rfl l_37 (fun f3 => go (by omega)) (fun f3 => ?_)
        exact T_ret ⟨⟨hX, hG⟩, Or.inr ⟨l_1, C', q2, q3, q4, q5, q6, by omega⟩⟩
theorem w_prod {n : Nat} (hn : 200000 ≤ n) {r : Nat} (hr : q_isLaw r) {R : Nat → Int32} {len : Int} (hl : len ≤ 240) {F : Int32 → qM → qR} (a1 : Int32) {ph : Int}
    (hF : ∀ (M : qM) (C : List Int) (W : List (Int × Int)), Ly R len r C M → opn W = a1.toInt → qT (F a1 M) (Lz R len r (0, (M 1 3).toInt, ph, C, W) (M 1 3).toInt C 1 ph W (fun _ => True))) (M : qM) (C : List Int) (W : List (Int × Int)) (hL : Ly R len r C M) (ho : opn W = a1.toInt) (hW : topP W) : qT (fo_X4_readProduct n r F a1 M) (Lz R len r (0, (M 1 3).toInt, ph, C, W) (M 1 3).toInt C 1 ph W (fun x => ¬ 4 ≤ sg x)) := by
  unfold fo_X4_readProduct
  have h13 := r_1_3 hL.1
  refine T_qc (hF M C W hL ho) ?_
  rintro r1 m2 hz
  have hz2 := hz
  obtain ⟨_, hor⟩ := hz2
  refine w_prod8 hn hr hl a1 hW h13.1 hL.2.2.2.1 hF ho n r1 0 m2 (by rw [l_0]; omega) (by rw [l_0]; omega) hz ?_ (Or.inr (by rw [l_0]; omega)) (by omega)
  rcases hor with q | ⟨q1, C', q2, q3, q4, q5, q6, _⟩
  · exact Or.inl q.1
  · exact Or.inr (by rw [l_0]; omega)
theorem w_sum8 {n : Nat} (hn : 200000 ≤ n) {r : Nat} (hr : q_isLaw r) {R : Nat → Int32} {len : Int} (hl : len ≤ 240) {F : Int32 → qM → qR} (a1 : Int32) {c0 : Lc} {pl0 ph : Int} {C0 : List Int} {W : List (Int × Int)} (hW : topS W) (h0 : 0 ≤ pl0) (hC00 : (C0.length : Int) ≤ pl0)
    (hF : ∀ (M : qM) (C : List Int) (W : List (Int × Int)), Ly R len r C M → opn W = a1.toInt → topP W → qT (F a1 M) (Lz R len r (0, (M 1 3).toInt, ph, C, W) (M 1 3).toInt C 1 ph W (fun x => ¬ 4 ≤ sg x))) (ho : opn W = a1.toInt) :
    ∀ (m : Nat) (a2 a3 : Int32) (M : qM), 0 ≤ a3.toInt → a3.toInt ≤ 240 → Lz R len r c0 pl0 C0 1 ph W (fun x => ¬ 4 ≤ sg x) a2 M → (a2.toInt = 0 ∨ 2 * a3.toInt + 1 ≤ (M 1 3).toInt) → (a2.toInt = 0 ∨ 241 - a3.toInt < (m : Int)) → 0 < m → qT (f_X4_readSum_8 n r F m a1 a2 a3 M) (Lz R len r c0 pl0 C0 1 ph W (fun x => sg x = -1)) := by
  intro m
  induction m with
  | zero => intro a2 a3 M _ _ _ _ _ h; exfalso; omega
  | succ m ih =>
    intro a2 a3 M ha3 ha4 hL h2 h4 hm
    obtain ⟨⟨hX, hG⟩, hor⟩ := hL
    have h13 := r_1_3 hG
    have hlen := hX.2
    show qT (b_X4_readSum_8 n r F (f_X4_readSum_8 n r F m) a1 a2 a3 M) _
    unfold b_X4_readSum_8
    refine T_le l_240 rfl (fun c => ?_) (fun c => ?_)
    · rcases hor with ⟨q1, q2⟩ | ⟨q1, C', q2, q3, q4, q5, q6, _⟩
      · exact T_qb rfl (by omega) (by omega) (T_ret ⟨⟨hX, hG⟩, Or.inl ⟨q1, q2⟩⟩)
      · exfalso; omega
    · refine T_eq rfl l_0 (fun d => ?_) (fun d => ?_)
      · rcases hor with ⟨q1, q2⟩ | ⟨q1, q2⟩
        · exact T_qb rfl (by omega) (by omega) (T_ret ⟨⟨hX, hG⟩, Or.inl ⟨q1, q2⟩⟩)
        · omega
      · obtain ⟨q1, C', q2, q3, q4, q5, q6, q7⟩ := hor.resolve_left (fun q => d q.1)
        clear hor
        refine T_qc (u_sign hn M hG) ?_
        rintro r1 m2 ⟨rfl, hr1⟩
        rw [hX.1, hX.2] at hr1
        have hs := sg_r (tq R len (m2 1 3).toInt)
        have ht := tq_r R len (m2 1 3).toInt
        have go : (2 ≤ sg (tq R len (m2 1 3).toInt) ∧ sg (tq R len (m2 1 3).toInt) ≤ 3) → qT (f_X4_readSum_44 n r F (f_X4_readSum_8 n r F m) a1 a3 r1 m2) (Lz R len r c0 pl0 C0 1 ph W (fun x => sg x = -1)) := by
          intro h4s
          unfold f_X4_readSum_44
          refine w_pl hG (by omega) ?_
          intro m1 y1 y2 y3 g1
          have hX1 : Cx R len m1 := ⟨by rw [y3 2 (by decide)]; exact hX.1, by rw [y2 2 (by decide)]; exact hX.2⟩
          have hst : Lo (tq R len) c0 (0, (m1 1 3).toInt, ph, C', (sg (tq R len (m2 1 3).toInt), 0) :: W) := by
            refine Lo_tr q2 (Lo_st ?_)
            rw [ls_B, y1]
            cases W with
            | nil =>
              show zG _ _ _ _ _ _ _ = _
              unfold zG
              rw [if_pos (by omega)]
            | cons x y =>
              have hx := hW x y rfl
              show (if _ then _ else _) = _
              rw [if_neg (by omega), if_neg (fun q => hx ⟨q.1.1, by omega⟩)]
              unfold zG
              rw [if_pos (by omega)]
          refine T_qc (hF m1 C' ((sg (tq R len (m2 1 3).toInt), 0) :: W) ⟨g1, hX1, CR_1 hr q3 y3, by omega, by omega⟩ (by show opn W + _ = _; rw [if_neg (by show ¬ (sg (tq R len (m2 1 3).toInt) = 10 ∨ sg (tq R len (m2 1 3).toInt) = 13 ∨ sg (tq R len (m2 1 3).toInt) = 14); omega)]; omega) (fun q q2 e => by cases e; show ¬ (4 ≤ sg _ ∧ sg _ ≤ 6); omega)) ?_
          rintro r2 m3 ⟨⟨hX3, g3⟩, ho3⟩
          rcases ho3 with ⟨u1, u2⟩ | ⟨u1, C2, u2, u3, u4, u5, u6, u7⟩
          · refine T_qc (w_addx hn hr r1 0 m3 g3 hX3 (by rw [l_0]; omega) (fun q => by rw [l_0]; omega)) ?_
            rintro _ m5 ⟨e1, hX5, g5⟩
            refine T_ql (i_add rfl l_1 (by omega) (by omega)) ?_
            intro x6 hx6
            exact ih r2 x6 m5 (by omega) (by omega) ⟨⟨hX5, g5⟩, Or.inl ⟨u1, by rw [e1]; exact Lo_tr hst u2⟩⟩ (Or.inl u1) (Or.inl u1) (by omega)
          · refine T_qc (w_add hr (C := C2) r1 0 m3 g3 u3 (by omega) (by rw [l_0]; omega) (fun q => by rw [l_0]; omega)) ?_
            rintro _ m5 ⟨v1, v2, v3, v4, v5, g5⟩
            obtain ⟨⟨n1, n2, n3⟩, n4, n5, n6⟩ := nr hr
            have e1 : m5 1 = m3 1 := v4 1 n1 n2 n3
            have e2 : m5 2 = m3 2 := v4 2 n4 n5 n6
            refine T_ql (i_add rfl l_1 (by omega) (by omega)) ?_
            intro x6 hx6
            have h13b := r_1_3 g5
            refine ih r2 x6 m5 (by omega) (by omega) ⟨⟨⟨by rw [e2]; exact hX3.1, by rw [e1]; exact hX3.2⟩, g5⟩, Or.inr ⟨u1, C2 ++ [enc r1.toInt ((0 : Int32)).toInt], Lo_tr hst (Lo_tr u2 (Lo_st ?_)), v2, ?_, by rw [e1]; omega, by rw [e1]; exact u6, by rw [e1]; exact u7⟩⟩ (Or.inr (by rw [e1]; omega)) (Or.inr (by rw [e1] at h13b; omega)) (by omega)
            · rw [ls_B, zB_c]
              rw [if_neg (by show ¬ (4 ≤ sg _ ∧ sg _ ≤ 6); omega), if_pos ⟨h4s, u7⟩, e1, l_0, show r1.toInt = tq R len (m2 1 3).toInt from hr1, enc_s (by omega)]
            · rw [List.length_append, List.length_singleton, e1]; omega
        refine T_eq rfl l_43 (fun f => go (by omega)) (fun f => ?_)
        refine T_eq rfl l_45 (fun f2 => go (by omega)) (fun f2 => ?_)
        exact T_ret ⟨⟨hX, hG⟩, Or.inr ⟨l_1, C', q2, q3, q4, q5, q6, by omega⟩⟩
theorem w_sumrc {n : Nat} (hn : 200000 ≤ n) {r : Nat} (hr : q_isLaw r) {R : Nat → Int32} {len : Int} (hl : len ≤ 240) : ∀ m : Nat,
    (∀ (a1 : Int32) (M : qM) (C : List Int) (ph : Int) (W : List (Int × Int)), Ly R len r C M → opn W = a1.toInt → 0 ≤ a1.toInt ∧ a1.toInt ≤ 6 → 3 * (6 - a1.toInt) < (m : Int) → qT (rc_X4_readFactor n r m 0 a1 M) (Lz R len r (0, (M 1 3).toInt, ph, C, W) (M 1 3).toInt C 1 ph W (fun _ => True))) ∧
    (∀ (a1 : Int32) (M : qM) (C : List Int) (ph : Int) (W : List (Int × Int)), Ly R len r C M → opn W = a1.toInt → 0 ≤ a1.toInt ∧ a1.toInt ≤ 6 → topP W → 3 * (6 - a1.toInt) + 1 < (m : Int) → qT (rc_X4_readFactor n r m 1 a1 M) (Lz R len r (0, (M 1 3).toInt, ph, C, W) (M 1 3).toInt C 1 ph W (fun x => ¬ 4 ≤ sg x))) ∧
    (∀ (a1 : Int32) (M : qM) (C : List Int) (ph : Int) (W : List (Int × Int)), Ly R len r C M → opn W = a1.toInt → 0 ≤ a1.toInt ∧ a1.toInt ≤ 6 → topS W → 3 * (6 - a1.toInt) + 2 < (m : Int) → qT (rc_X4_readFactor n r m 2 a1 M) (Lz R len r (0, (M 1 3).toInt, ph, C, W) (M 1 3).toInt C 1 ph W (fun x => sg x = -1))) := by
  intro m
  induction m with
  | zero => exact ⟨fun a1 M C ph W _ _ q h => by exfalso; omega, fun a1 M C ph W _ _ q _ h => by exfalso; omega, fun a1 M C ph W _ _ q _ h => by exfalso; omega⟩
  | succ m ih =>
    refine ⟨fun a1 M C ph W hL ho ha hm => ?_, fun a1 M C ph W hL ho ha hW hm => ?_, fun a1 M C ph W hL ho ha hW hm => ?_⟩
    · show qT (fo_X4_readFactor n r (rc_X4_readFactor n r m 2) a1 M) _
      exact w_factor hn hr hl (B := m) ih.2.2 a1 M C ph W hL ho ha (by omega)
    · show qT (fo_X4_readProduct n r (rc_X4_readFactor n r m 0) a1 M) _
      exact w_prod hn hr hl a1 (fun M2 C2 W2 h h2 => ih.1 a1 M2 C2 ph W2 h h2 ha (by omega)) M C W hL ho hW
    · show qT (fo_X4_readSum n r (rc_X4_readFactor n r m 1) a1 M) _
      unfold fo_X4_readSum
      have h13 := r_1_3 hL.1
      refine T_qc (ih.2.1 a1 M C ph W hL ho ha (fun q q2 e => fun h => hW q q2 e ⟨by omega, h.2⟩) (by omega)) ?_
      rintro r1 m2 hz
      have hz2 := hz
      obtain ⟨_, hor⟩ := hz2
      refine w_sum8 hn hr hl a1 hW h13.1 hL.2.2.2.1 (fun M2 C2 W2 h h2 h3 => ih.2.1 a1 M2 C2 ph W2 h h2 ha h3 (by omega)) ho n r1 0 m2 (by rw [l_0]; omega) (by rw [l_0]; omega) hz ?_ (Or.inr (by rw [l_0]; omega)) (by omega)
      rcases hor with q | ⟨q1, C', q2, q3, q4, q5, q6, _⟩
      · exact Or.inl q.1
      · exact Or.inr (by rw [l_0]; omega)
theorem w_sum {n : Nat} (hn : 200000 ≤ n) {r : Nat} (hr : q_isLaw r) {R : Nat → Int32} {len : Int} (hl : len ≤ 240) (a1 : Int32) (M : qM) (C : List Int) (ph : Int) (W : List (Int × Int)) (hL : Ly R len r C M) (ho : opn W = a1.toInt) (ha : 0 ≤ a1.toInt ∧ a1.toInt ≤ 6) (hW : topS W) : qT (f_X4_readSum n r a1 M) (Lz R len r (0, (M 1 3).toInt, ph, C, W) (M 1 3).toInt C 1 ph W (fun x => sg x = -1)) := by
  unfold f_X4_readSum
  exact (w_sumrc hn hr hl 30).2.2 a1 M C ph W hL ho ha hW (by omega)
