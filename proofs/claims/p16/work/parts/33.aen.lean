def alP (A : List (Int × Int)) : Prop := ∀ q, q ∈ A → 2 ≤ q.1 ∧ q.1 ≤ 6
theorem alP_nil : alP [] := fun q h => absurd h (by simp)
theorem tpk_pos {W : List (Int × Int)} (h : 0 ≤ tpk W) : ∃ q r, W = q :: r ∧ q.1 = tpk W := by
  cases W with
  | nil => exact absurd h (by show ¬ (0 : Int) ≤ -1; decide)
  | cons q r => exact ⟨q, r, rfl, rfl⟩
theorem spl {W0 W2 : List (Int × Int)} (h0 : ¬ (2 ≤ tpk W0 ∧ tpk W0 ≤ 6)) : ∀ (A2 A : List (Int × Int)), A ++ W0 = A2 ++ W2 → alP A2 → ∃ A3, A = A2 ++ A3 ∧ W2 = A3 ++ W0 := by
  intro A2
  induction A2 with
  | nil => intro A h _; exact ⟨A, rfl, h.symm⟩
  | cons q A2 ih =>
    intro A h hA
    cases A with
    | nil =>
      exfalso
      have e : W0 = q :: (A2 ++ W2) := h
      rw [e] at h0
      exact h0 (hA q (List.mem_cons_self ..))
    | cons q2 A =>
      have e : q2 :: (A ++ W0) = q :: (A2 ++ W2) := h
      injection e with e1 e2
      obtain ⟨A3, h3, h4⟩ := ih A e2 (fun x hx => hA x (List.mem_cons_of_mem _ hx))
      exact ⟨A3, by rw [e1, h3]; rfl, h4⟩
abbrev Qcl (T : Int → Int) (R : Nat → Int32) (len : Int) (M0 : qM) (c0 : Lc) (ph : Int) (a : Int) (W : List (Int × Int)) (M m : qM) : Prop := ∃ C A W2, W = A ++ W2 ∧ alP A ∧ Mw R len M0 C W2 m ∧ m 77 9 = M 77 9 ∧ Lo T c0 (1, (M 77 9).toInt, ph, C, W2) ∧ ¬ (4 ≤ tpk W2 ∧ tpk W2 ≤ 6) ∧ (a ≠ 0 → ¬ (2 ≤ tpk W2 ∧ tpk W2 ≤ 6))
theorem x_closes {n : Nat} {R : Nat → Int32} {len : Int} {M0 : qM} {c0 : Lc} {ph : Int} (a1 : Int32) : ∀ (m : Nat) (M : qM) (C : List Int) (W : List (Int × Int)), Mw R len M0 C W M → Lo (tm R len) c0 (1, (M 77 9).toInt, ph, C, W) → (a1.toInt = 0 ∧ 4 ≤ sg (tm R len (M 77 9).toInt)) ∨ (a1.toInt ≠ 0 ∧ ¬ 4 ≤ sg (tm R len (M 77 9).toInt)) → qP (f_X12_closesSums_0 n m a1 M) (fun _ m => Qcl (tm R len) R len M0 c0 ph a1.toInt W M m) := by
  intro m
  induction m with
  | zero => intro M C W _ _ _; exact P_none
  | succ m ih =>
    intro M C W h hL ha
    have stop : ¬ (4 ≤ tpk W ∧ tpk W ≤ 6) → (a1.toInt ≠ 0 → ¬ (2 ≤ tpk W ∧ tpk W ≤ 6)) → Qcl (tm R len) R len M0 c0 ph a1.toInt W M M := fun h1 h2 => ⟨C, [], W, rfl, alP_nil, h, rfl, hL, h1, h2⟩
    have step : (2 ≤ tpk W ∧ tpk W ≤ 6) → (4 ≤ tpk W ∨ a1.toInt ≠ 0) → qP (f_X12_closesSums_37 n (f_X12_closesSums_0 n m) a1 M) (fun _ m => Qcl (tm R len) R len M0 c0 ph a1.toInt W M m) := by
      intro h1 h2
      obtain ⟨q, r, rfl, hq⟩ := tpk_pos (W := W) (by omega)
      rw [← hq] at h1 h2
      unfold f_X12_closesSums_37
      refine P_qc (x_top M h) ?_
      rintro r1 m2 ⟨rfl, ht⟩
      rw [← hq] at ht
      refine P_qc (x_notes r1 (0 : Int32) m2 h (by omega) (by rw [l_0]; decide)) ?_
      rintro _ m3 ⟨k1, k2⟩
      have ev : 1048576 * r1.toInt + (0 : Int32).toInt = 1048576 * q.1 := by rw [l_0, ht]; omega
      rw [ev] at k1
      refine x_pop m3 k1 (by omega) ?_
      intro m4 k3 k4
      have e9 : m4 77 9 = m2 77 9 := by rw [k4, k2]
      refine P_mono (ih m4 _ r k3 ?_ (by rw [e9]; exact ha)) ?_
      · rw [e9]
        refine Lo_tr hL (Lo_st ?_)
        rw [ls_B, zB_c]
        by_cases c : 4 ≤ q.1 ∧ q.1 ≤ 6
        · rw [if_pos c]
        · rw [if_neg c, if_pos ⟨by omega, by omega⟩]
      · rintro v m5 ⟨C5, A5, W5, p1, p2, p3, p4, p5, p6, p7⟩
        refine ⟨C5, q :: A5, W5, by rw [p1]; rfl, fun x hx => ?_, p3, by rw [p4, e9], by rw [e9] at p5; exact p5, p6, p7⟩
        rcases List.mem_cons.mp hx with rfl | hx2
        · exact h1
        · exact p2 x hx2
    have mid : (¬ (4 ≤ tpk W ∧ tpk W ≤ 6)) → qP (f_X12_closesSums_17 n (f_X12_closesSums_0 n m) a1 M) (fun _ m => Qcl (tm R len) R len M0 c0 ph a1.toInt W M m) := by
      intro h1
      unfold f_X12_closesSums_17
      refine P_eq rfl l_0 (fun c => ?_) (fun c => ?_)
      · exact P_ret (stop h1 (fun q => absurd c q))
      · refine P_qc (x_top M h) ?_
        rintro r1 m2 ⟨rfl, ht⟩
        refine P_eq rfl l_2 (fun d => ?_) (fun d => ?_)
        · exact step (by omega) (Or.inr c)
        · refine P_qc (x_top m2 h) ?_
          rintro r3 m4 ⟨rfl, ht3⟩
          refine P_eq rfl l_3 (fun e => ?_) (fun e => ?_)
          · exact step (by omega) (Or.inr c)
          · exact P_ret (stop h1 (fun _ => by clear stop step; omega))
    show qP (b_X12_closesSums_0 n (f_X12_closesSums_0 n m) a1 M) _
    unfold b_X12_closesSums_0
    refine P_qc (x_top M h) ?_
    rintro r1 m2 ⟨rfl, ht⟩
    refine P_lt rfl l_4 (fun c => ?_) (fun c => ?_)
    · exact mid (by omega)
    · refine P_qc (x_top m2 h) ?_
      rintro r3 m4 ⟨rfl, ht3⟩
      refine P_le rfl l_6 (fun d => ?_) (fun d => ?_)
      · exact step (by omega) (Or.inl (by omega))
      · exact mid (by omega)
theorem stw_mem {F : Nat → Int32} {W0 : List (Int × Int)} : ∀ (A : List (Int × Int)) (k : Nat), stw F k = A ++ W0 → (∀ q, q ∈ A → ∃ i, W0.length ≤ i ∧ i < k ∧ q.1 = (F i).toInt / 1048576) ∧ (∀ i, W0.length ≤ i → i < k → ∃ q, q ∈ A ∧ q.1 = (F i).toInt / 1048576) := by
  intro A
  induction A with
  | nil =>
    intro k h
    have hl := stw_len (F := F) k
    rw [h] at hl
    have hl2 : W0.length = k := hl
    exact ⟨fun q hq => absurd hq (by simp), fun i h1 h2 => by exfalso; omega⟩
  | cons q A ih =>
    intro k h
    obtain ⟨j, rfl, hj, hq⟩ := stw_pop (r := A ++ W0) h
    obtain ⟨i1, i2⟩ := ih j hj
    have hl := stw_len (F := F) j
    rw [hj, List.length_append] at hl
    refine ⟨fun x hx => ?_, fun i h1 h2 => ?_⟩
    · rcases List.mem_cons.mp hx with rfl | hx2
      · exact ⟨j, by omega, by omega, by rw [hq]⟩
      · obtain ⟨i, k1, k2, k3⟩ := i1 x hx2
        exact ⟨i, k1, by omega, k3⟩
    · by_cases c : i = j
      · exact ⟨q, List.mem_cons_self .., by rw [hq, c]⟩
      · obtain ⟨x, k1, k2⟩ := i2 i h1 (by omega)
        exact ⟨x, List.mem_cons_of_mem _ k1, k2⟩
theorem x_has {n : Nat} (hn : 200000 ≤ n) {R : Nat → Int32} {len : Int} {M0 : qM} {C : List Int} {A W0 : List (Int × Int)} (a1 : Int32) (M : qM) (h : Mw R len M0 C (A ++ W0) M) (ha : a1.toInt = (W0.length : Int)) : qP (f_X12_hasOpenSum n a1 M) (fun v m => m = M ∧ ((v.toInt = 0 ∧ ∀ q, q ∈ A → q.1 ≠ 14) ∨ (v.toInt ≠ 0 ∧ ∃ q, q ∈ A ∧ q.1 = 14))) := by
  obtain ⟨hg, hs, hx, hl, hp, hc, hf, hw, ho, h6, hj⟩ := h
  have h15 := r_77_15 hg
  obtain ⟨i1, i2⟩ := stw_mem A _ hw
  have hl2 := stw_len (F := M 86) (M 77 15).toInt.toNat
  rw [hw, List.length_append] at hl2
  unfold f_X12_hasOpenSum
  refine P_mono (P_T (m_hasOpen a1 (by omega) n a1 M hg (Int.le_refl _) (by omega) (fun i j1 j2 => by exfalso; omega) (by omega))) ?_
  rintro v m ⟨rfl, hv, h2⟩
  refine ⟨rfl, ?_⟩
  rcases h2 with ⟨k1, k2⟩ | ⟨k1, i, k2, k3, k4⟩
  · refine Or.inl ⟨k1, fun q hq => ?_⟩
    obtain ⟨i, j1, j2, j3⟩ := i1 q hq
    rw [j3]
    exact k2 i (by omega) (by omega)
  · obtain ⟨q, j1, j2⟩ := i2 i (by omega) (by omega)
    exact Or.inr ⟨k1, q, j1, by rw [j2]; exact k4⟩
/-- a bracket that is not shut is a fault -/
theorem z_bad14 {T : Int → Int} {pl ph : Int} {W0 : List (Int × Int)} (hs : sg (T pl) = -1) (h93 : T pl ≠ 93) : ∀ (A : List (Int × Int)) (C : List Int), alS A → (∃ q, q ∈ A ∧ q.1 = 14) → Lo T (1, pl, ph, C, A ++ W0) (zF 1 pl) := by
  intro A
  induction A with
  | nil => rintro C _ ⟨q, hq, _⟩; exact absurd hq (by simp)
  | cons q A ih =>
    intro C hA hE
    have hz : zS T (1, pl, ph, C, q :: (A ++ W0)) = zB T pl ph C (q :: (A ++ W0)) := rfl
    rcases hA q (List.mem_cons_self ..) with c | c
    · have hE2 : ∃ x, x ∈ A ∧ x.1 = 14 := by
        obtain ⟨x, hx, hx2⟩ := hE
        rcases List.mem_cons.mp hx with rfl | hx3
        · omega
        · exact ⟨x, hx3, hx2⟩
      refine Lo_tr (Lo_st (d := (1, pl, ph, C ++ [1048576 * q.1], A ++ W0)) ?_) (ih _ (fun x hx => hA x (List.mem_cons_of_mem _ hx)) hE2)
      show zS T (1, pl, ph, C, q :: (A ++ W0)) = _
      rw [hz]
      show (if _ then _ else _) = _
      by_cases d : 4 ≤ q.1 ∧ q.1 ≤ 6
      · rw [if_pos d]
      · rw [if_neg d, if_pos ⟨by omega, by omega⟩]
    · refine Lo_st ?_
      show zS T (1, pl, ph, C, q :: (A ++ W0)) = _
      rw [hz]
      show (if _ then _ else _) = _
      rw [if_neg (by omega), if_neg (by omega)]
      unfold zG
      rw [if_neg (by omega), if_pos c, if_neg h93]
abbrev nT (W : List (Int × Int)) : Prop := ¬ (2 ≤ tpk W ∧ tpk W ≤ 6) ∧ tpk W ≠ 14
theorem x_138 {n : Nat} (hn : 200000 ≤ n) {R : Nat → Int32} {len : Int} {M0 : qM} {c0 : Lc} {ph pl0 : Int} {W0 : List (Int × Int)} (h0 : nT W0) (a1 : Int32) (ha : a1.toInt = (W0.length : Int)) (M : qM) (C : List Int) (A : List (Int × Int)) (h : Mw R len M0 C (A ++ W0) M) (hA : alS A) (hL : Lo (tm R len) c0 (1, (M 77 9).toInt, ph, C, A ++ W0)) (hp : pl0 ≤ (M 77 9).toInt) (hs : sg (tm R len (M 77 9).toInt) = -1) (h93 : tm R len (M 77 9).toInt ≠ 93 ∨ ∀ q, q ∈ A → q.1 ≠ 14) : qP (f_X12_readsSum_138 n a1 M) (Xz (tm R len) R len M0 c0 1 ph pl0 (fun _ W p => W = W0 ∧ sg (tm R len p) = -1)) := by
  have h9 := r_77_9 h.1
  unfold f_X12_readsSum_138
  refine P_qc (x_has hn a1 M h ha) ?_
  rintro r1 m2 ⟨rfl, hr⟩
  refine P_eq rfl l_0 (fun c => ?_) (fun c => ?_)
  · have hno : ∀ q, q ∈ A → q.1 ≠ 14 := by
      rcases hr with ⟨_, k⟩ | ⟨k, _⟩
      · exact k
      · exact absurd c k
    unfold f_X12_closesSums
    refine P_qc (x_closes (1 : Int32) n m2 C (A ++ W0) h hL (Or.inr ⟨by rw [l_1]; decide, by omega⟩)) ?_
    rintro _ m3 ⟨C3, A2, W2, k1, k2, k3, k4, k5, k6, k7⟩
    have k8 := k7 (by rw [l_1]; decide)
    obtain ⟨A3, j1, j2⟩ := spl h0.1 A2 A k1 k2
    have hW : W2 = W0 := by
      cases A3 with
      | nil => exact j2
      | cons q A4 =>
        exfalso
        have hq : q ∈ A := by rw [j1]; exact List.mem_append_right _ (List.mem_cons_self ..)
        rw [j2] at k8
        have k9 : ¬ (2 ≤ q.1 ∧ q.1 ≤ 6) := k8
        have := hno q hq
        rcases hA q hq with d | d
        · exact k9 d
        · exact this d
    subst hW
    exact P_ret (Or.inr ⟨l_1, C3, W2, k3, by rw [k4]; exact k5, by rw [k4]; exact hp, rfl, by rw [k4]; exact hs⟩)
  · obtain ⟨hc, hE⟩ := hr.resolve_left (fun q => c q.1)
    have h93b : tm R len (m2 77 9).toInt ≠ 93 := by
      rcases h93 with q | q
      · exact q
      · obtain ⟨x, hx, hx2⟩ := hE
        exact absurd hx2 (q x hx)
    exact P_mono (x_fail (M0 := M0) (T := tm R len) (c0 := c0) (k := 1) (w := (m2 77 9).toInt) (1 : Int32) (m2 77 9) m2 h.1 h.2.1 l_1 rfl (by decide) h9 (Lo_tr hL (z_bad14 hs h93b A C hA hE))) (fun v m p => Or.inl p)
theorem x_38 {n : Nat} (hn : 200000 ≤ n) {R : Nat → Int32} {len : Int} {M0 : qM} {c0 : Lc} {ph pl0 : Int} {W0 : List (Int × Int)} (h0 : nT W0) {K : Int32 → qM → qR} (a1 : Int32)
    (hK : ∀ (M : qM) (C : List Int) (A : List (Int × Int)), Mw R len M0 C (A ++ W0) M → alS A → Lo (tm R len) c0 (1, (M 77 9).toInt, ph, C, A ++ W0) → pl0 ≤ (M 77 9).toInt → qP (K a1 M) (Xz (tm R len) R len M0 c0 1 ph pl0 (fun _ W p => W = W0 ∧ sg (tm R len p) = -1)))
    (a2 s1 : Int32) (M : qM) (C : List Int) (A : List (Int × Int)) (h : Mw R len M0 C (A ++ W0) M) (hA : alS A) (hL : Lo (tm R len) c0 (1, (M 77 9).toInt, ph, C, A ++ W0)) (hp : pl0 ≤ (M 77 9).toInt) (h2 : a2.toInt = sg (tm R len (M 77 9).toInt)) (hs : 0 ≤ sg (tm R len (M 77 9).toInt)) (hs1 : (s1.toInt = 0 ∧ 4 ≤ sg (tm R len (M 77 9).toInt)) ∨ (s1.toInt ≠ 0 ∧ ¬ 4 ≤ sg (tm R len (M 77 9).toInt))) : qP (f_X12_readsSum_38 n K a1 a2 s1 M) (Xz (tm R len) R len M0 c0 1 ph pl0 (fun _ W p => W = W0 ∧ sg (tm R len p) = -1)) := by
  have hsr := sg_r (tm R len (M 77 9).toInt)
  have ht := tm_r R len (M 77 9).toInt
  unfold f_X12_readsSum_38 f_X12_closesSums
  refine P_qc (x_closes s1 n M C (A ++ W0) h hL hs1) ?_
  rintro _ m1 ⟨C1, A2, W2, k1, k2, k3, k4, k5, k6, k7⟩
  obtain ⟨A3, j1, j2⟩ := spl h0.1 A2 A k1 k2
  refine P_qg (fun i0 i1 => ?_)
  have ev : ((1048576 : Int32) * a2).toInt = 1048576 * sg (tm R len (M 77 9).toInt) + 0 := by rw [i_mul l_1048576 h2 (by omega) (by omega)]; omega
  refine x_push (k := sg (tm R len (M 77 9).toInt)) (b := 0) _ m1 k3 ev (by omega) (by decide) (fun q => by omega) (by omega) ?_
  intro m3 b1 g3 s3 b4 b5 b6 b7 b8 b9 b10
  have hno : ¬ ((sg (tm R len (M 77 9).toInt), (0 : Int)).1 = 10 ∨ (sg (tm R len (M 77 9).toInt), (0 : Int)).1 = 13 ∨ (sg (tm R len (M 77 9).toInt), (0 : Int)).1 = 14) := by
    show ¬ (sg (tm R len (M 77 9).toInt) = 10 ∨ sg (tm R len (M 77 9).toInt) = 13 ∨ sg (tm R len (M 77 9).toInt) = 14)
    omega
  have hM3 : Mw R len M0 C1 ((sg (tm R len (M 77 9).toInt), 0) :: W2) m3 := ⟨g3, s3, b4, b5, by rw [b6, k4]; exact h.2.2.2.2.1, by rw [b7]; exact k3.2.2.2.2.2.1, by rw [b8]; exact k3.2.2.2.2.2.2.1, b9, by rw [opn_n hno]; exact b10, by rw [opn_n hno]; exact k3.2.2.2.2.2.2.2.2.2.1, b1 C1 (Or.inr ⟨rfl, by omega⟩)⟩
  refine x_pl m3 hM3 (by rw [b6, k4]; omega) ?_
  intro m4 hM4 e4
  rw [b6, k4] at e4
  have hst : Lo (tm R len) c0 (0, (m4 77 9).toInt, ph, C1, [] ++ ((sg (tm R len (M 77 9).toInt), 0) :: W2)) := by
    refine Lo_tr k5 (Lo_st ?_)
    rw [ls_B, e4]
    cases W2 with
    | nil =>
      show zG _ _ _ _ _ _ _ = _
      unfold zG
      rw [if_pos hs]; rfl
    | cons q r =>
      have k6b : ¬ (4 ≤ q.1 ∧ q.1 ≤ 6) := k6
      show (if _ then _ else _) = _
      rw [if_neg k6b, if_neg]
      · unfold zG
        rw [if_pos hs]; rfl
      · rintro ⟨q1, q2⟩
        have k7b : s1.toInt ≠ 0 → ¬ (2 ≤ q.1 ∧ q.1 ≤ 6) := k7
        exact k7b (by omega) (by omega)
  unfold f_X12_readsFactor
  refine P_qc (x_factor hn (W0 := (sg (tm R len (M 77 9).toInt), 0) :: W2) (pl0 := pl0) n m4 C1 [] hM4 (fun q hq => absurd hq (by simp)) hst (by omega)) ?_
  rintro r5 m6 (⟨q0, q1⟩ | ⟨q0, C6, W6, q1, q2, q3, A6, q4, q5⟩)
  · exact P_eq rfl l_0 (fun _ => P_ret (Or.inl ⟨l_0, q1⟩)) (fun e => by omega)
  · refine P_eq rfl l_0 (fun e => by omega) (fun _ => ?_)
    have e6 : W6 = (A6 ++ (sg (tm R len (M 77 9).toInt), 0) :: A3) ++ W0 := by rw [q4, j2, List.append_assoc]; rfl
    rw [e6] at q1 q2
    refine hK m6 C6 _ q1 (fun x hx => ?_) q2 q3
    rcases List.mem_append.mp hx with hx2 | hx2
    · exact Or.inr (q5 x hx2)
    · rcases List.mem_cons.mp hx2 with rfl | hx3
      · refine Or.inl ?_
        show 2 ≤ sg (tm R len (M 77 9).toInt) ∧ sg (tm R len (M 77 9).toInt) ≤ 6
        omega
      · exact hA x (by rw [j1]; exact List.mem_append_right _ hx3)
theorem x_sum14 {n : Nat} (hn : 200000 ≤ n) {R : Nat → Int32} {len : Int} {M0 : qM} {c0 : Lc} {ph pl0 : Int} {W0 : List (Int × Int)} (h0 : nT W0) (a1 : Int32) (ha : a1.toInt = (W0.length : Int)) : ∀ (m : Nat) (M : qM) (C : List Int) (A : List (Int × Int)), Mw R len M0 C (A ++ W0) M → alS A → Lo (tm R len) c0 (1, (M 77 9).toInt, ph, C, A ++ W0) → pl0 ≤ (M 77 9).toInt → qP (f_X12_readsSum_14 n m a1 M) (Xz (tm R len) R len M0 c0 1 ph pl0 (fun _ W p => W = W0 ∧ sg (tm R len p) = -1)) := by
  intro m
  induction m with
  | zero => intro M C A _ _ _ _; exact P_none
  | succ m ih =>
    intro M C A h hA hL hp
    have hsr := sg_r (tm R len (M 77 9).toInt)
    have ht := tm_r R len (M 77 9).toInt
    show qP (b_X12_readsSum_14 n (f_X12_readsSum_14 n m) a1 M) _
    unfold b_X12_readsSum_14
    refine P_qc (x_here hn M h) ?_
    rintro r1 m2 ⟨rfl, hr1⟩
    refine P_qc (x_sign r1 m2) ?_
    rintro r3 m4 ⟨rfl, hr3⟩
    rw [hr1] at hr3
    refine P_eq rfl l_m1 (fun c => ?_) (fun c => ?_)
    · have hs : sg (tm R len (m4 77 9).toInt) = -1 := by omega
      refine P_qc (x_here hn m4 h) ?_
      rintro r5 m6 ⟨rfl, hr5⟩
      refine P_eq rfl l_93 (fun d => ?_) (fun d => ?_)
      · have h93 : tm R len (m6 77 9).toInt = 93 := by omega
        refine P_qc (x_has hn a1 m6 h ha) ?_
        rintro r7 m8 ⟨rfl, hr7⟩
        refine P_eq rfl l_0 (fun e => ?_) (fun e => ?_)
        · refine x_138 hn h0 a1 ha m8 C A h hA hL hp hs (Or.inr ?_)
          rcases hr7 with ⟨_, k⟩ | ⟨k, _⟩
          · exact k
          · exact absurd e k
        · obtain ⟨_, q14, hq14, e14⟩ := hr7.resolve_left (fun q => e q.1)
          unfold f_X12_closesSums
          refine P_qc (x_closes (1 : Int32) n m8 C (A ++ W0) h hL (Or.inr ⟨by rw [l_1]; decide, by omega⟩)) ?_
          rintro _ m9 ⟨C9, A2, W2, k1, k2, k3, k4, k5, k6, k7⟩
          have k8 := k7 (by rw [l_1]; decide)
          obtain ⟨A3, j1, j2⟩ := spl h0.1 A2 A k1 k2
          cases A3 with
          | nil =>
            exfalso
            rw [j1, List.append_nil] at hq14
            have := k2 q14 hq14
            omega
          | cons q A4 =>
            have hqA : q ∈ A := by rw [j1]; exact List.mem_append_right _ (List.mem_cons_self ..)
            have j3 : W2 = q :: (A4 ++ W0) := j2
            subst j3
            have k9 : ¬ (2 ≤ q.1 ∧ q.1 ≤ 6) := k8
            have hq1 : q.1 = 14 := by
              rcases hA q hqA with d2 | d2
              · exact absurd d2 k9
              · exact d2
            refine x_shut m9 k3 (Or.inr (Or.inr hq1)) ?_
            intro m11 hM11 e11
            refine x_pl m11 hM11 (by rw [e11, k4]; omega) ?_
            intro m12 hM12 e12
            rw [e11, k4] at e12
            refine ih m12 C9 A4 hM12 (fun x hx => hA x (by rw [j1]; exact List.mem_append_right _ (List.mem_cons_of_mem _ hx))) (Lo_tr k5 (Lo_st ?_)) (by omega)
            rw [ls_B, e12]
            show (if _ then _ else _) = _
            rw [if_neg (by omega), if_neg (by omega)]
            unfold zG
            rw [if_neg (by omega), if_pos hq1, if_pos h93]
      · exact x_138 hn h0 a1 ha m6 C A h hA hL hp hs (Or.inl (by omega))
    · refine P_le l_4 rfl (fun d => ?_) (fun d => ?_)
      · exact x_38 hn h0 a1 (fun M2 C2 A2 q1 q2 q3 q4 => ih M2 C2 A2 q1 q2 q3 q4) r3 (0 : Int32) m4 C A h hA hL hp hr3 (by omega) (Or.inl ⟨l_0, by omega⟩)
      · exact x_38 hn h0 a1 (fun M2 C2 A2 q1 q2 q3 q4 => ih M2 C2 A2 q1 q2 q3 q4) r3 (1 : Int32) m4 C A h hA hL hp hr3 (by omega) (Or.inr ⟨by rw [l_1]; decide, by omega⟩)
theorem x_sum {n : Nat} (hn : 200000 ≤ n) {R : Nat → Int32} {len : Int} {M0 : qM} {c0 : Lc} {ph : Int} {W0 : List (Int × Int)} (h0 : nT W0) (M : qM) (C : List Int) (h : Mw R len M0 C W0 M) (hL : Lo (tm R len) c0 (0, (M 77 9).toInt, ph, C, W0)) : qP (f_X12_readsSum n M) (Xz (tm R len) R len M0 c0 1 ph (M 77 9).toInt (fun _ W p => W = W0 ∧ sg (tm R len p) = -1)) := by
  have h15 := r_77_15 h.1
  have hl2 := stw_len (F := M 86) (M 77 15).toInt.toNat
  rw [h.2.2.2.2.2.2.2.1] at hl2
  unfold f_X12_readsSum
  refine P_ql rfl ?_
  intro x1 hx1
  unfold f_X12_readsFactor
  refine P_qc (x_factor hn (W0 := W0) (pl0 := (M 77 9).toInt) n M C [] h (fun q hq => absurd hq (by simp)) hL (Int.le_refl _)) ?_
  rintro r2 m3 (⟨q0, q1⟩ | ⟨q0, C3, W3, q1, q2, q3, A3, q4, q5⟩)
  · exact P_eq rfl l_0 (fun _ => P_ret (Or.inl ⟨l_0, q1⟩)) (fun e => by omega)
  · refine P_eq rfl l_0 (fun e => by omega) (fun _ => ?_)
    rw [q4] at q1 q2
    exact x_sum14 hn h0 x1 (by omega) n m3 C3 A3 q1 (fun x hx => Or.inr (q5 x hx)) q2 q3
