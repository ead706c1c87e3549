/-- parts and conditions: what is read behind & and | is jumped over. k: 11, 12; o: the Java side's op 3, 4; sgn: the sign -/
theorem w_jump {n : Nat} (hn : 200000 ≤ n) {r : Nat} (hr : q_isLaw r) {R : Nat → Int32} {len : Int} (hl : len ≤ 240) {F : Int32 → qM → qR} (a1 : Int32) {W : List (Int × Int)} {k o sgn : Int} (hko : (k = 11 ∧ o = 3 ∧ sgn = 38 ∧ (tpk W = 12 ∨ tpk W = 13)) ∨ (k = 12 ∧ o = 4 ∧ sgn = 124 ∧ tpk W = 13)) {E : Int → Prop}
    (hF : ∀ (M : qM) (C : List Int), Ly R len r C M → qT (F a1 M) (fun v m => Lz R len r (2, (M 1 3).toInt, 0, C, (k, (C.length : Int) - 1) :: W) (M 1 3).toInt C 3 0 ((k, (C.length : Int) - 1) :: W) E v m ∧ Lf r M m))
    (hE : ∀ x, E x → k = 12 → x ≠ 38) (M : qM) (C : List Int) (hG : G M) (hX : Cx R len M) (hC : CR r M C) (hcp : (C.length : Int) ≤ (M 1 3).toInt) (hpl : (M 1 3).toInt < len) (hT : tq R len (M 1 3).toInt = sgn) (hopW : True) {c0 : Lc} {pl0 : Int} {C0 : List Int} (hst : Lo (tq R len) c0 (3, (M 1 3).toInt, 0, C, W)) (hsl : ((C.length : Int) + pl0 ≤ (C0.length : Int) + (M 1 3).toInt ∧ (C0.length : Int) + 1 ≤ (C.length : Int))) (hp0 : pl0 < (M 1 3).toInt) (ao : Int32) (hao : ao.toInt = o) {Q : Int32 → qM → Prop} {K : qM → qR} (m2 : qM) (e3 : (m2 1 3).toInt = (M 1 3).toInt + 1) (z2 : ∀ s2, s2 ≠ 3 → m2 1 s2 = M 1 s2) (z3 : ∀ c, c ≠ 1 → m2 c = M c) (g2 : G m2)
    (hbad : ∀ (m : qM), G m → Cx R len m → Lo (tq R len) c0 (4, (m 1 4).toInt, 0, [], []) → qT (some ((0 : Int32), m)) Q)
    (hgood : ∀ (m : qM) (C' : List Int), G m → Cx R len m → CR r m C' → Lo (tq R len) c0 (3, (m 1 3).toInt, 0, C', W) → ((C'.length : Int) + pl0 ≤ (C0.length : Int) + (m 1 3).toInt ∧ (C0.length : Int) + 1 ≤ (C'.length : Int)) → (M 1 3).toInt + 1 < (m 1 3).toInt → (m 1 3).toInt ≤ len → E (tq R len (m 1 3).toInt) → qT (K m) Q) :
    qT (qc (f_X3_add n r ao 0 m2) (fun r3 m4 => qc (F a1 m4) (fun r5 m6 => if r5 = (0 : Int32) then some ((0 : Int32), m6) else qc (f_X3_skipToHere n r r3 m6) (fun _ m7 => K m7)))) Q := by
  have hX2 : Cx R len m2 := ⟨by rw [z3 2 (by decide)]; exact hX.1, by rw [z2 2 (by decide)]; exact hX.2⟩
  have h3 : o = 3 ∨ o = 4 := by omega
  refine T_qc (w_add hr (C := C) ao 0 m2 g2 (CR_1 hr hC z3) (by omega) (by rw [l_0]; omega) (fun q => by omega)) ?_
  rintro r3 m4 ⟨v1, v2, v3, v4, v5, g4⟩
  obtain ⟨⟨n1, n2, n3⟩, n4, n5, n6⟩ := nr hr
  have e1 : m4 1 = m2 1 := v4 1 n1 n2 n3
  have e2 : m4 2 = m2 2 := v4 2 n4 n5 n6
  have hX4 : Cx R len m4 := ⟨by rw [e2]; exact hX2.1, by rw [e1]; exact hX2.2⟩
  have henc : enc ao.toInt ((0 : Int32)).toInt = 1048576 * k := by
    rw [l_0, hao]
    unfold enc
    rcases hko with ⟨k1, k2, k3, k4⟩ | ⟨k1, k2, k3, k4⟩
    · rw [k2, k1, if_neg (by decide), if_neg (by decide), if_neg (by decide), if_pos rfl, if_pos rfl]
    · rw [k2, k1, if_neg (by decide), if_neg (by decide), if_neg (by decide), if_neg (by decide), if_pos rfl, if_pos rfl]
  rw [henc] at v2
  have hlen4 : ((C ++ [1048576 * k]).length : Int) = (C.length : Int) + 1 := by rw [List.length_append, List.length_singleton]; omega
  have hstep : Lo (tq R len) c0 (2, (m4 1 3).toInt, 0, C ++ [1048576 * k], (k, ((C ++ [1048576 * k]).length : Int) - 1) :: W) := by
    refine Lo_tr hst (Lo_st ?_)
    rw [ls_D, hlen4, show (C.length : Int) + 1 - 1 = (C.length : Int) by omega, e1, e3]
    cases W with
    | nil =>
      exfalso
      rcases hko with ⟨_, _, _, k4⟩ | ⟨_, _, _, k4⟩
      · rcases k4 with k4 | k4 <;> exact absurd k4 (by show ¬ (-1 : Int) = _; decide)
      · exact absurd k4 (by show ¬ (-1 : Int) = _; decide)
    | cons q w =>
      rcases hko with ⟨k1, k2, k3, k4⟩ | ⟨k1, k2, k3, k4⟩
      · have hq : q.1 = 12 ∨ q.1 = 13 := k4
        show (if _ then _ else _) = _
        rw [if_neg (by omega), if_neg (by omega), if_neg (fun x => x.2 (by omega))]
        unfold zH
        rw [if_neg (by omega), if_pos (by omega), k1]
      · have hq : q.1 = 13 := k4
        show (if _ then _ else _) = _
        rw [if_neg (by omega), if_neg (by omega), if_neg (by omega)]
        unfold zH
        rw [if_neg (by omega), if_neg (by omega), if_pos (by omega), k1]
  refine T_qc (hF m4 (C ++ [1048576 * k]) ⟨g4, hX4, v2, by rw [hlen4, e1]; omega, by rw [e1]; omega⟩) ?_
  rintro r5 m6 ⟨⟨⟨hX6, g6⟩, ho6⟩, hLf⟩
  refine T_eq rfl l_0 (fun d => ?_) (fun d => ?_)
  · rcases ho6 with ⟨q1, q2⟩ | ⟨q1, q2⟩
    · exact hbad m6 g6 hX6 (Lo_tr hstep q2)
    · omega
  · obtain ⟨q1, C', q2, q3, q4, q5, q6, q7⟩ := ho6.resolve_left (fun q => d q.1)
    clear ho6
    have hop6 : (m6 (r + 1) C.length).toInt = o := by
      rw [hLf.2.1 C.length (by rw [v2.1, hlen4]; omega), v3, hao]
    refine T_qc (w_skip hr (C := C') (j := C.length) (k := k) r3 m6 g6 q3 v1 (by rw [hlen4] at q4; omega) (by have h6_ := rw_0_6 hr g6; have h7_ := q3.1; omega) (by rw [hop6]; omega)) ?_
    rintro _ m7 ⟨⟨hgd, u1⟩, u2, g7⟩
    have f1 : m7 1 = m6 1 := u2 1 n3
    have f2 : m7 2 = m6 2 := u2 2 n6
    refine hgood m7 _ g7 ⟨by rw [f2]; exact hX6.1, by rw [f1]; exact hX6.2⟩ u1 (Lo_tr hstep (Lo_tr q2 (Lo_st ?_))) ?_ (by rw [f1]; rw [e1, e3] at q5; omega) (by rw [f1]; exact q6) (by rw [f1]; exact q7)
    · rw [ls_D, hlen4, show (C.length : Int) + 1 - 1 = (C.length : Int) by omega, f1]
      show (if _ then _ else _) = _
      rcases hko with ⟨k1, k2, k3, k4⟩ | ⟨k1, k2, k3, k4⟩
      · rw [if_neg (by show ¬ k = 10; omega), if_pos k1]
        show (3, (m6 1 3).toInt, (0 : Int), C'.set C.length (1048576 * (C'.getD C.length 0 / 1048576) + C'.length), W) = _
        rw [hgd]
      · rw [if_neg (by show ¬ k = 10; omega), if_neg (by show ¬ k = 11; omega), if_pos ⟨k1, hE _ q7 k1⟩]
        show (3, (m6 1 3).toInt, (0 : Int), C'.set C.length (1048576 * (C'.getD C.length 0 / 1048576) + C'.length), W) = _
        rw [hgd]
    · rw [List.length_set, f1]
      rw [hlen4, e1, e3] at q4
      omega
