theorem w_part12 {n : Nat} (hn : 200000 ≤ n) {r : Nat} (hr : q_isLaw r) {R : Nat → Int32} {len : Int} (hl : len ≤ 240) {F : Int32 → qM → qR} (a1 : Int32) {W : List (Int × Int)} (hW : tpk W = 12 ∨ tpk W = 13) (ho : opn W = a1.toInt)
    (hF : ∀ (M : qM) (C : List Int) (W : List (Int × Int)), Ly R len r C M → opn W = a1.toInt → 10 ≤ tpk W → tpk W ≠ 14 → qT (F a1 M) (fun v m => Lz R len r (2, (M 1 3).toInt, 0, C, W) (M 1 3).toInt C 3 0 W (fun _ => True) v m ∧ Lf r M m)) {c0 : Lc} {pl0 : Int} {C0 : List Int} (h0 : 0 ≤ pl0) (hC0 : (C0.length : Int) ≤ pl0) :
    ∀ (m : Nat) (a2 : Int32) (M : qM) (C : List Int), 0 ≤ a2.toInt → a2.toInt ≤ 240 → G M → Cx R len M → CR r M C → Lo (tq R len) c0 (3, (M 1 3).toInt, 0, C, W) → ((C.length : Int) + pl0 ≤ (C0.length : Int) + (M 1 3).toInt ∧ (C0.length : Int) + 1 ≤ (C.length : Int)) → pl0 < (M 1 3).toInt → (M 1 3).toInt ≤ len → 2 * a2.toInt + 1 ≤ (M 1 3).toInt → 241 - a2.toInt < (m : Int) → qT (f_X4_readPart_12 n r F m a1 a2 M) (Lz R len r c0 pl0 C0 3 0 W (fun x => x ≠ 38)) := by
  intro m
  induction m with
  | zero => intro a2 M C _ _ hG _ _ _ _ _ _ _ h; have := r_1_3 hG; exfalso; omega
  | succ m ih =>
    intro a2 M C h2 h240 hG hX hC hLo hsl hp0 hpl hpc hm
    have h13 := r_1_3 hG
    show qT (b_X4_readPart_12 n r F (f_X4_readPart_12 n r F m) a1 a2 M) _
    unfold b_X4_readPart_12
    refine T_le l_240 rfl (fun c => by exfalso; omega) (fun c => ?_)
    refine T_qc (u_takes hn (M0 := M) (38 : Int32) M hG Sm.rf (by decide)) ?_
    rintro r1 m2 ⟨ho2, z2, z3, g2, _⟩
    rw [hX.1, hX.2, l_38] at ho2
    refine T_eq rfl l_0 (fun d => ?_) (fun d => ?_)
    · have e3 : (m2 1 3).toInt = (M 1 3).toInt := by omega
      exact T_ret ⟨⟨⟨by rw [z3 2 (by decide)]; exact hX.1, by rw [z2 2 (by decide)]; exact hX.2⟩, g2⟩, Or.inr ⟨l_1, C, by rw [e3]; exact hLo, CR_1 hr hC z3, by rw [e3]; exact hsl, by omega, by omega, by rw [e3]; omega⟩⟩
    · refine w_jump hn hr hl a1 (k := 11) (o := 3) (sgn := 38) (W := W) (E := fun _ => True) (Or.inl ⟨rfl, rfl, rfl, hW⟩) (fun M3 C3 h3 => hF M3 C3 _ h3 (by show opn W + _ = _; rw [if_neg (by show ¬ ((11 : Int) = 10 ∨ (11 : Int) = 13 ∨ (11 : Int) = 14); decide)]; omega) (by show (10 : Int) ≤ 11; decide) (by show (11 : Int) ≠ 14; decide)) (fun _ _ q => absurd q (by decide)) M C hG hX hC (by omega) (by omega) (by omega) trivial hLo hsl hp0 3 l_3 m2 (by omega) z2 z3 g2 ?_ ?_
      · intro m6 g6 hX6 hb
        exact T_ret ⟨⟨hX6, g6⟩, Or.inl ⟨l_0, hb⟩⟩
      · intro m7 C7 g7 hX7 hC7 hLo7 hsl7 hlt hle _
        refine T_ql (i_add rfl l_1 (by omega) (by omega)) ?_
        intro x hx
        exact ih x m7 C7 (by omega) (by omega) g7 hX7 hC7 hLo7 hsl7 (by omega) hle (by omega) (by omega)
theorem w_cond12 {n : Nat} (hn : 200000 ≤ n) {r : Nat} (hr : q_isLaw r) {R : Nat → Int32} {len : Int} (hl : len ≤ 240) {F : Int32 → qM → qR} (a1 : Int32) {W : List (Int × Int)} (hW : tpk W = 13) (ho : opn W = a1.toInt)
    (hF : ∀ (M : qM) (C : List Int) (W : List (Int × Int)), Ly R len r C M → opn W = a1.toInt → (tpk W = 12 ∨ tpk W = 13) → qT (F a1 M) (fun v m => Lz R len r (2, (M 1 3).toInt, 0, C, W) (M 1 3).toInt C 3 0 W (fun x => x ≠ 38) v m ∧ Lf r M m)) {c0 : Lc} {pl0 : Int} {C0 : List Int} (h0 : 0 ≤ pl0) (hC0 : (C0.length : Int) ≤ pl0) :
    ∀ (m : Nat) (a2 : Int32) (M : qM) (C : List Int), 0 ≤ a2.toInt → a2.toInt ≤ 240 → G M → Cx R len M → CR r M C → Lo (tq R len) c0 (3, (M 1 3).toInt, 0, C, W) → ((C.length : Int) + pl0 ≤ (C0.length : Int) + (M 1 3).toInt ∧ (C0.length : Int) + 1 ≤ (C.length : Int)) → pl0 < (M 1 3).toInt → (M 1 3).toInt ≤ len → 2 * a2.toInt + 1 ≤ (M 1 3).toInt → tq R len (M 1 3).toInt ≠ 38 → 241 - a2.toInt < (m : Int) → qT (f_X4_readCondition_12 n r F m a1 a2 M) (Lz R len r c0 pl0 C0 3 0 W (fun x => x ≠ 38 ∧ x ≠ 124)) := by
  intro m
  induction m with
  | zero => intro a2 M C _ _ hG _ _ _ _ _ _ _ _ h; have := r_1_3 hG; exfalso; omega
  | succ m ih =>
    intro a2 M C h2 h240 hG hX hC hLo hsl hp0 hpl hpc h38 hm
    have h13 := r_1_3 hG
    show qT (b_X4_readCondition_12 n r F (f_X4_readCondition_12 n r F m) a1 a2 M) _
    unfold b_X4_readCondition_12
    refine T_le l_240 rfl (fun c => by exfalso; omega) (fun c => ?_)
    refine T_qc (u_takes hn (M0 := M) (124 : Int32) M hG Sm.rf (by decide)) ?_
    rintro r1 m2 ⟨ho2, z2, z3, g2, _⟩
    rw [hX.1, hX.2, l_124] at ho2
    refine T_eq rfl l_0 (fun d => ?_) (fun d => ?_)
    · have e3 : (m2 1 3).toInt = (M 1 3).toInt := by omega
      exact T_ret ⟨⟨⟨by rw [z3 2 (by decide)]; exact hX.1, by rw [z2 2 (by decide)]; exact hX.2⟩, g2⟩, Or.inr ⟨l_1, C, by rw [e3]; exact hLo, CR_1 hr hC z3, by rw [e3]; exact hsl, by omega, by omega, by rw [e3]; exact ⟨h38, by omega⟩⟩⟩
    · refine w_jump hn hr hl a1 (k := 12) (o := 4) (sgn := 124) (W := W) (E := fun x => x ≠ 38) (Or.inr ⟨rfl, rfl, rfl, hW⟩) (fun M3 C3 h3 => hF M3 C3 _ h3 (by show opn W + _ = _; rw [if_neg (by show ¬ ((12 : Int) = 10 ∨ (12 : Int) = 13 ∨ (12 : Int) = 14); decide)]; omega) (Or.inl rfl)) (fun _ q _ => q) M C hG hX hC (by omega) (by omega) (by omega) trivial hLo hsl hp0 4 l_4 m2 (by omega) z2 z3 g2 ?_ ?_
      · intro m6 g6 hX6 hb
        exact T_ret ⟨⟨hX6, g6⟩, Or.inl ⟨l_0, hb⟩⟩
      · intro m7 C7 g7 hX7 hC7 hLo7 hsl7 hlt hle hne
        refine T_ql (i_add rfl l_1 (by omega) (by omega)) ?_
        intro x hx
        exact ih x m7 C7 (by omega) (by omega) g7 hX7 hC7 hLo7 hsl7 (by omega) hle (by omega) hne (by omega)
