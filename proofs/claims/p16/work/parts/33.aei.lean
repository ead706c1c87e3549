theorem w_condrc {n : Nat} (hn : 200000 ≤ n) {r : Nat} (hr : q_isLaw r) {R : Nat → Int32} {len : Int} (hl : len ≤ 240) : ∀ m : Nat,
    (∀ (a1 : Int32) (M : qM) (C : List Int) (W : List (Int × Int)), Ly R len r C M → opn W = a1.toInt → 0 ≤ a1.toInt ∧ a1.toInt ≤ 6 → 10 ≤ tpk W → tpk W ≠ 14 → 3 * (6 - a1.toInt) < (m : Int) → qT (rc_X4_readPiece n r m 0 a1 M) (fun v m => Lz R len r (2, (M 1 3).toInt, 0, C, W) (M 1 3).toInt C 3 0 W (fun _ => True) v m ∧ Lf r M m)) ∧
    (∀ (a1 : Int32) (M : qM) (C : List Int) (W : List (Int × Int)), Ly R len r C M → opn W = a1.toInt → 0 ≤ a1.toInt ∧ a1.toInt ≤ 6 → (tpk W = 12 ∨ tpk W = 13) → 3 * (6 - a1.toInt) + 1 < (m : Int) → qT (rc_X4_readPiece n r m 1 a1 M) (fun v m => Lz R len r (2, (M 1 3).toInt, 0, C, W) (M 1 3).toInt C 3 0 W (fun x => x ≠ 38) v m ∧ Lf r M m)) ∧
    (∀ (a1 : Int32) (M : qM) (C : List Int) (W : List (Int × Int)), Ly R len r C M → opn W = a1.toInt → 0 ≤ a1.toInt ∧ a1.toInt ≤ 6 → tpk W = 13 → 3 * (6 - a1.toInt) + 2 < (m : Int) → qT (rc_X4_readPiece n r m 2 a1 M) (fun v m => Lz R len r (2, (M 1 3).toInt, 0, C, W) (M 1 3).toInt C 3 0 W (fun x => x ≠ 38 ∧ x ≠ 124) v m ∧ Lf r M m)) := by
  intro m
  induction m with
  | zero => exact ⟨fun a1 M C W _ _ q _ _ h => by exfalso; omega, fun a1 M C W _ _ q _ h => by exfalso; omega, fun a1 M C W _ _ q _ h => by exfalso; omega⟩
  | succ m ih =>
    have hpre : ∀ (M : qM) (C : List Int), Ly R len r C M → (M 1 3).toInt ≤ (M 1 2).toInt ∧ (M r 6).toInt ≤ (M 1 3).toInt := by
      intro M C hL
      obtain ⟨hG, hX, hC, hcp, hpl⟩ := hL
      have h1 := hX.2
      have h2 := hC.1
      omega
    refine ⟨fun a1 M C W hL ho ha hW h14 hm => ?_, fun a1 M C W hL ho ha hW hm => ?_, fun a1 M C W hL ho ha hW hm => ?_⟩
    · refine T_mono (T_both (P := Lz R len r (2, (M 1 3).toInt, 0, C, W) (M 1 3).toInt C 3 0 W (fun _ => True)) ?_ ((trc_X4_readPiece hn hr (m + 1)).1 a1 M hL.1 ha (hpre M C hL) (by omega))) (fun v m p => ⟨p.1, p.2.2.2.1⟩)
      show qT (fo_X4_readPiece n r (rc_X4_readPiece n r m 2) (rc_X4_readPiece n r m 0) a1 M) _
      exact w_piece hn hr hl (B := m) (fun a M2 C2 W2 q1 q2 q3 q4 q5 => T_mono (ih.2.2 a M2 C2 W2 q1 q2 q3 q4 q5) (fun _ _ p => p.1)) (fun a M2 C2 W2 q1 q2 q3 q4 q5 q6 => T_mono (ih.1 a M2 C2 W2 q1 q2 q3 q4 q5 q6) (fun _ _ p => p.1)) a1 M C W hL ho ha hW h14 (by omega)
    · refine T_mono (T_both (P := Lz R len r (2, (M 1 3).toInt, 0, C, W) (M 1 3).toInt C 3 0 W (fun x => x ≠ 38)) ?_ ((trc_X4_readPiece hn hr (m + 1)).2.1 a1 M hL.1 ha (hpre M C hL) (by omega))) (fun v m p => ⟨p.1, p.2.2.2.1⟩)
      show qT (fo_X4_readPart n r (rc_X4_readPiece n r m 0) a1 M) _
      unfold fo_X4_readPart
      have h13 := r_1_3 hL.1
      refine T_qc (ih.1 a1 M C W hL ho ha (by omega) (by omega) (by omega)) ?_
      rintro r1 m2 ⟨⟨⟨hX2, g2⟩, hor⟩, _⟩
      refine T_eq rfl l_0 (fun c => ?_) (fun c => ?_)
      · rcases hor with ⟨q1, q2⟩ | ⟨q1, q2⟩
        · exact T_ret ⟨⟨hX2, g2⟩, Or.inl ⟨l_0, q2⟩⟩
        · omega
      · obtain ⟨q1, C', q2, q3, q4, q5, q6, _⟩ := hor.resolve_left (fun q => c q.1)
        clear hor
        exact w_part12 hn hr hl a1 hW ho (fun M3 C3 W3 h1 h2 h3 h4 => ih.1 a1 M3 C3 W3 h1 h2 ha h3 h4 (by omega)) h13.1 hL.2.2.2.1 n 0 m2 C' (by rw [l_0]; omega) (by rw [l_0]; omega) g2 hX2 q3 q2 q4 q5 q6 (by rw [l_0]; omega) (by rw [l_0]; omega)
    · refine T_mono (T_both (P := Lz R len r (2, (M 1 3).toInt, 0, C, W) (M 1 3).toInt C 3 0 W (fun x => x ≠ 38 ∧ x ≠ 124)) ?_ ((trc_X4_readPiece hn hr (m + 1)).2.2 a1 M hL.1 ha (hpre M C hL) (by omega))) (fun v m p => ⟨p.1, p.2.2.2.1⟩)
      show qT (fo_X4_readCondition n r (rc_X4_readPiece n r m 1) a1 M) _
      unfold fo_X4_readCondition
      have h13 := r_1_3 hL.1
      refine T_qc (ih.2.1 a1 M C W hL ho ha (Or.inr hW) (by omega)) ?_
      rintro r1 m2 ⟨⟨⟨hX2, g2⟩, hor⟩, _⟩
      refine T_eq rfl l_0 (fun c => ?_) (fun c => ?_)
      · rcases hor with ⟨q1, q2⟩ | ⟨q1, q2⟩
        · exact T_ret ⟨⟨hX2, g2⟩, Or.inl ⟨l_0, q2⟩⟩
        · omega
      · obtain ⟨q1, C', q2, q3, q4, q5, q6, q7⟩ := hor.resolve_left (fun q => c q.1)
        clear hor
        exact w_cond12 hn hr hl a1 hW ho (fun M3 C3 W3 h1 h2 h3 => ih.2.1 a1 M3 C3 W3 h1 h2 ha h3 (by omega)) h13.1 hL.2.2.2.1 n 0 m2 C' (by rw [l_0]; omega) (by rw [l_0]; omega) g2 hX2 q3 q2 q4 q5 q6 (by rw [l_0]; omega) q7 (by rw [l_0]; omega)
theorem w_cond {n : Nat} (hn : 200000 ≤ n) {r : Nat} (hr : q_isLaw r) {R : Nat → Int32} {len : Int} (hl : len ≤ 240) (a1 : Int32) (M : qM) (C : List Int) (W : List (Int × Int)) (hL : Ly R len r C M) (ho : opn W = a1.toInt) (ha : 0 ≤ a1.toInt ∧ a1.toInt ≤ 6) (hW : tpk W = 13) : qT (f_X4_readCondition n r a1 M) (Lz R len r (2, (M 1 3).toInt, 0, C, W) (M 1 3).toInt C 3 0 W (fun x => x ≠ 38 ∧ x ≠ 124)) := by
  unfold f_X4_readCondition
  exact T_mono ((w_condrc hn hr hl 30).2.2 a1 M C W hL ho ha hW (by omega)) (fun _ _ p => p.1)
