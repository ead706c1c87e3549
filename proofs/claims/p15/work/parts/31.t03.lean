abbrev l_X3_skipToHere : List Bx := [(37, 53, 0, 0)]
abbrev po_X3_skipToHere (w : Nat) (a1 : Int32) (M : qM) (v : Int32) (M' : qM) : Prop := (0 ≤ v.toInt ∧ v.toInt ≤ 0) ∧ ((M' w 6).toInt = (M w 6).toInt) ∧ Lf w M M' ∧ G M' ∧ Sm l_X3_skipToHere M M'
theorem t_X3_skipToHere {n : Nat} (hn : 200000 ≤ n) {w : Nat} (hw : q_isLaw w) (a1 : Int32) (M : qM) (hG : G M) (pa1 : (-1) ≤ a1.toInt ∧ a1.toInt ≤ 239) (pe : 0 ≤ a1.toInt → a1.toInt < (M w 6).toInt → (M (w + 1) a1.toNatClampNeg).toInt ≠ 1) : qT (f_X3_skipToHere n w a1 M) (po_X3_skipToHere w a1 M) := by
  have h6 := rw_0_6 hw hG
  have z : ((0 : Int32).toInt : Int) = 0 := rfl
  unfold f_X3_skipToHere
  refine T_lt rfl l_0 (fun c => ?_) (fun c => ?_)
  · exact T_ret ⟨⟨by decide, by decide⟩, rfl, Lf.rf, hG, Sm.rf⟩
  · refine T_le rfl rfl (fun d => ?_) (fun d => ?_)
    · exact T_ret ⟨⟨by decide, by decide⟩, rfl, Lf.rf, hG, Sm.rf⟩
    · refine T_qg rfl (by omega) (by omega) (T_qlm ?_)
      have e4 : (M w 6 - 1).toInt = (M w 6).toInt - 1 := i_sub rfl l_1 (by omega) (by omega)
      have hG2 := G_law hw hG (s := a1.toNatClampNeg) (a1 := M (w + 1) a1.toNatClampNeg) (a2 := M w 6 - 1) (by rw [e4]; omega) (fun q => absurd q (pe c d))
      have e0 : mu M (w + 1) a1.toNatClampNeg (M (w + 1) a1.toNatClampNeg) = M := by
        funext c2 s2
        unfold mu
        by_cases q : c2 = w + 1 ∧ s2 = a1.toNatClampNeg
        · rw [if_pos q, q.1, q.2]
        · rw [if_neg q]
      rw [e0] at hG2
      refine T_ret ⟨⟨by decide, by decide⟩, ?_, ⟨?_, fun s hs => mu_ne (Or.inl (by omega)), mu_ne (Or.inl (by omega)), fun k h3 _ => mu_nc (by omega)⟩, hG2, (Sm.rf).mu (i := 0) rfl (lwin (k := 2) hw (by decide))⟩
      · rw [mu_ne (Or.inl (by omega))]
      · rw [mu_ne (Or.inl (by omega))]; exact Int.le_refl _

