/-! the Java side goes through codes -/
abbrev Cl (j : Nat) (O A F : Nat → Int32) (M : qM) : Prop := M (j + 1) = O ∧ M (j + 2) = A ∧ M 35 = F
theorem Cl_36 {j : Nat} (hj : q_isLaw j) {O A F : Nat → Int32} {M : qM} {i : Nat} {v : Int32} (h : Cl j O A F M) : Cl j O A F (mu M 36 i v) := by
  have n1 : j + 1 ≠ 36 := by rcases hj with rfl | rfl <;> decide
  have n2 : j + 2 ≠ 36 := by rcases hj with rfl | rfl <;> decide
  exact ⟨by rw [mu_nc n1]; exact h.1, by rw [mu_nc n2]; exact h.2.1, by rw [mu_nc (by decide)]; exact h.2.2⟩
theorem c_ref {n j : Nat} (m : Nat) (a2 a3 a4 : Int32) (M : qM) (h : M 34 4 = 1) : qP (f_X1_run_10 n j m a2 a3 a4 M) (fun v _ => v = 0) := by
  have h0 : ¬ M 34 4 = (0 : Int32) := by rw [h]; decide
  cases m with
  | zero => exact P_none
  | succ m =>
    show qP (b_X1_run_10 n j (f_X1_run_10 n j m) a2 a3 a4 M) _
    unfold b_X1_run_10 f_X1_run_243
    rw [if_neg h0, if_neg h0]
    exact P_if (fun _ => P_ret rfl) (fun _ => P_ret rfl)
theorem c_run {n j : Nat} (hj : q_isLaw j) {cd : Nat → Int} {f t b : Nat} (hg : gd b f t cd) {O A F : Nat → Int32} (hE : ∀ k, k < t → cd k = enc (O k).toInt (A k).toInt) (hA : ∀ k, 0 ≤ (A k).toInt ∧ (A k).toInt ≤ 1000000) : ∀ (m : Nat) (a2 a3 a4 : Int32) (M : qM) (k : Nat) (S : List Int32), Cl j O A F M → M 34 4 = 0 → a2.toInt = (t : Int) → a4.toInt = (k : Int) → f ≤ k → k ≤ t → 0 ≤ a3.toInt → sk (M 36) a3.toInt.toNat = S → (S.length : Int) = dp cd f k → qP (f_X1_run_10 n j m a2 a3 a4 M) (fun v _ => v = ev cd F t m k S) := by
  intro m
  induction m with
  | zero => intro a2 a3 a4 M k S _ _ _ _ _ _ _ _ _; exact P_none
  | succ m ih =>
    intro a2 a3 a4 M k S hC h34 h2 h4 hf hk h3 hS hd
    have hl : S.length = a3.toInt.toNat := by rw [← hS, sk_len]
    show qP (b_X1_run_10 n j (f_X1_run_10 n j m) a2 a3 a4 M) _
    unfold b_X1_run_10
    refine P_le rfl rfl (fun c => ?_) (fun c => ?_)
    · have e : k = t := by omega
      subst e
      have h1 : a3.toInt = 1 := by have := hg.2.1; omega
      unfold f_X1_run_243
      rw [if_pos h34]
      refine P_le l_1 rfl (fun _ => P_ret ?_) (fun z => by omega)
      rw [ev_e (Nat.le_refl _), ← hS, h1]
      rfl
    · have hkt : k < t := by omega
      obtain ⟨i0, i1, i2, i3⟩ := hg.2.2.1 k hf hkt
      have eA := hA k
      have eE := hE k hkt
      have dk : dp cd f (k + 1) = dp cd f k + dl (cd k / 1048576) := dp_s hf
      have ek : a4.toNatClampNeg = k := by rw [tnc, h4]; rfl
      rw [if_pos h34]
      refine P_qg (fun g0 g1 => ?_)
      rw [ek, hC.1, hC.2.1]
      refine P_ql rfl (fun x1 hx1 => P_qg (fun _ _ => P_ql rfl (fun x2 hx2 => ?_)))
      have ih' : ∀ (a3' x : Int32) (M' : qM) (k' : Nat) (S' : List Int32), evS cd F k S = some (k', S') → Cl j O A F M' → M' 34 4 = 0 → x.toInt = (k' : Int) → f ≤ k' → k' ≤ t → 0 ≤ a3'.toInt → sk (M' 36) a3'.toInt.toNat = S' → (S'.length : Int) = dp cd f k' → qP (f_X1_run_10 n j m a2 a3' x M') (fun v _ => v = ev cd F t (m + 1) k S) := by
        intro a3' x M' k' S' he q1 q2 q3 q4 q5 q6 q7 q8
        rw [ev_s hkt he]
        exact ih a2 a3' x M' k' S' q1 q2 h2 q3 q4 q5 q6 q7 q8
      have m34 : ∀ (i : Nat) (v : Int32), mu M 36 i v 34 4 = 0 := fun i v => by rw [mu_ne (Or.inl (by decide))]; exact h34
      have hd0 := enc_d eA.1 eA.2 (by rw [← eE]; exact i0)
      rw [← eE] at hd0
      rcases hd0 with ⟨o, e1, e2⟩ | ⟨o, e1, e2⟩ | ⟨o, e1⟩ | ⟨o, e2⟩ | ⟨o1, o2⟩
      · refine P_eq rfl l_0 (fun _ => ?_) (fun z => by omega)
        unfold f_X1_run_58
        refine P_le l_64 rfl (fun z => by omega) (fun _ => P_eq rfl l_0 (fun _ => ?_) (fun z => by omega))
        refine P_qg (fun _ _ => P_qlm (P_ql (i_add rfl l_1 (by omega) (by omega)) (fun x6 hx6 => P_ql (i_add rfl l_1 (by omega) (by omega)) (fun x7 hx7 => ?_))))
        have ex : x2 = Int32.ofInt (cd k % 1048576) := by rw [e2, ← hx2, Int32.ofInt_toInt]
        refine ih' x6 x7 _ (k + 1) (Int32.ofInt (cd k % 1048576) :: S) ?_ (Cl_36 hj hC) (m34 _ _) (by omega) (by omega) (by omega) (by omega) ?_ ?_
        · unfold evS; rw [if_pos e1]
        · rw [hx6, show (a3.toInt + 1).toNat = a3.toInt.toNat + 1 by omega, tnc, sk_push, hS, ex]
        · rw [List.length_cons, dk, e1]
          show ((S.length + 1 : Nat) : Int) = dp cd f k + 1
          omega
      · refine P_eq rfl l_0 (fun z => by omega) (fun _ => P_eq rfl l_1 (fun _ => ?_) (fun z => by omega))
        unfold f_X1_run_58
        refine P_le l_64 rfl (fun z => by omega) (fun _ => P_eq rfl l_0 (fun z => by omega) (fun _ => ?_))
        refine P_qg (fun _ _ => P_qg (fun _ _ => P_qlm (P_ql (i_add rfl l_1 (by omega) (by omega)) (fun x6 hx6 => P_ql (i_add rfl l_1 (by omega) (by omega)) (fun x7 hx7 => ?_)))))
        have ex : M 35 x2.toNatClampNeg = F (cd k % 1048576).toNat := by rw [hC.2.2, tnc, hx2, e2]
        refine ih' x6 x7 _ (k + 1) (F (cd k % 1048576).toNat :: S) ?_ (Cl_36 hj hC) (m34 _ _) (by omega) (by omega) (by omega) (by omega) ?_ ?_
        · unfold evS; rw [if_neg (by omega), if_pos e1]
        · rw [hx6, show (a3.toInt + 1).toNat = a3.toInt.toNat + 1 by omega, tnc, sk_push, hS, ex]
        · rw [List.length_cons, dk, e1]
          show ((S.length + 1 : Nat) : Int) = dp cd f k + 1
          omega
      · have h1 : 1 ≤ a3.toInt := by omega
        have et : (a3 - 1).toNatClampNeg = a3.toInt.toNat - 1 := by rw [tnc, i_sub rfl l_1 (by omega) (by omega)]; omega
        refine P_eq rfl l_0 (fun z => by omega) (fun _ => P_eq rfl l_1 (fun z => by omega) (fun _ => P_lt rfl l_32 (fun _ => ?_) (fun z => by omega)))
        unfold f_X1_run_139
        refine P_eq rfl l_2 (fun _ => P_lt rfl l_1 (fun z => by omega) (fun _ => ?_)) (fun z => by omega)
        refine P_qg (fun _ _ => P_qg (fun _ _ => P_qlm (P_ql (i_add rfl l_1 (by omega) (by omega)) (fun x2' hx2' => ?_))))
        refine ih' a3 x2' _ (k + 1) ((1 - S.headD 0) :: S.tail) ?_ (Cl_36 hj hC) (m34 _ _) (by omega) (by omega) (by omega) h3 ?_ ?_
        · unfold evS; rw [if_neg (by omega), if_neg (by omega), if_pos e1]
        · rw [et, sk_top (by omega), ← hS, sk_h (by omega)]
        · rw [List.length_cons, List.length_tail, dk, e1]
          show ((S.length - 1 + 1 : Nat) : Int) = dp cd f k + 0
          omega
      · have h1 : dp cd f k = 1 ∧ ((k : Int) < cd k % 1048576 ∧ cd k % 1048576 ≤ (t : Int) ∧ dp cd f (cd k % 1048576).toNat = 1) := by
          rcases i3 with z | z | z | z | z
          · omega
          · omega
          · omega
          · exact ⟨z.2.1, z.2.2.resolve_left (fun q => q)⟩
          · omega
        obtain ⟨d1, d2, d3, d4⟩ := h1
        have h1 : a3.toInt = 1 := by omega
        have et : (a3 - 1).toNatClampNeg = a3.toInt.toNat - 1 := by rw [tnc, i_sub rfl l_1 (by omega) (by omega)]; omega
        have hx : S.headD 0 = M 36 (a3 - 1).toNatClampNeg := by rw [et, ← hS, sk_h (by omega)]
        refine P_eq rfl l_0 (fun z => by omega) (fun _ => P_eq rfl l_1 (fun z => by omega) (fun _ => P_lt rfl l_32 (fun _ => ?_) (fun z => by omega)))
        unfold f_X1_run_139
        refine P_eq rfl l_2 (fun z => by omega) (fun _ => ?_)
        unfold f_X1_run_171
        refine P_lt rfl l_1 (fun z => by omega) (fun _ => P_qg (fun _ _ => ?_))
        have key : ∀ w : Int32, w = (if cd k / 1048576 = 12 then (1 : Int32) else 0) → qP (f_X1_run_195 n j (f_X1_run_10 n j m) a2 a3 a4 x2 (M 36 (a3 - 1).toNatClampNeg) w M) (fun v _ => v = ev cd F t (m + 1) k S) := by
          intro w hw
          have hop : cd k / 1048576 = 11 ∨ cd k / 1048576 = 12 := by omega
          unfold f_X1_run_195
          refine P_if (fun c1 => ?_) (fun c1 => ?_)
          · unfold f_X1_run_203 f_X1_run_222
            rw [if_neg (by decide), if_neg (by decide)]
            have hm := i_max (a := a4) (b := x2) rfl rfl
            refine P_ql (i_add rfl l_1 (by omega) (by omega)) (fun x3 hx3 => ?_)
            refine ih' a3 x3 M (cd k % 1048576).toNat S ?_ hC h34 (by omega) (by omega) (by omega) h3 hS (by omega)
            unfold evS
            rw [if_neg (by omega), if_neg (by omega), if_neg (by omega), if_pos hop, if_pos (by rw [hx, c1, hw])]
          · unfold f_X1_run_203 f_X1_run_222
            rw [if_pos rfl, if_pos rfl]
            refine P_ql (i_sub rfl l_1 (by omega) (by omega)) (fun x3 hx3 => P_ql (i_add rfl l_1 (by omega) (by omega)) (fun x4 hx4 => ?_))
            refine ih' x3 x4 M (k + 1) S.tail ?_ hC h34 (by omega) (by omega) (by omega) (by omega) ?_ ?_
            · unfold evS
              rw [if_neg (by omega), if_neg (by omega), if_neg (by omega), if_pos hop, if_neg (by rw [hx, ← hw]; exact c1)]
            · rw [← hS, sk_t (by omega), hx3]
              congr 1
              omega
            · rw [List.length_tail, dk, dl_n (by omega)]
              omega
        refine P_eq rfl l_4 (fun c1 => key 1 ?_) (fun c1 => key 0 ?_)
        · rw [if_pos (by omega)]
        · rw [if_neg (by omega)]
      · have hq : 2 ≤ cd k / 1048576 ∧ cd k / 1048576 ≤ 9 := by omega
        have h2' : 2 ≤ a3.toInt := by
          rcases i3 with z | z | z | z | z
          · omega
          · omega
          · omega
          · omega
          · omega
        refine P_eq rfl l_0 (fun z => by omega) (fun _ => P_eq rfl l_1 (fun z => by omega) (fun _ => P_lt rfl l_32 (fun z => by omega) (fun _ => P_lt rfl l_2 (fun z => by omega) (fun _ => ?_))))
        refine P_ql (i_add rfl l_m1 (by omega) (by omega)) (fun x3 hx3 => ?_)
        have et3 : x3.toNatClampNeg = a3.toInt.toNat - 1 := by rw [tnc, hx3]; omega
        have et2 : (x3 - 1).toNatClampNeg = x3.toInt.toNat - 1 := by rw [tnc, i_sub hx3 l_1 (by omega) (by omega)]; omega
        have en3 : x3.toInt.toNat = a3.toInt.toNat - 1 := by rw [hx3]; omega
        have hy : S.headD 0 = M 36 x3.toNatClampNeg := by rw [et3, ← hS, sk_h (by omega)]
        have hst : S.tail = sk (M 36) x3.toInt.toNat := by rw [← hS, sk_t (by omega), en3]
        have hx : S.tail.headD 0 = M 36 (x3 - 1).toNatClampNeg := by rw [hst, sk_h (by omega), et2]
        refine P_qg (fun _ _ => P_qg (fun _ _ => P_qc (c_reck x1 (M 36 (x3 - 1).toNatClampNeg) (M 36 x3.toNatClampNeg) M (q := cd k / 1048576) (by rw [hx1]; exact o2)) ?_))
        intro r4 m5 hr
        refine P_qg (fun _ _ => P_qlm (P_ql (i_add rfl l_1 (by omega) (by omega)) (fun x7 hx7 => ?_)))
        rcases hr with ⟨u1, u2, u3⟩ | ⟨u1, u2, u3⟩
        · refine P_mono (c_ref m a2 x3 x7 _ (by rw [mu_ne (Or.inl (by decide))]; exact u3)) (fun v _ e => ?_)
          rw [e, ev_n hkt]
          unfold evS
          rw [if_neg (by omega), if_neg (by omega), if_neg (by omega), if_neg (by omega), if_pos ⟨u1, by rw [hy]; exact u2⟩]
        · subst u3
          refine ih' x3 x7 _ (k + 1) (rk (cd k / 1048576) (S.tail.headD 0) (S.headD 0) :: S.tail.tail) ?_ (Cl_36 hj hC) (m34 _ _) (by omega) (by omega) (by omega) (by omega) ?_ ?_
          · unfold evS
            rw [if_neg (by omega), if_neg (by omega), if_neg (by omega), if_neg (by omega), if_neg (by rw [hy]; exact u1)]
          · rw [et2, sk_top (by omega), ← hst, u2, hx, hy]
          · rw [List.length_cons, List.length_tail, List.length_tail, dk, dl_n (by omega)]
            omega
