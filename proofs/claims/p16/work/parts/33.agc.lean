/-! the model goes through codes -/
theorem d_run {n : Nat} {cd : Nat → Int} {f t b : Nat} (hg : gd b f t cd) (h260 : t ≤ 260) {D F : Nat → Int32} (hE : ∀ k, k < t → (D k).toInt = cd k) : ∀ (m : Nat) (a2 a3 a5 : Int32) (M : qM) (k : Nat) (S : List Int32), M 91 = D → M 97 = F → a2.toInt = (t : Int) → a5.toInt = (k : Int) → f ≤ k → k ≤ t → 0 ≤ a3.toInt → sk (M 96) a3.toInt.toNat = S → (S.length : Int) = dp cd f k → qP (f_X12_comesTo_16 n m a2 a3 (0 : Int32) a5 M) (fun v _ => v = ev cd F t m k S) := by
  intro m
  induction m with
  | zero => intro a2 a3 a5 M k S _ _ _ _ _ _ _ _ _; exact P_none
  | succ m ih =>
    intro a2 a3 a5 M k S hD hF h2 h5 hf hk h3 hS hd
    have hl : S.length = a3.toInt.toNat := by rw [← hS, sk_len]
    show qP (b_X12_comesTo_16 n (f_X12_comesTo_16 n m) a2 a3 (0 : Int32) a5 M) _
    unfold b_X12_comesTo_16
    refine P_le rfl rfl (fun c => P_ret ?_) (fun c => ?_)
    · have e : k = t := by omega
      subst e
      have h1 : a3.toInt = 1 := by have := hg.2.1; omega
      rw [ev_e (Nat.le_refl _), ← hS, h1]
      rfl
    · have hkt : k < t := by omega
      obtain ⟨i0, i1, i2, i3⟩ := hg.2.2.1 k hf hkt
      have eE := hE k hkt
      have dk : dp cd f (k + 1) = dp cd f k + dl (cd k / 1048576) := dp_s hf
      have ek : a5.toNatClampNeg = k := by rw [tnc, h5]; rfl
      refine P_qg (fun g0 g1 => ?_)
      rw [ek, hD]
      refine P_ql (i_div eE l_1048576 i0 (by decide)) (fun x1 hx1 => P_qg (fun _ _ => P_ql (i_rem eE l_1048576 i0 (by decide)) (fun x2 hx2 => P_ql (i_add rfl l_1 (by omega) (by omega)) (fun x3 hx3 => ?_))))
      have ih' : ∀ (a3' x : Int32) (M' : qM) (k' : Nat) (S' : List Int32), evS cd F k S = some (k', S') → M' 91 = D → M' 97 = F → x.toInt = (k' : Int) → f ≤ k' → k' ≤ t → 0 ≤ a3'.toInt → sk (M' 96) a3'.toInt.toNat = S' → (S'.length : Int) = dp cd f k' → qP (f_X12_comesTo_16 n m a2 a3' (0 : Int32) x M') (fun v _ => v = ev cd F t (m + 1) k S) := by
        intro a3' x M' k' S' he q1 q2 q3 q4 q5 q6 q7 q8
        rw [ev_s hkt he]
        exact ih a2 a3' x M' k' S' q1 q2 h2 q3 q4 q5 q6 q7 q8
      have c91 : ∀ (i : Nat) (v : Int32), mu M 96 i v 91 = D := fun i v => by rw [mu_nc (by decide)]; exact hD
      have c97 : ∀ (i : Nat) (v : Int32), mu M 96 i v 97 = F := fun i v => by rw [mu_nc (by decide)]; exact hF
      have hm := Int.emod_nonneg (cd k) (show (1048576 : Int) ≠ 0 by decide)
      by_cases k0 : cd k / 1048576 = 0
      · refine P_eq rfl l_0 (fun _ => ?_) (fun z => by omega)
        unfold f_X12_comesTo_63
        refine P_eq rfl l_0 (fun _ => ?_) (fun z => by omega)
        unfold f_X12_comesTo_85
        refine P_qg (fun _ _ => P_qlm (P_ql (i_add rfl l_1 (by omega) (by omega)) (fun x4 hx4 => ?_)))
        have ex : x2 = Int32.ofInt (cd k % 1048576) := by rw [← hx2, Int32.ofInt_toInt]
        refine ih' x4 x3 _ (k + 1) (Int32.ofInt (cd k % 1048576) :: S) ?_ (c91 _ _) (c97 _ _) (by omega) (by omega) (by omega) (by omega) ?_ ?_
        · unfold evS; rw [if_pos k0]
        · rw [hx4, show (a3.toInt + 1).toNat = a3.toInt.toNat + 1 by omega, tnc, sk_push, hS, ex]
        · rw [List.length_cons, dk, k0]
          show ((S.length + 1 : Nat) : Int) = dp cd f k + 1
          omega
      refine P_eq rfl l_0 (fun z => by omega) (fun _ => ?_)
      by_cases k1 : cd k / 1048576 = 1
      · refine P_eq rfl l_1 (fun _ => ?_) (fun z => by omega)
        unfold f_X12_comesTo_63
        refine P_eq rfl l_0 (fun z => by omega) (fun _ => P_qg (fun _ _ => ?_))
        unfold f_X12_comesTo_85
        refine P_qg (fun _ _ => P_qlm (P_ql (i_add rfl l_1 (by omega) (by omega)) (fun x4 hx4 => ?_)))
        have ex : M 97 x2.toNatClampNeg = F (cd k % 1048576).toNat := by rw [hF, tnc, hx2]
        refine ih' x4 x3 _ (k + 1) (F (cd k % 1048576).toNat :: S) ?_ (c91 _ _) (c97 _ _) (by omega) (by omega) (by omega) (by omega) ?_ ?_
        · unfold evS; rw [if_neg k0, if_pos k1]
        · rw [hx4, show (a3.toInt + 1).toNat = a3.toInt.toNat + 1 by omega, ex, tnc, sk_push, hS]
        · rw [List.length_cons, dk, k1]
          show ((S.length + 1 : Nat) : Int) = dp cd f k + 1
          omega
      refine P_eq rfl l_1 (fun z => by omega) (fun _ => ?_)
      have et : 1 ≤ a3.toInt → (a3 - 1).toNatClampNeg = a3.toInt.toNat - 1 := fun h1 => by rw [tnc, i_sub rfl l_1 (by omega) (by omega)]; omega
      by_cases k10 : cd k / 1048576 = 10
      · have h1 : 1 ≤ a3.toInt := by omega
        refine P_eq rfl l_10 (fun _ => ?_) (fun z => by omega)
        refine P_qg (fun _ _ => P_qg (fun _ _ => P_qlm ?_))
        refine ih' a3 x3 _ (k + 1) ((1 - S.headD 0) :: S.tail) ?_ (c91 _ _) (c97 _ _) (by omega) (by omega) (by omega) h3 ?_ ?_
        · unfold evS; rw [if_neg k0, if_neg k1, if_pos k10]
        · rw [et h1, sk_top (by omega), ← hS, sk_h (by omega)]
        · rw [List.length_cons, List.length_tail, dk, k10]
          show ((S.length - 1 + 1 : Nat) : Int) = dp cd f k + 0
          omega
      refine P_eq rfl l_10 (fun z => by omega) (fun _ => ?_)
      by_cases kj : cd k / 1048576 = 11 ∨ cd k / 1048576 = 12
      · have h1 : dp cd f k = 1 ∧ ((k : Int) < cd k % 1048576 ∧ cd k % 1048576 ≤ (t : Int) ∧ dp cd f (cd k % 1048576).toNat = 1) := by
          rcases i3 with z | z | z | z | z
          · omega
          · omega
          · omega
          · exact ⟨z.2.1, z.2.2.resolve_left (fun q => q)⟩
          · omega
        obtain ⟨d1, d2, d3, d4⟩ := h1
        have h1 : a3.toInt = 1 := by omega
        have hx : S.headD 0 = M 96 (a3 - 1).toNatClampNeg := by rw [et (by omega), ← hS, sk_h (by omega)]
        have key : ∀ w : Int32, w = (if cd k / 1048576 = 12 then (1 : Int32) else 0) → qP (f_X12_comesTo_155 n (f_X12_comesTo_16 n m) a2 a3 (0 : Int32) x3 x2 (M 96 (a3 - 1).toNatClampNeg) w M) (fun v _ => v = ev cd F t (m + 1) k S) := by
          intro w hw
          unfold f_X12_comesTo_155
          refine P_if (fun c1 => ?_) (fun c1 => ?_)
          · refine P_ql (i_add l_0 rfl (by omega) (by omega)) (fun x4 hx4 => ?_)
            refine ih' a3 x4 M (cd k % 1048576).toNat S ?_ hD hF (by omega) (by omega) (by omega) h3 hS (by omega)
            unfold evS
            rw [if_neg k0, if_neg k1, if_neg k10, if_pos kj, if_pos (by rw [hx, c1, hw])]
          · refine P_ql (i_sub rfl l_1 (by omega) (by omega)) (fun x4 hx4 => ?_)
            refine ih' x4 x3 M (k + 1) S.tail ?_ hD hF (by omega) (by omega) (by omega) (by omega) ?_ ?_
            · unfold evS
              rw [if_neg k0, if_neg k1, if_neg k10, if_pos kj, if_neg (by rw [hx, ← hw]; exact c1)]
            · rw [← hS, sk_t (by omega), hx4]
              congr 1
              omega
            · rw [List.length_tail, dk, dl_n (by omega)]
              omega
        have k135 : qP (f_X12_comesTo_135 n (f_X12_comesTo_16 n m) a2 a3 (0 : Int32) x3 x1 x2 M) (fun v _ => v = ev cd F t (m + 1) k S) := by
          unfold f_X12_comesTo_135
          refine P_qg (fun _ _ => P_eq rfl l_12 (fun c1 => key 1 ?_) (fun c1 => key 0 ?_))
          · rw [if_pos (by omega)]
          · rw [if_neg (by omega)]
        exact P_eq rfl l_11 (fun _ => k135) (fun _ => P_eq rfl l_12 (fun _ => k135) (fun z => by omega))
      refine P_eq rfl l_11 (fun z => by omega) (fun _ => P_eq rfl l_12 (fun z => by omega) (fun _ => ?_))
      have hq : 2 ≤ cd k / 1048576 ∧ cd k / 1048576 ≤ 9 ∧ 2 ≤ dp cd f k := by
        rcases i3 with z | z | z | z | z
        · omega
        · omega
        · omega
        · omega
        · exact z
      have h2' : 2 ≤ a3.toInt := by omega
      refine P_ql (i_sub rfl l_1 (by omega) (by omega)) (fun x4 hx4 => ?_)
      have et3 : x4.toNatClampNeg = a3.toInt.toNat - 1 := by rw [tnc, hx4]; omega
      have et2 : (x4 - 1).toNatClampNeg = x4.toInt.toNat - 1 := by rw [tnc, i_sub hx4 l_1 (by omega) (by omega)]; omega
      have en3 : x4.toInt.toNat = a3.toInt.toNat - 1 := by rw [hx4]; omega
      have hy : S.headD 0 = M 96 x4.toNatClampNeg := by rw [et3, ← hS, sk_h (by omega)]
      have hst : S.tail = sk (M 96) x4.toInt.toNat := by rw [← hS, sk_t (by omega), en3]
      have hx : S.tail.headD 0 = M 96 (x4 - 1).toNatClampNeg := by rw [hst, sk_h (by omega), et2]
      have k203 : ¬ ((cd k / 1048576 = 5 ∨ cd k / 1048576 = 6) ∧ S.headD 0 = 0) → qP (f_X12_comesTo_203 n (f_X12_comesTo_16 n m) a2 x4 (0 : Int32) x3 x1 M) (fun v _ => v = ev cd F t (m + 1) k S) := by
        intro hno
        unfold f_X12_comesTo_203
        refine P_qg (fun _ _ => P_qg (fun _ _ => P_qc (m_reck x1 (M 96 (x4 - 1).toNatClampNeg) (M 96 x4.toNatClampNeg) M (by omega)) ?_))
        rintro r1 m2 ⟨u2, rfl⟩
        refine P_qg (fun _ _ => P_qlm ?_)
        refine ih' x4 x3 _ (k + 1) (rk (cd k / 1048576) (S.tail.headD 0) (S.headD 0) :: S.tail.tail) ?_ (c91 _ _) (c97 _ _) (by omega) (by omega) (by omega) (by omega) ?_ ?_
        · unfold evS
          rw [if_neg k0, if_neg k1, if_neg k10, if_neg kj, if_neg hno]
        · rw [et2, sk_top (by omega), ← hst, u2, hx, hy, hx1]
        · rw [List.length_cons, List.length_tail, List.length_tail, dk, dl_n (by omega)]
          omega
      have k192 : (cd k / 1048576 = 5 ∨ cd k / 1048576 = 6) → qP (f_X12_comesTo_192 n (f_X12_comesTo_16 n m) a2 x4 (0 : Int32) x3 x1 M) (fun v _ => v = ev cd F t (m + 1) k S) := by
        intro h56
        unfold f_X12_comesTo_192
        refine P_qg (fun _ _ => P_if (fun c1 => P_ret ?_) (fun c1 => k203 (fun z => c1 (by rw [← hy]; exact z.2))))
        rw [ev_n hkt]
        unfold evS
        rw [if_neg k0, if_neg k1, if_neg k10, if_neg kj, if_pos ⟨h56, by rw [hy]; exact c1⟩]
      exact P_eq rfl l_5 (fun z => k192 (by omega)) (fun z5 => P_eq rfl l_6 (fun z => k192 (by omega)) (fun z6 => k203 (fun z => by have := z.1; omega)))
/-- a condition's answer is 0 or 1 -/
theorem ev_bool {cd : Nat → Int} {F : Nat → Int32} {f t : Nat} (hg : gd 1 f t cd) : ∀ (m k : Nat) (S : List Int32), f ≤ k → k ≤ t → (f < k → 7 ≤ cd (k - 1) / 1048576 → cd (k - 1) / 1048576 ≤ 10 → S.headD 0 = 0 ∨ S.headD 0 = 1) → ev cd F t m k S = 0 ∨ ev cd F t m k S = 1 := by
  intro m
  induction m with
  | zero => intro k S _ _ _; exact Or.inl rfl
  | succ m ih =>
    intro k S hf hk h
    by_cases c : t ≤ k
    · rw [ev_e c]
      have e : k = t := by omega
      subst e
      have h4 := hg.2.2.2 rfl
      exact h hg.1 h4.1 h4.2
    · have hkt : k < t := by omega
      obtain ⟨i0, i1, i2, i3⟩ := hg.2.2.1 k hf hkt
      cases he : evS cd F k S with
      | none => rw [ev_n hkt he]; exact Or.inl rfl
      | some q =>
        obtain ⟨k', S'⟩ := q
        rw [ev_s hkt he]
        unfold evS at he
        by_cases k0 : cd k / 1048576 = 0
        · rw [if_pos k0] at he
          injection he with he; injection he with e1 e2
          subst e1
          exact ih _ _ (by omega) (by omega) (fun _ h7 _ => by rw [Nat.add_sub_cancel] at h7; omega)
        rw [if_neg k0] at he
        by_cases k1 : cd k / 1048576 = 1
        · rw [if_pos k1] at he
          injection he with he; injection he with e1 e2
          subst e1
          exact ih _ _ (by omega) (by omega) (fun _ h7 _ => by rw [Nat.add_sub_cancel] at h7; omega)
        rw [if_neg k1] at he
        by_cases k10 : cd k / 1048576 = 10
        · rw [if_pos k10] at he
          injection he with he; injection he with e1 e2
          subst e1 e2
          have hz : f < k ∧ 7 ≤ cd (k - 1) / 1048576 ∧ cd (k - 1) / 1048576 ≤ 10 := by
            rcases i3 with z | z | z | z | z
            · omega
            · omega
            · exact z.2.2
            · omega
            · omega
          refine ih _ _ (by omega) (by omega) (fun _ _ _ => ?_)
          show 1 - S.headD 0 = 0 ∨ 1 - S.headD 0 = 1
          rcases h hz.1 hz.2.1 hz.2.2 with q | q
          · rw [q]; exact Or.inr rfl
          · rw [q]; exact Or.inl rfl
        rw [if_neg k10] at he
        by_cases kj : cd k / 1048576 = 11 ∨ cd k / 1048576 = 12
        · rw [if_pos kj] at he
          have hz : (k : Int) < cd k % 1048576 ∧ cd k % 1048576 ≤ (t : Int) := by
            rcases i3 with z | z | z | z | z
            · omega
            · omega
            · omega
            · have := z.2.2.resolve_left (fun q => q)
              exact ⟨this.1, this.2.1⟩
            · omega
          by_cases c1 : S.headD 0 = (if cd k / 1048576 = 12 then (1 : Int32) else 0)
          · rw [if_pos c1] at he
            injection he with he; injection he with e1 e2
            subst e1 e2
            refine ih _ _ (by omega) (by omega) (fun _ _ _ => ?_)
            rw [c1]
            by_cases d : cd k / 1048576 = 12
            · rw [if_pos d]; exact Or.inr rfl
            · rw [if_neg d]; exact Or.inl rfl
          · rw [if_neg c1] at he
            injection he with he; injection he with e1 e2
            subst e1
            exact ih _ _ (by omega) (by omega) (fun _ h7 h8 => by rw [Nat.add_sub_cancel] at h7 h8; omega)
        rw [if_neg kj] at he
        by_cases c0 : (cd k / 1048576 = 5 ∨ cd k / 1048576 = 6) ∧ S.headD 0 = 0
        · rw [if_pos c0] at he; cases he
        · rw [if_neg c0] at he
          injection he with he; injection he with e1 e2
          subst e1 e2
          refine ih _ _ (by omega) (by omega) (fun _ h7 _ => ?_)
          rw [Nat.add_sub_cancel] at h7
          exact rk_bool h7
/-- a stretch of a law, gone through -/
abbrev EV (C : List Int) (F : Nat → Int32) (n s t : Nat) : Int32 := ev (cdl C) F t n s []
theorem EV_bool {C : List Int} {F : Nat → Int32} {n s t : Nat} (hg : gd 1 s t (cdl C)) : EV C F n s t = 0 ∨ EV C F n s t = 1 := ev_bool hg n s [] (Nat.le_refl _) (Nat.le_of_lt hg.1) (fun h => by omega)
theorem cdl_Fn {C : List Int} {f : Nat → Int} (h : Fn f C) {k : Nat} (hk : k < C.length) : cdl C k = f k := by
  show C.getD k 0 = f k
  rw [List.getD_eq_getElem?_getD, h k hk]
  rfl
theorem c_EV {n j : Nat} (hj : q_isLaw j) {C : List Int} {b s t : Nat} (hg : gd b s t (cdl C)) (ht : t ≤ C.length) (a1 a2 : Int32) (M : qM) (hG : G M) (hC : CR j M C) (h1 : a1.toInt = (s : Int)) (h2 : a2.toInt = (t : Int)) : qP (f_X1_run n j a1 a2 M) (fun v _ => v = EV C (M 35) n s t) := by
  unfold f_X1_run
  have n1 : j + 1 ≠ 34 := by rcases hj with rfl | rfl <;> decide
  have n2 : j + 2 ≠ 34 := by rcases hj with rfl | rfl <;> decide
  refine P_qlm ?_
  refine c_run hj hg (O := M (j + 1)) (A := M (j + 2)) (fun k hk => cdl_Fn hC.2 (by omega)) (fun k => rw_2 hj hG k) n a2 (0 : Int32) a1 _ s [] ⟨by rw [mu_nc n1], by rw [mu_nc n2], by rw [mu_nc (by decide)]⟩ mu_at h2 h1 (Nat.le_refl _) (Nat.le_of_lt hg.1) (by decide) (by rw [l_0]; rfl) (by rw [dp_le (Nat.le_refl _)]; rfl)
theorem d_EV {n : Nat} {C : List Int} {b s t : Nat} (hg : gd b s t (cdl C)) (ht : t ≤ C.length) (h240 : C.length ≤ 240) (a1 a2 : Int32) (M : qM) (hC : Fn (fun k => (M 91 k).toInt) C) (h1 : a1.toInt = (s : Int)) (h2 : a2.toInt = (t : Int)) : qP (f_X12_comesTo n a1 a2 M) (fun v _ => v = EV C (M 97) n s t) := by
  have hst := hg.1
  unfold f_X12_comesTo
  have e0 : (260 : Int32) * (a1 / (260 : Int32)) = 0 := by
    refine Int32.toInt_inj.mp ?_
    have hdv := i_div h1 l_260 (by omega) (by decide)
    have : (s : Int) / 260 = 0 := by omega
    rw [this] at hdv
    rw [i_mul l_260 hdv (by decide) (by decide)]
    rfl
  rw [e0]
  exact P_ql rfl (fun x hx => by
    have : x = 0 := Int32.toInt_inj.mp hx
    subst this
    exact d_run hg (by omega) (D := M 91) (F := M 97) (fun k hk => (cdl_Fn hC (by omega)).symm) n a2 (0 : Int32) a1 M s [] rfl rfl h2 h1 (Nat.le_refl _) (Nat.le_of_lt hg.1) (by decide) (by rw [l_0]; rfl) (by rw [dp_le (Nat.le_refl _)]; rfl))
