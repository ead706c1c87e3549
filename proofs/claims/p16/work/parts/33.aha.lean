/-! LAWS: what a law says, on both sides -/
abbrev LJ (j : Nat) (M : qM) (C : List Int) (K : List Kl) : Prop := CR j M C ∧ KRw j M K
theorem LJ_cg {j : Nat} {M m : qM} {C : List Int} {K : List Kl} (h : LJ j M C K) (e : ∀ k, k ≤ 6 → m (j + k) = M (j + k)) : LJ j m C K := by
  obtain ⟨⟨h1, h2⟩, h3, h4⟩ := h
  have e0 : m j = M j := e 0 (by decide)
  refine ⟨⟨by rw [e0]; exact h1, Fn_cg h2 (fun k _ => ?_)⟩, by rw [e0]; exact h3, Fk_cg h4 (fun k _ => ?_)⟩
  · show enc _ _ = enc _ _
    rw [e 1 (by decide), e 2 (by decide)]
  · show (_, _, _, _) = (_, _, _, _)
    rw [e 3 (by decide), e 4 (by decide), e 5 (by decide), e 6 (by decide)]
theorem LJ_Sm {j : Nat} (hj : q_isLaw j) {l : List Bx} {M m : qM} {C : List Int} {K : List Kl} (h : LJ j M C K) (hs : Sm l M m) (hl : l.all (fun b => decide (b.2.1 ≤ 37) || decide (53 ≤ b.1)) = true) : LJ j m C K :=
  LJ_cg h (fun k hk => funext (fun s => hs _ _ (outl (by rcases hj with rfl | rfl <;> omega) hl)))
theorem LM_cg {M m : qM} {C : List Int} {K : List Kl} (h : LM M C K) (e : ∀ c, 91 ≤ c → c ≤ 95 → m c = M c) (e17 : m 77 17 = M 77 17) : LM m C K := by
  obtain ⟨h1, h2, h3⟩ := h
  refine ⟨by rw [e 91 (by decide) (by decide)]; exact h1, by rw [e17]; exact h2, Fk_cg h3 (fun k _ => ?_)⟩
  show (_, _, _, _) = (_, _, _, _)
  rw [e 92 (by decide) (by decide), e 93 (by decide) (by decide), e 94 (by decide) (by decide), e 95 (by decide) (by decide)]
theorem out91 {l : List Bx} {c s : Nat} (h1 : 91 ≤ c) (h2 : c ≤ 95) (h : l.all (fun b => decide (b.2.1 ≤ 91) || decide (96 ≤ b.1)) = true) : ∀ b ∈ l, ¬ inB b c s := by
  intro b hb hi
  rw [List.all_eq_true] at h
  have h3 := h b hb
  obtain ⟨a1, a2, _⟩ := hi
  simp only [Bool.or_eq_true, decide_eq_true_eq] at h3
  omega
theorem LM_Sm {l : List Bx} {M m : qM} {C : List Int} {K : List Kl} (h : LM M C K) (hs : Sm l M m) (hl : l.all (fun b => decide (b.2.1 ≤ 91) || decide (96 ≤ b.1)) = true) (h17 : m 77 17 = M 77 17) : LM m C K :=
  LM_cg h (fun c h1 h2 => funext (fun s => hs c s (out91 h1 h2 hl))) h17
theorem Fk_drop {f : Nat → Kl} {K : List Kl} (h : Fk f K) {i : Nat} (hi : i < K.length) : f i ∈ K ∧ K.drop i = f i :: K.drop (i + 1) := by
  have e := h i hi
  have e2 : K[i] = f i := by
    rw [List.getElem?_eq_getElem hi] at e
    injection e
  refine ⟨by rw [← e2]; exact List.getElem_mem hi, ?_⟩
  rw [List.drop_eq_getElem_cons hi, e2]
def amtL (C : List Int) (n : Nat) (F : Nat → Int32) (c : Int) (hi : Int32) : List Kl → Int32 → Int32
  | [], x => x
  | q :: r, x => if q.1 = c then (if EV C F n q.2.2.1.toNat q.2.2.2.toNat = 0 then amtL C n F c hi r 0 else qmax 0 (qmin hi (EV C F n q.2.1.toNat q.2.2.1.toNat))) else amtL C n F c hi r x
def anyL (C : List Int) (n : Nat) (F : Nat → Int32) : List Kl → Int32
  | [] => 0
  | q :: r => if q.1 = 97 then (if EV C F n q.2.2.1.toNat q.2.2.2.toNat = 0 then anyL C n F r else 1) else anyL C n F r
theorem CR_len {j : Nat} (hj : q_isLaw j) {M : qM} {C : List Int} (hG : G M) (h : CR j M C) : C.length ≤ 240 := by
  have h1 := rw_0_6 hj hG
  have h2 := h.1
  omega
theorem c_amt6 {n : Nat} (hn : 200000 ≤ n) {j : Nat} (hj : q_isLaw j) {C : List Int} {K : List Kl} (hK : Kg (cdl C) C.length K) {F : Nat → Int32} {a1 a2 : Int32} (h97 : a1.toInt ≠ 97) : ∀ (m i : Nat) (a4 a5 : Int32) (M : qM), G M → LJ j M C K → M 35 = F → a5.toInt = (i : Int) → i ≤ K.length → qP (f_X1_amount_6 n j m a1 a2 a4 a5 M) (fun v _ => v = amtL C n F a1.toInt a2 (K.drop i) a4) := by
  intro m
  induction m with
  | zero => intro i a4 a5 M _ _ _ _ _; exact P_none
  | succ m ih =>
    intro i a4 a5 M hG hL hF h5 hi
    have hk := hL.2.1
    have hlen := CR_len hj hG hL.1
    have ei : a5.toNatClampNeg = i := by rw [tnc, h5]; rfl
    show qP (b_X1_amount_6 n j (f_X1_amount_6 n j m) a1 a2 a4 a5 M) _
    unfold b_X1_amount_6
    refine P_le rfl rfl (fun c => P_ret ?_) (fun c => ?_)
    · have e : i = K.length := by omega
      rw [e, List.drop_length]
      rfl
    · have hlt : i < K.length := by omega
      obtain ⟨hmem, hdr⟩ := Fk_drop hL.2.2 hlt
      obtain ⟨s, h, e, g1, g2, g3, g4, g5, g6, g7, g8, g9⟩ := hK _ hmem
      have g1' : (M (j + 4) i).toInt = (s : Int) := g1
      have g2' : (M (j + 5) i).toInt = (h : Int) := g2
      have g3' : (M (j + 6) i).toInt = (e : Int) := g3
      rw [hdr]
      refine P_qg (fun _ hb => ?_)
      rw [ei]
      have nx : ∀ (x : Int32) (m3 : qM) (a4' : Int32), x.toInt = a5.toInt + 1 → G m3 → LJ j m3 C K → m3 35 = F → qP (f_X1_amount_6 n j m a1 a2 a4' x m3) (fun v _ => v = amtL C n F a1.toInt a2 (K.drop (i + 1)) a4') := fun x m3 a4' hx g3 l3 f3 => ih (i + 1) a4' x m3 g3 l3 f3 (by omega) (by omega)
      refine P_eq rfl rfl (fun d => ?_) (fun d => ?_)
      · refine P_qg (fun _ _ => P_qg (fun _ _ => P_qc (P_and (c_EV hj g9 g6 (M (j + 5) i) (M (j + 6) i) M hG hL.1 g2' g3') (P_T (t_X1_run hn hj _ _ M hG (by omega) (by omega)))) ?_))
        rintro r2 m3 ⟨hr2, g3m, s3⟩
        have f3 : m3 35 = F := by rw [← hF]; exact funext (fun s_ => s3 35 s_ (outc rfl))
        have l3 : LJ j m3 C K := LJ_Sm hj hL s3 rfl
        have ev1 : r2 = EV C F n ((M (j + 5) i).toInt.toNat) ((M (j + 6) i).toInt.toNat) := by rw [hr2, hF, g2', g3']; rfl
        have hcons : ∀ x : Int32, amtL C n F a1.toInt a2 (eK (j + 3) (j + 4) (j + 5) (j + 6) M i :: K.drop (i + 1)) x = (if r2 = 0 then amtL C n F a1.toInt a2 (K.drop (i + 1)) 0 else qmax 0 (qmin a2 (EV C F n ((M (j + 4) i).toInt.toNat) ((M (j + 5) i).toInt.toNat)))) := by
          intro x
          show (if (M (j + 3) i).toInt = a1.toInt then (if EV C F n ((M (j + 5) i).toInt.toNat) ((M (j + 6) i).toInt.toNat) = 0 then _ else _) else _) = _
          rw [if_pos d, ← ev1]
        rw [hcons]
        refine P_if (fun c2 => ?_) (fun c2 => ?_)
        · rw [if_pos c2]
          exact P_ql (i_add rfl l_1 (by omega) (by omega)) (fun x hx => nx x m3 0 hx g3m l3 f3)
        · rw [if_neg c2]
          have g8' : gd 0 s h (cdl C) := g8.resolve_left (fun z => h97 (by rw [← d]; exact z))
          have q4 : m3 (j + 4) = M (j + 4) := funext (fun s_ => s3 _ _ (outl (by rcases hj with rfl | rfl <;> omega) rfl))
          have q5 : m3 (j + 5) = M (j + 5) := funext (fun s_ => s3 _ _ (outl (by rcases hj with rfl | rfl <;> omega) rfl))
          rw [q4, q5]
          refine P_qg (fun _ _ => P_qg (fun _ _ => P_qc (c_EV hj g8' (by omega) (M (j + 4) i) (M (j + 5) i) m3 g3m l3.1 g1' g2') ?_))
          intro r5 m6 hr5
          refine P_ret ?_
          rw [hr5, f3, g1', g2']
          rfl
      · have hcons : ∀ x : Int32, amtL C n F a1.toInt a2 (eK (j + 3) (j + 4) (j + 5) (j + 6) M i :: K.drop (i + 1)) x = amtL C n F a1.toInt a2 (K.drop (i + 1)) x := by
          intro x
          show (if (M (j + 3) i).toInt = a1.toInt then _ else _) = _
          rw [if_neg d]
        rw [hcons]
        exact P_ql (i_add rfl l_1 (by omega) (by omega)) (fun x hx => nx x M a4 hx hG hL hF)
theorem c_amt {n : Nat} (hn : 200000 ≤ n) {j : Nat} (hj : q_isLaw j) {C : List Int} {K : List Kl} (hK : Kg (cdl C) C.length K) (a1 a2 a3 : Int32) (M : qM) (hG : G M) (hL : LJ j M C K) (h97 : a1.toInt ≠ 97) : qP (f_X1_amount n j a1 a2 a3 M) (fun v _ => v = amtL C n (M 35) a1.toInt a2 K a3) := by
  unfold f_X1_amount
  exact c_amt6 hn hj hK h97 n 0 a3 (0 : Int32) M hG hL rfl l_0 (Nat.zero_le _)
theorem c_any49 {n : Nat} (hn : 200000 ≤ n) {j : Nat} (hj : q_isLaw j) {C : List Int} {K : List Kl} (hK : Kg (cdl C) C.length K) {F : Nat → Int32} : ∀ (m i : Nat) (a5 : Int32) (M : qM), G M → LJ j M C K → M 35 = F → a5.toInt = (i : Int) → i ≤ K.length → qP (f_X1_isAlike_49 n j m a5 M) (fun v _ => v = anyL C n F (K.drop i)) := by
  intro m
  induction m with
  | zero => intro i a5 M _ _ _ _ _; exact P_none
  | succ m ih =>
    intro i a5 M hG hL hF h5 hi
    have hk := hL.2.1
    have hlen := CR_len hj hG hL.1
    have ei : a5.toNatClampNeg = i := by rw [tnc, h5]; rfl
    show qP (b_X1_isAlike_49 n j (f_X1_isAlike_49 n j m) a5 M) _
    unfold b_X1_isAlike_49
    refine P_le rfl rfl (fun c => P_ret ?_) (fun c => ?_)
    · have e : i = K.length := by omega
      rw [e, List.drop_length]
      rfl
    · have hlt : i < K.length := by omega
      obtain ⟨hmem, hdr⟩ := Fk_drop hL.2.2 hlt
      obtain ⟨s, h, e, g1, g2, g3, g4, g5, g6, g7, g8, g9⟩ := hK _ hmem
      have g2' : (M (j + 5) i).toInt = (h : Int) := g2
      have g3' : (M (j + 6) i).toInt = (e : Int) := g3
      rw [hdr]
      refine P_qg (fun _ hb => ?_)
      rw [ei]
      refine P_eq rfl l_97 (fun d => ?_) (fun d => ?_)
      · refine P_qg (fun _ _ => P_qg (fun _ _ => P_qc (P_and (c_EV hj g9 g6 (M (j + 5) i) (M (j + 6) i) M hG hL.1 g2' g3') (P_T (t_X1_run hn hj _ _ M hG (by omega) (by omega)))) ?_))
        rintro r2 m3 ⟨hr2, g3m, s3⟩
        have f3 : m3 35 = F := by rw [← hF]; exact funext (fun s_ => s3 35 s_ (outc rfl))
        have l3 : LJ j m3 C K := LJ_Sm hj hL s3 rfl
        have ev1 : r2 = EV C F n ((M (j + 5) i).toInt.toNat) ((M (j + 6) i).toInt.toNat) := by rw [hr2, hF, g2', g3']; rfl
        have hcons : anyL C n F (eK (j + 3) (j + 4) (j + 5) (j + 6) M i :: K.drop (i + 1)) = (if r2 = 0 then anyL C n F (K.drop (i + 1)) else 1) := by
          show (if (M (j + 3) i).toInt = 97 then (if EV C F n ((M (j + 5) i).toInt.toNat) ((M (j + 6) i).toInt.toNat) = 0 then _ else _) else _) = _
          rw [if_pos d, ← ev1]
        rw [hcons]
        refine P_if (fun c2 => ?_) (fun c2 => ?_)
        · rw [if_pos c2]
          exact P_ql (i_add rfl l_1 (by omega) (by omega)) (fun x hx => ih (i + 1) x m3 g3m l3 f3 (by omega) (by omega))
        · rw [if_neg c2]
          exact P_ret rfl
      · have hcons : anyL C n F (eK (j + 3) (j + 4) (j + 5) (j + 6) M i :: K.drop (i + 1)) = anyL C n F (K.drop (i + 1)) := by
          show (if (M (j + 3) i).toInt = 97 then _ else _) = _
          rw [if_neg d]
        rw [hcons]
        exact P_ql (i_add rfl l_1 (by omega) (by omega)) (fun x hx => ih (i + 1) x M hG hL hF (by omega) (by omega))
