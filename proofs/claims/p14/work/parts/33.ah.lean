/-! LAWS: what a law says, on both sides -/
abbrev LJ (j : Nat) (M : qM) (C : List Int) (K : List Kl) : Prop := CR j M C ∧ KRw j M K
theorem LJ_cg {j : Nat} {M m : qM} {C : List Int} {K : List Kl} (h : LJ j M C K) (e : ∀ k, k ≤ 6 → m (j + k) = M (j + k)) : LJ j m C K := by
  obtain ⟨⟨h1, h2⟩, h3, h4⟩ := h
  have e0 : m j = M j := e 0 (by decide)
  refine ⟨⟨by rw [e0]; exact h1, Fn_cg h2 (fun k _ => ?_)⟩, by rw [e0]; exact h3, Fk_cg h4 (fun k _ => ?_)⟩
  · show enc _ _ = enc _ _
    rw [e 1 (by decide), e 2 (by decide)]
  · show (_, _, _, _) = (_, _, _, _)
    rw [e 3 (by decide), e 4 (by decide), e 5 (by decide), e 6 (by decide)]
theorem LJ_Sm {j : Nat} (hj : q_isLaw j) {l : List Bx} {M m : qM} {C : List Int} {K : List Kl} (h : LJ j M C K) (hs : Sm l M m) (hl : l.all (fun b => decide (b.2.1 ≤ 37) || decide (53 ≤ b.1)) = true) : LJ j m C K :=
  LJ_cg h (fun k hk => funext (fun s => hs _ _ (outl (by rcases hj with rfl | rfl <;> omega) hl)))
theorem LM_cg {M m : qM} {C : List Int} {K : List Kl} (h : LM M C K) (e : ∀ c, 91 ≤ c → c ≤ 95 → m c = M c) (e17 : m 77 17 = M 77 17) : LM m C K := by
  obtain ⟨h1, h2, h3⟩ := h
  refine ⟨by rw [e 91 (by decide) (by decide)]; exact h1, by rw [e17]; exact h2, Fk_cg h3 (fun k _ => ?_)⟩
  show (_, _, _, _) = (_, _, _, _)
  rw [e 92 (by decide) (by decide), e 93 (by decide) (by decide), e 94 (by decide) (by decide), e 95 (by decide) (by decide)]
theorem out91 {l : List Bx} {c s : Nat} (h1 : 91 ≤ c) (h2 : c ≤ 95) (h : l.all (fun b => decide (b.2.1 ≤ 91) || decide (96 ≤ b.1)) = true) : ∀ b ∈ l, ¬ inB b c s := by
  intro b hb hi
  rw [List.all_eq_true] at h
  have h3 := h b hb
  obtain ⟨a1, a2, _⟩ := hi
  simp only [Bool.or_eq_true, decide_eq_true_eq] at h3
  omega
theorem LM_Sm {l : List Bx} {M m : qM} {C : List Int} {K : List Kl} (h : LM M C K) (hs : Sm l M m) (hl : l.all (fun b => decide (b.2.1 ≤ 91) || decide (96 ≤ b.1)) = true) (h17 : m 77 17 = M 77 17) : LM m C K :=
  LM_cg h (fun c h1 h2 => funext (fun s => hs c s (out91 h1 h2 hl))) h17
theorem Fk_drop {f : Nat → Kl} {K : List Kl} (h : Fk f K) {i : Nat} (hi : i < K.length) : f i ∈ K ∧ K.drop i = f i :: K.drop (i + 1) := by
  have e := h i hi
  have e2 : K[i] = f i := by
    rw [List.getElem?_eq_getElem hi] at e
    injection e
  refine ⟨by rw [← e2]; exact List.getElem_mem hi, ?_⟩
  rw [List.drop_eq_getElem_cons hi, e2]
def amtL (C : List Int) (n : Nat) (F : Nat → Int32) (c : Int) (hi : Int32) : List Kl → Int32 → Int32
  | [], x => x
  | q :: r, x => if q.1 = c then (if EV C F n q.2.2.1.toNat q.2.2.2.toNat = 0 then amtL C n F c hi r 0 else qmax 0 (qmin hi (EV C F n q.2.1.toNat q.2.2.1.toNat))) else amtL C n F c hi r x
def anyL (C : List Int) (n : Nat) (F : Nat → Int32) : List Kl → Int32
  | [] => 0
  | q :: r => if q.1 = 97 then (if EV C F n q.2.2.1.toNat q.2.2.2.toNat = 0 then anyL C n F r else 1) else anyL C n F r
theorem CR_len {j : Nat} (hj : q_isLaw j) {M : qM} {C : List Int} (hG : G M) (h : CR j M C) : C.length ≤ 240 := by
  have h1 := rw_0_6 hj hG
  have h2 := h.1
  omega
theorem c_amt6 {n : Nat} (hn : 200000 ≤ n) {j : Nat} (hj : q_isLaw j) {C : List Int} {K : List Kl} (hK : Kg (cdl C) C.length K) {F : Nat → Int32} {a1 a2 : Int32} (h97 : a1.toInt ≠ 97) : ∀ (m i : Nat) (a4 a5 : Int32) (M : qM), G M → LJ j M C K → M 35 = F → a5.toInt = (i : Int) → i ≤ K.length → qP (f_X1_amount_6 n j m a1 a2 a4 a5 M) (fun v _ => v = amtL C n F a1.toInt a2 (K.drop i) a4) := by
  intro m
  induction m with
  | zero => intro i a4 a5 M _ _ _ _ _; exact P_none
  | succ m ih =>
    intro i a4 a5 M hG hL hF h5 hi
    have hk := hL.2.1
    have hlen := CR_len hj hG hL.1
    have ei : a5.toNatClampNeg = i := by rw [tnc, h5]; rfl
    show qP (b_X1_amount_6 n j (f_X1_amount_6 n j m) a1 a2 a4 a5 M) _
    unfold b_X1_amount_6
    refine P_le rfl rfl (fun c => P_ret ?_) (fun c => ?_)
    · have e : i = K.length := by omega
      rw [e, List.drop_length]
      rfl
    · have hlt : i < K.length := by omega
      obtain ⟨hmem, hdr⟩ := Fk_drop hL.2.2 hlt
      obtain ⟨s, h, e, g1, g2, g3, g4, g5, g6, g7, g8, g9⟩ := hK _ hmem
      have g1' : (M (j + 4) i).toInt = (s : Int) := g1
      have g2' : (M (j + 5) i).toInt = (h : Int) := g2
      have g3' : (M (j + 6) i).toInt = (e : Int) := g3
      rw [hdr]
      refine P_qg (fun _ hb => ?_)
      rw [ei]
      have nx : ∀ (x : Int32) (m3 : qM) (a4' : Int32), x.toInt = a5.toInt + 1 → G m3 → LJ j m3 C K → m3 35 = F → qP (f_X1_amount_6 n j m a1 a2 a4' x m3) (fun v _ => v = amtL C n F a1.toInt a2 (K.drop (i + 1)) a4') := fun x m3 a4' hx g3 l3 f3 => ih (i + 1) a4' x m3 g3 l3 f3 (by omega) (by omega)
      refine P_eq rfl rfl (fun d => ?_) (fun d => ?_)
      · refine P_qg (fun _ _ => P_qg (fun _ _ => P_qc (P_and (c_EV hj g9 g6 (M (j + 5) i) (M (j + 6) i) M hG hL.1 g2' g3') (P_T (t_X1_run hn hj _ _ M hG (by omega) (by omega)))) ?_))
        rintro r2 m3 ⟨hr2, g3m, s3⟩
        have f3 : m3 35 = F := by rw [← hF]; exact funext (fun s_ => s3 35 s_ (outc rfl))
        have l3 : LJ j m3 C K := LJ_Sm hj hL s3 rfl
        have ev1 : r2 = EV C F n ((M (j + 5) i).toInt.toNat) ((M (j + 6) i).toInt.toNat) := by rw [hr2, hF, g2', g3']; rfl
        have hcons : ∀ x : Int32, amtL C n F a1.toInt a2 (eK (j + 3) (j + 4) (j + 5) (j + 6) M i :: K.drop (i + 1)) x = (if r2 = 0 then amtL C n F a1.toInt a2 (K.drop (i + 1)) 0 else qmax 0 (qmin a2 (EV C F n ((M (j + 4) i).toInt.toNat) ((M (j + 5) i).toInt.toNat)))) := by
          intro x
          show (if (M (j + 3) i).toInt = a1.toInt then (if EV C F n ((M (j + 5) i).toInt.toNat) ((M (j + 6) i).toInt.toNat) = 0 then _ else _) else _) = _
          rw [if_pos d, ← ev1]
        rw [hcons]
        refine P_if (fun c2 => ?_) (fun c2 => ?_)
        · rw [if_pos c2]
          exact P_ql (i_add rfl l_1 (by omega) (by omega)) (fun x hx => nx x m3 0 hx g3m l3 f3)
        · rw [if_neg c2]
          have g8' : gd 0 s h (cdl C) := g8.resolve_left (fun z => h97 (by rw [← d]; exact z))
          have q4 : m3 (j + 4) = M (j + 4) := funext (fun s_ => s3 _ _ (outl (by rcases hj with rfl | rfl <;> omega) rfl))
          have q5 : m3 (j + 5) = M (j + 5) := funext (fun s_ => s3 _ _ (outl (by rcases hj with rfl | rfl <;> omega) rfl))
          rw [q4, q5]
          refine P_qg (fun _ _ => P_qg (fun _ _ => P_qc (c_EV hj g8' (by omega) (M (j + 4) i) (M (j + 5) i) m3 g3m l3.1 g1' g2') ?_))
          intro r5 m6 hr5
          refine P_ret ?_
          rw [hr5, f3, g1', g2']
          rfl
      · have hcons : ∀ x : Int32, amtL C n F a1.toInt a2 (eK (j + 3) (j + 4) (j + 5) (j + 6) M i :: K.drop (i + 1)) x = amtL C n F a1.toInt a2 (K.drop (i + 1)) x := by
          intro x
          show (if (M (j + 3) i).toInt = a1.toInt then _ else _) = _
          rw [if_neg d]
        rw [hcons]
        exact P_ql (i_add rfl l_1 (by omega) (by omega)) (fun x hx => nx x M a4 hx hG hL hF)
theorem c_amt {n : Nat} (hn : 200000 ≤ n) {j : Nat} (hj : q_isLaw j) {C : List Int} {K : List Kl} (hK : Kg (cdl C) C.length K) (a1 a2 a3 : Int32) (M : qM) (hG : G M) (hL : LJ j M C K) (h97 : a1.toInt ≠ 97) : qP (f_X1_amount n j a1 a2 a3 M) (fun v _ => v = amtL C n (M 35) a1.toInt a2 K a3) := by
  unfold f_X1_amount
  exact c_amt6 hn hj hK h97 n 0 a3 (0 : Int32) M hG hL rfl l_0 (Nat.zero_le _)
theorem c_any49 {n : Nat} (hn : 200000 ≤ n) {j : Nat} (hj : q_isLaw j) {C : List Int} {K : List Kl} (hK : Kg (cdl C) C.length K) {F : Nat → Int32} : ∀ (m i : Nat) (a5 : Int32) (M : qM), G M → LJ j M C K → M 35 = F → a5.toInt = (i : Int) → i ≤ K.length → qP (f_X1_isAlike_49 n j m a5 M) (fun v _ => v = anyL C n F (K.drop i)) := by
  intro m
  induction m with
  | zero => intro i a5 M _ _ _ _ _; exact P_none
  | succ m ih =>
    intro i a5 M hG hL hF h5 hi
    have hk := hL.2.1
    have hlen := CR_len hj hG hL.1
    have ei : a5.toNatClampNeg = i := by rw [tnc, h5]; rfl
    show qP (b_X1_isAlike_49 n j (f_X1_isAlike_49 n j m) a5 M) _
    unfold b_X1_isAlike_49
    refine P_le rfl rfl (fun c => P_ret ?_) (fun c => ?_)
    · have e : i = K.length := by omega
      rw [e, List.drop_length]
      rfl
    · have hlt : i < K.length := by omega
      obtain ⟨hmem, hdr⟩ := Fk_drop hL.2.2 hlt
      obtain ⟨s, h, e, g1, g2, g3, g4, g5, g6, g7, g8, g9⟩ := hK _ hmem
      have g2' : (M (j + 5) i).toInt = (h : Int) := g2
      have g3' : (M (j + 6) i).toInt = (e : Int) := g3
      rw [hdr]
      refine P_qg (fun _ hb => ?_)
      rw [ei]
      refine P_eq rfl l_97 (fun d => ?_) (fun d => ?_)
      · refine P_qg (fun _ _ => P_qg (fun _ _ => P_qc (P_and (c_EV hj g9 g6 (M (j + 5) i) (M (j + 6) i) M hG hL.1 g2' g3') (P_T (t_X1_run hn hj _ _ M hG (by omega) (by omega)))) ?_))
        rintro r2 m3 ⟨hr2, g3m, s3⟩
        have f3 : m3 35 = F := by rw [← hF]; exact funext (fun s_ => s3 35 s_ (outc rfl))
        have l3 : LJ j m3 C K := LJ_Sm hj hL s3 rfl
        have ev1 : r2 = EV C F n ((M (j + 5) i).toInt.toNat) ((M (j + 6) i).toInt.toNat) := by rw [hr2, hF, g2', g3']; rfl
        have hcons : anyL C n F (eK (j + 3) (j + 4) (j + 5) (j + 6) M i :: K.drop (i + 1)) = (if r2 = 0 then anyL C n F (K.drop (i + 1)) else 1) := by
          show (if (M (j + 3) i).toInt = 97 then (if EV C F n ((M (j + 5) i).toInt.toNat) ((M (j + 6) i).toInt.toNat) = 0 then _ else _) else _) = _
          rw [if_pos d, ← ev1]
        rw [hcons]
        refine P_if (fun c2 => ?_) (fun c2 => ?_)
        · rw [if_pos c2]
          exact P_ql (i_add rfl l_1 (by omega) (by omega)) (fun x hx => ih (i + 1) x m3 g3m l3 f3 (by omega) (by omega))
        · rw [if_neg c2]
          exact P_ret rfl
      · have hcons : anyL C n F (eK (j + 3) (j + 4) (j + 5) (j + 6) M i :: K.drop (i + 1)) = anyL C n F (K.drop (i + 1)) := by
          show (if (M (j + 3) i).toInt = 97 then _ else _) = _
          rw [if_neg d]
        rw [hcons]
        exact P_ql (i_add rfl l_1 (by omega) (by omega)) (fun x hx => ih (i + 1) x M hG hL hF (by omega) (by omega))
/-! the model's side of it -/
theorem clampq {hi v : Int32} (h : 0 ≤ hi.toInt) : (if (0 : Int32) ≤ v then (if v ≤ hi then v else hi) else 0) = qmax 0 (qmin hi v) := by
  unfold qmax qmin
  have z : (0 : Int32).toInt = 0 := rfl
  by_cases c : (0 : Int32) ≤ v
  · rw [if_pos c]
    rw [Int32.le_iff_toInt_le] at c
    by_cases d : v ≤ hi
    · rw [if_pos d]
      rw [Int32.le_iff_toInt_le] at d
      by_cases e : v < hi
      · rw [if_pos e]
        by_cases f : (0 : Int32) < v
        · rw [if_pos f]
        · rw [if_neg f]; rw [Int32.lt_iff_toInt_lt] at f; exact Int32.toInt_inj.mp (by omega)
      · rw [if_neg e]
        rw [Int32.lt_iff_toInt_lt] at e
        by_cases f : (0 : Int32) < hi
        · rw [if_pos f]; exact Int32.toInt_inj.mp (by omega)
        · rw [if_neg f]; rw [Int32.lt_iff_toInt_lt] at f; exact Int32.toInt_inj.mp (by omega)
    · rw [if_neg d]
      rw [Int32.le_iff_toInt_le] at d
      rw [if_neg (show ¬ v < hi by rw [Int32.lt_iff_toInt_lt]; omega)]
      by_cases f : (0 : Int32) < hi
      · rw [if_pos f]
      · rw [if_neg f]; rw [Int32.lt_iff_toInt_lt] at f; exact Int32.toInt_inj.mp (by omega)
  · rw [if_neg c]
    rw [Int32.le_iff_toInt_le] at c
    rw [if_pos (show v < hi by rw [Int32.lt_iff_toInt_lt]; omega), if_neg (by rw [Int32.lt_iff_toInt_lt]; omega)]
theorem d_amt6 {n : Nat} (hn : 200000 ≤ n) {C : List Int} {K : List Kl} (hK : Kg (cdl C) C.length K) (h240 : C.length ≤ 240) {F : Nat → Int32} {a1 a2 : Int32} (h97 : a1.toInt ≠ 97) (hhi : 0 ≤ a2.toInt) : ∀ (m i : Nat) (a4 a5 : Int32) (M : qM), G M → LM M C K → M 97 = F → a5.toInt = (i : Int) → i ≤ K.length → qP (f_X12_byLaw_6 n m a1 a2 a4 a5 M) (fun v _ => v = amtL C n F a1.toInt a2 (K.drop i) a4) := by
  intro m
  induction m with
  | zero => intro i a4 a5 M _ _ _ _ _; exact P_none
  | succ m ih =>
    intro i a4 a5 M hG hL hF h5 hi
    have hk := hL.2.1
    have ei : a5.toNatClampNeg = i := by rw [tnc, h5]; rfl
    show qP (b_X12_byLaw_6 n (f_X12_byLaw_6 n m) a1 a2 a4 a5 M) _
    unfold b_X12_byLaw_6
    refine P_le rfl rfl (fun c => P_ret ?_) (fun c => ?_)
    · have e : i = K.length := by omega
      rw [e, List.drop_length]
      rfl
    · have hlt : i < K.length := by omega
      obtain ⟨hmem, hdr⟩ := Fk_drop hL.2.2 hlt
      obtain ⟨s, h, e, g1, g2, g3, g4, g5, g6, g7, g8, g9⟩ := hK _ hmem
      have g1' : (M 93 i).toInt = (s : Int) := g1
      have g2' : (M 94 i).toInt = (h : Int) := g2
      have g3' : (M 95 i).toInt = (e : Int) := g3
      have wf := hG.2.2.1 i (by omega)
      rw [hdr]
      refine P_qg (fun _ hb => ?_)
      rw [ei]
      have nx : ∀ (x : Int32) (m3 : qM) (a4' : Int32), x.toInt = a5.toInt + 1 → G m3 → LM m3 C K → m3 97 = F → qP (f_X12_byLaw_6 n m a1 a2 a4' x m3) (fun v _ => v = amtL C n F a1.toInt a2 (K.drop (i + 1)) a4') := fun x m3 a4' hx g3 l3 f3 => ih (i + 1) a4' x m3 g3 l3 f3 (by omega) (by omega)
      refine P_eq rfl rfl (fun d => ?_) (fun d => ?_)
      · refine P_qg (fun _ _ => P_qg (fun _ _ => P_qc (P_and (d_EV g9 g6 h240 (M 94 i) (M 95 i) M hL.1 g2' g3') (P_T (t_X12_comesTo hn _ _ M hG (by omega) (by omega) wf.2))) ?_))
        rintro r2 m3 ⟨hr2, g3m, s3⟩
        have f3 : m3 97 = F := by rw [← hF]; exact funext (fun s_ => s3 97 s_ (outc rfl))
        have l3 : LM m3 C K := LM_Sm hL s3 rfl (s3 77 17 (by decide))
        have ev1 : r2 = EV C F n ((M 94 i).toInt.toNat) ((M 95 i).toInt.toNat) := by rw [hr2, hF, g2', g3']; rfl
        have hbl : r2 = 0 ∨ r2 = 1 := by
          rw [hr2]; exact EV_bool g9
        have hcons : ∀ x : Int32, amtL C n F a1.toInt a2 (eK 92 93 94 95 M i :: K.drop (i + 1)) x = (if r2 = 0 then amtL C n F a1.toInt a2 (K.drop (i + 1)) 0 else qmax 0 (qmin a2 (EV C F n ((M 93 i).toInt.toNat) ((M 94 i).toInt.toNat)))) := by
          intro x
          show (if (M 92 i).toInt = a1.toInt then (if EV C F n ((M 94 i).toInt.toNat) ((M 95 i).toInt.toNat) = 0 then _ else _) else _) = _
          rw [if_pos d, ← ev1]
        rw [hcons]
        refine P_if (fun c2 => ?_) (fun c2 => ?_)
        · rw [if_neg (by rw [c2]; decide)]
          have g8' : gd 0 s h (cdl C) := g8.resolve_left (fun z => h97 (by rw [← d]; exact z))
          have q3 : m3 93 = M 93 := funext (fun s_ => s3 93 s_ (outc rfl))
          have q4 : m3 94 = M 94 := funext (fun s_ => s3 94 s_ (outc rfl))
          rw [q3, q4]
          refine P_qg (fun _ _ => P_qg (fun _ _ => P_qc (d_EV g8' (by omega) h240 (M 93 i) (M 94 i) m3 l3.1 g1' g2') ?_))
          intro r5 m6 hr5
          have e5 : r5 = EV C F n ((M 93 i).toInt.toNat) ((M 94 i).toInt.toNat) := by rw [hr5, f3, g1', g2']; rfl
          rw [← e5, ← clampq hhi]
          refine P_if (fun z => ?_) (fun z => ?_)
          · rw [if_pos z]
            refine P_if (fun y => ?_) (fun y => ?_)
            · rw [if_pos y]; exact P_ret rfl
            · rw [if_neg y]; exact P_ret rfl
          · rw [if_neg z]; exact P_ret rfl
        · rw [if_pos (hbl.resolve_right c2)]
          exact P_ql (i_add rfl l_1 (by omega) (by omega)) (fun x hx => nx x m3 0 hx g3m l3 f3)
      · have hcons : ∀ x : Int32, amtL C n F a1.toInt a2 (eK 92 93 94 95 M i :: K.drop (i + 1)) x = amtL C n F a1.toInt a2 (K.drop (i + 1)) x := by
          intro x
          show (if (M 92 i).toInt = a1.toInt then _ else _) = _
          rw [if_neg d]
        rw [hcons]
        exact P_ql (i_add rfl l_1 (by omega) (by omega)) (fun x hx => nx x M a4 hx hG hL hF)
theorem d_amt {n : Nat} (hn : 200000 ≤ n) {C : List Int} {K : List Kl} (hK : Kg (cdl C) C.length K) (h240 : C.length ≤ 240) (a1 a2 a3 : Int32) (M : qM) (hG : G M) (hL : LM M C K) (h97 : a1.toInt ≠ 97) (hhi : 0 ≤ a2.toInt) : qP (f_X12_byLaw n a1 a2 a3 M) (fun v _ => v = amtL C n (M 97) a1.toInt a2 K a3) := by
  unfold f_X12_byLaw
  exact d_amt6 hn hK h240 h97 hhi n 0 a3 (0 : Int32) M hG hL rfl l_0 (Nat.zero_le _)
theorem d_any55 {n : Nat} (hn : 200000 ≤ n) {C : List Int} {K : List Kl} (hK : Kg (cdl C) C.length K) (h240 : C.length ≤ 240) {F : Nat → Int32} : ∀ (m i : Nat) (a5 : Int32) (M : qM), G M → LM M C K → M 97 = F → a5.toInt = (i : Int) → i ≤ K.length → qP (f_X12_isLike_55 n m a5 M) (fun v _ => v = anyL C n F (K.drop i)) := by
  intro m
  induction m with
  | zero => intro i a5 M _ _ _ _ _; exact P_none
  | succ m ih =>
    intro i a5 M hG hL hF h5 hi
    have hk := hL.2.1
    have ei : a5.toNatClampNeg = i := by rw [tnc, h5]; rfl
    show qP (b_X12_isLike_55 n (f_X12_isLike_55 n m) a5 M) _
    unfold b_X12_isLike_55
    refine P_le rfl rfl (fun c => P_ret ?_) (fun c => ?_)
    · have e : i = K.length := by omega
      rw [e, List.drop_length]
      rfl
    · have hlt : i < K.length := by omega
      obtain ⟨hmem, hdr⟩ := Fk_drop hL.2.2 hlt
      obtain ⟨s, h, e, g1, g2, g3, g4, g5, g6, g7, g8, g9⟩ := hK _ hmem
      have g2' : (M 94 i).toInt = (h : Int) := g2
      have g3' : (M 95 i).toInt = (e : Int) := g3
      have wf := hG.2.2.1 i (by omega)
      rw [hdr]
      refine P_qg (fun _ hb => ?_)
      rw [ei]
      refine P_eq rfl l_97 (fun d => ?_) (fun d => ?_)
      · refine P_qg (fun _ _ => P_qg (fun _ _ => P_qc (P_and (d_EV g9 g6 h240 (M 94 i) (M 95 i) M hL.1 g2' g3') (P_T (t_X12_comesTo hn _ _ M hG (by omega) (by omega) wf.2))) ?_))
        rintro r2 m3 ⟨hr2, g3m, s3⟩
        have f3 : m3 97 = F := by rw [← hF]; exact funext (fun s_ => s3 97 s_ (outc rfl))
        have l3 : LM m3 C K := LM_Sm hL s3 rfl (s3 77 17 (by decide))
        have ev1 : r2 = EV C F n ((M 94 i).toInt.toNat) ((M 95 i).toInt.toNat) := by rw [hr2, hF, g2', g3']; rfl
        have hbl : r2 = 0 ∨ r2 = 1 := by
          rw [hr2]; exact EV_bool g9
        have hcons : anyL C n F (eK 92 93 94 95 M i :: K.drop (i + 1)) = (if r2 = 0 then anyL C n F (K.drop (i + 1)) else 1) := by
          show (if (M 92 i).toInt = 97 then (if EV C F n ((M 94 i).toInt.toNat) ((M 95 i).toInt.toNat) = 0 then _ else _) else _) = _
          rw [if_pos d, ← ev1]
        rw [hcons]
        refine P_if (fun c2 => ?_) (fun c2 => ?_)
        · rw [if_neg (by rw [c2]; decide)]
          exact P_ret rfl
        · rw [if_pos (hbl.resolve_right c2)]
          exact P_ql (i_add rfl l_1 (by omega) (by omega)) (fun x hx => ih (i + 1) x m3 g3m l3 f3 (by omega) (by omega))
      · have hcons : anyL C n F (eK 92 93 94 95 M i :: K.drop (i + 1)) = anyL C n F (K.drop (i + 1)) := by
          show (if (M 92 i).toInt = 97 then _ else _) = _
          rw [if_neg d]
        rw [hcons]
        exact P_ql (i_add rfl l_1 (by omega) (by omega)) (fun x hx => ih (i + 1) x M hG hL hF (by omega) (by omega))
/-! the Java side's reader of laws: what it leaves as it was -/
abbrev Fr4 (r : Nat) (M m : qM) : Prop := ∀ c, c ≠ 1 → c < r ∨ r + 6 < c → m c = M c
abbrev Qfr (r : Nat) (M0 : qM) : Int32 → qM → Prop := fun _ m => Fr4 r M0 m
theorem Fr_mu {r : Nat} {M0 M : qM} {c s : Nat} {v : Int32} {f : qM → qR} {Q : Int32 → qM → Prop} (h : Fr4 r M0 M) (hc : c = 1 ∨ (r ≤ c ∧ c ≤ r + 6)) (k : ∀ m, Fr4 r M0 m → qP (f m) Q) : qP (qlm (mu M c s v) f) Q :=
  k _ (fun c2 h1 h2 => by rw [mu_nc (by omega)]; exact h c2 h1 h2)
theorem fr_X9_sign {n r : Nat} {M0 : qM} (M : qM) (h : Fr4 r M0 M) : qP (f_X9_sign n M) (Qfr r M0) := by
  unfold f_X9_sign
  refine P_if (fun _ => ?_) (fun _ => ?_)
  · exact P_ret h
  · refine P_if (fun _ => ?_) (fun _ => ?_)
    · exact P_ret h
    · refine P_qg (fun _ _ => ?_)
      exact P_ret h
theorem fr_X9_digit {n r : Nat} {M0 : qM} (M : qM) (h : Fr4 r M0 M) : qP (f_X9_digit n M) (Qfr r M0) := by
  unfold f_X9_digit
  refine P_qc (fr_X9_sign _ h) (fun r1 m2 hm2 => ?_)
  refine P_if (fun _ => ?_) (fun _ => ?_)
  · exact P_ret hm2
  · refine P_if (fun _ => ?_) (fun _ => ?_)
    · exact P_ret hm2
    · exact P_ret hm2
theorem fr_X9_takes {n r : Nat} {M0 : qM} (a1 : Int32) (M : qM) (h : Fr4 r M0 M) : qP (f_X9_takes n a1 M) (Qfr r M0) := by
  unfold f_X9_takes
  refine P_qc (fr_X9_sign _ h) (fun r1 m2 hm2 => ?_)
  refine P_if (fun _ => ?_) (fun _ => ?_)
  · refine Fr_mu hm2 (Or.inl rfl) (fun m3 hm3 => ?_)
    exact P_ret hm3
  · exact P_ret hm2
theorem fr_X9_fails {n r : Nat} {M0 : qM} (a1 a2 : Int32) (M : qM) (h : Fr4 r M0 M) : qP (f_X9_fails n a1 a2 M) (Qfr r M0) := by
  unfold f_X9_fails
  refine Fr_mu h (Or.inl rfl) (fun m1 hm1 => ?_)
  exact P_ret hm1
theorem fr_X9_mustTake {n r : Nat} {M0 : qM} (a1 : Int32) (M : qM) (h : Fr4 r M0 M) : qP (f_X9_mustTake n a1 M) (Qfr r M0) := by
  unfold f_X9_mustTake
  refine P_qc (fr_X9_takes _ _ h) (fun r1 m2 hm2 => ?_)
  refine P_if (fun _ => ?_) (fun _ => ?_)
  · refine P_qc (fr_X9_fails _ _ _ hm2) (fun r3 m4 hm4 => ?_)
    refine P_if (fun _ => ?_) (fun _ => ?_)
    · exact P_ret hm4
    · exact P_ret hm4
  · exact P_ret hm2
theorem fr_X9_mustEnd {n r : Nat} {M0 : qM} (M : qM) (h : Fr4 r M0 M) : qP (f_X9_mustEnd n M) (Qfr r M0) := by
  unfold f_X9_mustEnd
  refine P_if (fun _ => ?_) (fun _ => ?_)
  · exact P_ret h
  · refine P_qc (fr_X9_fails _ _ _ h) (fun r1 m2 hm2 => ?_)
    refine P_if (fun _ => ?_) (fun _ => ?_)
    · exact P_ret hm2
    · exact P_ret hm2
theorem fr_X9_openText {n r : Nat} {M0 : qM} (a1 : Int32) (M : qM) (h : Fr4 r M0 M) : qP (f_X9_openText n a1 M) (Qfr r M0) := by
  unfold f_X9_openText
  refine Fr_mu h (Or.inl rfl) (fun m1 hm1 => ?_)
  refine Fr_mu hm1 (Or.inl rfl) (fun m2 hm2 => ?_)
  refine Fr_mu hm2 (Or.inl rfl) (fun m3 hm3 => ?_)
  exact P_ret hm3
theorem fr_X3_clear {n r : Nat} {M0 : qM} (M : qM) (h : Fr4 r M0 M) : qP (f_X3_clear n r M) (Qfr r M0) := by
  unfold f_X3_clear
  refine Fr_mu h (Or.inr ⟨by omega, by omega⟩) (fun m1 hm1 => ?_)
  refine Fr_mu hm1 (Or.inr ⟨by omega, by omega⟩) (fun m2 hm2 => ?_)
  exact P_ret hm2
theorem fr_X3_add {n r : Nat} {M0 : qM} (a1 a2 : Int32) (M : qM) (h : Fr4 r M0 M) : qP (f_X3_add n r a1 a2 M) (Qfr r M0) := by
  unfold f_X3_add
  refine P_if (fun _ => ?_) (fun _ => ?_)
  · exact P_ret h
  · refine P_qg (fun _ _ => ?_)
    refine Fr_mu h (Or.inr ⟨by omega, by omega⟩) (fun m1 hm1 => ?_)
    refine P_qg (fun _ _ => ?_)
    refine Fr_mu hm1 (Or.inr ⟨by omega, by omega⟩) (fun m2 hm2 => ?_)
    refine Fr_mu hm2 (Or.inr ⟨by omega, by omega⟩) (fun m3 hm3 => ?_)
    exact P_ret hm3
theorem fr_X3_skipToHere {n r : Nat} {M0 : qM} (a1 : Int32) (M : qM) (h : Fr4 r M0 M) : qP (f_X3_skipToHere n r a1 M) (Qfr r M0) := by
  unfold f_X3_skipToHere
  refine P_if (fun _ => ?_) (fun _ => ?_)
  · exact P_ret h
  · refine P_if (fun _ => ?_) (fun _ => ?_)
    · exact P_ret h
    · refine P_qg (fun _ _ => ?_)
      refine Fr_mu h (Or.inr ⟨by omega, by omega⟩) (fun m1 hm1 => ?_)
      exact P_ret hm1
theorem fr_X3_addClause {n r : Nat} {M0 : qM} (a1 a2 a3 : Int32) (M : qM) (h : Fr4 r M0 M) : qP (f_X3_addClause n r a1 a2 a3 M) (Qfr r M0) := by
  unfold f_X3_addClause
  refine P_if (fun _ => ?_) (fun _ => ?_)
  · exact P_ret h
  · refine P_qg (fun _ _ => ?_)
    refine Fr_mu h (Or.inr ⟨by omega, by omega⟩) (fun m1 hm1 => ?_)
    refine P_qg (fun _ _ => ?_)
    refine Fr_mu hm1 (Or.inr ⟨by omega, by omega⟩) (fun m2 hm2 => ?_)
    refine P_qg (fun _ _ => ?_)
    refine Fr_mu hm2 (Or.inr ⟨by omega, by omega⟩) (fun m3 hm3 => ?_)
    refine P_qg (fun _ _ => ?_)
    refine Fr_mu hm3 (Or.inr ⟨by omega, by omega⟩) (fun m4 hm4 => ?_)
    refine Fr_mu hm4 (Or.inr ⟨by omega, by omega⟩) (fun m5 hm5 => ?_)
    exact P_ret hm5
theorem fr_X4_opens {n r : Nat} {M0 : qM} (a1 : Int32) (M : qM) (h : Fr4 r M0 M) : qP (f_X4_opens n a1 M) (Qfr r M0) := by
  unfold f_X4_opens
  refine P_if (fun _ => ?_) (fun _ => ?_)
  · refine Fr_mu h (Or.inl rfl) (fun m1 hm1 => ?_)
    exact P_ret hm1
  · refine P_qc (fr_X9_fails _ _ _ h) (fun r2 m3 hm3 => ?_)
    refine P_qb ?_
    exact P_ret hm3
theorem fr_b_X4_readFactor_68 {n r : Nat} {M0 : qM} {F_X4_readSum : Int32 → qM → qR} (hF_X4_readSum : ∀ (a : Int32) (M : qM), Fr4 r M0 M → qP (F_X4_readSum a M) (Qfr r M0)) {K68 : Int32 → Int32 → qM → qR} (hK68 : ∀ (b0 b1 : Int32) (M : qM), Fr4 r M0 M → qP (K68 b0 b1 M) (Qfr r M0)) (a2 a3 : Int32) (M : qM) (h : Fr4 r M0 M) : qP (b_X4_readFactor_68 n r F_X4_readSum K68 a2 a3 M) (Qfr r M0) := by
  unfold b_X4_readFactor_68
  refine P_if (fun _ => ?_) (fun _ => ?_)
  · refine P_qc (fr_X9_fails _ _ _ h) (fun r1 m2 hm2 => ?_)
    refine P_qb ?_
    exact P_ret hm2
  · refine P_qg (fun _ _ => ?_)
    refine P_if (fun _ => ?_) (fun _ => ?_)
    · refine Fr_mu h (Or.inl rfl) (fun m4 hm4 => ?_)
      refine P_qc (fr_X3_add _ _ _ hm4) (fun r5 m6 hm6 => ?_)
      exact P_ret hm6
    · refine P_ql rfl (fun x3 _ => ?_)
      exact hK68 _ _ _ h
theorem fr_X4_readFactor_68 {n r : Nat} {M0 : qM} {F_X4_readSum : Int32 → qM → qR} (hF_X4_readSum : ∀ (a : Int32) (M : qM), Fr4 r M0 M → qP (F_X4_readSum a M) (Qfr r M0)) : ∀ (m : Nat) (a2 a3 : Int32) (M : qM), Fr4 r M0 M → qP (f_X4_readFactor_68 n r F_X4_readSum m a2 a3 M) (Qfr r M0) := by
  intro m
  induction m with
  | zero => intro _ _ _ _; exact P_none
  | succ m ih =>
    intro a2 a3 M h
    exact fr_b_X4_readFactor_68 hF_X4_readSum ih _ _ M h
theorem fr_X4_readNumber_52 {n r : Nat} {M0 : qM} (a1 : Int32) (M : qM) (h : Fr4 r M0 M) : qP (f_X4_readNumber_52 n r a1 M) (Qfr r M0) := by
  unfold f_X4_readNumber_52
  refine P_qc (fr_X9_digit _ h) (fun r1 m2 hm2 => ?_)
  refine P_if (fun _ => ?_) (fun _ => ?_)
  · refine P_qc (fr_X3_add _ _ _ hm2) (fun r3 m4 hm4 => ?_)
    exact P_ret hm4
  · refine P_qc (fr_X9_fails _ _ _ hm2) (fun r5 m6 hm6 => ?_)
    refine P_qb ?_
    exact P_ret hm6
theorem fr_b_X4_readNumber_4 {n r : Nat} {M0 : qM} {K4 : Int32 → Int32 → qM → qR} (hK4 : ∀ (b0 b1 : Int32) (M : qM), Fr4 r M0 M → qP (K4 b0 b1 M) (Qfr r M0)) (a1 a2 : Int32) (M : qM) (h : Fr4 r M0 M) : qP (b_X4_readNumber_4 n r K4 a1 a2 M) (Qfr r M0) := by
  unfold b_X4_readNumber_4
  refine P_if (fun _ => ?_) (fun _ => ?_)
  · exact fr_X4_readNumber_52 _ _ h
  · refine P_qc (fr_X9_digit _ h) (fun r1 m2 hm2 => ?_)
    refine P_if (fun _ => ?_) (fun _ => ?_)
    · exact fr_X4_readNumber_52 _ _ hm2
    · refine P_qc (fr_X9_digit _ hm2) (fun r3 m4 hm4 => ?_)
      refine P_ql rfl (fun x5 _ => ?_)
      refine Fr_mu hm4 (Or.inl rfl) (fun m6 hm6 => ?_)
      refine P_ql rfl (fun x7 _ => ?_)
      exact hK4 _ _ _ hm6
theorem fr_X4_readNumber_4 {n r : Nat} {M0 : qM} : ∀ (m : Nat) (a1 a2 : Int32) (M : qM), Fr4 r M0 M → qP (f_X4_readNumber_4 n r m a1 a2 M) (Qfr r M0) := by
  intro m
  induction m with
  | zero => intro _ _ _ _; exact P_none
  | succ m ih =>
    intro a1 a2 M h
    exact fr_b_X4_readNumber_4 ih _ _ M h
theorem fr_X4_readNumber {n r : Nat} {M0 : qM} (M : qM) (h : Fr4 r M0 M) : qP (f_X4_readNumber n r M) (Qfr r M0) := by
  unfold f_X4_readNumber
  exact fr_X4_readNumber_4 _ _ _ _ h
theorem fr_fo_X4_readFactor {n r : Nat} {M0 : qM} {F_X4_readSum : Int32 → qM → qR} (hF_X4_readSum : ∀ (a : Int32) (M : qM), Fr4 r M0 M → qP (F_X4_readSum a M) (Qfr r M0)) (a1 : Int32) (M : qM) (h : Fr4 r M0 M) : qP (fo_X4_readFactor n r F_X4_readSum a1 M) (Qfr r M0) := by
  unfold fo_X4_readFactor
  refine P_qc (fr_X9_sign _ h) (fun r1 m2 hm2 => ?_)
  refine P_if (fun _ => ?_) (fun _ => ?_)
  · refine P_qc (fr_X4_opens _ _ hm2) (fun r7 m8 hm8 => ?_)
    refine P_if (fun _ => ?_) (fun _ => ?_)
    · exact P_ret hm8
    · refine P_qc (hF_X4_readSum _ _ hm8) (fun r9 m10 hm10 => ?_)
      refine P_if (fun _ => ?_) (fun _ => ?_)
      · exact P_ret hm10
      · refine P_qc (fr_X9_mustTake _ _ hm10) (fun r11 m12 hm12 => ?_)
        refine P_if (fun _ => ?_) (fun _ => ?_)
        · exact P_ret hm12
        · exact P_ret hm12
  · refine P_qc (fr_X9_digit _ hm2) (fun r3 m4 hm4 => ?_)
    refine P_if (fun _ => ?_) (fun _ => ?_)
    · exact fr_X4_readFactor_68 hF_X4_readSum _ _ _ _ hm4
    · refine P_qc (fr_X4_readNumber _ hm4) (fun r5 m6 hm6 => ?_)
      refine P_qb ?_
      exact P_ret hm6
theorem fr_X4_readProduct_51 {n r : Nat} {M0 : qM} {F_X4_readFactor : Int32 → qM → qR} (hF_X4_readFactor : ∀ (a : Int32) (M : qM), Fr4 r M0 M → qP (F_X4_readFactor a M) (Qfr r M0)) {K8 : Int32 → Int32 → Int32 → qM → qR} (hK8 : ∀ (b0 b1 b2 : Int32) (M : qM), Fr4 r M0 M → qP (K8 b0 b1 b2 M) (Qfr r M0)) (a1 a3 a4 : Int32) (M : qM) (h : Fr4 r M0 M) : qP (f_X4_readProduct_51 n r F_X4_readFactor K8 a1 a3 a4 M) (Qfr r M0) := by
  unfold f_X4_readProduct_51
  refine Fr_mu h (Or.inl rfl) (fun m1 hm1 => ?_)
  refine P_qc (hF_X4_readFactor _ _ hm1) (fun r2 m3 hm3 => ?_)
  refine P_qc (fr_X3_add _ _ _ hm3) (fun r4 m5 hm5 => ?_)
  refine P_ql rfl (fun x6 _ => ?_)
  exact hK8 _ _ _ _ hm5
theorem fr_b_X4_readProduct_8 {n r : Nat} {M0 : qM} {F_X4_readFactor : Int32 → qM → qR} (hF_X4_readFactor : ∀ (a : Int32) (M : qM), Fr4 r M0 M → qP (F_X4_readFactor a M) (Qfr r M0)) {K8 : Int32 → Int32 → Int32 → qM → qR} (hK8 : ∀ (b0 b1 b2 : Int32) (M : qM), Fr4 r M0 M → qP (K8 b0 b1 b2 M) (Qfr r M0)) (a1 a2 a3 : Int32) (M : qM) (h : Fr4 r M0 M) : qP (b_X4_readProduct_8 n r F_X4_readFactor K8 a1 a2 a3 M) (Qfr r M0) := by
  unfold b_X4_readProduct_8
  refine P_if (fun _ => ?_) (fun _ => ?_)
  · refine P_qb ?_
    exact P_ret h
  · refine P_if (fun _ => ?_) (fun _ => ?_)
    · refine P_qb ?_
      exact P_ret h
    · refine P_qc (fr_X9_sign _ h) (fun r1 m2 hm2 => ?_)
      refine P_if (fun _ => ?_) (fun _ => ?_)
      · exact fr_X4_readProduct_51 hF_X4_readFactor hK8 _ _ _ _ hm2
      · refine P_if (fun _ => ?_) (fun _ => ?_)
        · exact fr_X4_readProduct_51 hF_X4_readFactor hK8 _ _ _ _ hm2
        · refine P_if (fun _ => ?_) (fun _ => ?_)
          · exact fr_X4_readProduct_51 hF_X4_readFactor hK8 _ _ _ _ hm2
          · exact P_ret hm2
theorem fr_X4_readProduct_8 {n r : Nat} {M0 : qM} {F_X4_readFactor : Int32 → qM → qR} (hF_X4_readFactor : ∀ (a : Int32) (M : qM), Fr4 r M0 M → qP (F_X4_readFactor a M) (Qfr r M0)) : ∀ (m : Nat) (a1 a2 a3 : Int32) (M : qM), Fr4 r M0 M → qP (f_X4_readProduct_8 n r F_X4_readFactor m a1 a2 a3 M) (Qfr r M0) := by
  intro m
  induction m with
  | zero => intro _ _ _ _ _; exact P_none
  | succ m ih =>
    intro a1 a2 a3 M h
    exact fr_b_X4_readProduct_8 hF_X4_readFactor ih _ _ _ M h
theorem fr_fo_X4_readProduct {n r : Nat} {M0 : qM} {F_X4_readFactor : Int32 → qM → qR} (hF_X4_readFactor : ∀ (a : Int32) (M : qM), Fr4 r M0 M → qP (F_X4_readFactor a M) (Qfr r M0)) (a1 : Int32) (M : qM) (h : Fr4 r M0 M) : qP (fo_X4_readProduct n r F_X4_readFactor a1 M) (Qfr r M0) := by
  unfold fo_X4_readProduct
  refine P_qc (hF_X4_readFactor _ _ h) (fun r1 m2 hm2 => ?_)
  exact fr_X4_readProduct_8 hF_X4_readFactor _ _ _ _ _ hm2
theorem fr_X4_readSum_44 {n r : Nat} {M0 : qM} {F_X4_readProduct : Int32 → qM → qR} (hF_X4_readProduct : ∀ (a : Int32) (M : qM), Fr4 r M0 M → qP (F_X4_readProduct a M) (Qfr r M0)) {K8 : Int32 → Int32 → Int32 → qM → qR} (hK8 : ∀ (b0 b1 b2 : Int32) (M : qM), Fr4 r M0 M → qP (K8 b0 b1 b2 M) (Qfr r M0)) (a1 a3 a4 : Int32) (M : qM) (h : Fr4 r M0 M) : qP (f_X4_readSum_44 n r F_X4_readProduct K8 a1 a3 a4 M) (Qfr r M0) := by
  unfold f_X4_readSum_44
  refine Fr_mu h (Or.inl rfl) (fun m1 hm1 => ?_)
  refine P_qc (hF_X4_readProduct _ _ hm1) (fun r2 m3 hm3 => ?_)
  refine P_qc (fr_X3_add _ _ _ hm3) (fun r4 m5 hm5 => ?_)
  refine P_ql rfl (fun x6 _ => ?_)
  exact hK8 _ _ _ _ hm5
theorem fr_b_X4_readSum_8 {n r : Nat} {M0 : qM} {F_X4_readProduct : Int32 → qM → qR} (hF_X4_readProduct : ∀ (a : Int32) (M : qM), Fr4 r M0 M → qP (F_X4_readProduct a M) (Qfr r M0)) {K8 : Int32 → Int32 → Int32 → qM → qR} (hK8 : ∀ (b0 b1 b2 : Int32) (M : qM), Fr4 r M0 M → qP (K8 b0 b1 b2 M) (Qfr r M0)) (a1 a2 a3 : Int32) (M : qM) (h : Fr4 r M0 M) : qP (b_X4_readSum_8 n r F_X4_readProduct K8 a1 a2 a3 M) (Qfr r M0) := by
  unfold b_X4_readSum_8
  refine P_if (fun _ => ?_) (fun _ => ?_)
  · refine P_qb ?_
    exact P_ret h
  · refine P_if (fun _ => ?_) (fun _ => ?_)
    · refine P_qb ?_
      exact P_ret h
    · refine P_qc (fr_X9_sign _ h) (fun r1 m2 hm2 => ?_)
      refine P_if (fun _ => ?_) (fun _ => ?_)
      · exact fr_X4_readSum_44 hF_X4_readProduct hK8 _ _ _ _ hm2
      · refine P_if (fun _ => ?_) (fun _ => ?_)
        · exact fr_X4_readSum_44 hF_X4_readProduct hK8 _ _ _ _ hm2
        · exact P_ret hm2
theorem fr_X4_readSum_8 {n r : Nat} {M0 : qM} {F_X4_readProduct : Int32 → qM → qR} (hF_X4_readProduct : ∀ (a : Int32) (M : qM), Fr4 r M0 M → qP (F_X4_readProduct a M) (Qfr r M0)) : ∀ (m : Nat) (a1 a2 a3 : Int32) (M : qM), Fr4 r M0 M → qP (f_X4_readSum_8 n r F_X4_readProduct m a1 a2 a3 M) (Qfr r M0) := by
  intro m
  induction m with
  | zero => intro _ _ _ _ _; exact P_none
  | succ m ih =>
    intro a1 a2 a3 M h
    exact fr_b_X4_readSum_8 hF_X4_readProduct ih _ _ _ M h
theorem fr_fo_X4_readSum {n r : Nat} {M0 : qM} {F_X4_readProduct : Int32 → qM → qR} (hF_X4_readProduct : ∀ (a : Int32) (M : qM), Fr4 r M0 M → qP (F_X4_readProduct a M) (Qfr r M0)) (a1 : Int32) (M : qM) (h : Fr4 r M0 M) : qP (fo_X4_readSum n r F_X4_readProduct a1 M) (Qfr r M0) := by
  unfold fo_X4_readSum
  refine P_qc (hF_X4_readProduct _ _ h) (fun r1 m2 hm2 => ?_)
  exact fr_X4_readSum_8 hF_X4_readProduct _ _ _ _ _ hm2
theorem fr_rc_X4_readFactor {n r : Nat} {M0 : qM} : ∀ (m : Nat), (∀ (a1 : Int32) (M : qM), Fr4 r M0 M → qP (rc_X4_readFactor n r m 0 a1 M) (Qfr r M0)) ∧ (∀ (a1 : Int32) (M : qM), Fr4 r M0 M → qP (rc_X4_readFactor n r m 1 a1 M) (Qfr r M0)) ∧ (∀ (a1 : Int32) (M : qM), Fr4 r M0 M → qP (rc_X4_readFactor n r m 2 a1 M) (Qfr r M0)) := by
  intro m
  induction m with
  | zero => exact ⟨fun _ _ _ => P_none, fun _ _ _ => P_none, fun _ _ _ => P_none⟩
  | succ m ih =>
    exact ⟨fun a1 M h => fr_fo_X4_readFactor (fun a M h => ih.2.2 a M h) a1 M h, fun a1 M h => fr_fo_X4_readProduct (fun a M h => ih.1 a M h) a1 M h, fun a1 M h => fr_fo_X4_readSum (fun a M h => ih.2.1 a M h) a1 M h⟩
theorem fr_X4_readFactor {n r : Nat} {M0 : qM} (a1 : Int32) (M : qM) (h : Fr4 r M0 M) : qP (f_X4_readFactor n r a1 M) (Qfr r M0) := (fr_rc_X4_readFactor 30).1 a1 M h
theorem fr_X4_readProduct {n r : Nat} {M0 : qM} (a1 : Int32) (M : qM) (h : Fr4 r M0 M) : qP (f_X4_readProduct n r a1 M) (Qfr r M0) := (fr_rc_X4_readFactor 30).2.1 a1 M h
theorem fr_X4_readSum {n r : Nat} {M0 : qM} (a1 : Int32) (M : qM) (h : Fr4 r M0 M) : qP (f_X4_readSum n r a1 M) (Qfr r M0) := (fr_rc_X4_readFactor 30).2.2 a1 M h
theorem fr_X4_readPiece_83 {n r : Nat} {M0 : qM} {F_X4_readCondition : Int32 → qM → qR} (hF_X4_readCondition : ∀ (a : Int32) (M : qM), Fr4 r M0 M → qP (F_X4_readCondition a M) (Qfr r M0)) {F_X4_readPiece : Int32 → qM → qR} (hF_X4_readPiece : ∀ (a : Int32) (M : qM), Fr4 r M0 M → qP (F_X4_readPiece a M) (Qfr r M0)) (s0 : Int32) (M : qM) (h : Fr4 r M0 M) : qP (f_X4_readPiece_83 n r F_X4_readCondition F_X4_readPiece s0 M) (Qfr r M0) := by
  unfold f_X4_readPiece_83
  refine P_qc (fr_X3_add _ _ _ h) (fun r1 m2 hm2 => ?_)
  refine P_qb ?_
  exact P_ret hm2
theorem fr_X4_readPiece_82 {n r : Nat} {M0 : qM} {F_X4_readCondition : Int32 → qM → qR} (hF_X4_readCondition : ∀ (a : Int32) (M : qM), Fr4 r M0 M → qP (F_X4_readCondition a M) (Qfr r M0)) {F_X4_readPiece : Int32 → qM → qR} (hF_X4_readPiece : ∀ (a : Int32) (M : qM), Fr4 r M0 M → qP (F_X4_readPiece a M) (Qfr r M0)) (M : qM) (h : Fr4 r M0 M) : qP (f_X4_readPiece_82 n r F_X4_readCondition F_X4_readPiece M) (Qfr r M0) := by
  unfold f_X4_readPiece_82
  exact fr_X4_readPiece_83 hF_X4_readCondition hF_X4_readPiece _ _ h
theorem fr_X4_readPiece_148 {n r : Nat} {M0 : qM} {F_X4_readCondition : Int32 → qM → qR} (hF_X4_readCondition : ∀ (a : Int32) (M : qM), Fr4 r M0 M → qP (F_X4_readCondition a M) (Qfr r M0)) {F_X4_readPiece : Int32 → qM → qR} (hF_X4_readPiece : ∀ (a : Int32) (M : qM), Fr4 r M0 M → qP (F_X4_readPiece a M) (Qfr r M0)) (a1 a2 : Int32) (M : qM) (h : Fr4 r M0 M) : qP (f_X4_readPiece_148 n r F_X4_readCondition F_X4_readPiece a1 a2 M) (Qfr r M0) := by
  unfold f_X4_readPiece_148
  refine Fr_mu h (Or.inl rfl) (fun m1 hm1 => ?_)
  refine P_qc (fr_X4_readSum _ _ hm1) (fun r2 m3 hm3 => ?_)
  refine P_qc (fr_X3_add _ _ _ hm3) (fun r4 m5 hm5 => ?_)
  refine P_qb ?_
  exact P_ret hm5
theorem fr_fo_X4_readPiece {n r : Nat} {M0 : qM} {F_X4_readCondition : Int32 → qM → qR} (hF_X4_readCondition : ∀ (a : Int32) (M : qM), Fr4 r M0 M → qP (F_X4_readCondition a M) (Qfr r M0)) {F_X4_readPiece : Int32 → qM → qR} (hF_X4_readPiece : ∀ (a : Int32) (M : qM), Fr4 r M0 M → qP (F_X4_readPiece a M) (Qfr r M0)) (a1 : Int32) (M : qM) (h : Fr4 r M0 M) : qP (fo_X4_readPiece n r F_X4_readCondition F_X4_readPiece a1 M) (Qfr r M0) := by
  unfold fo_X4_readPiece
  refine P_qc (fr_X9_sign _ h) (fun r1 m2 hm2 => ?_)
  refine P_if (fun _ => ?_) (fun _ => ?_)
  · refine P_qc (fr_X4_opens _ _ hm2) (fun r15 m16 hm16 => ?_)
    refine P_if (fun _ => ?_) (fun _ => ?_)
    · exact P_ret hm16
    · refine P_qc (hF_X4_readCondition _ _ hm16) (fun r17 m18 hm18 => ?_)
      refine P_if (fun _ => ?_) (fun _ => ?_)
      · exact P_ret hm18
      · refine P_qc (fr_X9_mustTake _ _ hm18) (fun r19 m20 hm20 => ?_)
        refine P_if (fun _ => ?_) (fun _ => ?_)
        · exact P_ret hm20
        · exact P_ret hm20
  · refine P_qc (fr_X9_sign _ hm2) (fun r3 m4 hm4 => ?_)
    refine P_if (fun _ => ?_) (fun _ => ?_)
    · refine P_qc (fr_X4_opens _ _ hm4) (fun r11 m12 hm12 => ?_)
      refine P_if (fun _ => ?_) (fun _ => ?_)
      · exact fr_X4_readPiece_82 hF_X4_readCondition hF_X4_readPiece _ hm12
      · refine P_qc (hF_X4_readPiece _ _ hm12) (fun r13 m14 hm14 => ?_)
        refine P_if (fun _ => ?_) (fun _ => ?_)
        · exact fr_X4_readPiece_82 hF_X4_readCondition hF_X4_readPiece _ hm14
        · exact fr_X4_readPiece_83 hF_X4_readCondition hF_X4_readPiece _ _ hm14
    · refine P_qc (fr_X4_readSum _ _ hm4) (fun r5 m6 hm6 => ?_)
      refine P_if (fun _ => ?_) (fun _ => ?_)
      · exact P_ret hm6
      · refine P_qc (fr_X9_sign _ hm6) (fun r7 m8 hm8 => ?_)
        refine P_if (fun _ => ?_) (fun _ => ?_)
        · exact fr_X4_readPiece_148 hF_X4_readCondition hF_X4_readPiece _ _ _ hm8
        · refine P_if (fun _ => ?_) (fun _ => ?_)
          · exact fr_X4_readPiece_148 hF_X4_readCondition hF_X4_readPiece _ _ _ hm8
          · refine P_if (fun _ => ?_) (fun _ => ?_)
            · exact fr_X4_readPiece_148 hF_X4_readCondition hF_X4_readPiece _ _ _ hm8
            · refine P_qc (fr_X9_fails _ _ _ hm8) (fun r9 m10 hm10 => ?_)
              refine P_qb ?_
              exact P_ret hm10
theorem fr_b_X4_readPart_12 {n r : Nat} {M0 : qM} {F_X4_readPiece : Int32 → qM → qR} (hF_X4_readPiece : ∀ (a : Int32) (M : qM), Fr4 r M0 M → qP (F_X4_readPiece a M) (Qfr r M0)) {K12 : Int32 → Int32 → qM → qR} (hK12 : ∀ (b0 b1 : Int32) (M : qM), Fr4 r M0 M → qP (K12 b0 b1 M) (Qfr r M0)) (a1 a2 : Int32) (M : qM) (h : Fr4 r M0 M) : qP (b_X4_readPart_12 n r F_X4_readPiece K12 a1 a2 M) (Qfr r M0) := by
  unfold b_X4_readPart_12
  refine P_if (fun _ => ?_) (fun _ => ?_)
  · exact P_ret h
  · refine P_qc (fr_X9_takes _ _ h) (fun r1 m2 hm2 => ?_)
    refine P_if (fun _ => ?_) (fun _ => ?_)
    · exact P_ret hm2
    · refine P_qc (fr_X3_add _ _ _ hm2) (fun r3 m4 hm4 => ?_)
      refine P_qc (hF_X4_readPiece _ _ hm4) (fun r5 m6 hm6 => ?_)
      refine P_if (fun _ => ?_) (fun _ => ?_)
      · exact P_ret hm6
      · refine P_qc (fr_X3_skipToHere _ _ hm6) (fun _ m7 hm7 => ?_)
        refine P_ql rfl (fun x8 _ => ?_)
        exact hK12 _ _ _ hm7
theorem fr_X4_readPart_12 {n r : Nat} {M0 : qM} {F_X4_readPiece : Int32 → qM → qR} (hF_X4_readPiece : ∀ (a : Int32) (M : qM), Fr4 r M0 M → qP (F_X4_readPiece a M) (Qfr r M0)) : ∀ (m : Nat) (a1 a2 : Int32) (M : qM), Fr4 r M0 M → qP (f_X4_readPart_12 n r F_X4_readPiece m a1 a2 M) (Qfr r M0) := by
  intro m
  induction m with
  | zero => intro _ _ _ _; exact P_none
  | succ m ih =>
    intro a1 a2 M h
    exact fr_b_X4_readPart_12 hF_X4_readPiece ih _ _ M h
theorem fr_fo_X4_readPart {n r : Nat} {M0 : qM} {F_X4_readPiece : Int32 → qM → qR} (hF_X4_readPiece : ∀ (a : Int32) (M : qM), Fr4 r M0 M → qP (F_X4_readPiece a M) (Qfr r M0)) (a1 : Int32) (M : qM) (h : Fr4 r M0 M) : qP (fo_X4_readPart n r F_X4_readPiece a1 M) (Qfr r M0) := by
  unfold fo_X4_readPart
  refine P_qc (hF_X4_readPiece _ _ h) (fun r1 m2 hm2 => ?_)
  refine P_if (fun _ => ?_) (fun _ => ?_)
  · exact P_ret hm2
  · exact fr_X4_readPart_12 hF_X4_readPiece _ _ _ _ hm2
theorem fr_b_X4_readCondition_12 {n r : Nat} {M0 : qM} {F_X4_readPart : Int32 → qM → qR} (hF_X4_readPart : ∀ (a : Int32) (M : qM), Fr4 r M0 M → qP (F_X4_readPart a M) (Qfr r M0)) {K12 : Int32 → Int32 → qM → qR} (hK12 : ∀ (b0 b1 : Int32) (M : qM), Fr4 r M0 M → qP (K12 b0 b1 M) (Qfr r M0)) (a1 a2 : Int32) (M : qM) (h : Fr4 r M0 M) : qP (b_X4_readCondition_12 n r F_X4_readPart K12 a1 a2 M) (Qfr r M0) := by
  unfold b_X4_readCondition_12
  refine P_if (fun _ => ?_) (fun _ => ?_)
  · exact P_ret h
  · refine P_qc (fr_X9_takes _ _ h) (fun r1 m2 hm2 => ?_)
    refine P_if (fun _ => ?_) (fun _ => ?_)
    · exact P_ret hm2
    · refine P_qc (fr_X3_add _ _ _ hm2) (fun r3 m4 hm4 => ?_)
      refine P_qc (hF_X4_readPart _ _ hm4) (fun r5 m6 hm6 => ?_)
      refine P_if (fun _ => ?_) (fun _ => ?_)
      · exact P_ret hm6
      · refine P_qc (fr_X3_skipToHere _ _ hm6) (fun _ m7 hm7 => ?_)
        refine P_ql rfl (fun x8 _ => ?_)
        exact hK12 _ _ _ hm7
theorem fr_X4_readCondition_12 {n r : Nat} {M0 : qM} {F_X4_readPart : Int32 → qM → qR} (hF_X4_readPart : ∀ (a : Int32) (M : qM), Fr4 r M0 M → qP (F_X4_readPart a M) (Qfr r M0)) : ∀ (m : Nat) (a1 a2 : Int32) (M : qM), Fr4 r M0 M → qP (f_X4_readCondition_12 n r F_X4_readPart m a1 a2 M) (Qfr r M0) := by
  intro m
  induction m with
  | zero => intro _ _ _ _; exact P_none
  | succ m ih =>
    intro a1 a2 M h
    exact fr_b_X4_readCondition_12 hF_X4_readPart ih _ _ M h
theorem fr_fo_X4_readCondition {n r : Nat} {M0 : qM} {F_X4_readPart : Int32 → qM → qR} (hF_X4_readPart : ∀ (a : Int32) (M : qM), Fr4 r M0 M → qP (F_X4_readPart a M) (Qfr r M0)) (a1 : Int32) (M : qM) (h : Fr4 r M0 M) : qP (fo_X4_readCondition n r F_X4_readPart a1 M) (Qfr r M0) := by
  unfold fo_X4_readCondition
  refine P_qc (hF_X4_readPart _ _ h) (fun r1 m2 hm2 => ?_)
  refine P_if (fun _ => ?_) (fun _ => ?_)
  · exact P_ret hm2
  · exact fr_X4_readCondition_12 hF_X4_readPart _ _ _ _ hm2
theorem fr_rc_X4_readPiece {n r : Nat} {M0 : qM} : ∀ (m : Nat), (∀ (a1 : Int32) (M : qM), Fr4 r M0 M → qP (rc_X4_readPiece n r m 0 a1 M) (Qfr r M0)) ∧ (∀ (a1 : Int32) (M : qM), Fr4 r M0 M → qP (rc_X4_readPiece n r m 1 a1 M) (Qfr r M0)) ∧ (∀ (a1 : Int32) (M : qM), Fr4 r M0 M → qP (rc_X4_readPiece n r m 2 a1 M) (Qfr r M0)) := by
  intro m
  induction m with
  | zero => exact ⟨fun _ _ _ => P_none, fun _ _ _ => P_none, fun _ _ _ => P_none⟩
  | succ m ih =>
    exact ⟨fun a1 M h => fr_fo_X4_readPiece (fun a M h => ih.2.2 a M h) (fun a M h => ih.1 a M h) a1 M h, fun a1 M h => fr_fo_X4_readPart (fun a M h => ih.1 a M h) a1 M h, fun a1 M h => fr_fo_X4_readCondition (fun a M h => ih.2.1 a M h) a1 M h⟩
theorem fr_X4_readPiece {n r : Nat} {M0 : qM} (a1 : Int32) (M : qM) (h : Fr4 r M0 M) : qP (f_X4_readPiece n r a1 M) (Qfr r M0) := (fr_rc_X4_readPiece 30).1 a1 M h
theorem fr_X4_readPart {n r : Nat} {M0 : qM} (a1 : Int32) (M : qM) (h : Fr4 r M0 M) : qP (f_X4_readPart n r a1 M) (Qfr r M0) := (fr_rc_X4_readPiece 30).2.1 a1 M h
theorem fr_X4_readCondition {n r : Nat} {M0 : qM} (a1 : Int32) (M : qM) (h : Fr4 r M0 M) : qP (f_X4_readCondition n r a1 M) (Qfr r M0) := (fr_rc_X4_readPiece 30).2.2 a1 M h
theorem fr_X4_readClause_113 {n r : Nat} {M0 : qM} (a1 a2 : Int32) (M : qM) (h : Fr4 r M0 M) : qP (f_X4_readClause_113 n r a1 a2 M) (Qfr r M0) := by
  unfold f_X4_readClause_113
  refine P_ql rfl (fun x1 _ => ?_)
  refine P_qc (fr_X9_mustTake _ _ h) (fun r2 m3 hm3 => ?_)
  refine P_if (fun _ => ?_) (fun _ => ?_)
  · exact P_ret hm3
  · refine P_qc (fr_X4_readCondition _ _ hm3) (fun r4 m5 hm5 => ?_)
    refine P_if (fun _ => ?_) (fun _ => ?_)
    · exact P_ret hm5
    · refine P_qc (fr_X9_mustTake _ _ hm5) (fun r6 m7 hm7 => ?_)
      refine P_if (fun _ => ?_) (fun _ => ?_)
      · exact P_ret hm7
      · refine P_qc (fr_X3_addClause _ _ _ _ hm7) (fun _ m8 hm8 => ?_)
        exact P_ret hm8
theorem fr_X4_readClause_48 {n r : Nat} {M0 : qM} (a1 : Int32) (M : qM) (h : Fr4 r M0 M) : qP (f_X4_readClause_48 n r a1 M) (Qfr r M0) := by
  unfold f_X4_readClause_48
  refine P_if (fun _ => ?_) (fun _ => ?_)
  · refine Fr_mu h (Or.inl rfl) (fun m1 hm1 => ?_)
    refine P_ql rfl (fun x2 _ => ?_)
    refine P_if (fun _ => ?_) (fun _ => ?_)
    · exact fr_X4_readClause_113 _ _ _ hm1
    · refine P_qc (fr_X4_readSum _ _ hm1) (fun r3 m4 hm4 => ?_)
      refine P_if (fun _ => ?_) (fun _ => ?_)
      · exact P_ret hm4
      · exact fr_X4_readClause_113 _ _ _ hm4
  · refine P_qc (fr_X9_fails _ _ _ h) (fun r5 m6 hm6 => ?_)
    refine P_qb ?_
    exact P_ret hm6
theorem fr_X4_readClause {n r : Nat} {M0 : qM} (M : qM) (h : Fr4 r M0 M) : qP (f_X4_readClause n r M) (Qfr r M0) := by
  unfold f_X4_readClause
  refine P_qc (fr_X9_sign _ h) (fun r1 m2 hm2 => ?_)
  refine P_if (fun _ => ?_) (fun _ => ?_)
  · exact fr_X4_readClause_48 _ _ hm2
  · refine P_if (fun _ => ?_) (fun _ => ?_)
    · exact fr_X4_readClause_48 _ _ hm2
    · refine P_if (fun _ => ?_) (fun _ => ?_)
      · exact fr_X4_readClause_48 _ _ hm2
      · refine P_if (fun _ => ?_) (fun _ => ?_)
        · exact fr_X4_readClause_48 _ _ hm2
        · refine P_qc (fr_X9_fails _ _ _ hm2) (fun r3 m4 hm4 => ?_)
          refine P_qb ?_
          exact P_ret hm4
theorem fr_b_X4_read_17 {n r : Nat} {M0 : qM} {K17 : Int32 → qM → qR} (hK17 : ∀ (b0 : Int32) (M : qM), Fr4 r M0 M → qP (K17 b0 M) (Qfr r M0)) (a2 : Int32) (M : qM) (h : Fr4 r M0 M) : qP (b_X4_read_17 n r K17 a2 M) (Qfr r M0) := by
  unfold b_X4_read_17
  refine P_if (fun _ => ?_) (fun _ => ?_)
  · exact P_ret h
  · refine P_qc (fr_X4_readClause _ h) (fun r1 m2 hm2 => ?_)
    refine P_if (fun _ => ?_) (fun _ => ?_)
    · exact P_ret hm2
    · refine P_qc (fr_X9_takes _ _ hm2) (fun r3 m4 hm4 => ?_)
      refine P_if (fun _ => ?_) (fun _ => ?_)
      · refine P_qc (fr_X9_mustEnd _ hm4) (fun r6 m7 hm7 => ?_)
        refine P_if (fun _ => ?_) (fun _ => ?_)
        · exact P_ret hm7
        · exact P_ret hm7
      · refine P_ql rfl (fun x5 _ => ?_)
        exact hK17 _ _ hm4
theorem fr_X4_read_17 {n r : Nat} {M0 : qM} : ∀ (m : Nat) (a2 : Int32) (M : qM), Fr4 r M0 M → qP (f_X4_read_17 n r m a2 M) (Qfr r M0) := by
  intro m
  induction m with
  | zero => intro _ _ _; exact P_none
  | succ m ih =>
    intro a2 M h
    exact fr_b_X4_read_17 ih _ M h
theorem fr_X4_read {n r : Nat} {M0 : qM} (a1 : Int32) (M : qM) (h : Fr4 r M0 M) : qP (f_X4_read n r a1 M) (Qfr r M0) := by
  unfold f_X4_read
  refine P_qc (fr_X3_clear _ h) (fun _ m1 hm1 => ?_)
  refine P_qc (fr_X9_openText _ _ hm1) (fun _ m2 hm2 => ?_)
  exact fr_X4_read_17 _ _ _ hm2
/-! a fault's number is below 0 -/
def nz (c : Lc) : Prop := (c.1 = 4 ∧ c.2.1 < 0) ∨ (c.1 ≠ 4 ∧ 0 ≤ c.2.1)
theorem nz_F {k w : Int} (hk : 1 ≤ k) (hw : 0 ≤ w) : nz (zF k w) := Or.inl ⟨rfl, by show -1000 * k - w < 0; omega⟩
theorem nz_mk {t : Nat} {pl ph : Int} {C : List Int} {W : List (Int × Int)} (ht : t ≠ 4) (h : 0 ≤ pl) : nz (t, pl, ph, C, W) := Or.inr ⟨ht, h⟩
theorem nz_O {pl ph k : Int} {C : List Int} {W : List (Int × Int)} {t : Nat} (ht : t ≠ 4) (h : 0 ≤ pl) : nz (zO pl ph k C W t) := by
  unfold zO
  by_cases c : opn W = 6
  · rw [if_pos c]; exact nz_F (by decide) h
  · rw [if_neg c]; exact nz_mk ht (by omega)
theorem nz_st {T : Int → Int} {c : Lc} (h : nz c) : nz (zS T c) := by
  obtain ⟨t, pl, ph, C, W⟩ := c
  by_cases c4 : 4 ≤ t
  · rw [zS_big c4]; exact h
  · have h0 : 0 ≤ pl := by
      rcases h with h | h
      · have h1 : t = 4 := h.1
        omega
      · exact h.2
    have hE : ∀ W : List (Int × Int), nz (zE T pl ph C W) := by
      intro W
      unfold zE
      repeat' split
      all_goals first | exact nz_F (by decide) (by omega) | exact nz_mk (by decide) (by omega)
    have hGl : ∀ (W : List (Int × Int)) (top : Int) (W' : List (Int × Int)), nz (zG T pl ph C W top W') := by
      intro W top W'
      unfold zG
      repeat' split
      all_goals first | exact hE _ | exact nz_F (by decide) (by omega) | exact nz_mk (by decide) (by omega)
    rcases (show t = 0 ∨ t = 1 ∨ t = 2 ∨ t = 3 by omega) with rfl | rfl | rfl | rfl
    · rw [ls_A]
      unfold zA
      repeat' split
      all_goals first | exact nz_O (by decide) h0 | exact nz_F (by decide) (by omega) | exact nz_mk (by decide) (by omega)
    · rw [ls_B]
      cases W with
      | nil => exact hGl [] (-1) []
      | cons q r =>
        rw [zB_c]
        repeat' split
        all_goals first | exact hGl _ _ _ | exact nz_mk (by decide) (by omega)
    · rw [ls_C]
      unfold zC
      repeat' split
      all_goals first | exact nz_O (by decide) h0 | exact nz_mk (by decide) (by omega)
    · rw [ls_D]
      cases W with
      | nil => exact nz_F (by decide) h0
      | cons q r =>
        rw [zD_c]
        unfold zH
        repeat' split
        all_goals first | exact nz_F (by decide) (by omega) | exact nz_mk (by decide) (by omega)
theorem nz_y {T : Int → Int} {len : Int} {d : Ld} (h : nz d.1) : nz (yS T len d).1 := by
  obtain ⟨⟨t, pl, ph, C, W⟩, X, K⟩ := d
  have h0 : t ≠ 4 → 0 ≤ pl := by
    intro ht
    rcases h with h | h
    · exact absurd h.1 ht
    · exact h.2
  by_cases c5 : t = 5
  · subst c5
    rw [ys_5]
    have := h0 (by decide)
    unfold y5 yF
    repeat' split
    all_goals first | exact nz_F (by decide) (by omega) | exact nz_mk (by decide) (by omega)
  · by_cases c6 : t = 6
    · subst c6
      rw [ys_6]
      have := h0 (by decide)
      unfold y6 yF
      repeat' split
      all_goals first | exact nz_F (by decide) (by omega) | exact nz_mk (by decide) (by omega)
    · by_cases c7 : t = 7
      · subst c7
        rw [ys_7]
        have := h0 (by decide)
        unfold y7 yF
        repeat' split
        all_goals first | exact nz_F (by decide) (by omega) | exact nz_mk (by decide) (by omega)
      · by_cases c4 : t = 4
        · subst c4; exact h
        · have e : (yS T len ((t, pl, ph, C, W), X, K)).1 = zS T (t, pl, ph, C, W) := by
            unfold yS
            rw [if_neg c5, if_neg c6, if_neg c7, if_neg c4]
          rw [e]; exact nz_st h
theorem nz_I {T : Int → Int} {len : Int} : ∀ (n : Nat) {d : Ld}, nz d.1 → nz (yI T len n d).1 := by
  intro n
  induction n with
  | zero => intro d h; exact h
  | succ n ih => intro d h; exact ih (nz_y h)
theorem Yo_neg {T : Int → Int} {len f : Int} (h : Yo T len d00 ((4, f, 0, [], []), (0, 0, 0), [])) : f < 0 := by
  obtain ⟨n, hn⟩ := h
  have h1 := nz_I (T := T) (len := len) n (d := d00) (nz_mk (by decide) (Int.le_refl _))
  rw [hn] at h1
  rcases h1 with h1 | h1
  · exact h1.2
  · exact absurd rfl h1.1
theorem law_none {n : Nat} {a1 v2 : Int32} {m1 m2 : qM} (h2 : ¬ (1 ≤ a1.toInt ∧ a1.toInt ≤ 240 ∧ a1.toInt ≤ (m1 77 8).toInt)) (e2 : f_X12_law n a1 m1 = some (v2, m2)) : m2 = m1 := by
  unfold f_X12_law at e2
  by_cases c1 : a1 < (1 : Int32) ∨ (240 : Int32) < a1
  · have cin : (if a1 < (1 : Int32) ∨ (240 : Int32) < a1 then (0 : Int32) else 1) = 0 := if_pos c1
    rw [in_eq, cin, qc_v, if_pos rfl] at e2
    injection e2 with e2; injection e2 with _ e2; exact e2.symm
  · have cin : (if a1 < (1 : Int32) ∨ (240 : Int32) < a1 then (0 : Int32) else 1) = 1 := if_neg c1
    rw [in_eq, cin, qc_v, if_neg (show ¬ (1 : Int32) = 0 by decide)] at e2
    rw [Int32.lt_iff_toInt_lt, Int32.lt_iff_toInt_lt, l_1, l_240] at c1
    rw [if_neg (show ¬ a1 ≤ m1 77 8 by rw [Int32.le_iff_toInt_le]; omega)] at e2
    injection e2 with e2; injection e2 with _ e2; exact e2.symm
/-! the law on both sides -/
def LR (j : Nat) (A B : qM) : Prop := ∃ C K, LJ j A C K ∧ LM B C K ∧ Kg (cdl C) C.length K ∧ C.length ≤ 240
theorem LR_cg {j : Nat} {A A' B B' : qM} (h : LR j A B) (e1 : ∀ k, k ≤ 6 → A' (j + k) = A (j + k)) (e2 : ∀ c, 91 ≤ c → c ≤ 95 → B' c = B c) (e3 : B' 77 17 = B 77 17) : LR j A' B' := by
  obtain ⟨C, K, h1, h2, h3, h4⟩ := h
  exact ⟨C, K, LJ_cg h1 e1, LM_cg h2 e2 e3, h3, h4⟩
theorem clear_1 {n : Nat} (m : qM) : qP (f_X9_clear n m) (fun _ m3 => ∀ c, c ≠ 1 → m3 c = m c) := by
  unfold f_X9_clear
  exact P_m (fun m1 _ _ c1 => P_ret c1)
/-- what the class's law leaves as it was -/
theorem law_fr {n j r : Nat} (a1 : Int32) (M : qM) : qP (f_X11_law n j r a1 M) (Qfr r M) ∧ qP (f_X11_lawS n j r a1 M) (Qfr r M) := by
  have h0 : Fr4 r M M := fun _ _ _ => rfl
  unfold f_X11_law f_X11_lawS
  constructor
  · refine P_if (fun _ => P_ret h0) (fun _ => P_if (fun _ => P_ret h0) (fun _ => P_if (fun _ => ?_) (fun _ => P_ret h0)))
    refine P_qc (fr_X4_read _ _ h0) (fun r1 m2 h2 => P_qc (clear_1 m2) (fun _ m3 h3 => ?_))
    have h4 : Fr4 r M m3 := fun c q1 q2 => by rw [h3 c q1]; exact h2 c q1 q2
    exact P_if (fun _ => P_ret h4) (fun _ => P_none)
  · refine P_if (fun _ => P_none) (fun _ => P_if (fun _ => P_none) (fun _ => P_if (fun _ => ?_) (fun _ => P_none)))
    refine P_qc (fr_X4_read _ _ h0) (fun r1 m2 h2 => P_qc (clear_1 m2) (fun _ m3 h3 => ?_))
    have h4 : Fr4 r M m3 := fun c q1 q2 => by rw [h3 c q1]; exact h2 c q1 q2
    exact P_if (fun _ => P_none) (fun _ => P_ret h4)
/-- law: the answers agree; the law of both sides is the same behind it, and it stands at j, or, if it was taken, at r -/
theorem law_st {n : Nat} (hn : 200000 ≤ n) {j r : Nat} (hj : q_isLaw j) (hr : q_isLaw r) (hjr : j ≠ r) {a1 v1 v2 : Int32} {M m1 m2 : qM} (hG : G M) (hG1 : G m1) (hT : TR M) (hs : (M 1 1).toInt = (m1 77 8).toInt) (h84 : m1 84 = M 84) (e91 : ∀ c, 91 ≤ c → c ≤ 95 → m1 c = M c) (e17 : m1 77 17 = M 77 17) (hR : LR j M M) (e2 : f_X12_law n a1 m1 = some (v2, m2)) : (f_X11_law n j r a1 M = some (v1, m1) → v1 = v2 ∧ LR j m1 m2) ∧ (f_X11_lawS n j r a1 M = some (v1, m1) → v1 = v2 ∧ LR r m1 m2) := by
  have hjk : ∀ k, k ≤ 6 → j + k ≠ 1 ∧ (j + k < r ∨ r + 6 < j + k) := fun k hk => by rcases hj with rfl | rfl <;> rcases hr with rfl | rfl <;> omega
  have hlaw := law_fr (n := n) (j := j) (r := r) a1 M
  by_cases h2 : 1 ≤ a1.toInt ∧ a1.toInt ≤ 240 ∧ a1.toInt ≤ (M 1 1).toInt
  · have q2 := x_law hn a1 m1 hG1 ⟨h2.1, h2.2.1, by omega⟩ v2 m2 e2
    rw [h84, ← TR_t hT h2.2.2] at q2
    constructor
    · intro e1
      obtain ⟨q1, hv⟩ := (w_law hn (j := j) hr a1 M hG h2).1 v1 m1 e1
      have hf := hlaw.1 v1 m1 e1
      obtain ⟨ev, hq⟩ := Qjm q1 q2
      refine ⟨ev, ?_⟩
      rcases hq with ⟨_, hA⟩ | ⟨C, K, p, hY, hvK, hC, hKr, hLM⟩
      · exact LR_cg hR (fun k hk => hf _ (hjk k hk).1 (hjk k hk).2) (fun c c1 c2 => by rw [hA.1 c c1 c2, e91 c c1 c2]) (by rw [hA.2, e17])
      · have := (Vz_8 hY (by have := CR_len hr hG1 hC; omega)).1
        omega
    · intro e1
      obtain ⟨q1, hv⟩ := (w_law hn (j := j) hr a1 M hG h2).2 v1 m1 e1
      obtain ⟨ev, hq⟩ := Qjm q1 q2
      refine ⟨ev, ?_⟩
      rcases hq with ⟨hY, _⟩ | ⟨C, K, p, hY, hvK, hC, hKr, hLM⟩
      · exfalso
        rcases q1 with q1 | ⟨C, K, p, hY2, hvK, hC, hKr⟩
        · have := Yo_neg hY; omega
        · have := Yo_det hY hY2 rfl rfl
          injection this with q
          injection q with q
          exact absurd q (by decide)
      · have h240 := CR_len hr hG1 hC
        exact ⟨C, K, ⟨hC, hKr⟩, hLM, (Vz_8 hY (by omega)).2, h240⟩
  · have ha := law_ag hn (j := j) hr hG hG1 hT hs h84 (e2 := e2) (v1 := v1)
    constructor
    · intro e1
      have hv := ha (Or.inl e1)
      have hf := hlaw.1 v1 m1 e1
      refine ⟨hv, LR_cg hR (fun k hk => hf _ (hjk k hk).1 (hjk k hk).2) ?_ ?_⟩
      · intro c c1 c2
        rw [← e91 c c1 c2]
        rw [law_none (by rw [← hs]; exact h2) e2]
      · rw [← e17, law_none (by rw [← hs]; exact h2) e2]
    · intro e1
      exfalso
      unfold f_X11_lawS at e1
      by_cases c1 : a1 < (1 : Int32)
      · rw [if_pos c1] at e1; cases e1
      · rw [if_neg c1] at e1
        by_cases c2 : (240 : Int32) < a1
        · rw [if_pos c2] at e1; cases e1
        · rw [if_neg c2] at e1
          rw [Int32.lt_iff_toInt_lt, l_1] at c1
          rw [Int32.lt_iff_toInt_lt, l_240] at c2
          rw [if_neg (show ¬ a1 ≤ M 1 1 by rw [Int32.le_iff_toInt_le]; omega)] at e1
          cases e1
