/-! the model's side of it -/
theorem clampq {hi v : Int32} (h : 0 ≤ hi.toInt) : (if (0 : Int32) ≤ v then (if v ≤ hi then v else hi) else 0) = qmax 0 (qmin hi v) := by
  unfold qmax qmin
  have z : (0 : Int32).toInt = 0 := rfl
  by_cases c : (0 : Int32) ≤ v
  · rw [if_pos c]
    rw [Int32.le_iff_toInt_le] at c
    by_cases d : v ≤ hi
    · rw [if_pos d]
      rw [Int32.le_iff_toInt_le] at d
      by_cases e : v < hi
      · rw [if_pos e]
        by_cases f : (0 : Int32) < v
        · rw [if_pos f]
        · rw [if_neg f]; rw [Int32.lt_iff_toInt_lt] at f; exact Int32.toInt_inj.mp (by omega)
      · rw [if_neg e]
        rw [Int32.lt_iff_toInt_lt] at e
        by_cases f : (0 : Int32) < hi
        · rw [if_pos f]; exact Int32.toInt_inj.mp (by omega)
        · rw [if_neg f]; rw [Int32.lt_iff_toInt_lt] at f; exact Int32.toInt_inj.mp (by omega)
    · rw [if_neg d]
      rw [Int32.le_iff_toInt_le] at d
      rw [if_neg (show ¬ v < hi by rw [Int32.lt_iff_toInt_lt]; omega)]
      by_cases f : (0 : Int32) < hi
      · rw [if_pos f]
      · rw [if_neg f]; rw [Int32.lt_iff_toInt_lt] at f; exact Int32.toInt_inj.mp (by omega)
  · rw [if_neg c]
    rw [Int32.le_iff_toInt_le] at c
    rw [if_pos (show v < hi by rw [Int32.lt_iff_toInt_lt]; omega), if_neg (by rw [Int32.lt_iff_toInt_lt]; omega)]
theorem d_amt6 {n : Nat} (hn : 200000 ≤ n) {C : List Int} {K : List Kl} (hK : Kg (cdl C) C.length K) (h240 : C.length ≤ 240) {F : Nat → Int32} {a1 a2 : Int32} (h97 : a1.toInt ≠ 97) (hhi : 0 ≤ a2.toInt) : ∀ (m i : Nat) (a4 a5 : Int32) (M : qM), G M → LM M C K → M 97 = F → a5.toInt = (i : Int) → i ≤ K.length → qP (f_X12_byLaw_6 n m a1 a2 a4 a5 M) (fun v _ => v = amtL C n F a1.toInt a2 (K.drop i) a4) := by
  intro m
  induction m with
  | zero => intro i a4 a5 M _ _ _ _ _; exact P_none
  | succ m ih =>
    intro i a4 a5 M hG hL hF h5 hi
    have hk := hL.2.1
    have ei : a5.toNatClampNeg = i := by rw [tnc, h5]; rfl
    show qP (b_X12_byLaw_6 n (f_X12_byLaw_6 n m) a1 a2 a4 a5 M) _
    unfold b_X12_byLaw_6
    refine P_le rfl rfl (fun c => P_ret ?_) (fun c => ?_)
    · have e : i = K.length := by omega
      rw [e, List.drop_length]
      rfl
    · have hlt : i < K.length := by omega
      obtain ⟨hmem, hdr⟩ := Fk_drop hL.2.2 hlt
      obtain ⟨s, h, e, g1, g2, g3, g4, g5, g6, g7, g8, g9⟩ := hK _ hmem
      have g1' : (M 93 i).toInt = (s : Int) := g1
      have g2' : (M 94 i).toInt = (h : Int) := g2
      have g3' : (M 95 i).toInt = (e : Int) := g3
      have wf := hG.2.2.1 i (by omega)
      rw [hdr]
      refine P_qg (fun _ hb => ?_)
      rw [ei]
      have nx : ∀ (x : Int32) (m3 : qM) (a4' : Int32), x.toInt = a5.toInt + 1 → G m3 → LM m3 C K → m3 97 = F → qP (f_X12_byLaw_6 n m a1 a2 a4' x m3) (fun v _ => v = amtL C n F a1.toInt a2 (K.drop (i + 1)) a4') := fun x m3 a4' hx g3 l3 f3 => ih (i + 1) a4' x m3 g3 l3 f3 (by omega) (by omega)
      refine P_eq rfl rfl (fun d => ?_) (fun d => ?_)
      · refine P_qg (fun _ _ => P_qg (fun _ _ => P_qc (P_and (d_EV g9 g6 h240 (M 94 i) (M 95 i) M hL.1 g2' g3') (P_T (t_X12_comesTo hn _ _ M hG (by omega) (by omega) wf.2))) ?_))
        rintro r2 m3 ⟨hr2, g3m, s3⟩
        have f3 : m3 97 = F := by rw [← hF]; exact funext (fun s_ => s3 97 s_ (outc rfl))
        have l3 : LM m3 C K := LM_Sm hL s3 rfl (s3 77 17 (by decide))
        have ev1 : r2 = EV C F n ((M 94 i).toInt.toNat) ((M 95 i).toInt.toNat) := by rw [hr2, hF, g2', g3']; rfl
        have hbl : r2 = 0 ∨ r2 = 1 := by
          rw [hr2]; exact EV_bool g9
        have hcons : ∀ x : Int32, amtL C n F a1.toInt a2 (eK 92 93 94 95 M i :: K.drop (i + 1)) x = (if r2 = 0 then amtL C n F a1.toInt a2 (K.drop (i + 1)) 0 else qmax 0 (qmin a2 (EV C F n ((M 93 i).toInt.toNat) ((M 94 i).toInt.toNat)))) := by
          intro x
          show (if (M 92 i).toInt = a1.toInt then (if EV C F n ((M 94 i).toInt.toNat) ((M 95 i).toInt.toNat) = 0 then _ else _) else _) = _
          rw [if_pos d, ← ev1]
        rw [hcons]
        refine P_if (fun c2 => ?_) (fun c2 => ?_)
        · rw [if_neg (by rw [c2]; decide)]
          have g8' : gd 0 s h (cdl C) := g8.resolve_left (fun z => h97 (by rw [← d]; exact z))
          have q3 : m3 93 = M 93 := funext (fun s_ => s3 93 s_ (outc rfl))
          have q4 : m3 94 = M 94 := funext (fun s_ => s3 94 s_ (outc rfl))
          rw [q3, q4]
          refine P_qg (fun _ _ => P_qg (fun _ _ => P_qc (d_EV g8' (by omega) h240 (M 93 i) (M 94 i) m3 l3.1 g1' g2') ?_))
          intro r5 m6 hr5
          have e5 : r5 = EV C F n ((M 93 i).toInt.toNat) ((M 94 i).toInt.toNat) := by rw [hr5, f3, g1', g2']; rfl
          rw [← e5, ← clampq hhi]
          refine P_if (fun z => ?_) (fun z => ?_)
          · rw [if_pos z]
            refine P_if (fun y => ?_) (fun y => ?_)
            · rw [if_pos y]; exact P_ret rfl
            · rw [if_neg y]; exact P_ret rfl
          · rw [if_neg z]; exact P_ret rfl
        · rw [if_pos (hbl.resolve_right c2)]
          exact P_ql (i_add rfl l_1 (by omega) (by omega)) (fun x hx => nx x m3 0 hx g3m l3 f3)
      · have hcons : ∀ x : Int32, amtL C n F a1.toInt a2 (eK 92 93 94 95 M i :: K.drop (i + 1)) x = amtL C n F a1.toInt a2 (K.drop (i + 1)) x := by
          intro x
          show (if (M 92 i).toInt = a1.toInt then _ else _) = _
          rw [if_neg d]
        rw [hcons]
        exact P_ql (i_add rfl l_1 (by omega) (by omega)) (fun x hx => nx x M a4 hx hG hL hF)
theorem d_amt {n : Nat} (hn : 200000 ≤ n) {C : List Int} {K : List Kl} (hK : Kg (cdl C) C.length K) (h240 : C.length ≤ 240) (a1 a2 a3 : Int32) (M : qM) (hG : G M) (hL : LM M C K) (h97 : a1.toInt ≠ 97) (hhi : 0 ≤ a2.toInt) : qP (f_X12_byLaw n a1 a2 a3 M) (fun v _ => v = amtL C n (M 97) a1.toInt a2 K a3) := by
  unfold f_X12_byLaw
  exact d_amt6 hn hK h240 h97 hhi n 0 a3 (0 : Int32) M hG hL rfl l_0 (Nat.zero_le _)
theorem d_any55 {n : Nat} (hn : 200000 ≤ n) {C : List Int} {K : List Kl} (hK : Kg (cdl C) C.length K) (h240 : C.length ≤ 240) {F : Nat → Int32} : ∀ (m i : Nat) (a5 : Int32) (M : qM), G M → LM M C K → M 97 = F → a5.toInt = (i : Int) → i ≤ K.length → qP (f_X12_isLike_55 n m a5 M) (fun v _ => v = anyL C n F (K.drop i)) := by
  intro m
  induction m with
  | zero => intro i a5 M _ _ _ _ _; exact P_none
  | succ m ih =>
    intro i a5 M hG hL hF h5 hi
    have hk := hL.2.1
    have ei : a5.toNatClampNeg = i := by rw [tnc, h5]; rfl
    show qP (b_X12_isLike_55 n (f_X12_isLike_55 n m) a5 M) _
    unfold b_X12_isLike_55
    refine P_le rfl rfl (fun c => P_ret ?_) (fun c => ?_)
    · have e : i = K.length := by omega
      rw [e, List.drop_length]
      rfl
    · have hlt : i < K.length := by omega
      obtain ⟨hmem, hdr⟩ := Fk_drop hL.2.2 hlt
      obtain ⟨s, h, e, g1, g2, g3, g4, g5, g6, g7, g8, g9⟩ := hK _ hmem
      have g2' : (M 94 i).toInt = (h : Int) := g2
      have g3' : (M 95 i).toInt = (e : Int) := g3
      have wf := hG.2.2.1 i (by omega)
      rw [hdr]
      refine P_qg (fun _ hb => ?_)
      rw [ei]
      refine P_eq rfl l_97 (fun d => ?_) (fun d => ?_)
      · refine P_qg (fun _ _ => P_qg (fun _ _ => P_qc (P_and (d_EV g9 g6 h240 (M 94 i) (M 95 i) M hL.1 g2' g3') (P_T (t_X12_comesTo hn _ _ M hG (by omega) (by omega) wf.2))) ?_))
        rintro r2 m3 ⟨hr2, g3m, s3⟩
        have f3 : m3 97 = F := by rw [← hF]; exact funext (fun s_ => s3 97 s_ (outc rfl))
        have l3 : LM m3 C K := LM_Sm hL s3 rfl (s3 77 17 (by decide))
        have ev1 : r2 = EV C F n ((M 94 i).toInt.toNat) ((M 95 i).toInt.toNat) := by rw [hr2, hF, g2', g3']; rfl
        have hbl : r2 = 0 ∨ r2 = 1 := by
          rw [hr2]; exact EV_bool g9
        have hcons : anyL C n F (eK 92 93 94 95 M i :: K.drop (i + 1)) = (if r2 = 0 then anyL C n F (K.drop (i + 1)) else 1) := by
          show (if (M 92 i).toInt = 97 then (if EV C F n ((M 94 i).toInt.toNat) ((M 95 i).toInt.toNat) = 0 then _ else _) else _) = _
          rw [if_pos d, ← ev1]
        rw [hcons]
        refine P_if (fun c2 => ?_) (fun c2 => ?_)
        · rw [if_neg (by rw [c2]; decide)]
          exact P_ret rfl
        · rw [if_pos (hbl.resolve_right c2)]
          exact P_ql (i_add rfl l_1 (by omega) (by omega)) (fun x hx => ih (i + 1) x m3 g3m l3 f3 (by omega) (by omega))
      · have hcons : anyL C n F (eK 92 93 94 95 M i :: K.drop (i + 1)) = anyL C n F (K.drop (i + 1)) := by
          show (if (M 92 i).toInt = 97 then _ else _) = _
          rw [if_neg d]
        rw [hcons]
        exact P_ql (i_add rfl l_1 (by omega) (by omega)) (fun x hx => ih (i + 1) x M hG hL hF (by omega) (by omega))
