abbrev l_X12_takesPast : List Bx := [(77, 78, 61, 62), (96, 98, 0, 0), (116, 118, 0, 0)]
abbrev po_X12_takesPast (a1 a2 : Int32) (M : qM) (v : Int32) (M' : qM) : Prop := (0 ≤ v.toInt ∧ v.toInt ≤ 1) ∧ (v.toInt = 0 ∨ KP a2 M') ∧ G M' ∧ Sm l_X12_takesPast M M'
theorem t_X12_takesPast_150 {n : Nat} (hn : 200000 ≤ n) {oa1 oa2 : Int32} {M0 : qM} {K135 : Int32 → Int32 → qM → qR} {BK135 : Nat} (hK135 : ∀ (a1 a3 : Int32) (M : qM), G M → Sm l_X12_takesPast M0 M → 1 ≤ a1.toInt ∧ a1.toInt ≤ 4 → 0 ≤ a3.toInt ∧ a3.toInt ≤ 4 → a1.toInt = oa1.toInt → KQ oa1 M → KP oa2 M → 4 - a3.toInt < (BK135 : Int) → qT (K135 a1 a3 M) (po_X12_takesPast oa1 oa2 M0)) : ∀ (m : Nat) (a1 a3 a4 : Int32) (M : qM), G M → Sm l_X12_takesPast M0 M → 1 ≤ a1.toInt ∧ a1.toInt ≤ 4 → 0 ≤ a3.toInt ∧ a3.toInt ≤ 3 → 0 ≤ a4.toInt ∧ a4.toInt ≤ 4 → (a1.toInt = oa1.toInt ∧ a3.toInt < a1.toInt) → KQ oa1 M → KP oa2 M → 4 - a3.toInt < (BK135 : Int) + 1 → 4 - a4.toInt < (m : Int) → qT (f_X12_takesPast_150 n K135 m a1 a3 a4 M) (po_X12_takesPast oa1 oa2 M0) := by
  intro m
  induction m with
  | zero =>
    intro a1 a3 a4 M hG hS i0 i1 i2 hE wKQ wKP i8 i9
    exfalso; omega
  | succ m ih =>
    intro a1 a3 a4 M hG hS i0 i1 i2 hE wKQ wKP i8 i9
    show qT (b_X12_takesPast_150 n K135 (f_X12_takesPast_150 n K135 m) a1 a3 a4 M) _
    unfold b_X12_takesPast_150
    refine T_le rfl rfl (fun hq10_ => ?_) (fun hq10_ => ?_)
    · refine T_ql (i_add rfl l_1 (by omega) (by omega)) ?_
      intro xv11 hq12_
      exact hK135 a1 xv11 M hG hS (i_rng (lo := 1) (hi := 4) rfl (by omega) (by omega)) (i_rng (lo := 0) (hi := 4) rfl (by omega) (by omega)) (by omega) wKQ wKP (by omega)
    · refine T_qg rfl (by omega) (by omega) ?_
      refine T_qg rfl (by omega) (by omega) ?_
      have hq15_ := wKQ a3.toNatClampNeg (by rw [tnc]; omega)
      have hq16_ := r_116 hG a3.toNatClampNeg
      have hq17_ := wKQ a4.toNatClampNeg (by rw [tnc]; omega)
      have hq18_ := r_116 hG a4.toNatClampNeg
      refine T_qc (t_X12_isLike hn (M 116 a3.toNatClampNeg) (M 116 a4.toNatClampNeg) M hG (i_rng (lo := 0) (hi := 12) rfl (by omega) (by omega)) (i_rng (lo := 0) (hi := 11) rfl (by omega) (by omega))) ?_
      rintro rv13 mv14 ⟨hq19_, gq20_, kq21_⟩
      have kq22_ := Sm.call hS kq21_ rfl
      have hq23_ := (fun h_ => KQ_c (funext (fun s_ => kq21_ 116 s_ (outc rfl))) h_) wKQ
      have hq24_ := (fun h_ => KP_c (kq21_ 77 61 (by decide)) (funext (fun s_ => kq21_ 84 s_ (outc rfl))) h_) wKP
      refine T_eq rfl l_0 (fun hq25_ => ?_) (fun hq25_ => ?_)
      · refine T_ql (i_add rfl l_1 (by omega) (by omega)) ?_
        intro xv26 hq27_
        exact ih a1 a3 xv26 mv14 gq20_ kq22_ (i_rng (lo := 1) (hi := 4) rfl (by omega) (by omega)) (i_rng (lo := 0) (hi := 3) rfl (by omega) (by omega)) (i_rng (lo := 0) (hi := 4) rfl (by omega) (by omega)) (by omega) hq23_ hq24_ (by omega) (by omega)
      · refine T_qg rfl (by omega) (by omega) ?_
        refine T_qg rfl (by omega) (by omega) ?_
        have hq29_ := i_shl1 (c := 3) (k := a4) (by decide) rfl (by omega) (by omega)
        refine T_mu gq20_ kq22_ (rn_117 _ _) (nw_117 _) (i := 2) rfl ⟨by decide, by decide, Or.inl rfl⟩ ?_
        intro mv28 hq30_ gq31_ kq32_
        have hq33_ := (fun h_ => KQ_c (M := mv14) (M' := mv28) (by rw [hq30_, mu_nc (by decide)]) h_) hq23_
        have hq34_ := (fun h_ => KP_c (M := mv14) (M' := mv28) (by rw [hq30_, mu_ne (Or.inl (by decide))]) (by rw [hq30_, mu_nc (by decide)]) h_) hq24_
        have hq35_ : (mv28 117 a3.toNatClampNeg).toInt = ((mv14 117 a3.toNatClampNeg) ||| ((1 : Int32) <<< (a4 &&& 31))).toInt := by rw [hq30_, mu_at]
        refine T_ql (i_add rfl l_1 (by omega) (by omega)) ?_
        intro xv36 hq37_
        exact ih a1 a3 xv36 mv28 gq31_ kq32_ (i_rng (lo := 1) (hi := 4) rfl (by omega) (by omega)) (i_rng (lo := 0) (hi := 3) rfl (by omega) (by omega)) (i_rng (lo := 0) (hi := 4) rfl (by omega) (by omega)) (by omega) hq33_ hq34_ (by omega) (by omega)
theorem t_X12_takesPast_42 {n : Nat} (hn : 200000 ≤ n) {oa1 oa2 : Int32} {M0 : qM} {K7 : Int32 → Int32 → Int32 → qM → qR} {BK7 : Nat} (hK7 : ∀ (a1 a2 a3 : Int32) (M : qM), G M → Sm l_X12_takesPast M0 M → 1 ≤ a1.toInt ∧ a1.toInt ≤ 4 → 0 ≤ a2.toInt ∧ a2.toInt ≤ 10 → 0 ≤ a3.toInt ∧ a3.toInt ≤ 4 → (a1.toInt = oa1.toInt ∧ a2.toInt = oa2.toInt ∧ (M 77 61).toInt = oa1.toInt ∧ (∀ i : Nat, (i : Int) < a3.toInt → 0 ≤ (M 116 i).toInt ∧ (M 116 i).toInt ≤ 11)) → 4 - a3.toInt < (BK7 : Int) → qT (K7 a1 a2 a3 M) (po_X12_takesPast oa1 oa2 M0)) : ∀ (m : Nat) (a1 a2 a3 a4 : Int32) (M : qM), G M → Sm l_X12_takesPast M0 M → 1 ≤ a1.toInt ∧ a1.toInt ≤ 4 → 0 ≤ a2.toInt ∧ a2.toInt ≤ 10 → 0 ≤ a3.toInt ∧ a3.toInt ≤ 3 → 0 ≤ a4.toInt ∧ a4.toInt ≤ 3 → (a1.toInt = oa1.toInt ∧ a2.toInt = oa2.toInt ∧ (M 77 61).toInt = oa1.toInt ∧ (∀ i : Nat, (i : Int) < a3.toInt + 1 → 0 ≤ (M 116 i).toInt ∧ (M 116 i).toInt ≤ 11)) → 4 - a3.toInt < (BK7 : Int) + 1 → 3 - a4.toInt < (m : Int) → qT (f_X12_takesPast_42 n K7 m a1 a2 a3 a4 M) (po_X12_takesPast oa1 oa2 M0) := by
  intro m
  induction m with
  | zero =>
    intro a1 a2 a3 a4 M hG hS i0 i1 i2 i3 hE i7 i8
    have hq44_ := r_77_61 hG
    exfalso; omega
  | succ m ih =>
    intro a1 a2 a3 a4 M hG hS i0 i1 i2 i3 hE i7 i8
    show qT (b_X12_takesPast_42 n K7 (f_X12_takesPast_42 n K7 m) a1 a2 a3 a4 M) _
    unfold b_X12_takesPast_42
    have hq44_ := r_77_61 hG
    refine T_le rfl rfl (fun hq45_ => ?_) (fun hq45_ => ?_)
    · refine T_ql (i_add rfl l_1 (by omega) (by omega)) ?_
      intro xv46 hq47_
      exact hK7 a1 a2 xv46 M hG hS (i_rng (lo := 1) (hi := 4) rfl (by omega) (by omega)) (i_rng (lo := 0) (hi := 10) rfl (by omega) (by omega)) (i_rng (lo := 0) (hi := 4) rfl (by omega) (by omega)) (by first | exact ⟨rfl, rfl, by omega, fun i hi => absurd hi (by omega)⟩ | exact ⟨by omega, by omega, by omega, fun i hi => hE.2.2.2 i (by omega)⟩) (by omega)
    · refine T_qg rfl (by omega) (by omega) ?_
      refine T_qg rfl (by omega) (by omega) ?_
      have hq48_ := r_116 hG a4.toNatClampNeg
      have hq49_ := r_116 hG a3.toNatClampNeg
      refine T_eq rfl rfl (fun hq50_ => ?_) (fun hq50_ => ?_)
      · exact T_ret ⟨(i_rng (lo := 0) (hi := 1) l_0 (by omega) (by omega)), (Or.inl (by first | exact l_0 | omega)), hG, hS⟩
      · refine T_ql (i_add rfl l_1 (by omega) (by omega)) ?_
        intro xv51 hq52_
        exact ih a1 a2 a3 xv51 M hG hS (i_rng (lo := 1) (hi := 4) rfl (by omega) (by omega)) (i_rng (lo := 0) (hi := 10) rfl (by omega) (by omega)) (i_rng (lo := 0) (hi := 3) rfl (by omega) (by omega)) (i_rng (lo := 0) (hi := 3) rfl (by omega) (by omega)) (by first | exact ⟨by omega, by omega, by omega, hE.2.2.2⟩ | exact ⟨by omega, by omega, by omega, fun i hi => kAll_step (M := M) (a := a3) (x := a3 + 1) (fun s_ hs_ => by rfl) hE.2.2.2 (by omega) (i_add rfl l_1 (by omega) (by omega)) (by omega) (by omega) i (by rw [i_add rfl l_1 (by omega) (by omega)]; omega)⟩) (by omega) (by omega)
theorem t_X12_takesPast_135 {n : Nat} (hn : 200000 ≤ n) {oa1 oa2 : Int32} {M0 : qM} : ∀ (m : Nat) (a1 a3 : Int32) (M : qM), G M → Sm l_X12_takesPast M0 M → 1 ≤ a1.toInt ∧ a1.toInt ≤ 4 → 0 ≤ a3.toInt ∧ a3.toInt ≤ 4 → a1.toInt = oa1.toInt → KQ oa1 M → KP oa2 M → 4 - a3.toInt < (m : Int) → qT (f_X12_takesPast_135 n m a1 a3 M) (po_X12_takesPast oa1 oa2 M0) := by
  intro m
  induction m with
  | zero =>
    intro a1 a3 M hG hS i0 i1 hE wKQ wKP i7
    exfalso; omega
  | succ m ih =>
    intro a1 a3 M hG hS i0 i1 hE wKQ wKP i7
    show qT (b_X12_takesPast_135 n (f_X12_takesPast_135 n m) a1 a3 M) _
    unfold b_X12_takesPast_135
    refine T_le rfl rfl (fun hq56_ => ?_) (fun hq56_ => ?_)
    · exact T_ret ⟨(i_rng (lo := 0) (hi := 1) l_1 (by omega) (by omega)), (Or.inr wKP), hG, hS⟩
    · refine T_qg rfl (by omega) (by omega) ?_
      refine T_mu hG hS (rn_117 _ _) (nw_117 _) (i := 2) rfl ⟨by decide, by decide, Or.inl rfl⟩ ?_
      intro mv57 hq58_ gq59_ kq60_
      have hq61_ := (fun h_ => KQ_c (M := M) (M' := mv57) (by rw [hq58_, mu_nc (by decide)]) h_) wKQ
      have hq62_ := (fun h_ => KP_c (M := M) (M' := mv57) (by rw [hq58_, mu_ne (Or.inl (by decide))]) (by rw [hq58_, mu_nc (by decide)]) h_) wKP
      have hq63_ : (mv57 117 a3.toNatClampNeg).toInt = 0 := by rw [hq58_, mu_at]; exact l_0
      exact (t_X12_takesPast_150 hn ih) n a1 a3 (0 : Int32) mv57 gq59_ kq60_ (i_rng (lo := 1) (hi := 4) rfl (by omega) (by omega)) (i_rng (lo := 0) (hi := 3) rfl (by omega) (by omega)) (i_rng (lo := 0) (hi := 4) l_0 (by omega) (by omega)) (by have e2 : ((0 : Int32)).toInt = _ := l_0; omega) hq61_ hq62_ (by omega) (by have e2 : ((0 : Int32)).toInt = _ := l_0; omega)
theorem t_X12_takesPast_80 {n : Nat} (hn : 200000 ≤ n) {oa1 oa2 : Int32} {M0 : qM} : ∀ (m : Nat) (a1 a2 a3 : Int32) (M : qM), G M → Sm l_X12_takesPast M0 M → 1 ≤ a1.toInt ∧ a1.toInt ≤ 4 → 0 ≤ a2.toInt ∧ a2.toInt ≤ 10 → 0 ≤ a3.toInt ∧ a3.toInt ≤ 10 → (a1.toInt = oa1.toInt ∧ a2.toInt = oa2.toInt ∧ (M 77 61).toInt = oa1.toInt ∧ ∀ q : Nat, (q : Int) < a3.toInt → 0 ≤ (M 84 ((M 77 61).toInt.toNat + 2 * q)).toInt ∧ (M 84 ((M 77 61).toInt.toNat + 2 * q)).toInt ≤ (M 77 61).toInt - 1) → KQ oa1 M → 10 - a3.toInt < (m : Int) → qT (f_X12_takesPast_80 n m a1 a2 a3 M) (po_X12_takesPast oa1 oa2 M0) := by
  intro m
  induction m with
  | zero =>
    intro a1 a2 a3 M hG hS i0 i1 i2 hE wKQ i7
    have hq65_ := r_77_61 hG
    exfalso; omega
  | succ m ih =>
    intro a1 a2 a3 M hG hS i0 i1 i2 hE wKQ i7
    show qT (b_X12_takesPast_80 n (f_X12_takesPast_80 n m) a1 a2 a3 M) _
    unfold b_X12_takesPast_80
    have hq65_ := r_77_61 hG
    refine T_le rfl rfl (fun hq66_ => ?_) (fun hq66_ => ?_)
    · exact (t_X12_takesPast_135 hn) n a1 (0 : Int32) M hG hS (i_rng (lo := 1) (hi := 4) rfl (by omega) (by omega)) (i_rng (lo := 0) (hi := 4) l_0 (by omega) (by omega)) (by have e1 : ((0 : Int32)).toInt = _ := l_0; omega) wKQ (fun q hq => hE.2.2.2 q (by omega)) (by have e1 : ((0 : Int32)).toInt = _ := l_0; omega)
    · refine T_qg (i_add rfl (i_mul l_2 rfl (by omega) (by omega)) (by omega) (by omega)) (by omega) (by omega) ?_
      have hq69_ := r_84 hG ((a1 + ((2 : Int32) * a3)).toNatClampNeg)
      have hq70_ := (show ((0 : Int32)).toInt = _ from l_0)
      have hq71_ := (show (a1 - (1 : Int32)).toInt = _ from (i_sub rfl l_1 (by omega) (by omega)))
      refine T_qc (t_X12_in hn (M 84 ((a1 + ((2 : Int32) * a3)).toNatClampNeg)) (0 : Int32) (a1 - (1 : Int32)) M hG (i_rng (lo := 0) (hi := 70) l_0 (by omega) (by omega)) (i_rng (lo := 0) (hi := 99999) (i_sub rfl l_1 (by omega) (by omega)) (by omega) (by omega))) ?_
      rintro rv67 mv68 ⟨hq72_, hq73_, gq74_, kq75_⟩
      have hq76_ := kq75_.nil
      subst hq76_
      refine T_eq rfl l_0 (fun hq77_ => ?_) (fun hq77_ => ?_)
      · exact T_ret ⟨(i_rng (lo := 0) (hi := 1) l_0 (by omega) (by omega)), (Or.inl (by first | exact l_0 | omega)), hG, hS⟩
      · refine T_qg (i_add (i_add rfl (i_mul l_2 rfl (by omega) (by omega)) (by omega) (by omega)) l_1 (by omega) (by omega)) (by omega) (by omega) ?_
        have hq80_ := r_84 hG (((a1 + ((2 : Int32) * a3)) + (1 : Int32)).toNatClampNeg)
        have hq81_ := (show ((1 : Int32)).toInt = _ from l_1)
        refine T_qc (t_X12_in hn (M 84 (((a1 + ((2 : Int32) * a3)) + (1 : Int32)).toNatClampNeg)) (0 : Int32) (1 : Int32) M hG (i_rng (lo := 0) (hi := 70) l_0 (by omega) (by omega)) (i_rng (lo := 0) (hi := 99999) l_1 (by omega) (by omega))) ?_
        rintro rv78 mv79 ⟨hq82_, hq83_, gq84_, kq85_⟩
        have hq86_ := kq85_.nil
        subst hq86_
        refine T_eq rfl l_0 (fun hq87_ => ?_) (fun hq87_ => ?_)
        · exact T_ret ⟨(i_rng (lo := 0) (hi := 1) l_0 (by omega) (by omega)), (Or.inl (by first | exact l_0 | omega)), hG, hS⟩
        · refine T_ql (i_add rfl l_1 (by omega) (by omega)) ?_
          intro xv88 hq89_
          exact ih a1 a2 xv88 M hG hS (i_rng (lo := 1) (hi := 4) rfl (by omega) (by omega)) (i_rng (lo := 0) (hi := 10) rfl (by omega) (by omega)) (i_rng (lo := 0) (hi := 10) rfl (by omega) (by omega)) (by first | exact ⟨by omega, by omega, by omega, fun q hq => absurd hq (by omega)⟩ | exact ⟨by omega, by omega, by omega, kP_step (j := (a1 + ((2 : Int32) * a3)).toNatClampNeg) hE.2.2.2 (by omega) (by omega) (by rw [tnc, i_add rfl (i_mul l_2 rfl (by omega) (by omega)) (by omega) (by omega)]; omega) (by omega) (by omega)⟩) wKQ (by omega)
theorem t_X12_takesPast_7 {n : Nat} (hn : 200000 ≤ n) {oa1 oa2 : Int32} {M0 : qM} : ∀ (m : Nat) (a1 a2 a3 : Int32) (M : qM), G M → Sm l_X12_takesPast M0 M → 1 ≤ a1.toInt ∧ a1.toInt ≤ 4 → 0 ≤ a2.toInt ∧ a2.toInt ≤ 10 → 0 ≤ a3.toInt ∧ a3.toInt ≤ 4 → (a1.toInt = oa1.toInt ∧ a2.toInt = oa2.toInt ∧ (M 77 61).toInt = oa1.toInt ∧ (∀ i : Nat, (i : Int) < a3.toInt → 0 ≤ (M 116 i).toInt ∧ (M 116 i).toInt ≤ 11)) → 4 - a3.toInt < (m : Int) → qT (f_X12_takesPast_7 n m a1 a2 a3 M) (po_X12_takesPast oa1 oa2 M0) := by
  intro m
  induction m with
  | zero =>
    intro a1 a2 a3 M hG hS i0 i1 i2 hE i6
    have hq92_ := r_77_61 hG
    exfalso; omega
  | succ m ih =>
    intro a1 a2 a3 M hG hS i0 i1 i2 hE i6
    show qT (b_X12_takesPast_7 n (f_X12_takesPast_7 n m) a1 a2 a3 M) _
    unfold b_X12_takesPast_7
    have hq92_ := r_77_61 hG
    refine T_le rfl rfl (fun hq93_ => ?_) (fun hq93_ => ?_)
    · exact (t_X12_takesPast_80 hn) n a1 a2 (0 : Int32) M hG hS (i_rng (lo := 1) (hi := 4) rfl (by omega) (by omega)) (i_rng (lo := 0) (hi := 10) rfl (by omega) (by omega)) (i_rng (lo := 0) (hi := 10) l_0 (by omega) (by omega)) (by have e2 : ((0 : Int32)).toInt = _ := l_0; first | exact ⟨by omega, by omega, by omega, fun q hq => absurd hq (by omega)⟩ | exact ⟨by omega, by omega, by omega, kP_step (j := (a1 + ((2 : Int32) * a3)).toNatClampNeg) hE.2.2.2 (by omega) (by omega) (by rw [tnc, i_add rfl (i_mul l_2 rfl (by omega) (by omega)) (by omega) (by omega)]; omega) (by omega) (by omega)⟩) (fun i hi => hE.2.2.2 i (by omega)) (by have e2 : ((0 : Int32)).toInt = _ := l_0; omega)
    · refine T_qg rfl (by omega) (by omega) ?_
      refine T_qg rfl (by omega) (by omega) ?_
      have hq95_ := r_84 hG a3.toNatClampNeg
      refine T_mu hG hS (i_rng (lo := (-128)) (hi := 127) rfl (by omega) (by omega)) (nw_116 _) (i := 2) rfl ⟨by decide, by decide, Or.inl rfl⟩ ?_
      intro mv94 hq96_ gq97_ kq98_
      have hq99_ : (mv94 77 61).toInt = (M 77 61).toInt := by rw [hq96_, mu_ne (Or.inl (by decide))]
      have hq100_ : (mv94 116 a3.toNatClampNeg).toInt = (M 84 a3.toNatClampNeg).toInt := by rw [hq96_, mu_at]
      refine T_qg rfl (by omega) (by omega) ?_
      have hq103_ := r_116 gq97_ a3.toNatClampNeg
      refine T_qc (t_X12_isKind hn (mv94 116 a3.toNatClampNeg) mv94 gq97_ ) ?_
      rintro rv101 mv102 ⟨hq104_, hq105_, gq106_, kq107_⟩
      have hq108_ := kq107_.nil
      subst hq108_
      refine T_eq rfl l_0 (fun hq109_ => ?_) (fun hq109_ => ?_)
      · exact T_ret ⟨(i_rng (lo := 0) (hi := 1) l_0 (by omega) (by omega)), (Or.inl (by first | exact l_0 | omega)), gq97_, kq98_⟩
      · have hq110_ := r_77_61 gq97_
        exact (t_X12_takesPast_42 hn ih) n a1 a2 a3 (0 : Int32) mv94 gq97_ kq98_ (i_rng (lo := 1) (hi := 4) rfl (by omega) (by omega)) (i_rng (lo := 0) (hi := 10) rfl (by omega) (by omega)) (i_rng (lo := 0) (hi := 3) rfl (by omega) (by omega)) (i_rng (lo := 0) (hi := 3) l_0 (by omega) (by omega)) (by have e3 : ((0 : Int32)).toInt = _ := l_0; first | exact ⟨by omega, by omega, by omega, hE.2.2.2⟩ | exact ⟨by omega, by omega, by omega, fun i hi => kAll_step (M := M) (a := a3) (x := a3 + 1) (fun s_ hs_ => by rw [hq96_, mu_ne (Or.inr hs_)]) hE.2.2.2 (by omega) (i_add rfl l_1 (by omega) (by omega)) (by omega) (by omega) i (by rw [i_add rfl l_1 (by omega) (by omega)]; omega)⟩) (by omega) (by have e3 : ((0 : Int32)).toInt = _ := l_0; omega)
theorem t_X12_takesPast {n : Nat} (hn : 200000 ≤ n) (a1 a2 : Int32) (M : qM) (hG : G M) (pa1 : 1 ≤ a1.toInt ∧ a1.toInt ≤ 4) (pa2 : 0 ≤ a2.toInt ∧ a2.toInt ≤ 10) : qT (f_X12_takesPast n a1 a2 M) (po_X12_takesPast a1 a2 M) := by
  have hS : Sm l_X12_takesPast M M := Sm.rf
  unfold f_X12_takesPast
  refine T_mu hG hS (i_rng (lo := 0) (hi := 4) rfl (by omega) (by omega)) nw_77_61 (i := 0) rfl ⟨by decide, by decide, Or.inr ⟨by decide, by decide⟩⟩ ?_
  intro mv111 hq112_ gq113_ kq114_
  have hq115_ : (mv111 77 61).toInt = a1.toInt := by rw [hq112_, mu_at]
  have hq116_ := r_77_61 gq113_
  exact (t_X12_takesPast_7 hn) n a1 a2 (0 : Int32) mv111 gq113_ kq114_ (i_rng (lo := 1) (hi := 4) rfl (by omega) (by omega)) (i_rng (lo := 0) (hi := 10) rfl (by omega) (by omega)) (i_rng (lo := 0) (hi := 4) l_0 (by omega) (by omega)) (by have e2 : ((0 : Int32)).toInt = _ := l_0; first | exact ⟨rfl, rfl, by omega, fun i hi => absurd hi (by omega)⟩ | exact ⟨by omega, by omega, by omega, fun i hi => hE.2.2.2 i (by omega)⟩) (by have e2 : ((0 : Int32)).toInt = _ := l_0; omega)
abbrev l_X12_begins : List Bx := [(118, 119, 0, 0)]
abbrev po_X12_begins (a1 : Int32) (M : qM) (v : Int32) (M' : qM) : Prop := (0 ≤ v.toInt ∧ v.toInt ≤ 0) ∧ G M' ∧ Sm l_X12_begins M M'
theorem t_X12_begins_9 {n : Nat} (hn : 200000 ≤ n) {oa1 : Int32} {M0 : qM} : ∀ (m : Nat) (a2 a3 : Int32) (M : qM), G M → Sm l_X12_begins M0 M → 0 ≤ a2.toInt ∧ a2.toInt ≤ 255 → (-1) ≤ a3.toInt ∧ a3.toInt ≤ 3 → a3.toInt - (-1) < (m : Int) → qT (f_X12_begins_9 n m a2 a3 M) (po_X12_begins oa1 M0) := by
  intro m
  induction m with
  | zero =>
    intro a2 a3 M hG hS i0 i1 i4
    exfalso; omega
  | succ m ih =>
    intro a2 a3 M hG hS i0 i1 i4
    show qT (b_X12_begins_9 n (f_X12_begins_9 n m) a2 a3 M) _
    unfold b_X12_begins_9
    refine T_lt rfl l_0 (fun hq3_ => ?_) (fun hq3_ => ?_)
    · exact T_ret ⟨(i_rng (lo := 0) (hi := 0) l_0 (by omega) (by omega)), hG, hS⟩
    · refine T_qg rfl (by omega) (by omega) ?_
      refine T_mu hG hS (rn_118 _ _) (nw_118 _) (i := 0) rfl ⟨by decide, by decide, Or.inl rfl⟩ ?_
      intro mv4 hq5_ gq6_ kq7_
      have hq8_ : (mv4 118 a3.toNatClampNeg).toInt = (a2.toInt - ((a2.toInt / 4) * 4)) := by rw [hq5_, mu_at]; exact (i_sub rfl (i_mul (i_div rfl l_4 (by omega) (by omega)) l_4 (by omega) (by omega)) (by omega) (by omega))
      refine T_ql (i_div rfl l_4 (by omega) (by omega)) ?_
      intro xv9 hq10_
      refine T_ql (i_add rfl l_m1 (by omega) (by omega)) ?_
      intro xv11 hq12_
      exact ih xv9 xv11 mv4 gq6_ kq7_ (i_rng (lo := 0) (hi := 255) rfl (by omega) (by omega)) (i_rng (lo := (-1)) (hi := 3) rfl (by omega) (by omega)) (by omega)
theorem t_X12_begins {n : Nat} (hn : 200000 ≤ n) (a1 : Int32) (M : qM) (hG : G M) (pa1 : 0 ≤ a1.toInt ∧ a1.toInt ≤ 255) : qT (f_X12_begins n a1 M) (po_X12_begins a1 M) := by
  have hS : Sm l_X12_begins M M := Sm.rf
  unfold f_X12_begins
  have hq13_ := r_77_61 hG
  refine T_ql (i_sub rfl l_1 (by omega) (by omega)) ?_
  intro xv14 hq15_
  exact (t_X12_begins_9 hn) n a1 xv14 M hG hS (i_rng (lo := 0) (hi := 255) rfl (by omega) (by omega)) (i_rng (lo := (-1)) (hi := 3) rfl (by omega) (by omega)) (by omega)
abbrev l_X12_pastCounts : List Bx := []
abbrev po_X12_pastCounts (a1 a2 : Int32) (M : qM) (v : Int32) (M' : qM) : Prop := (0 ≤ v.toInt ∧ v.toInt ≤ 1) ∧ G M' ∧ Sm l_X12_pastCounts M M'
theorem t_X12_pastCounts_5 {n : Nat} (hn : 200000 ≤ n) {oa1 oa2 : Int32} {M0 : qM} : ∀ (m : Nat) (a1 a2 a3 a4 : Int32) (M : qM), G M → Sm l_X12_pastCounts M0 M → 0 ≤ a1.toInt ∧ a1.toInt ≤ 3 → 0 ≤ a2.toInt ∧ a2.toInt ≤ 9 → 0 ≤ a4.toInt ∧ a4.toInt ≤ 4 → 4 - a4.toInt < (m : Int) → qT (f_X12_pastCounts_5 n m a1 a2 a3 a4 M) (po_X12_pastCounts oa1 oa2 M0) := by
  intro m
  induction m with
  | zero =>
    intro a1 a2 a3 a4 M hG hS i0 i1 i2 i5
    exfalso; omega
  | succ m ih =>
    intro a1 a2 a3 a4 M hG hS i0 i1 i2 i5
    show qT (b_X12_pastCounts_5 n (f_X12_pastCounts_5 n m) a1 a2 a3 a4 M) _
    unfold b_X12_pastCounts_5
    have hq4_ := r_77_61 hG
    refine T_le rfl rfl (fun hq5_ => ?_) (fun hq5_ => ?_)
    · refine T_lt rfl rfl (fun hq6_ => ?_) (fun hq6_ => ?_)
      · exact T_ret ⟨(i_rng (lo := 0) (hi := 1) l_0 (by omega) (by omega)), hG, hS⟩
      · exact T_ret ⟨(i_rng (lo := 0) (hi := 1) l_1 (by omega) (by omega)), hG, hS⟩
    · refine T_qg rfl (by omega) (by omega) ?_
      refine T_qc (t_X12_has0 hn (M 117 a1.toNatClampNeg) a4 M hG (i_rng (lo := 0) (hi := 11) rfl (by omega) (by omega))) ?_
      rintro rv7 mv8 ⟨hq9_, hq10_, gq11_, kq12_⟩
      have hq13_ := kq12_.nil
      subst hq13_
      refine T_eq rfl l_0 (fun hq14_ => ?_) (fun hq14_ => ?_)
      · refine T_ql (i_add rfl l_1 (by omega) (by omega)) ?_
        intro xv15 hq16_
        exact ih a1 a2 a3 xv15 M hG hS (i_rng (lo := 0) (hi := 3) rfl (by omega) (by omega)) (i_rng (lo := 0) (hi := 9) rfl (by omega) (by omega)) (i_rng (lo := 0) (hi := 4) rfl (by omega) (by omega)) (by omega)
      · refine T_qg rfl (by omega) (by omega) ?_
        have hq17_ := i_full (a3)
        have hq18_ := i_full (M 118 a4.toNatClampNeg)
        refine T_ql rfl ?_
        intro xv19 hq20_
        refine T_ql (i_add rfl l_1 (by omega) (by omega)) ?_
        intro xv21 hq22_
        exact ih a1 a2 xv19 xv21 M hG hS (i_rng (lo := 0) (hi := 3) rfl (by omega) (by omega)) (i_rng (lo := 0) (hi := 9) rfl (by omega) (by omega)) (i_rng (lo := 0) (hi := 4) rfl (by omega) (by omega)) (by omega)
theorem t_X12_pastCounts {n : Nat} (hn : 200000 ≤ n) (a1 a2 : Int32) (M : qM) (hG : G M) (pa1 : 0 ≤ a1.toInt ∧ a1.toInt ≤ 3) (pa2 : 0 ≤ a2.toInt ∧ a2.toInt ≤ 9) : qT (f_X12_pastCounts n a1 a2 M) (po_X12_pastCounts a1 a2 M) := by
  have hS : Sm l_X12_pastCounts M M := Sm.rf
  unfold f_X12_pastCounts
  exact (t_X12_pastCounts_5 hn) n a1 a2 (0 : Int32) (0 : Int32) M hG hS (i_rng (lo := 0) (hi := 3) rfl (by omega) (by omega)) (i_rng (lo := 0) (hi := 9) rfl (by omega) (by omega)) (i_rng (lo := 0) (hi := 4) l_0 (by omega) (by omega)) (by have e2 : ((0 : Int32)).toInt = _ := l_0; have e3 : ((0 : Int32)).toInt = _ := l_0; omega)
abbrev l_X12_goesWith : List Bx := [(118, 119, 0, 0)]
abbrev po_X12_goesWith (a1 a2 a3 : Int32) (M : qM) (v : Int32) (M' : qM) : Prop := (0 ≤ v.toInt ∧ v.toInt ≤ 1) ∧ G M' ∧ Sm l_X12_goesWith M M'
theorem t_X12_goesWith_8 {n : Nat} (hn : 200000 ≤ n) {oa1 oa2 oa3 : Int32} {M0 : qM} : ∀ (m : Nat) (a2 a3 a4 : Int32) (M : qM), G M → Sm l_X12_goesWith M0 M → 0 ≤ a2.toInt ∧ a2.toInt ≤ 10 → 0 ≤ a3.toInt ∧ a3.toInt ≤ 9 → 0 ≤ a4.toInt ∧ a4.toInt ≤ 10 → KP a2 M → 10 - a4.toInt < (m : Int) → qT (f_X12_goesWith_8 n m a2 a3 a4 M) (po_X12_goesWith oa1 oa2 oa3 M0) := by
  intro m
  induction m with
  | zero =>
    intro a2 a3 a4 M hG hS i0 i1 i2 wKP i6
    exfalso; omega
  | succ m ih =>
    intro a2 a3 a4 M hG hS i0 i1 i2 wKP i6
    show qT (b_X12_goesWith_8 n (f_X12_goesWith_8 n m) a2 a3 a4 M) _
    unfold b_X12_goesWith_8
    refine T_le rfl rfl (fun hq4_ => ?_) (fun hq4_ => ?_)
    · exact T_ret ⟨(i_rng (lo := 0) (hi := 1) l_1 (by omega) (by omega)), hG, hS⟩
    · have hq5_ := r_77_61 hG
      refine T_qg (i_add rfl (i_mul l_2 rfl (by omega) (by omega)) (by omega) (by omega)) (by omega) (by omega) ?_
      have hq6_ := KP_rd wKP (i := ((M 77 61) + ((2 : Int32) * a4)).toNatClampNeg) (q := a4) (by rw [tnc, (i_add rfl (i_mul l_2 rfl (by omega) (by omega)) (by omega) (by omega))]; omega) (by omega) (by omega)
      have hq7_ := r_84 hG (((M 77 61) + ((2 : Int32) * a4)).toNatClampNeg)
      refine T_ql rfl ?_
      intro xv8 hq9_
      refine T_qc (t_X12_pastCounts hn xv8 a3 M hG (i_rng (lo := 0) (hi := 3) rfl (by omega) (by omega)) (i_rng (lo := 0) (hi := 9) rfl (by omega) (by omega))) ?_
      rintro rv10 mv11 ⟨hq12_, gq13_, kq14_⟩
      have hq15_ := kq14_.nil
      subst hq15_
      refine T_qg (i_add (i_add rfl (i_mul l_2 rfl (by omega) (by omega)) (by omega) (by omega)) l_1 (by omega) (by omega)) (by omega) (by omega) ?_
      have hq16_ := r_84 hG ((((M 77 61) + ((2 : Int32) * a4)) + (1 : Int32)).toNatClampNeg)
      refine T_eq rfl l_1 (fun hq17_ => ?_) (fun hq17_ => ?_)
      · unfold f_X12_goesWith_62
        refine T_eq rfl l_1 (fun hq18_ => ?_) (fun hq18_ => ?_)
        · refine T_qg rfl (by omega) (by omega) ?_
          refine T_qg rfl (by omega) (by omega) ?_
          have hq20_ := i_full (M 118 xv8.toNatClampNeg)
          refine T_mu hG hS (rn_118 _ _) (nw_118 _) (i := 0) rfl ⟨by decide, by decide, Or.inl rfl⟩ ?_
          intro mv19 hq21_ gq22_ kq23_
          have hq24_ := (fun h_ => KP_c (M := M) (M' := mv19) (by rw [hq21_, mu_ne (Or.inl (by decide))]) (by rw [hq21_, mu_nc (by decide)]) h_) wKP
          have hq25_ : (mv19 84 ((((M 77 61) + ((2 : Int32) * a4)) + (1 : Int32)).toNatClampNeg)).toInt = (M 84 ((((M 77 61) + ((2 : Int32) * a4)) + (1 : Int32)).toNatClampNeg)).toInt := by rw [hq21_, mu_ne (Or.inl (by decide))]
          have hq26_ : (mv19 118 xv8.toNatClampNeg).toInt = ((M 118 xv8.toNatClampNeg) + (1 : Int32)).toInt := by rw [hq21_, mu_at]
          refine T_ql (i_add rfl l_1 (by omega) (by omega)) ?_
          intro xv27 hq28_
          exact ih a2 a3 xv27 mv19 gq22_ kq23_ (i_rng (lo := 0) (hi := 10) rfl (by omega) (by omega)) (i_rng (lo := 0) (hi := 9) rfl (by omega) (by omega)) (i_rng (lo := 0) (hi := 10) rfl (by omega) (by omega)) hq24_ (by omega)
        · exact T_ret ⟨(i_rng (lo := 0) (hi := 1) l_0 (by omega) (by omega)), hG, hS⟩
      · unfold f_X12_goesWith_62
        refine T_eq rfl l_0 (fun hq29_ => ?_) (fun hq29_ => ?_)
        · refine T_qg rfl (by omega) (by omega) ?_
          refine T_qg rfl (by omega) (by omega) ?_
          have hq31_ := i_full (M 118 xv8.toNatClampNeg)
          refine T_mu hG hS (rn_118 _ _) (nw_118 _) (i := 0) rfl ⟨by decide, by decide, Or.inl rfl⟩ ?_
          intro mv30 hq32_ gq33_ kq34_
          have hq35_ := (fun h_ => KP_c (M := M) (M' := mv30) (by rw [hq32_, mu_ne (Or.inl (by decide))]) (by rw [hq32_, mu_nc (by decide)]) h_) wKP
          have hq36_ : (mv30 84 ((((M 77 61) + ((2 : Int32) * a4)) + (1 : Int32)).toNatClampNeg)).toInt = (M 84 ((((M 77 61) + ((2 : Int32) * a4)) + (1 : Int32)).toNatClampNeg)).toInt := by rw [hq32_, mu_ne (Or.inl (by decide))]
          have hq37_ : (mv30 118 xv8.toNatClampNeg).toInt = ((M 118 xv8.toNatClampNeg) + (1 : Int32)).toInt := by rw [hq32_, mu_at]
          refine T_ql (i_add rfl l_1 (by omega) (by omega)) ?_
          intro xv38 hq39_
          exact ih a2 a3 xv38 mv30 gq33_ kq34_ (i_rng (lo := 0) (hi := 10) rfl (by omega) (by omega)) (i_rng (lo := 0) (hi := 9) rfl (by omega) (by omega)) (i_rng (lo := 0) (hi := 10) rfl (by omega) (by omega)) hq35_ (by omega)
        · exact T_ret ⟨(i_rng (lo := 0) (hi := 1) l_0 (by omega) (by omega)), hG, hS⟩
theorem t_X12_goesWith {n : Nat} (hn : 200000 ≤ n) (a1 a2 a3 : Int32) (M : qM) (hG : G M) (pa1 : 0 ≤ a1.toInt ∧ a1.toInt ≤ 255) (pa2 : 0 ≤ a2.toInt ∧ a2.toInt ≤ 10) (pa3 : 0 ≤ a3.toInt ∧ a3.toInt ≤ 9) (wKP : KP a2 M) : qT (f_X12_goesWith n a1 a2 a3 M) (po_X12_goesWith a1 a2 a3 M) := by
  have hS : Sm l_X12_goesWith M M := Sm.rf
  unfold f_X12_goesWith
  refine T_qc (t_X12_begins hn a1 M hG (i_rng (lo := 0) (hi := 255) rfl (by omega) (by omega))) ?_
  rintro rv40 mv41 ⟨hq42_, gq43_, kq44_⟩
  have kq45_ := Sm.call hS kq44_ rfl
  have hq46_ := (fun h_ => KP_c (kq44_ 77 61 (by decide)) (funext (fun s_ => kq44_ 84 s_ (outc rfl))) h_) wKP
  exact (t_X12_goesWith_8 hn) n a2 a3 (0 : Int32) mv41 gq43_ kq45_ (i_rng (lo := 0) (hi := 10) rfl (by omega) (by omega)) (i_rng (lo := 0) (hi := 9) rfl (by omega) (by omega)) (i_rng (lo := 0) (hi := 10) l_0 (by omega) (by omega)) hq46_ (by have e2 : ((0 : Int32)).toInt = _ := l_0; omega)
