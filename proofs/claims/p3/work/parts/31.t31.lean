abbrev l_X12_jobs : List Bx := [(77, 78, 8, 9), (77, 78, 59, 61), (96, 98, 0, 0), (111, 116, 0, 0)]
abbrev po_X12_jobs (a1 a2 a3 : Int32) (M : qM) (v : Int32) (M' : qM) : Prop := G M' ∧ Sm l_X12_jobs M M'
theorem t_X12_jobs_165 {n : Nat} (hn : 200000 ≤ n) {oa1 oa2 oa3 : Int32} {M0 : qM} {K147 : Int32 → Int32 → Int32 → qM → qR} {BK147 : Nat} (hK147 : ∀ (a1 a3 a4 : Int32) (M : qM), G M → Sm l_X12_jobs M0 M → 1 ≤ a1.toInt ∧ a1.toInt ≤ 8 → 0 ≤ a3.toInt ∧ a3.toInt ≤ 10 → 0 ≤ a4.toInt ∧ a4.toInt ≤ 12 → 1 ≤ (M 77 60).toInt → KM  M → 12 - a4.toInt < (BK147 : Int) → qT (K147 a1 a3 a4 M) (po_X12_jobs oa1 oa2 oa3 M0)) : ∀ (m : Nat) (a1 a3 a4 a5 : Int32) (M : qM), G M → Sm l_X12_jobs M0 M → 1 ≤ a1.toInt ∧ a1.toInt ≤ 8 → 0 ≤ a3.toInt ∧ a3.toInt ≤ 10 → 0 ≤ a4.toInt ∧ a4.toInt ≤ 11 → 0 ≤ a5.toInt ∧ a5.toInt ≤ 12 → 1 ≤ (M 77 60).toInt → KM  M → 12 - a4.toInt < (BK147 : Int) + 1 → 12 - a5.toInt < (m : Int) → qT (f_X12_jobs_165 n K147 m a1 a3 a4 a5 M) (po_X12_jobs oa1 oa2 oa3 M0) := by
  intro m
  induction m with
  | zero =>
    intro a1 a3 a4 a5 M hG hS i0 i1 i2 i3 hE wKM i8 i9
    have hq16_ := r_77_60 hG
    exfalso; omega
  | succ m ih =>
    intro a1 a3 a4 a5 M hG hS i0 i1 i2 i3 hE wKM i8 i9
    show qT (b_X12_jobs_165 n K147 (f_X12_jobs_165 n K147 m) a1 a3 a4 a5 M) _
    unfold b_X12_jobs_165
    have hq16_ := r_77_60 hG
    refine T_le l_12 rfl (fun hq17_ => ?_) (fun hq17_ => ?_)
    · refine T_ql (i_add rfl l_1 (by omega) (by omega)) ?_
      intro xv18 hq19_
      exact hK147 a1 a3 xv18 M hG hS (i_rng (lo := 1) (hi := 8) rfl (by omega) (by omega)) (i_rng (lo := 0) (hi := 10) rfl (by omega) (by omega)) (i_rng (lo := 0) (hi := 12) rfl (by omega) (by omega)) (by omega) wKM (by omega)
    · refine T_qc (t_X12_isKind hn a4 M hG ) ?_
      rintro rv20 mv21 ⟨hq22_, hq23_, gq24_, kq25_⟩
      have hq26_ := kq25_.nil
      subst hq26_
      refine T_eq rfl l_0 (fun hq27_ => ?_) (fun hq27_ => ?_)
      · refine T_ql (i_add rfl l_1 (by omega) (by omega)) ?_
        intro xv28 hq29_
        exact ih a1 a3 a4 xv28 M hG hS (i_rng (lo := 1) (hi := 8) rfl (by omega) (by omega)) (i_rng (lo := 0) (hi := 10) rfl (by omega) (by omega)) (i_rng (lo := 0) (hi := 11) rfl (by omega) (by omega)) (i_rng (lo := 0) (hi := 12) rfl (by omega) (by omega)) (by omega) wKM (by omega) (by omega)
      · refine T_qc (t_X12_isKind hn a5 M hG ) ?_
        rintro rv30 mv31 ⟨hq32_, hq33_, gq34_, kq35_⟩
        have hq36_ := kq35_.nil
        subst hq36_
        refine T_eq rfl l_0 (fun hq37_ => ?_) (fun hq37_ => ?_)
        · refine T_ql (i_add rfl l_1 (by omega) (by omega)) ?_
          intro xv38 hq39_
          exact ih a1 a3 a4 xv38 M hG hS (i_rng (lo := 1) (hi := 8) rfl (by omega) (by omega)) (i_rng (lo := 0) (hi := 10) rfl (by omega) (by omega)) (i_rng (lo := 0) (hi := 11) rfl (by omega) (by omega)) (i_rng (lo := 0) (hi := 12) rfl (by omega) (by omega)) (by omega) wKM (by omega) (by omega)
        · refine T_qc (t_X12_isLike hn a4 a5 M hG (i_rng (lo := 0) (hi := 12) rfl (by omega) (by omega)) (i_rng (lo := 0) (hi := 11) rfl (by omega) (by omega))) ?_
          rintro rv40 mv41 ⟨hq42_, gq43_, kq44_⟩
          have kq45_ := Sm.call hS kq44_ rfl
          have hq46_ := (fun h_ => KM_c (kq44_ 77 59 (by decide)) (funext (fun s_ => kq44_ 111 s_ (outc rfl))) h_) wKM
          have hq47_ : (mv41 77 60).toInt = (M 77 60).toInt := by rw [kq44_ 77 60 (by decide)]
          refine T_eq rfl l_0 (fun hq48_ => ?_) (fun hq48_ => ?_)
          · refine T_ql (i_add rfl l_1 (by omega) (by omega)) ?_
            intro xv49 hq50_
            have hq51_ := r_77_60 gq43_
            exact ih a1 a3 a4 xv49 mv41 gq43_ kq45_ (i_rng (lo := 1) (hi := 8) rfl (by omega) (by omega)) (i_rng (lo := 0) (hi := 10) rfl (by omega) (by omega)) (i_rng (lo := 0) (hi := 11) rfl (by omega) (by omega)) (i_rng (lo := 0) (hi := 12) rfl (by omega) (by omega)) (by omega) hq46_ (by omega) (by omega)
          · refine T_qg rfl (by omega) (by omega) ?_
            refine T_qg rfl (by omega) (by omega) ?_
            have hq53_ := i_shl1 (c := 11) (k := a5) (by decide) rfl (by omega) (by omega)
            refine T_mu gq43_ kq45_ (rn_113 _ _) (nw_113 _) (i := 3) rfl ⟨by decide, by decide, Or.inl rfl⟩ ?_
            intro mv52 hq54_ gq55_ kq56_
            have hq57_ := (fun h_ => KM_c (M := mv41) (M' := mv52) (by rw [hq54_, mu_ne (Or.inl (by decide))]) (by rw [hq54_, mu_nc (by decide)]) h_) hq46_
            have hq58_ : (mv52 77 60).toInt = (mv41 77 60).toInt := by rw [hq54_, mu_ne (Or.inl (by decide))]
            have hq59_ : (mv52 113 a4.toNatClampNeg).toInt = ((mv41 113 a4.toNatClampNeg) ||| ((1 : Int32) <<< (a5 &&& 31))).toInt := by rw [hq54_, mu_at]
            refine T_ql (i_add rfl l_1 (by omega) (by omega)) ?_
            intro xv60 hq61_
            have hq62_ := r_77_60 gq55_
            exact ih a1 a3 a4 xv60 mv52 gq55_ kq56_ (i_rng (lo := 1) (hi := 8) rfl (by omega) (by omega)) (i_rng (lo := 0) (hi := 10) rfl (by omega) (by omega)) (i_rng (lo := 0) (hi := 11) rfl (by omega) (by omega)) (i_rng (lo := 0) (hi := 12) rfl (by omega) (by omega)) (by omega) hq57_ (by omega) (by omega)
theorem t_X12_jobs_270 {n : Nat} (hn : 200000 ≤ n) {oa1 oa2 oa3 : Int32} {M0 : qM} : ∀ (m : Nat) (a3 a4 a5 a6 a7 : Int32) (M : qM), G M → Sm l_X12_jobs M0 M → 0 ≤ a3.toInt ∧ a3.toInt ≤ 10 → 1 ≤ a4.toInt ∧ a4.toInt ≤ 6561 → (-1) ≤ a5.toInt ∧ a5.toInt ≤ 6560 → 0 ≤ a7.toInt ∧ a7.toInt ≤ 6561 → 1 ≤ (M 77 60).toInt → KM  M → 6561 - a7.toInt < (m : Int) → qT (f_X12_jobs_270 n m a3 a4 a5 a6 a7 M) (po_X12_jobs oa1 oa2 oa3 M0) := by
  intro m
  induction m with
  | zero =>
    intro a3 a4 a5 a6 a7 M hG hS i0 i1 i2 i3 hE wKM i8
    have hq65_ := r_77_60 hG
    exfalso; omega
  | succ m ih =>
    intro a3 a4 a5 a6 a7 M hG hS i0 i1 i2 i3 hE wKM i8
    show qT (b_X12_jobs_270 n (f_X12_jobs_270 n m) a3 a4 a5 a6 a7 M) _
    unfold b_X12_jobs_270
    have hq65_ := r_77_60 hG
    refine T_le rfl rfl (fun hq66_ => ?_) (fun hq66_ => ?_)
    · refine T_eq rfl l_m1 (fun hq67_ => ?_) (fun hq67_ => ?_)
      · exact T_ret ⟨hG, hS⟩
      · refine T_eq rfl l_10 (fun hq68_ => ?_) (fun hq68_ => ?_)
        · exact T_ret ⟨hG, hS⟩
        · refine T_qc (t_X12_whoDoes hn a5 a3 M hG (i_rng (lo := 0) (hi := 6560) rfl (by omega) (by omega)) (i_rng (lo := 0) (hi := 10) rfl (by omega) (by omega)) (by omega)) ?_
          rintro rv69 mv70 ⟨hq71_, gq72_, kq73_⟩
          have hq74_ := kq73_.nil
          subst hq74_
          refine T_qg rfl (by omega) (by omega) ?_
          have hq75_ := r_112 hG rv69.toNatClampNeg
          exact T_ret ⟨hG, hS⟩
    · refine T_qc (t_X12_longestBy hn a7 M hG (i_rng (lo := 0) (hi := 6560) rfl (by omega) (by omega)) (by omega) wKM) ?_
      rintro rv76 mv77 ⟨gq78_, kq79_⟩
      have kq80_ := Sm.call hS kq79_ rfl
      have hq81_ := (fun h_ => KM_c (kq79_ 77 59 (by decide)) (funext (fun s_ => kq79_ 111 s_ (outc rfl))) h_) wKM
      have hq82_ : (mv77 77 60).toInt = (M 77 60).toInt := by rw [kq79_ 77 60 (by decide)]
      refine T_lt rfl rfl (fun hq83_ => ?_) (fun hq83_ => ?_)
      · refine T_ql (i_add rfl l_1 (by omega) (by omega)) ?_
        intro xv84 hq85_
        have hq86_ := r_77_60 gq78_
        exact ih a3 a4 a7 rv76 xv84 mv77 gq78_ kq80_ (i_rng (lo := 0) (hi := 10) rfl (by omega) (by omega)) (i_rng (lo := 1) (hi := 6561) rfl (by omega) (by omega)) (i_rng (lo := (-1)) (hi := 6560) rfl (by omega) (by omega)) (i_rng (lo := 0) (hi := 6561) rfl (by omega) (by omega)) (by omega) hq81_ (by omega)
      · refine T_ql (i_add rfl l_1 (by omega) (by omega)) ?_
        intro xv87 hq88_
        have hq89_ := r_77_60 gq78_
        exact ih a3 a4 a5 a6 xv87 mv77 gq78_ kq80_ (i_rng (lo := 0) (hi := 10) rfl (by omega) (by omega)) (i_rng (lo := 1) (hi := 6561) rfl (by omega) (by omega)) (i_rng (lo := (-1)) (hi := 6560) rfl (by omega) (by omega)) (i_rng (lo := 0) (hi := 6561) rfl (by omega) (by omega)) (by omega) hq81_ (by omega)
theorem t_X12_jobs_238 {n : Nat} (hn : 200000 ≤ n) {oa1 oa2 oa3 : Int32} {M0 : qM} : ∀ (m : Nat) (a1 a3 a4 a5 : Int32) (M : qM), G M → Sm l_X12_jobs M0 M → 1 ≤ a1.toInt ∧ a1.toInt ≤ 8 → 0 ≤ a3.toInt ∧ a3.toInt ≤ 10 → 1 ≤ a4.toInt ∧ a4.toInt ≤ 6561 → 0 ≤ a5.toInt ∧ a5.toInt ≤ 8 → (1 ≤ (M 77 60).toInt ∧ ((a5.toInt = 0 ∧ a4.toInt ≤ 1) ∨ (a5.toInt = 1 ∧ a4.toInt ≤ 3) ∨ (a5.toInt = 2 ∧ a4.toInt ≤ 9) ∨ (a5.toInt = 3 ∧ a4.toInt ≤ 27) ∨ (a5.toInt = 4 ∧ a4.toInt ≤ 81) ∨ (a5.toInt = 5 ∧ a4.toInt ≤ 243) ∨ (a5.toInt = 6 ∧ a4.toInt ≤ 729) ∨ (a5.toInt = 7 ∧ a4.toInt ≤ 2187) ∨ (a5.toInt = 8 ∧ a4.toInt ≤ 6561))) → KM  M → 8 - a5.toInt < (m : Int) → qT (f_X12_jobs_238 n m a1 a3 a4 a5 M) (po_X12_jobs oa1 oa2 oa3 M0) := by
  intro m
  induction m with
  | zero =>
    intro a1 a3 a4 a5 M hG hS i0 i1 i2 i3 hE wKM i8
    have hq92_ := r_77_60 hG
    exfalso; omega
  | succ m ih =>
    intro a1 a3 a4 a5 M hG hS i0 i1 i2 i3 hE wKM i8
    show qT (b_X12_jobs_238 n (f_X12_jobs_238 n m) a1 a3 a4 a5 M) _
    unfold b_X12_jobs_238
    have hq92_ := r_77_60 hG
    refine T_le rfl rfl (fun hq93_ => ?_) (fun hq93_ => ?_)
    · exact (t_X12_jobs_270 hn) n a3 a4 (-1 : Int32) (1000000000 : Int32) (0 : Int32) M hG hS (i_rng (lo := 0) (hi := 10) rfl (by omega) (by omega)) (i_rng (lo := 1) (hi := 6561) rfl (by omega) (by omega)) (i_rng (lo := (-1)) (hi := 6560) l_m1 (by omega) (by omega)) (i_rng (lo := 0) (hi := 6561) l_0 (by omega) (by omega)) (by have e2 : ((-1 : Int32)).toInt = _ := l_m1; have e3 : ((1000000000 : Int32)).toInt = _ := l_1000000000; have e4 : ((0 : Int32)).toInt = _ := l_0; omega) wKM (by have e2 : ((-1 : Int32)).toInt = _ := l_m1; have e3 : ((1000000000 : Int32)).toInt = _ := l_1000000000; have e4 : ((0 : Int32)).toInt = _ := l_0; omega)
    · have hq94_ := i_mulk 3 (a := a4) (b := M 77 60) rfl rfl (by omega) (by omega) (by omega) (by omega)
      refine T_ql rfl ?_
      intro xv95 hq96_
      refine T_ql (i_add rfl l_1 (by omega) (by omega)) ?_
      intro xv97 hq98_
      exact ih a1 a3 xv95 xv97 M hG hS (i_rng (lo := 1) (hi := 8) rfl (by omega) (by omega)) (i_rng (lo := 0) (hi := 10) rfl (by omega) (by omega)) (i_rng (lo := 1) (hi := 6561) rfl (by omega) (by omega)) (i_rng (lo := 0) (hi := 8) rfl (by omega) (by omega)) (by omega) wKM (by omega)
theorem t_X12_jobs_147 {n : Nat} (hn : 200000 ≤ n) {oa1 oa2 oa3 : Int32} {M0 : qM} : ∀ (m : Nat) (a1 a3 a4 : Int32) (M : qM), G M → Sm l_X12_jobs M0 M → 1 ≤ a1.toInt ∧ a1.toInt ≤ 8 → 0 ≤ a3.toInt ∧ a3.toInt ≤ 10 → 0 ≤ a4.toInt ∧ a4.toInt ≤ 12 → 1 ≤ (M 77 60).toInt → KM  M → 12 - a4.toInt < (m : Int) → qT (f_X12_jobs_147 n m a1 a3 a4 M) (po_X12_jobs oa1 oa2 oa3 M0) := by
  intro m
  induction m with
  | zero =>
    intro a1 a3 a4 M hG hS i0 i1 i2 hE wKM i7
    have hq104_ := r_77_60 hG
    exfalso; omega
  | succ m ih =>
    intro a1 a3 a4 M hG hS i0 i1 i2 hE wKM i7
    show qT (b_X12_jobs_147 n (f_X12_jobs_147 n m) a1 a3 a4 M) _
    unfold b_X12_jobs_147
    have hq104_ := r_77_60 hG
    refine T_le l_12 rfl (fun hq105_ => ?_) (fun hq105_ => ?_)
    · exact (t_X12_jobs_238 hn) n a1 a3 (1 : Int32) (0 : Int32) M hG hS (i_rng (lo := 1) (hi := 8) rfl (by omega) (by omega)) (i_rng (lo := 0) (hi := 10) rfl (by omega) (by omega)) (i_rng (lo := 1) (hi := 6561) l_1 (by omega) (by omega)) (i_rng (lo := 0) (hi := 8) l_0 (by omega) (by omega)) (by have e2 : ((1 : Int32)).toInt = _ := l_1; have e3 : ((0 : Int32)).toInt = _ := l_0; omega) wKM (by have e2 : ((1 : Int32)).toInt = _ := l_1; have e3 : ((0 : Int32)).toInt = _ := l_0; omega)
    · refine T_qg rfl (by omega) (by omega) ?_
      refine T_mu hG hS (rn_113 _ _) (nw_113 _) (i := 3) rfl ⟨by decide, by decide, Or.inl rfl⟩ ?_
      intro mv106 hq107_ gq108_ kq109_
      have hq110_ := (fun h_ => KM_c (M := M) (M' := mv106) (by rw [hq107_, mu_ne (Or.inl (by decide))]) (by rw [hq107_, mu_nc (by decide)]) h_) wKM
      have hq111_ : (mv106 77 60).toInt = (M 77 60).toInt := by rw [hq107_, mu_ne (Or.inl (by decide))]
      have hq112_ : (mv106 113 a4.toNatClampNeg).toInt = 0 := by rw [hq107_, mu_at]; exact l_0
      have hq113_ := r_77_60 gq108_
      exact (t_X12_jobs_165 hn ih) n a1 a3 a4 (0 : Int32) mv106 gq108_ kq109_ (i_rng (lo := 1) (hi := 8) rfl (by omega) (by omega)) (i_rng (lo := 0) (hi := 10) rfl (by omega) (by omega)) (i_rng (lo := 0) (hi := 11) rfl (by omega) (by omega)) (i_rng (lo := 0) (hi := 12) l_0 (by omega) (by omega)) (by have e3 : ((0 : Int32)).toInt = _ := l_0; omega) hq110_ (by omega) (by have e3 : ((0 : Int32)).toInt = _ := l_0; omega)
theorem t_X12_jobs_98 {n : Nat} (hn : 200000 ≤ n) {oa1 oa2 oa3 : Int32} {M0 : qM} : ∀ (m : Nat) (a1 a2 a3 a4 : Int32) (M : qM), G M → Sm l_X12_jobs M0 M → 1 ≤ a1.toInt ∧ a1.toInt ≤ 8 → 1 ≤ a2.toInt ∧ a2.toInt ≤ 255 → 0 ≤ a3.toInt ∧ a3.toInt ≤ 10 → 0 ≤ a4.toInt ∧ a4.toInt ≤ 8 → ((M 77 60).toInt = bS a2 a4.toInt.toNat ∧ bS a2 12 ≤ 3 ∧ 1 ≤ bS a2 8) → KM  M → 8 - a4.toInt < (m : Int) → qT (f_X12_jobs_98 n m a1 a2 a3 a4 M) (po_X12_jobs oa1 oa2 oa3 M0) := by
  intro m
  induction m with
  | zero =>
    intro a1 a2 a3 a4 M hG hS i0 i1 i2 i3 hE wKM i8
    have hq116_ := r_77_60 hG
    have hb1 : a4.toInt < 12 → bS a2 (a4.toInt.toNat + 1) ≤ bS a2 12 := fun h_ => bS_m _ (by omega)
    have hb2 := bS_s (x := a2) (a := a4) (by omega)
    have hb3 : a4.toInt = 8 → bS a2 8 = bS a2 a4.toInt.toNat := fun h_ => by rw [show a4.toInt.toNat = 8 by omega]
    exfalso; omega
  | succ m ih =>
    intro a1 a2 a3 a4 M hG hS i0 i1 i2 i3 hE wKM i8
    show qT (b_X12_jobs_98 n (f_X12_jobs_98 n m) a1 a2 a3 a4 M) _
    unfold b_X12_jobs_98
    have hq116_ := r_77_60 hG
    have hb1 : a4.toInt < 12 → bS a2 (a4.toInt.toNat + 1) ≤ bS a2 12 := fun h_ => bS_m _ (by omega)
    have hb2 := bS_s (x := a2) (a := a4) (by omega)
    have hb3 : a4.toInt = 8 → bS a2 8 = bS a2 a4.toInt.toNat := fun h_ => by rw [show a4.toInt.toNat = 8 by omega]
    refine T_le l_8 rfl (fun hq117_ => ?_) (fun hq117_ => ?_)
    · exact (t_X12_jobs_147 hn) n a1 a3 (0 : Int32) M hG hS (i_rng (lo := 1) (hi := 8) rfl (by omega) (by omega)) (i_rng (lo := 0) (hi := 10) rfl (by omega) (by omega)) (i_rng (lo := 0) (hi := 12) l_0 (by omega) (by omega)) (by have e2 : ((0 : Int32)).toInt = _ := l_0; omega) wKM (by have e2 : ((0 : Int32)).toInt = _ := l_0; omega)
    · refine T_qc (t_X12_has0 hn a2 a4 M hG (i_rng (lo := 0) (hi := 11) rfl (by omega) (by omega))) ?_
      rintro rv118 mv119 ⟨hq120_, hq121_, gq122_, kq123_⟩
      have hq124_ := kq123_.nil
      subst hq124_
      refine T_eq rfl l_0 (fun hq125_ => ?_) (fun hq125_ => ?_)
      · refine T_ql (i_add rfl l_1 (by omega) (by omega)) ?_
        intro xv126 hq127_
        exact ih a1 a2 a3 xv126 M hG hS (i_rng (lo := 1) (hi := 8) rfl (by omega) (by omega)) (i_rng (lo := 1) (hi := 255) rfl (by omega) (by omega)) (i_rng (lo := 0) (hi := 10) rfl (by omega) (by omega)) (i_rng (lo := 0) (hi := 8) rfl (by omega) (by omega)) (by first | (have h8_ := bS_ge (x := a2) (by omega) (by omega); refine ⟨?_, by omega, by omega⟩; rw [show ((0 : Int32).toInt.toNat) = 0 from rfl]; show _ = (0 : Int); omega) | (rw [show (xv126).toInt.toNat = a4.toInt.toNat + 1 by omega]; omega)) wKM (by omega)
      · refine T_qg rfl (by omega) (by omega) ?_
        refine T_mu hG hS (i_rng (lo := 0) (hi := 7) rfl (by omega) (by omega)) (nw_112 _) (i := 3) rfl ⟨by decide, by decide, Or.inl rfl⟩ ?_
        intro mv128 hq129_ gq130_ kq131_
        have hq132_ := (fun h_ => KM_c (M := M) (M' := mv128) (by rw [hq129_, mu_ne (Or.inl (by decide))]) (by rw [hq129_, mu_nc (by decide)]) h_) wKM
        have hq133_ : (mv128 77 60).toInt = (M 77 60).toInt := by rw [hq129_, mu_ne (Or.inl (by decide))]
        have hq134_ : (mv128 112 ((M 77 60).toNatClampNeg)).toInt = a4.toInt := by rw [hq129_, mu_at]
        have hq136_ := r_77_60 gq130_
        refine T_mu gq130_ kq131_ (i_rng (lo := 0) (hi := 3) (i_add rfl l_1 (by omega) (by omega)) (by omega) (by omega)) nw_77_60 (i := 1) rfl ⟨by decide, by decide, Or.inr ⟨by decide, by decide⟩⟩ ?_
        intro mv135 hq137_ gq138_ kq139_
        have hq140_ := (fun h_ => KM_c (M := mv128) (M' := mv135) (by rw [hq137_, mu_ne (Or.inr (by decide))]) (by rw [hq137_, mu_nc (by decide)]) h_) hq132_
        have hq141_ : (mv135 112 ((M 77 60).toNatClampNeg)).toInt = (mv128 112 ((M 77 60).toNatClampNeg)).toInt := by rw [hq137_, mu_ne (Or.inl (by decide))]
        have hq142_ : (mv135 77 60).toInt = ((mv128 77 60).toInt + 1) := by rw [hq137_, mu_at]; exact (i_add rfl l_1 (by omega) (by omega))
        refine T_ql (i_add rfl l_1 (by omega) (by omega)) ?_
        intro xv143 hq144_
        have hq145_ := r_77_60 gq138_
        exact ih a1 a2 a3 xv143 mv135 gq138_ kq139_ (i_rng (lo := 1) (hi := 8) rfl (by omega) (by omega)) (i_rng (lo := 1) (hi := 255) rfl (by omega) (by omega)) (i_rng (lo := 0) (hi := 10) rfl (by omega) (by omega)) (i_rng (lo := 0) (hi := 8) rfl (by omega) (by omega)) (by first | (have h8_ := bS_ge (x := a2) (by omega) (by omega); refine ⟨?_, by omega, by omega⟩; rw [show ((0 : Int32).toInt.toNat) = 0 from rfl]; show _ = (0 : Int); omega) | (rw [show (xv143).toInt.toNat = a4.toInt.toNat + 1 by omega]; omega)) hq140_ (by omega)
theorem t_X12_jobs {n : Nat} (hn : 200000 ≤ n) (a1 a2 a3 : Int32) (M : qM) (hG : G M) : qT (f_X12_jobs n a1 a2 a3 M) (po_X12_jobs a1 a2 a3 M) := by
  have hS : Sm l_X12_jobs M M := Sm.rf
  unfold f_X12_jobs
  have hq148_ := (show ((1 : Int32)).toInt = _ from l_1)
  have hq149_ := (show ((8 : Int32)).toInt = _ from l_8)
  refine T_qc (t_X12_in hn a1 (1 : Int32) (8 : Int32) M hG (i_rng (lo := 0) (hi := 70) l_1 (by omega) (by omega)) (i_rng (lo := 0) (hi := 99999) l_8 (by omega) (by omega))) ?_
  rintro rv146 mv147 ⟨hq150_, hq151_, gq152_, kq153_⟩
  have hq154_ := kq153_.nil
  subst hq154_
  refine T_eq rfl l_0 (fun hq155_ => ?_) (fun hq155_ => ?_)
  · exact T_ret ⟨hG, hS⟩
  · have hq156_ := r_77_8 hG
    refine T_le rfl rfl (fun hq157_ => ?_) (fun hq157_ => ?_)
    · refine T_mu hG hS (i_rng (lo := 0) (hi := 260) l_0 (by omega) (by omega)) nw_77_8 (i := 0) rfl ⟨by decide, by decide, Or.inr ⟨by decide, by decide⟩⟩ ?_
      intro mv158 hq159_ gq160_ kq161_
      have hq162_ : (mv158 77 8).toInt = 0 := by rw [hq159_, mu_at]; exact l_0
      refine T_qc (t_X12_takesJobs hn a1 mv158 gq160_ (i_rng (lo := 1) (hi := 8) rfl (by omega) (by omega))) ?_
      rintro rv163 mv164 ⟨hq165_, hq166_, gq167_, kq168_⟩
      have kq169_ := Sm.call kq161_ kq168_ rfl
      have hq170_ : (mv164 77 8).toInt = (mv158 77 8).toInt := by rw [kq168_ 77 8 (by decide)]
      refine T_eq rfl l_0 (fun hq171_ => ?_) (fun hq171_ => ?_)
      · exact T_ret ⟨gq167_, kq169_⟩
      · have hq174_ := (show ((255 : Int32)).toInt = _ from l_255)
        refine T_qc (t_X12_in hn a2 (1 : Int32) (255 : Int32) mv164 gq167_ (i_rng (lo := 0) (hi := 70) l_1 (by omega) (by omega)) (i_rng (lo := 0) (hi := 99999) l_255 (by omega) (by omega))) ?_
        rintro rv172 mv173 ⟨hq175_, hq176_, gq177_, kq178_⟩
        have hq179_ := kq178_.nil
        subst hq179_
        refine T_eq rfl l_0 (fun hq180_ => ?_) (fun hq180_ => ?_)
        · exact T_ret ⟨gq167_, kq169_⟩
        · have hq181_ := i_andl (a := a2) (b := (mv164 78 312) ^^^ (-1 : Int32)) rfl (by omega)
          refine T_eq rfl l_0 (fun hq182_ => ?_) (fun hq182_ => ?_)
          · refine T_qc (t_X12_bits hn a2 mv164 gq167_ ) ?_
            rintro rv183 mv184 ⟨hq185_, hq186_, gq187_, kq188_⟩
            have hq189_ := kq188_.nil
            subst hq189_
            refine T_lt l_3 rfl (fun hq190_ => ?_) (fun hq190_ => ?_)
            · exact T_ret ⟨gq167_, kq169_⟩
            · refine T_eq rfl l_10 (fun hq191_ => ?_) (fun hq191_ => ?_)
              · unfold f_X12_jobs_90
                refine T_mu gq167_ kq169_ (i_rng (lo := 0) (hi := 3) l_0 (by omega) (by omega)) nw_77_60 (i := 1) rfl ⟨by decide, by decide, Or.inr ⟨by decide, by decide⟩⟩ ?_
                intro mv192 hq193_ gq194_ kq195_
                have hq196_ := Or.imp_right (fun h_ => KM_c (M := mv164) (M' := mv192) (by rw [hq193_, mu_ne (Or.inr (by decide))]) (by rw [hq193_, mu_nc (by decide)]) h_) hq166_
                have hq197_ : (mv192 77 8).toInt = (mv164 77 8).toInt := by rw [hq193_, mu_ne (Or.inr (by decide))]
                have hq198_ : (mv192 77 60).toInt = 0 := by rw [hq193_, mu_at]; exact l_0
                have hq199_ := r_77_60 gq194_
                exact (t_X12_jobs_98 hn) n a1 a2 a3 (0 : Int32) mv192 gq194_ kq195_ (i_rng (lo := 1) (hi := 8) rfl (by omega) (by omega)) (i_rng (lo := 1) (hi := 255) rfl (by omega) (by omega)) (i_rng (lo := 0) (hi := 10) rfl (by omega) (by omega)) (i_rng (lo := 0) (hi := 8) l_0 (by omega) (by omega)) (by have e3 : ((0 : Int32)).toInt = _ := l_0; first | (have h8_ := bS_ge (x := a2) (by omega) (by omega); refine ⟨?_, by omega, by omega⟩; rw [show ((0 : Int32).toInt.toNat) = 0 from rfl]; show _ = (0 : Int); omega) | (rw [show ((0 : Int32)).toInt.toNat = a4.toInt.toNat + 1 by omega]; omega)) (hq196_.resolve_left (by omega)) (by have e3 : ((0 : Int32)).toInt = _ := l_0; omega)
              · have hq202_ := (show ((0 : Int32)).toInt = _ from l_0)
                have hq203_ := (show (a1 - (1 : Int32)).toInt = _ from (i_sub rfl l_1 (by omega) (by omega)))
                refine T_qc (t_X12_in hn a3 (0 : Int32) (a1 - (1 : Int32)) mv164 gq167_ (i_rng (lo := 0) (hi := 70) l_0 (by omega) (by omega)) (i_rng (lo := 0) (hi := 99999) (i_sub rfl l_1 (by omega) (by omega)) (by omega) (by omega))) ?_
                rintro rv200 mv201 ⟨hq204_, hq205_, gq206_, kq207_⟩
                have hq208_ := kq207_.nil
                subst hq208_
                refine T_eq rfl l_0 (fun hq209_ => ?_) (fun hq209_ => ?_)
                · exact T_ret ⟨gq167_, kq169_⟩
                · unfold f_X12_jobs_90
                  refine T_mu gq167_ kq169_ (i_rng (lo := 0) (hi := 3) l_0 (by omega) (by omega)) nw_77_60 (i := 1) rfl ⟨by decide, by decide, Or.inr ⟨by decide, by decide⟩⟩ ?_
                  intro mv210 hq211_ gq212_ kq213_
                  have hq214_ := Or.imp_right (fun h_ => KM_c (M := mv164) (M' := mv210) (by rw [hq211_, mu_ne (Or.inr (by decide))]) (by rw [hq211_, mu_nc (by decide)]) h_) hq166_
                  have hq215_ : (mv210 77 8).toInt = (mv164 77 8).toInt := by rw [hq211_, mu_ne (Or.inr (by decide))]
                  have hq216_ : (mv210 77 60).toInt = 0 := by rw [hq211_, mu_at]; exact l_0
                  have hq217_ := r_77_60 gq212_
                  exact (t_X12_jobs_98 hn) n a1 a2 a3 (0 : Int32) mv210 gq212_ kq213_ (i_rng (lo := 1) (hi := 8) rfl (by omega) (by omega)) (i_rng (lo := 1) (hi := 255) rfl (by omega) (by omega)) (i_rng (lo := 0) (hi := 10) rfl (by omega) (by omega)) (i_rng (lo := 0) (hi := 8) l_0 (by omega) (by omega)) (by have e3 : ((0 : Int32)).toInt = _ := l_0; first | (have h8_ := bS_ge (x := a2) (by omega) (by omega); refine ⟨?_, by omega, by omega⟩; rw [show ((0 : Int32).toInt.toNat) = 0 from rfl]; show _ = (0 : Int); omega) | (rw [show ((0 : Int32)).toInt.toNat = a4.toInt.toNat + 1 by omega]; omega)) (hq214_.resolve_left (by omega)) (by have e3 : ((0 : Int32)).toInt = _ := l_0; omega)
          · exact T_ret ⟨gq167_, kq169_⟩
    · exact T_ret ⟨hG, hS⟩
abbrev l_X11_pence : List Bx := []
abbrev po_X11_pence (a0 a1 a2 a3 : Int32) (M : qM) (v : Int32) (M' : qM) : Prop := ((-999) ≤ v.toInt ∧ v.toInt ≤ 999) ∧ G M' ∧ Sm l_X11_pence M M'
theorem t_X11_pence {n : Nat} (hn : 200000 ≤ n) (a0 a1 a2 a3 : Int32) (M : qM) (hG : G M) (pa0 : 0 ≤ a0.toInt ∧ a0.toInt ≤ 1) (pa1 : 0 ≤ a1.toInt ∧ a1.toInt ≤ 1) (pa2 : 0 ≤ a2.toInt ∧ a2.toInt ≤ 999) (pa3 : 0 ≤ a3.toInt ∧ a3.toInt ≤ 999) : qT (f_X11_pence n a0 a1 a2 a3 M) (po_X11_pence a0 a1 a2 a3 M) := by
  have hS : Sm l_X11_pence M M := Sm.rf
  unfold f_X11_pence
  refine T_eq rfl l_1 (fun hq1_ => ?_) (fun hq1_ => ?_)
  · refine T_eq rfl l_1 (fun hq2_ => ?_) (fun hq2_ => ?_)
    · exact T_ret ⟨(i_rng (lo := (-999)) (hi := 999) (i_neg (i_div rfl l_2 (by omega) (by omega)) (by omega) (by omega)) (by omega) (by omega)), hG, hS⟩
    · exact T_ret ⟨(i_rng (lo := (-999)) (hi := 999) (i_neg rfl (by omega) (by omega)) (by omega) (by omega)), hG, hS⟩
  · refine T_eq rfl l_1 (fun hq3_ => ?_) (fun hq3_ => ?_)
    · exact T_ret ⟨(i_rng (lo := (-999)) (hi := 999) rfl (by omega) (by omega)), hG, hS⟩
    · exact T_ret ⟨(i_rng (lo := (-999)) (hi := 999) l_m1 (by omega) (by omega)), hG, hS⟩
abbrev l_X11_isSettled : List Bx := []
abbrev po_X11_isSettled (a0 a1 a2 : Int32) (M : qM) (v : Int32) (M' : qM) : Prop := (0 ≤ v.toInt ∧ v.toInt ≤ 1) ∧ G M' ∧ Sm l_X11_isSettled M M'
theorem t_X11_isSettled {n : Nat} (hn : 200000 ≤ n) (a0 a1 a2 : Int32) (M : qM) (hG : G M) (pa0 : 0 ≤ a0.toInt ∧ a0.toInt ≤ 3) (pa1 : 0 ≤ a1.toInt ∧ a1.toInt ≤ 999) (pa2 : 0 ≤ a2.toInt ∧ a2.toInt ≤ 999) : qT (f_X11_isSettled n a0 a1 a2 M) (po_X11_isSettled a0 a1 a2 M) := by
  have hS : Sm l_X11_isSettled M M := Sm.rf
  unfold f_X11_isSettled
  have hq1_ := i_and (a := a0) (b := (1 : Int32)) l_1 (by omega)
  refine T_ql rfl ?_
  intro xv2 hq3_
  have hq4_ := i_shrc 1 (a := a0) (k := (1 : Int32)) (by decide) rfl (by omega) l_1
  refine T_ql rfl ?_
  intro xv5 hq6_
  refine T_qc (t_X11_pence hn xv2 xv5 a1 a2 M hG (i_rng (lo := 0) (hi := 1) rfl (by omega) (by omega)) (i_rng (lo := 0) (hi := 1) rfl (by omega) (by omega)) (i_rng (lo := 0) (hi := 999) rfl (by omega) (by omega)) (i_rng (lo := 0) (hi := 999) rfl (by omega) (by omega))) ?_
  rintro rv7 mv8 ⟨hq9_, gq10_, kq11_⟩
  have hq12_ := kq11_.nil
  subst hq12_
  refine T_qc (t_X11_pence hn ((1 : Int32) - xv2) xv5 a1 a2 M hG (i_rng (lo := 0) (hi := 1) (i_sub l_1 rfl (by omega) (by omega)) (by omega) (by omega)) (i_rng (lo := 0) (hi := 1) rfl (by omega) (by omega)) (i_rng (lo := 0) (hi := 999) rfl (by omega) (by omega)) (i_rng (lo := 0) (hi := 999) rfl (by omega) (by omega))) ?_
  rintro rv13 mv14 ⟨hq15_, gq16_, kq17_⟩
  have hq18_ := kq17_.nil
  subst hq18_
  refine T_lt rfl rfl (fun hq19_ => ?_) (fun hq19_ => ?_)
  · exact T_ret ⟨(i_rng (lo := 0) (hi := 1) l_0 (by omega) (by omega)), hG, hS⟩
  · refine T_qc (t_X11_pence hn xv5 xv2 a1 a2 M hG (i_rng (lo := 0) (hi := 1) rfl (by omega) (by omega)) (i_rng (lo := 0) (hi := 1) rfl (by omega) (by omega)) (i_rng (lo := 0) (hi := 999) rfl (by omega) (by omega)) (i_rng (lo := 0) (hi := 999) rfl (by omega) (by omega))) ?_
    rintro rv20 mv21 ⟨hq22_, gq23_, kq24_⟩
    have hq25_ := kq24_.nil
    subst hq25_
    refine T_qc (t_X11_pence hn ((1 : Int32) - xv5) xv2 a1 a2 M hG (i_rng (lo := 0) (hi := 1) (i_sub l_1 rfl (by omega) (by omega)) (by omega) (by omega)) (i_rng (lo := 0) (hi := 1) rfl (by omega) (by omega)) (i_rng (lo := 0) (hi := 999) rfl (by omega) (by omega)) (i_rng (lo := 0) (hi := 999) rfl (by omega) (by omega))) ?_
    rintro rv26 mv27 ⟨hq28_, gq29_, kq30_⟩
    have hq31_ := kq30_.nil
    subst hq31_
    refine T_lt rfl rfl (fun hq32_ => ?_) (fun hq32_ => ?_)
    · exact T_ret ⟨(i_rng (lo := 0) (hi := 1) l_0 (by omega) (by omega)), hG, hS⟩
    · exact T_ret ⟨(i_rng (lo := 0) (hi := 1) l_1 (by omega) (by omega)), hG, hS⟩
