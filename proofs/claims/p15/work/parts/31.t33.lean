abbrev l_X12_jobs : List Bx := [(77, 78, 8, 9), (77, 78, 59, 61), (96, 98, 0, 0), (111, 116, 0, 0)]
abbrev po_X12_jobs (a1 a2 a3 : Int32) (M : qM) (v : Int32) (M' : qM) : Prop := (((1 ≤ a1.toInt ∧ a1.toInt ≤ 8 ∧ a1.toInt ≤ (M 77 8).toInt) ∧ (M' 77 8).toInt = 0) ∨ (¬ (1 ≤ a1.toInt ∧ a1.toInt ≤ 8 ∧ a1.toInt ≤ (M 77 8).toInt) ∧ (M' 77 8).toInt = (M 77 8).toInt)) ∧ G M' ∧ Sm l_X12_jobs M M'
theorem t_X12_jobs_165 {n : Nat} (hn : 200000 ≤ n) {oa1 oa2 oa3 : Int32} {M0 : qM} {K147 : Int32 → Int32 → Int32 → qM → qR} {BK147 : Nat} (hK147 : ∀ (a1 a3 a4 : Int32) (M : qM), G M → Sm l_X12_jobs M0 M → 1 ≤ a1.toInt ∧ a1.toInt ≤ 8 → 0 ≤ a3.toInt ∧ a3.toInt ≤ 10 → 0 ≤ a4.toInt ∧ a4.toInt ≤ 12 → (1 ≤ (M 77 60).toInt ∧ (1 ≤ oa1.toInt ∧ oa1.toInt ≤ 8 ∧ oa1.toInt ≤ (M0 77 8).toInt) ∧ (M 77 8).toInt = 0) → KM  M → 12 - a4.toInt < (BK147 : Int) → qT (K147 a1 a3 a4 M) (po_X12_jobs oa1 oa2 oa3 M0)) : ∀ (m : Nat) (a1 a3 a4 a5 : Int32) (M : qM), G M → Sm l_X12_jobs M0 M → 1 ≤ a1.toInt ∧ a1.toInt ≤ 8 → 0 ≤ a3.toInt ∧ a3.toInt ≤ 10 → 0 ≤ a4.toInt ∧ a4.toInt ≤ 11 → 0 ≤ a5.toInt ∧ a5.toInt ≤ 12 → (1 ≤ (M 77 60).toInt ∧ (1 ≤ oa1.toInt ∧ oa1.toInt ≤ 8 ∧ oa1.toInt ≤ (M0 77 8).toInt) ∧ (M 77 8).toInt = 0) → KM  M → 12 - a4.toInt < (BK147 : Int) + 1 → 12 - a5.toInt < (m : Int) → qT (f_X12_jobs_165 n K147 m a1 a3 a4 a5 M) (po_X12_jobs oa1 oa2 oa3 M0) := by
  intro m
  induction m with
  | zero =>
    intro a1 a3 a4 a5 M hG hS i0 i1 i2 i3 hE wKM i8 i9
    have hq16_ := r_77_60 hG
    have hq17_ := r_77_8 hG
    exfalso; omega
  | succ m ih =>
    intro a1 a3 a4 a5 M hG hS i0 i1 i2 i3 hE wKM i8 i9
    show qT (b_X12_jobs_165 n K147 (f_X12_jobs_165 n K147 m) a1 a3 a4 a5 M) _
    unfold b_X12_jobs_165
    have hq16_ := r_77_60 hG
    have hq17_ := r_77_8 hG
    refine T_le l_12 rfl (fun hq18_ => ?_) (fun hq18_ => ?_)
    · refine T_ql (i_add rfl l_1 (by omega) (by omega)) ?_
      intro xv19 hq20_
      exact hK147 a1 a3 xv19 M hG hS (i_rng (lo := 1) (hi := 8) rfl (by omega) (by omega)) (i_rng (lo := 0) (hi := 10) rfl (by omega) (by omega)) (i_rng (lo := 0) (hi := 12) rfl (by omega) (by omega)) (by omega) wKM (by omega)
    · refine T_qc (t_X12_isKind hn a4 M hG ) ?_
      rintro rv21 mv22 ⟨hq23_, hq24_, gq25_, kq26_⟩
      have hq27_ := kq26_.nil
      subst hq27_
      refine T_eq rfl l_0 (fun hq28_ => ?_) (fun hq28_ => ?_)
      · refine T_ql (i_add rfl l_1 (by omega) (by omega)) ?_
        intro xv29 hq30_
        exact ih a1 a3 a4 xv29 M hG hS (i_rng (lo := 1) (hi := 8) rfl (by omega) (by omega)) (i_rng (lo := 0) (hi := 10) rfl (by omega) (by omega)) (i_rng (lo := 0) (hi := 11) rfl (by omega) (by omega)) (i_rng (lo := 0) (hi := 12) rfl (by omega) (by omega)) (by omega) wKM (by omega) (by omega)
      · refine T_qc (t_X12_isKind hn a5 M hG ) ?_
        rintro rv31 mv32 ⟨hq33_, hq34_, gq35_, kq36_⟩
        have hq37_ := kq36_.nil
        subst hq37_
        refine T_eq rfl l_0 (fun hq38_ => ?_) (fun hq38_ => ?_)
        · refine T_ql (i_add rfl l_1 (by omega) (by omega)) ?_
          intro xv39 hq40_
          exact ih a1 a3 a4 xv39 M hG hS (i_rng (lo := 1) (hi := 8) rfl (by omega) (by omega)) (i_rng (lo := 0) (hi := 10) rfl (by omega) (by omega)) (i_rng (lo := 0) (hi := 11) rfl (by omega) (by omega)) (i_rng (lo := 0) (hi := 12) rfl (by omega) (by omega)) (by omega) wKM (by omega) (by omega)
        · refine T_qc (t_X12_isLike hn a4 a5 M hG (i_rng (lo := 0) (hi := 12) rfl (by omega) (by omega)) (i_rng (lo := 0) (hi := 11) rfl (by omega) (by omega))) ?_
          rintro rv41 mv42 ⟨hq43_, gq44_, kq45_⟩
          have kq46_ := Sm.call hS kq45_ rfl
          have hq47_ := (fun h_ => KM_c (kq45_ 77 59 (by decide)) (funext (fun s_ => kq45_ 111 s_ (outc rfl))) h_) wKM
          have hq48_ : (mv42 77 60).toInt = (M 77 60).toInt := by rw [kq45_ 77 60 (by decide)]
          have hq49_ : (mv42 77 8).toInt = (M 77 8).toInt := by rw [kq45_ 77 8 (by decide)]
          refine T_eq rfl l_0 (fun hq50_ => ?_) (fun hq50_ => ?_)
          · refine T_ql (i_add rfl l_1 (by omega) (by omega)) ?_
            intro xv51 hq52_
            have hq53_ := r_77_60 gq44_
            have hq54_ := r_77_8 gq44_
            exact ih a1 a3 a4 xv51 mv42 gq44_ kq46_ (i_rng (lo := 1) (hi := 8) rfl (by omega) (by omega)) (i_rng (lo := 0) (hi := 10) rfl (by omega) (by omega)) (i_rng (lo := 0) (hi := 11) rfl (by omega) (by omega)) (i_rng (lo := 0) (hi := 12) rfl (by omega) (by omega)) (by omega) hq47_ (by omega) (by omega)
          · refine T_qg rfl (by omega) (by omega) ?_
            refine T_qg rfl (by omega) (by omega) ?_
            have hq56_ := i_shl1 (c := 11) (k := a5) (by decide) rfl (by omega) (by omega)
            refine T_mu gq44_ kq46_ (rn_113 _ _) (nw_113 _) (i := 3) rfl ⟨by decide, by decide, Or.inl rfl⟩ ?_
            intro mv55 hq57_ gq58_ kq59_
            have hq60_ := (fun h_ => KM_c (M := mv42) (M' := mv55) (by rw [hq57_, mu_ne (Or.inl (by decide))]) (by rw [hq57_, mu_nc (by decide)]) h_) hq47_
            have hq61_ : (mv55 77 60).toInt = (mv42 77 60).toInt := by rw [hq57_, mu_ne (Or.inl (by decide))]
            have hq62_ : (mv55 77 8).toInt = (mv42 77 8).toInt := by rw [hq57_, mu_ne (Or.inl (by decide))]
            have hq63_ : (mv55 113 a4.toNatClampNeg).toInt = ((mv42 113 a4.toNatClampNeg) ||| ((1 : Int32) <<< (a5 &&& 31))).toInt := by rw [hq57_, mu_at]
            refine T_ql (i_add rfl l_1 (by omega) (by omega)) ?_
            intro xv64 hq65_
            have hq66_ := r_77_60 gq58_
            have hq67_ := r_77_8 gq58_
            exact ih a1 a3 a4 xv64 mv55 gq58_ kq59_ (i_rng (lo := 1) (hi := 8) rfl (by omega) (by omega)) (i_rng (lo := 0) (hi := 10) rfl (by omega) (by omega)) (i_rng (lo := 0) (hi := 11) rfl (by omega) (by omega)) (i_rng (lo := 0) (hi := 12) rfl (by omega) (by omega)) (by omega) hq60_ (by omega) (by omega)
theorem t_X12_jobs_270 {n : Nat} (hn : 200000 ≤ n) {oa1 oa2 oa3 : Int32} {M0 : qM} : ∀ (m : Nat) (a3 a4 a5 a6 a7 : Int32) (M : qM), G M → Sm l_X12_jobs M0 M → 0 ≤ a3.toInt ∧ a3.toInt ≤ 10 → 1 ≤ a4.toInt ∧ a4.toInt ≤ 6561 → (-1) ≤ a5.toInt ∧ a5.toInt ≤ 6560 → 0 ≤ a7.toInt ∧ a7.toInt ≤ 6561 → (1 ≤ (M 77 60).toInt ∧ (1 ≤ oa1.toInt ∧ oa1.toInt ≤ 8 ∧ oa1.toInt ≤ (M0 77 8).toInt) ∧ (M 77 8).toInt = 0) → KM  M → 6561 - a7.toInt < (m : Int) → qT (f_X12_jobs_270 n m a3 a4 a5 a6 a7 M) (po_X12_jobs oa1 oa2 oa3 M0) := by
  intro m
  induction m with
  | zero =>
    intro a3 a4 a5 a6 a7 M hG hS i0 i1 i2 i3 hE wKM i8
    have hq70_ := r_77_60 hG
    have hq71_ := r_77_8 hG
    exfalso; omega
  | succ m ih =>
    intro a3 a4 a5 a6 a7 M hG hS i0 i1 i2 i3 hE wKM i8
    show qT (b_X12_jobs_270 n (f_X12_jobs_270 n m) a3 a4 a5 a6 a7 M) _
    unfold b_X12_jobs_270
    have hq70_ := r_77_60 hG
    have hq71_ := r_77_8 hG
    refine T_le rfl rfl (fun hq72_ => ?_) (fun hq72_ => ?_)
    · refine T_eq rfl l_m1 (fun hq73_ => ?_) (fun hq73_ => ?_)
      · exact T_ret ⟨(by have e9 : ((-3 : Int32)).toInt = _ := l_m3; omega), hG, hS⟩
      · refine T_eq rfl l_10 (fun hq74_ => ?_) (fun hq74_ => ?_)
        · exact T_ret ⟨(by have e9 : (a6).toInt = _ := rfl; omega), hG, hS⟩
        · refine T_qc (t_X12_whoDoes hn a5 a3 M hG (i_rng (lo := 0) (hi := 6560) rfl (by omega) (by omega)) (i_rng (lo := 0) (hi := 10) rfl (by omega) (by omega)) (by omega)) ?_
          rintro rv75 mv76 ⟨hq77_, gq78_, kq79_⟩
          have hq80_ := kq79_.nil
          subst hq80_
          refine T_qg rfl (by omega) (by omega) ?_
          have hq81_ := r_112 hG rv75.toNatClampNeg
          exact T_ret ⟨(by have e9 : (M 112 rv75.toNatClampNeg).toInt = _ := rfl; omega), hG, hS⟩
    · refine T_qc (t_X12_longestBy hn a7 M hG (i_rng (lo := 0) (hi := 6560) rfl (by omega) (by omega)) (by omega) wKM) ?_
      rintro rv82 mv83 ⟨gq84_, kq85_⟩
      have kq86_ := Sm.call hS kq85_ rfl
      have hq87_ := (fun h_ => KM_c (kq85_ 77 59 (by decide)) (funext (fun s_ => kq85_ 111 s_ (outc rfl))) h_) wKM
      have hq88_ : (mv83 77 60).toInt = (M 77 60).toInt := by rw [kq85_ 77 60 (by decide)]
      have hq89_ : (mv83 77 8).toInt = (M 77 8).toInt := by rw [kq85_ 77 8 (by decide)]
      refine T_lt rfl rfl (fun hq90_ => ?_) (fun hq90_ => ?_)
      · refine T_ql (i_add rfl l_1 (by omega) (by omega)) ?_
        intro xv91 hq92_
        have hq93_ := r_77_60 gq84_
        have hq94_ := r_77_8 gq84_
        exact ih a3 a4 a7 rv82 xv91 mv83 gq84_ kq86_ (i_rng (lo := 0) (hi := 10) rfl (by omega) (by omega)) (i_rng (lo := 1) (hi := 6561) rfl (by omega) (by omega)) (i_rng (lo := (-1)) (hi := 6560) rfl (by omega) (by omega)) (i_rng (lo := 0) (hi := 6561) rfl (by omega) (by omega)) (by omega) hq87_ (by omega)
      · refine T_ql (i_add rfl l_1 (by omega) (by omega)) ?_
        intro xv95 hq96_
        have hq97_ := r_77_60 gq84_
        have hq98_ := r_77_8 gq84_
        exact ih a3 a4 a5 a6 xv95 mv83 gq84_ kq86_ (i_rng (lo := 0) (hi := 10) rfl (by omega) (by omega)) (i_rng (lo := 1) (hi := 6561) rfl (by omega) (by omega)) (i_rng (lo := (-1)) (hi := 6560) rfl (by omega) (by omega)) (i_rng (lo := 0) (hi := 6561) rfl (by omega) (by omega)) (by omega) hq87_ (by omega)
theorem t_X12_jobs_238 {n : Nat} (hn : 200000 ≤ n) {oa1 oa2 oa3 : Int32} {M0 : qM} : ∀ (m : Nat) (a1 a3 a4 a5 : Int32) (M : qM), G M → Sm l_X12_jobs M0 M → 1 ≤ a1.toInt ∧ a1.toInt ≤ 8 → 0 ≤ a3.toInt ∧ a3.toInt ≤ 10 → 1 ≤ a4.toInt ∧ a4.toInt ≤ 6561 → 0 ≤ a5.toInt ∧ a5.toInt ≤ 8 → ((1 ≤ (M 77 60).toInt ∧ ((a5.toInt = 0 ∧ a4.toInt ≤ 1) ∨ (a5.toInt = 1 ∧ a4.toInt ≤ 3) ∨ (a5.toInt = 2 ∧ a4.toInt ≤ 9) ∨ (a5.toInt = 3 ∧ a4.toInt ≤ 27) ∨ (a5.toInt = 4 ∧ a4.toInt ≤ 81) ∨ (a5.toInt = 5 ∧ a4.toInt ≤ 243) ∨ (a5.toInt = 6 ∧ a4.toInt ≤ 729) ∨ (a5.toInt = 7 ∧ a4.toInt ≤ 2187) ∨ (a5.toInt = 8 ∧ a4.toInt ≤ 6561))) ∧ (1 ≤ oa1.toInt ∧ oa1.toInt ≤ 8 ∧ oa1.toInt ≤ (M0 77 8).toInt) ∧ (M 77 8).toInt = 0) → KM  M → 8 - a5.toInt < (m : Int) → qT (f_X12_jobs_238 n m a1 a3 a4 a5 M) (po_X12_jobs oa1 oa2 oa3 M0) := by
  intro m
  induction m with
  | zero =>
    intro a1 a3 a4 a5 M hG hS i0 i1 i2 i3 hE wKM i8
    have hq101_ := r_77_60 hG
    have hq102_ := r_77_8 hG
    exfalso; omega
  | succ m ih =>
    intro a1 a3 a4 a5 M hG hS i0 i1 i2 i3 hE wKM i8
    show qT (b_X12_jobs_238 n (f_X12_jobs_238 n m) a1 a3 a4 a5 M) _
    unfold b_X12_jobs_238
    have hq101_ := r_77_60 hG
    have hq102_ := r_77_8 hG
    refine T_le rfl rfl (fun hq103_ => ?_) (fun hq103_ => ?_)
    · exact (t_X12_jobs_270 hn) n a3 a4 (-1 : Int32) (1000000000 : Int32) (0 : Int32) M hG hS (i_rng (lo := 0) (hi := 10) rfl (by omega) (by omega)) (i_rng (lo := 1) (hi := 6561) rfl (by omega) (by omega)) (i_rng (lo := (-1)) (hi := 6560) l_m1 (by omega) (by omega)) (i_rng (lo := 0) (hi := 6561) l_0 (by omega) (by omega)) (by have e2 : ((-1 : Int32)).toInt = _ := l_m1; have e3 : ((1000000000 : Int32)).toInt = _ := l_1000000000; have e4 : ((0 : Int32)).toInt = _ := l_0; omega) wKM (by have e2 : ((-1 : Int32)).toInt = _ := l_m1; have e3 : ((1000000000 : Int32)).toInt = _ := l_1000000000; have e4 : ((0 : Int32)).toInt = _ := l_0; omega)
    · have hq104_ := i_mulk 3 (a := a4) (b := M 77 60) rfl rfl (by omega) (by omega) (by omega) (by omega)
      refine T_ql rfl ?_
      intro xv105 hq106_
      refine T_ql (i_add rfl l_1 (by omega) (by omega)) ?_
      intro xv107 hq108_
      exact ih a1 a3 xv105 xv107 M hG hS (i_rng (lo := 1) (hi := 8) rfl (by omega) (by omega)) (i_rng (lo := 0) (hi := 10) rfl (by omega) (by omega)) (i_rng (lo := 1) (hi := 6561) rfl (by omega) (by omega)) (i_rng (lo := 0) (hi := 8) rfl (by omega) (by omega)) (by omega) wKM (by omega)
theorem t_X12_jobs_147 {n : Nat} (hn : 200000 ≤ n) {oa1 oa2 oa3 : Int32} {M0 : qM} : ∀ (m : Nat) (a1 a3 a4 : Int32) (M : qM), G M → Sm l_X12_jobs M0 M → 1 ≤ a1.toInt ∧ a1.toInt ≤ 8 → 0 ≤ a3.toInt ∧ a3.toInt ≤ 10 → 0 ≤ a4.toInt ∧ a4.toInt ≤ 12 → (1 ≤ (M 77 60).toInt ∧ (1 ≤ oa1.toInt ∧ oa1.toInt ≤ 8 ∧ oa1.toInt ≤ (M0 77 8).toInt) ∧ (M 77 8).toInt = 0) → KM  M → 12 - a4.toInt < (m : Int) → qT (f_X12_jobs_147 n m a1 a3 a4 M) (po_X12_jobs oa1 oa2 oa3 M0) := by
  intro m
  induction m with
  | zero =>
    intro a1 a3 a4 M hG hS i0 i1 i2 hE wKM i7
    have hq114_ := r_77_60 hG
    have hq115_ := r_77_8 hG
    exfalso; omega
  | succ m ih =>
    intro a1 a3 a4 M hG hS i0 i1 i2 hE wKM i7
    show qT (b_X12_jobs_147 n (f_X12_jobs_147 n m) a1 a3 a4 M) _
    unfold b_X12_jobs_147
    have hq114_ := r_77_60 hG
    have hq115_ := r_77_8 hG
    refine T_le l_12 rfl (fun hq116_ => ?_) (fun hq116_ => ?_)
    · exact (t_X12_jobs_238 hn) n a1 a3 (1 : Int32) (0 : Int32) M hG hS (i_rng (lo := 1) (hi := 8) rfl (by omega) (by omega)) (i_rng (lo := 0) (hi := 10) rfl (by omega) (by omega)) (i_rng (lo := 1) (hi := 6561) l_1 (by omega) (by omega)) (i_rng (lo := 0) (hi := 8) l_0 (by omega) (by omega)) (by have e2 : ((1 : Int32)).toInt = _ := l_1; have e3 : ((0 : Int32)).toInt = _ := l_0; omega) wKM (by have e2 : ((1 : Int32)).toInt = _ := l_1; have e3 : ((0 : Int32)).toInt = _ := l_0; omega)
    · refine T_qg rfl (by omega) (by omega) ?_
      refine T_mu hG hS (rn_113 _ _) (nw_113 _) (i := 3) rfl ⟨by decide, by decide, Or.inl rfl⟩ ?_
      intro mv117 hq118_ gq119_ kq120_
      have hq121_ := (fun h_ => KM_c (M := M) (M' := mv117) (by rw [hq118_, mu_ne (Or.inl (by decide))]) (by rw [hq118_, mu_nc (by decide)]) h_) wKM
      have hq122_ : (mv117 77 60).toInt = (M 77 60).toInt := by rw [hq118_, mu_ne (Or.inl (by decide))]
      have hq123_ : (mv117 77 8).toInt = (M 77 8).toInt := by rw [hq118_, mu_ne (Or.inl (by decide))]
      have hq124_ : (mv117 113 a4.toNatClampNeg).toInt = 0 := by rw [hq118_, mu_at]; exact l_0
      have hq125_ := r_77_60 gq119_
      have hq126_ := r_77_8 gq119_
      exact (t_X12_jobs_165 hn ih) n a1 a3 a4 (0 : Int32) mv117 gq119_ kq120_ (i_rng (lo := 1) (hi := 8) rfl (by omega) (by omega)) (i_rng (lo := 0) (hi := 10) rfl (by omega) (by omega)) (i_rng (lo := 0) (hi := 11) rfl (by omega) (by omega)) (i_rng (lo := 0) (hi := 12) l_0 (by omega) (by omega)) (by have e3 : ((0 : Int32)).toInt = _ := l_0; omega) hq121_ (by omega) (by have e3 : ((0 : Int32)).toInt = _ := l_0; omega)
theorem t_X12_jobs_98 {n : Nat} (hn : 200000 ≤ n) {oa1 oa2 oa3 : Int32} {M0 : qM} : ∀ (m : Nat) (a1 a2 a3 a4 : Int32) (M : qM), G M → Sm l_X12_jobs M0 M → 1 ≤ a1.toInt ∧ a1.toInt ≤ 8 → 1 ≤ a2.toInt ∧ a2.toInt ≤ 255 → 0 ≤ a3.toInt ∧ a3.toInt ≤ 10 → 0 ≤ a4.toInt ∧ a4.toInt ≤ 8 → (((M 77 60).toInt = bS a2 a4.toInt.toNat ∧ bS a2 12 ≤ 3 ∧ 1 ≤ bS a2 8) ∧ (1 ≤ oa1.toInt ∧ oa1.toInt ≤ 8 ∧ oa1.toInt ≤ (M0 77 8).toInt) ∧ (M 77 8).toInt = 0) → KM  M → 8 - a4.toInt < (m : Int) → qT (f_X12_jobs_98 n m a1 a2 a3 a4 M) (po_X12_jobs oa1 oa2 oa3 M0) := by
  intro m
  induction m with
  | zero =>
    intro a1 a2 a3 a4 M hG hS i0 i1 i2 i3 hE wKM i8
    have hq129_ := r_77_60 hG
    have hq130_ := r_77_8 hG
    have hb1 : a4.toInt < 12 → bS a2 (a4.toInt.toNat + 1) ≤ bS a2 12 := fun h_ => bS_m _ (by omega)
    have hb2 := bS_s (x := a2) (a := a4) (by omega)
    have hb3 : a4.toInt = 8 → bS a2 8 = bS a2 a4.toInt.toNat := fun h_ => by rw [show a4.toInt.toNat = 8 by omega]
    exfalso; omega
  | succ m ih =>
    intro a1 a2 a3 a4 M hG hS i0 i1 i2 i3 hE wKM i8
    show qT (b_X12_jobs_98 n (f_X12_jobs_98 n m) a1 a2 a3 a4 M) _
    unfold b_X12_jobs_98
    have hq129_ := r_77_60 hG
    have hq130_ := r_77_8 hG
    have hb1 : a4.toInt < 12 → bS a2 (a4.toInt.toNat + 1) ≤ bS a2 12 := fun h_ => bS_m _ (by omega)
    have hb2 := bS_s (x := a2) (a := a4) (by omega)
    have hb3 : a4.toInt = 8 → bS a2 8 = bS a2 a4.toInt.toNat := fun h_ => by rw [show a4.toInt.toNat = 8 by omega]
    refine T_le l_8 rfl (fun hq131_ => ?_) (fun hq131_ => ?_)
    · exact (t_X12_jobs_147 hn) n a1 a3 (0 : Int32) M hG hS (i_rng (lo := 1) (hi := 8) rfl (by omega) (by omega)) (i_rng (lo := 0) (hi := 10) rfl (by omega) (by omega)) (i_rng (lo := 0) (hi := 12) l_0 (by omega) (by omega)) (by have e2 : ((0 : Int32)).toInt = _ := l_0; omega) wKM (by have e2 : ((0 : Int32)).toInt = _ := l_0; omega)
    · refine T_qc (t_X12_has0 hn a2 a4 M hG (i_rng (lo := 0) (hi := 11) rfl (by omega) (by omega))) ?_
      rintro rv132 mv133 ⟨hq134_, hq135_, gq136_, kq137_⟩
      have hq138_ := kq137_.nil
      subst hq138_
      refine T_eq rfl l_0 (fun hq139_ => ?_) (fun hq139_ => ?_)
      · refine T_ql (i_add rfl l_1 (by omega) (by omega)) ?_
        intro xv140 hq141_
        exact ih a1 a2 a3 xv140 M hG hS (i_rng (lo := 1) (hi := 8) rfl (by omega) (by omega)) (i_rng (lo := 1) (hi := 255) rfl (by omega) (by omega)) (i_rng (lo := 0) (hi := 10) rfl (by omega) (by omega)) (i_rng (lo := 0) (hi := 8) rfl (by omega) (by omega)) (by first | (have h8_ := bS_ge (x := a2) (by omega) (by omega); refine ⟨⟨?_, by omega, by omega⟩, by omega, by omega⟩; rw [show ((0 : Int32).toInt.toNat) = 0 from rfl]; show _ = (0 : Int); omega) | (rw [show (xv140).toInt.toNat = a4.toInt.toNat + 1 by omega]; omega)) wKM (by omega)
      · refine T_qg rfl (by omega) (by omega) ?_
        refine T_mu hG hS (i_rng (lo := 0) (hi := 7) rfl (by omega) (by omega)) (nw_112 _) (i := 3) rfl ⟨by decide, by decide, Or.inl rfl⟩ ?_
        intro mv142 hq143_ gq144_ kq145_
        have hq146_ := (fun h_ => KM_c (M := M) (M' := mv142) (by rw [hq143_, mu_ne (Or.inl (by decide))]) (by rw [hq143_, mu_nc (by decide)]) h_) wKM
        have hq147_ : (mv142 77 60).toInt = (M 77 60).toInt := by rw [hq143_, mu_ne (Or.inl (by decide))]
        have hq148_ : (mv142 77 8).toInt = (M 77 8).toInt := by rw [hq143_, mu_ne (Or.inl (by decide))]
        have hq149_ : (mv142 112 ((M 77 60).toNatClampNeg)).toInt = a4.toInt := by rw [hq143_, mu_at]
        have hq151_ := r_77_60 gq144_
        refine T_mu gq144_ kq145_ (i_rng (lo := 0) (hi := 3) (i_add rfl l_1 (by omega) (by omega)) (by omega) (by omega)) nw_77_60 (i := 1) rfl ⟨by decide, by decide, Or.inr ⟨by decide, by decide⟩⟩ ?_
        intro mv150 hq152_ gq153_ kq154_
        have hq155_ := (fun h_ => KM_c (M := mv142) (M' := mv150) (by rw [hq152_, mu_ne (Or.inr (by decide))]) (by rw [hq152_, mu_nc (by decide)]) h_) hq146_
        have hq156_ : (mv150 77 8).toInt = (mv142 77 8).toInt := by rw [hq152_, mu_ne (Or.inr (by decide))]
        have hq157_ : (mv150 112 ((M 77 60).toNatClampNeg)).toInt = (mv142 112 ((M 77 60).toNatClampNeg)).toInt := by rw [hq152_, mu_ne (Or.inl (by decide))]
        have hq158_ : (mv150 77 60).toInt = ((mv142 77 60).toInt + 1) := by rw [hq152_, mu_at]; exact (i_add rfl l_1 (by omega) (by omega))
        refine T_ql (i_add rfl l_1 (by omega) (by omega)) ?_
        intro xv159 hq160_
        have hq161_ := r_77_60 gq153_
        have hq162_ := r_77_8 gq153_
        exact ih a1 a2 a3 xv159 mv150 gq153_ kq154_ (i_rng (lo := 1) (hi := 8) rfl (by omega) (by omega)) (i_rng (lo := 1) (hi := 255) rfl (by omega) (by omega)) (i_rng (lo := 0) (hi := 10) rfl (by omega) (by omega)) (i_rng (lo := 0) (hi := 8) rfl (by omega) (by omega)) (by first | (have h8_ := bS_ge (x := a2) (by omega) (by omega); refine ⟨⟨?_, by omega, by omega⟩, by omega, by omega⟩; rw [show ((0 : Int32).toInt.toNat) = 0 from rfl]; show _ = (0 : Int); omega) | (rw [show (xv159).toInt.toNat = a4.toInt.toNat + 1 by omega]; omega)) hq155_ (by omega)
theorem t_X12_jobs {n : Nat} (hn : 200000 ≤ n) (a1 a2 a3 : Int32) (M : qM) (hG : G M) : qT (f_X12_jobs n a1 a2 a3 M) (po_X12_jobs a1 a2 a3 M) := by
  have hS : Sm l_X12_jobs M M := Sm.rf
  unfold f_X12_jobs
  have hq163_ := r_77_8 hG
  have hq166_ := (show ((1 : Int32)).toInt = _ from l_1)
  have hq167_ := (show ((8 : Int32)).toInt = _ from l_8)
  refine T_qc (t_X12_in hn a1 (1 : Int32) (8 : Int32) M hG (i_rng (lo := 0) (hi := 70) l_1 (by omega) (by omega)) (i_rng (lo := 0) (hi := 99999) l_8 (by omega) (by omega))) ?_
  rintro rv164 mv165 ⟨hq168_, hq169_, gq170_, kq171_⟩
  have hq172_ := kq171_.nil
  subst hq172_
  refine T_eq rfl l_0 (fun hq173_ => ?_) (fun hq173_ => ?_)
  · exact T_ret ⟨(by have e9 : ((-1 : Int32)).toInt = _ := l_m1; omega), hG, hS⟩
  · refine T_le rfl rfl (fun hq174_ => ?_) (fun hq174_ => ?_)
    · refine T_mu hG hS (i_rng (lo := 0) (hi := 260) l_0 (by omega) (by omega)) nw_77_8 (i := 0) rfl ⟨by decide, by decide, Or.inr ⟨by decide, by decide⟩⟩ ?_
      intro mv175 hq176_ gq177_ kq178_
      have hq179_ : (mv175 77 8).toInt = 0 := by rw [hq176_, mu_at]; exact l_0
      refine T_qc (t_X12_takesJobs hn a1 mv175 gq177_ (i_rng (lo := 1) (hi := 8) rfl (by omega) (by omega))) ?_
      rintro rv180 mv181 ⟨hq182_, hq183_, gq184_, kq185_⟩
      have kq186_ := Sm.call kq178_ kq185_ rfl
      have hq187_ : (mv181 77 8).toInt = (mv175 77 8).toInt := by rw [kq185_ 77 8 (by decide)]
      refine T_eq rfl l_0 (fun hq188_ => ?_) (fun hq188_ => ?_)
      · exact T_ret ⟨(by have e9 : ((-2 : Int32)).toInt = _ := l_m2; omega), gq184_, kq186_⟩
      · have hq191_ := (show ((255 : Int32)).toInt = _ from l_255)
        refine T_qc (t_X12_in hn a2 (1 : Int32) (255 : Int32) mv181 gq184_ (i_rng (lo := 0) (hi := 70) l_1 (by omega) (by omega)) (i_rng (lo := 0) (hi := 99999) l_255 (by omega) (by omega))) ?_
        rintro rv189 mv190 ⟨hq192_, hq193_, gq194_, kq195_⟩
        have hq196_ := kq195_.nil
        subst hq196_
        refine T_eq rfl l_0 (fun hq197_ => ?_) (fun hq197_ => ?_)
        · exact T_ret ⟨(by have e9 : ((-4 : Int32)).toInt = _ := l_m4; omega), gq184_, kq186_⟩
        · have hq198_ := i_andl (a := a2) (b := (mv181 78 312) ^^^ (-1 : Int32)) rfl (by omega)
          refine T_eq rfl l_0 (fun hq199_ => ?_) (fun hq199_ => ?_)
          · refine T_qc (t_X12_bits hn a2 mv181 gq184_ ) ?_
            rintro rv200 mv201 ⟨hq202_, hq203_, gq204_, kq205_⟩
            have hq206_ := kq205_.nil
            subst hq206_
            refine T_lt l_3 rfl (fun hq207_ => ?_) (fun hq207_ => ?_)
            · exact T_ret ⟨(by have e9 : ((-4 : Int32)).toInt = _ := l_m4; omega), gq184_, kq186_⟩
            · refine T_eq rfl l_10 (fun hq208_ => ?_) (fun hq208_ => ?_)
              · unfold f_X12_jobs_90
                refine T_mu gq184_ kq186_ (i_rng (lo := 0) (hi := 3) l_0 (by omega) (by omega)) nw_77_60 (i := 1) rfl ⟨by decide, by decide, Or.inr ⟨by decide, by decide⟩⟩ ?_
                intro mv209 hq210_ gq211_ kq212_
                have hq213_ := Or.imp_right (fun h_ => KM_c (M := mv181) (M' := mv209) (by rw [hq210_, mu_ne (Or.inr (by decide))]) (by rw [hq210_, mu_nc (by decide)]) h_) hq183_
                have hq214_ : (mv209 77 8).toInt = (mv181 77 8).toInt := by rw [hq210_, mu_ne (Or.inr (by decide))]
                have hq215_ : (mv209 77 60).toInt = 0 := by rw [hq210_, mu_at]; exact l_0
                have hq216_ := r_77_60 gq211_
                have hq217_ := r_77_8 gq211_
                exact (t_X12_jobs_98 hn) n a1 a2 a3 (0 : Int32) mv209 gq211_ kq212_ (i_rng (lo := 1) (hi := 8) rfl (by omega) (by omega)) (i_rng (lo := 1) (hi := 255) rfl (by omega) (by omega)) (i_rng (lo := 0) (hi := 10) rfl (by omega) (by omega)) (i_rng (lo := 0) (hi := 8) l_0 (by omega) (by omega)) (by have e3 : ((0 : Int32)).toInt = _ := l_0; first | (have h8_ := bS_ge (x := a2) (by omega) (by omega); refine ⟨⟨?_, by omega, by omega⟩, by omega, by omega⟩; rw [show ((0 : Int32).toInt.toNat) = 0 from rfl]; show _ = (0 : Int); omega) | (rw [show ((0 : Int32)).toInt.toNat = a4.toInt.toNat + 1 by omega]; omega)) (hq213_.resolve_left (by omega)) (by have e3 : ((0 : Int32)).toInt = _ := l_0; omega)
              · have hq220_ := (show ((0 : Int32)).toInt = _ from l_0)
                have hq221_ := (show (a1 - (1 : Int32)).toInt = _ from (i_sub rfl l_1 (by omega) (by omega)))
                refine T_qc (t_X12_in hn a3 (0 : Int32) (a1 - (1 : Int32)) mv181 gq184_ (i_rng (lo := 0) (hi := 70) l_0 (by omega) (by omega)) (i_rng (lo := 0) (hi := 99999) (i_sub rfl l_1 (by omega) (by omega)) (by omega) (by omega))) ?_
                rintro rv218 mv219 ⟨hq222_, hq223_, gq224_, kq225_⟩
                have hq226_ := kq225_.nil
                subst hq226_
                refine T_eq rfl l_0 (fun hq227_ => ?_) (fun hq227_ => ?_)
                · exact T_ret ⟨(by have e9 : ((-4 : Int32)).toInt = _ := l_m4; omega), gq184_, kq186_⟩
                · unfold f_X12_jobs_90
                  refine T_mu gq184_ kq186_ (i_rng (lo := 0) (hi := 3) l_0 (by omega) (by omega)) nw_77_60 (i := 1) rfl ⟨by decide, by decide, Or.inr ⟨by decide, by decide⟩⟩ ?_
                  intro mv228 hq229_ gq230_ kq231_
                  have hq232_ := Or.imp_right (fun h_ => KM_c (M := mv181) (M' := mv228) (by rw [hq229_, mu_ne (Or.inr (by decide))]) (by rw [hq229_, mu_nc (by decide)]) h_) hq183_
                  have hq233_ : (mv228 77 8).toInt = (mv181 77 8).toInt := by rw [hq229_, mu_ne (Or.inr (by decide))]
                  have hq234_ : (mv228 77 60).toInt = 0 := by rw [hq229_, mu_at]; exact l_0
                  have hq235_ := r_77_60 gq230_
                  have hq236_ := r_77_8 gq230_
                  exact (t_X12_jobs_98 hn) n a1 a2 a3 (0 : Int32) mv228 gq230_ kq231_ (i_rng (lo := 1) (hi := 8) rfl (by omega) (by omega)) (i_rng (lo := 1) (hi := 255) rfl (by omega) (by omega)) (i_rng (lo := 0) (hi := 10) rfl (by omega) (by omega)) (i_rng (lo := 0) (hi := 8) l_0 (by omega) (by omega)) (by have e3 : ((0 : Int32)).toInt = _ := l_0; first | (have h8_ := bS_ge (x := a2) (by omega) (by omega); refine ⟨⟨?_, by omega, by omega⟩, by omega, by omega⟩; rw [show ((0 : Int32).toInt.toNat) = 0 from rfl]; show _ = (0 : Int); omega) | (rw [show ((0 : Int32)).toInt.toNat = a4.toInt.toNat + 1 by omega]; omega)) (hq232_.resolve_left (by omega)) (by have e3 : ((0 : Int32)).toInt = _ := l_0; omega)
          · exact T_ret ⟨(by have e9 : ((-4 : Int32)).toInt = _ := l_m4; omega), gq184_, kq186_⟩
    · exact T_ret ⟨(by have e9 : ((-1 : Int32)).toInt = _ := l_m1; omega), hG, hS⟩
abbrev l_X11_pence : List Bx := []
abbrev po_X11_pence (a0 a1 a2 a3 : Int32) (M : qM) (v : Int32) (M' : qM) : Prop := ((-999) ≤ v.toInt ∧ v.toInt ≤ 999) ∧ G M' ∧ Sm l_X11_pence M M'
theorem t_X11_pence {n : Nat} (hn : 200000 ≤ n) (a0 a1 a2 a3 : Int32) (M : qM) (hG : G M) (pa0 : 0 ≤ a0.toInt ∧ a0.toInt ≤ 1) (pa1 : 0 ≤ a1.toInt ∧ a1.toInt ≤ 1) (pa2 : 0 ≤ a2.toInt ∧ a2.toInt ≤ 999) (pa3 : 0 ≤ a3.toInt ∧ a3.toInt ≤ 999) : qT (f_X11_pence n a0 a1 a2 a3 M) (po_X11_pence a0 a1 a2 a3 M) := by
  have hS : Sm l_X11_pence M M := Sm.rf
  unfold f_X11_pence
  refine T_eq rfl l_1 (fun hq1_ => ?_) (fun hq1_ => ?_)
  · refine T_eq rfl l_1 (fun hq2_ => ?_) (fun hq2_ => ?_)
    · exact T_ret ⟨(i_rng (lo := (-999)) (hi := 999) (i_neg (i_div rfl l_2 (by omega) (by omega)) (by omega) (by omega)) (by omega) (by omega)), hG, hS⟩
    · exact T_ret ⟨(i_rng (lo := (-999)) (hi := 999) (i_neg rfl (by omega) (by omega)) (by omega) (by omega)), hG, hS⟩
  · refine T_eq rfl l_1 (fun hq3_ => ?_) (fun hq3_ => ?_)
    · exact T_ret ⟨(i_rng (lo := (-999)) (hi := 999) rfl (by omega) (by omega)), hG, hS⟩
    · exact T_ret ⟨(i_rng (lo := (-999)) (hi := 999) l_m1 (by omega) (by omega)), hG, hS⟩
abbrev l_X11_isSettled : List Bx := []
abbrev po_X11_isSettled (a0 a1 a2 : Int32) (M : qM) (v : Int32) (M' : qM) : Prop := (0 ≤ v.toInt ∧ v.toInt ≤ 1) ∧ G M' ∧ Sm l_X11_isSettled M M'
theorem t_X11_isSettled {n : Nat} (hn : 200000 ≤ n) (a0 a1 a2 : Int32) (M : qM) (hG : G M) (pa0 : 0 ≤ a0.toInt ∧ a0.toInt ≤ 3) (pa1 : 0 ≤ a1.toInt ∧ a1.toInt ≤ 999) (pa2 : 0 ≤ a2.toInt ∧ a2.toInt ≤ 999) : qT (f_X11_isSettled n a0 a1 a2 M) (po_X11_isSettled a0 a1 a2 M) := by
  have hS : Sm l_X11_isSettled M M := Sm.rf
  unfold f_X11_isSettled
  have hq1_ := i_and (a := a0) (b := (1 : Int32)) l_1 (by omega)
  refine T_ql rfl ?_
  intro xv2 hq3_
  have hq4_ := i_shrc 1 (a := a0) (k := (1 : Int32)) (by decide) rfl (by omega) l_1
  refine T_ql rfl ?_
  intro xv5 hq6_
  refine T_qc (t_X11_pence hn xv2 xv5 a1 a2 M hG (i_rng (lo := 0) (hi := 1) rfl (by omega) (by omega)) (i_rng (lo := 0) (hi := 1) rfl (by omega) (by omega)) (i_rng (lo := 0) (hi := 999) rfl (by omega) (by omega)) (i_rng (lo := 0) (hi := 999) rfl (by omega) (by omega))) ?_
  rintro rv7 mv8 ⟨hq9_, gq10_, kq11_⟩
  have hq12_ := kq11_.nil
  subst hq12_
  refine T_qc (t_X11_pence hn ((1 : Int32) - xv2) xv5 a1 a2 M hG (i_rng (lo := 0) (hi := 1) (i_sub l_1 rfl (by omega) (by omega)) (by omega) (by omega)) (i_rng (lo := 0) (hi := 1) rfl (by omega) (by omega)) (i_rng (lo := 0) (hi := 999) rfl (by omega) (by omega)) (i_rng (lo := 0) (hi := 999) rfl (by omega) (by omega))) ?_
  rintro rv13 mv14 ⟨hq15_, gq16_, kq17_⟩
  have hq18_ := kq17_.nil
  subst hq18_
  refine T_lt rfl rfl (fun hq19_ => ?_) (fun hq19_ => ?_)
  · exact T_ret ⟨(i_rng (lo := 0) (hi := 1) l_0 (by omega) (by omega)), hG, hS⟩
  · refine T_qc (t_X11_pence hn xv5 xv2 a1 a2 M hG (i_rng (lo := 0) (hi := 1) rfl (by omega) (by omega)) (i_rng (lo := 0) (hi := 1) rfl (by omega) (by omega)) (i_rng (lo := 0) (hi := 999) rfl (by omega) (by omega)) (i_rng (lo := 0) (hi := 999) rfl (by omega) (by omega))) ?_
    rintro rv20 mv21 ⟨hq22_, gq23_, kq24_⟩
    have hq25_ := kq24_.nil
    subst hq25_
    refine T_qc (t_X11_pence hn ((1 : Int32) - xv5) xv2 a1 a2 M hG (i_rng (lo := 0) (hi := 1) (i_sub l_1 rfl (by omega) (by omega)) (by omega) (by omega)) (i_rng (lo := 0) (hi := 1) rfl (by omega) (by omega)) (i_rng (lo := 0) (hi := 999) rfl (by omega) (by omega)) (i_rng (lo := 0) (hi := 999) rfl (by omega) (by omega))) ?_
    rintro rv26 mv27 ⟨hq28_, gq29_, kq30_⟩
    have hq31_ := kq30_.nil
    subst hq31_
    refine T_lt rfl rfl (fun hq32_ => ?_) (fun hq32_ => ?_)
    · exact T_ret ⟨(i_rng (lo := 0) (hi := 1) l_0 (by omega) (by omega)), hG, hS⟩
    · exact T_ret ⟨(i_rng (lo := 0) (hi := 1) l_1 (by omega) (by omega)), hG, hS⟩
