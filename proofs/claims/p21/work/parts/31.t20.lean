abbrev l_X5_solve_c7 : List Bx := [(25, 26, 8, 10), (26, 34, 0, 0), (34, 35, 4, 5), (35, 37, 0, 0), (64, 65, 11, 13), (67, 70, 0, 0)]
abbrev po_X5_solve_c7 (M : qM) (v : Int32) (M' : qM) : Prop := (0 ≤ v.toInt ∧ v.toInt ≤ 0) ∧ G M' ∧ Sm l_X5_solve_c7 M M'
theorem t_X5_solve_c7_54 {n : Nat} (hn : 200000 ≤ n) {j : Nat} (hj : q_isLaw j) {M0 : qM} : ∀ (m : Nat) (a2 : Int32) (M : qM), G M → Sm l_X5_solve_c7 M0 M → 0 ≤ a2.toInt ∧ a2.toInt ≤ 3 → 3 - a2.toInt < (m : Int) → qT (f_X5_solve_54 n 7 j m a2 M) (po_X5_solve_c7  M0) := by
  intro m
  induction m with
  | zero =>
    intro a2 M hG hS i0 i1
    exfalso; omega
  | succ m ih =>
    intro a2 M hG hS i0 i1
    show qT (b_X5_solve_54 n 7 j (f_X5_solve_54 n 7 j m) a2 M) _
    unfold b_X5_solve_54
    try simp only [Nat.reduceAdd]
    have hq2_ := r_64_10 hG
    refine T_le rfl rfl (fun hq3_ => ?_) (fun hq3_ => ?_)
    · refine T_qc (t_X5_findBestRow hn  M hG ) ?_
      rintro rv4 mv5 ⟨hq6_, gq7_, kq8_⟩
      have kq9_ := Sm.call hS kq8_ rfl
      have hq10_ : (mv5 64 10).toInt = (M 64 10).toInt := by rw [kq8_ 64 10 (by decide)]
      exact T_ret ⟨(i_rng (lo := 0) (hi := 0) l_0 (by omega) (by omega)), gq7_, kq9_⟩
    · refine T_qc (t_X5_goThroughSets hn hj a2 (0 : Int32) (0 : Int32) (0 : Int32) M hG (i_rng (lo := 0) (hi := 2) rfl (by omega) (by omega)) (i_rng (lo := 0) (hi := 8) l_0 (by omega) (by omega)) (i_rng (lo := 0) (hi := 255) l_0 (by omega) (by omega)) (i_rng (lo := (-2147483648)) (hi := 1048576) l_0 (by omega) (by omega))) ?_
      rintro rv11 mv12 ⟨hq13_, gq14_, kq15_⟩
      have kq16_ := Sm.call hS kq15_ rfl
      have hq17_ : (mv12 64 10).toInt = (M 64 10).toInt := by rw [kq15_ 64 10 (by decide)]
      refine T_ql (i_add rfl l_1 (by omega) (by omega)) ?_
      intro xv18 hq19_
      exact ih xv18 mv12 gq14_ kq16_ (i_rng (lo := 0) (hi := 3) rfl (by omega) (by omega)) (by omega)
theorem t_X5_solve_c7_10 {n : Nat} (hn : 200000 ≤ n) {j : Nat} (hj : q_isLaw j) {M0 : qM} : ∀ (m : Nat) (a2 : Int32) (M : qM), G M → Sm l_X5_solve_c7 M0 M → 0 ≤ a2.toInt ∧ a2.toInt ≤ 8 → 8 - a2.toInt < (m : Int) → qT (f_X5_solve_10 n 7 j m a2 M) (po_X5_solve_c7  M0) := by
  sorry
theorem t_X5_solve_c7 {n : Nat} (hn : 200000 ≤ n) {j : Nat} (hj : q_isLaw j) (M : qM) (hG : G M) : qT (f_X5_solve n 7 j  M) (po_X5_solve_c7  M) := by
  have hS : Sm l_X5_solve_c7 M M := Sm.rf
  unfold f_X5_solve
  try simp only [Nat.reduceAdd]
  refine T_qc (t_X10_copy_c25_7 hn  M hG ) ?_
  rintro rv38 mv39 ⟨hq40_, gq41_, kq42_⟩
  have kq43_ := Sm.call hS kq42_ rfl
  exact (t_X5_solve_c7_10 hn hj) n (0 : Int32) mv39 gq41_ kq43_ (i_rng (lo := 0) (hi := 8) l_0 (by omega) (by omega)) (by have e0 : ((0 : Int32)).toInt = _ := l_0; omega)
abbrev l_X5_workerOf : List Bx := []
abbrev po_X5_workerOf (a1 : Int32) (M : qM) (v : Int32) (M' : qM) : Prop := ((-1) ≤ v.toInt ∧ v.toInt ≤ 7) ∧ G M' ∧ Sm l_X5_workerOf M M'
theorem t_X5_workerOf_12 {n : Nat} (hn : 200000 ≤ n) {oa1 : Int32} {M0 : qM} : ∀ (m : Nat) (a1 a2 a3 : Int32) (M : qM), G M → Sm l_X5_workerOf M0 M → 0 ≤ a1.toInt ∧ a1.toInt ≤ 7 → 0 ≤ a2.toInt ∧ a2.toInt ≤ 2147483647 → (-1) ≤ a3.toInt ∧ a3.toInt ≤ 7 → a3.toInt - (-1) < (m : Int) → qT (f_X5_workerOf_12 n m a1 a2 a3 M) (po_X5_workerOf oa1 M0) := by
  sorry
theorem t_X5_workerOf {n : Nat} (hn : 200000 ≤ n) (a1 : Int32) (M : qM) (hG : G M) (pa1 : 0 ≤ a1.toInt ∧ a1.toInt ≤ 7) : qT (f_X5_workerOf n a1 M) (po_X5_workerOf a1 M) := by
  sorry
abbrev l_X11_jobs : List Bx := [(1, 2, 1, 2), (25, 26, 8, 10), (26, 34, 0, 0), (34, 35, 4, 5), (35, 37, 0, 0), (64, 65, 9, 13), (65, 70, 0, 0)]
abbrev po_X11_jobs (a1 a2 a3 : Int32) (M : qM) (v : Int32) (M' : qM) : Prop := ((-2147483648) ≤ v.toInt ∧ v.toInt ≤ 1048575) ∧ G M' ∧ Sm l_X11_jobs M M'
theorem t_X11_jobs {n : Nat} (hn : 200000 ≤ n) {j : Nat} (hj : q_isLaw j) (a1 a2 a3 : Int32) (M : qM) (hG : G M) : qT (f_X11_jobs n j a1 a2 a3 M) (po_X11_jobs a1 a2 a3 M) := by
  have hS : Sm l_X11_jobs M M := Sm.rf
  unfold f_X11_jobs
  refine T_lt rfl l_1 (fun hq1_ => ?_) (fun hq1_ => ?_)
  · exact T_ret ⟨(i_rng (lo := (-2147483648)) (hi := 1048575) l_m1 (by omega) (by omega)), hG, hS⟩
  · refine T_lt l_8 rfl (fun hq2_ => ?_) (fun hq2_ => ?_)
    · exact T_ret ⟨(i_rng (lo := (-2147483648)) (hi := 1048575) l_m1 (by omega) (by omega)), hG, hS⟩
    · have hq3_ := r_1_1 hG
      refine T_le rfl rfl (fun hq4_ => ?_) (fun hq4_ => ?_)
      · refine T_qc (t_X5_read hn a1 M hG (i_rng (lo := 1) (hi := 8) rfl (by omega) (by omega))) ?_
        rintro rv5 mv6 ⟨hq7_, gq8_, kq9_⟩
        have kq10_ := Sm.call hS kq9_ rfl
        have hq11_ : (mv6 1 1).toInt = (M 1 1).toInt := by rw [kq9_ 1 1 (by decide)]
        refine T_qc (t_X9_clear hn  mv6 gq8_ ) ?_
        rintro rv12 mv13 ⟨hq14_, gq15_, kq16_⟩
        have kq17_ := Sm.call kq10_ kq16_ rfl
        refine T_eq rfl l_0 (fun hq18_ => ?_) (fun hq18_ => ?_)
        · exact T_ret ⟨(i_rng (lo := (-2147483648)) (hi := 1048575) l_m2 (by omega) (by omega)), gq15_, kq17_⟩
        · refine T_eq rfl l_10 (fun hq19_ => ?_) (fun hq19_ => ?_)
          · unfold f_X11_jobs_73
            refine T_eq l_1 l_0 (fun hq20_ => ?_) (fun hq20_ => ?_)
            · exfalso; omega
            · refine T_qc (t_X10_knowsAll_c7 hn a2 mv13 gq15_ ) ?_
              rintro rv21 mv22 ⟨hq23_, gq24_, kq25_⟩
              have hq26_ := kq25_.nil
              subst hq26_
              refine T_eq rfl l_0 (fun hq27_ => ?_) (fun hq27_ => ?_)
              · exact T_ret ⟨(i_rng (lo := (-2147483648)) (hi := 1048575) l_m4 (by omega) (by omega)), gq15_, kq17_⟩
              · refine T_qc (t_X5_takeWorkers hn a2 mv13 gq15_ ) ?_
                rintro rv28 mv29 ⟨hq30_, gq31_, kq32_⟩
                have kq33_ := Sm.call kq17_ kq32_ rfl
                refine T_eq rfl l_0 (fun hq34_ => ?_) (fun hq34_ => ?_)
                · exact T_ret ⟨(i_rng (lo := (-2147483648)) (hi := 1048575) l_m4 (by omega) (by omega)), gq31_, kq33_⟩
                · refine T_qc (t_X5_solve_c7 hn hj  mv29 gq31_ ) ?_
                  rintro rv35 mv36 ⟨hq37_, gq38_, kq39_⟩
                  have kq40_ := Sm.call kq33_ kq39_ rfl
                  refine T_lt rfl l_1048576 (fun hq41_ => ?_) (fun hq41_ => ?_)
                  · refine T_eq rfl l_10 (fun hq42_ => ?_) (fun hq42_ => ?_)
                    · have hq43_ := i_full (mv36 64 11)
                      exact T_ret ⟨(i_rng (lo := (-2147483648)) (hi := 1048575) rfl (by omega) (by omega)), gq38_, kq40_⟩
                    · exfalso; omega
                  · exact T_ret ⟨(i_rng (lo := (-2147483648)) (hi := 1048575) l_m3 (by omega) (by omega)), gq38_, kq40_⟩
          · refine T_lt rfl l_0 (fun hq44_ => ?_) (fun hq44_ => ?_)
            · unfold f_X11_jobs_72
              unfold f_X11_jobs_73
              refine T_eq l_0 l_0 (fun hq45_ => ?_) (fun hq45_ => ?_)
              · exact T_ret ⟨(i_rng (lo := (-2147483648)) (hi := 1048575) l_m4 (by omega) (by omega)), gq15_, kq17_⟩
              · exfalso; omega
            · refine T_le rfl rfl (fun hq46_ => ?_) (fun hq46_ => ?_)
              · unfold f_X11_jobs_72
                unfold f_X11_jobs_73
                refine T_eq l_0 l_0 (fun hq47_ => ?_) (fun hq47_ => ?_)
                · exact T_ret ⟨(i_rng (lo := (-2147483648)) (hi := 1048575) l_m4 (by omega) (by omega)), gq15_, kq17_⟩
                · exfalso; omega
              · unfold f_X11_jobs_73
                refine T_eq l_1 l_0 (fun hq48_ => ?_) (fun hq48_ => ?_)
                · exfalso; omega
                · refine T_qc (t_X10_knowsAll_c7 hn a2 mv13 gq15_ ) ?_
                  rintro rv49 mv50 ⟨hq51_, gq52_, kq53_⟩
                  have hq54_ := kq53_.nil
                  subst hq54_
                  refine T_eq rfl l_0 (fun hq55_ => ?_) (fun hq55_ => ?_)
                  · exact T_ret ⟨(i_rng (lo := (-2147483648)) (hi := 1048575) l_m4 (by omega) (by omega)), gq15_, kq17_⟩
                  · refine T_qc (t_X5_takeWorkers hn a2 mv13 gq15_ ) ?_
                    rintro rv56 mv57 ⟨hq58_, gq59_, kq60_⟩
                    have kq61_ := Sm.call kq17_ kq60_ rfl
                    refine T_eq rfl l_0 (fun hq62_ => ?_) (fun hq62_ => ?_)
                    · exact T_ret ⟨(i_rng (lo := (-2147483648)) (hi := 1048575) l_m4 (by omega) (by omega)), gq59_, kq61_⟩
                    · refine T_qc (t_X5_solve_c7 hn hj  mv57 gq59_ ) ?_
                      rintro rv63 mv64 ⟨hq65_, gq66_, kq67_⟩
                      have kq68_ := Sm.call kq61_ kq67_ rfl
                      refine T_lt rfl l_1048576 (fun hq69_ => ?_) (fun hq69_ => ?_)
                      · refine T_eq rfl l_10 (fun hq70_ => ?_) (fun hq70_ => ?_)
                        · exfalso; omega
                        · refine T_qc (t_X5_workerOf hn a3 mv64 gq66_ (i_rng (lo := 0) (hi := 7) rfl (by omega) (by omega))) ?_
                          rintro rv71 mv72 ⟨hq73_, gq74_, kq75_⟩
                          have hq76_ := kq75_.nil
                          subst hq76_
                          have hq77_ := i_full (rv71)
                          exact T_ret ⟨(i_rng (lo := (-2147483648)) (hi := 1048575) rfl (by omega) (by omega)), gq66_, kq68_⟩
                      · exact T_ret ⟨(i_rng (lo := (-2147483648)) (hi := 1048575) l_m3 (by omega) (by omega)), gq66_, kq68_⟩
      · exact T_ret ⟨(i_rng (lo := (-2147483648)) (hi := 1048575) l_m1 (by omega) (by omega)), hG, hS⟩
abbrev l_X12_takesJobs : List Bx := [(77, 78, 59, 60), (111, 112, 0, 0)]
abbrev po_X12_takesJobs (a1 : Int32) (M : qM) (v : Int32) (M' : qM) : Prop := (0 ≤ v.toInt ∧ v.toInt ≤ 1) ∧ G M' ∧ Sm l_X12_takesJobs M M'
theorem t_X12_takesJobs_7 {n : Nat} (hn : 200000 ≤ n) {oa1 : Int32} {M0 : qM} : ∀ (m : Nat) (a1 a2 : Int32) (M : qM), G M → Sm l_X12_takesJobs M0 M → 1 ≤ a1.toInt ∧ a1.toInt ≤ 8 → 0 ≤ a2.toInt ∧ a2.toInt ≤ 8 → 8 - a2.toInt < (m : Int) → qT (f_X12_takesJobs_7 n m a1 a2 M) (po_X12_takesJobs oa1 M0) := by
  intro m
  induction m with
  | zero =>
    intro a1 a2 M hG hS i0 i1 i2
    exfalso; omega
  | succ m ih =>
    intro a1 a2 M hG hS i0 i1 i2
    show qT (b_X12_takesJobs_7 n (f_X12_takesJobs_7 n m) a1 a2 M) _
    unfold b_X12_takesJobs_7
    refine T_le rfl rfl (fun hq2_ => ?_) (fun hq2_ => ?_)
    · exact T_ret ⟨(i_rng (lo := 0) (hi := 1) l_1 (by omega) (by omega)), hG, hS⟩
    · refine T_qg rfl (by omega) (by omega) ?_
      refine T_qg rfl (by omega) (by omega) ?_
      have hq4_ := r_84 hG a2.toNatClampNeg
      refine T_mu hG hS (i_rng (lo := (-128)) (hi := 127) rfl (by omega) (by omega)) (nw_111 _) (i := 1) rfl ⟨by decide, by decide, Or.inl rfl⟩ ?_
      intro mv3 hq5_ gq6_ kq7_
      have hq8_ : (mv3 111 a2.toNatClampNeg).toInt = (M 84 a2.toNatClampNeg).toInt := by rw [hq5_, mu_at]
      refine T_qg rfl (by omega) (by omega) ?_
      have hq11_ := r_111 gq6_ a2.toNatClampNeg
      refine T_qc (t_X12_isKind hn (mv3 111 a2.toNatClampNeg) mv3 gq6_ ) ?_
      rintro rv9 mv10 ⟨hq12_, hq13_, gq14_, kq15_⟩
      have hq16_ := kq15_.nil
      subst hq16_
      refine T_eq rfl l_0 (fun hq17_ => ?_) (fun hq17_ => ?_)
      · exact T_ret ⟨(i_rng (lo := 0) (hi := 1) l_0 (by omega) (by omega)), gq6_, kq7_⟩
      · refine T_ql (i_add rfl l_1 (by omega) (by omega)) ?_
        intro xv18 hq19_
        exact ih a1 xv18 mv3 gq6_ kq7_ (i_rng (lo := 1) (hi := 8) rfl (by omega) (by omega)) (i_rng (lo := 0) (hi := 8) rfl (by omega) (by omega)) (by omega)
theorem t_X12_takesJobs {n : Nat} (hn : 200000 ≤ n) (a1 : Int32) (M : qM) (hG : G M) (pa1 : 1 ≤ a1.toInt ∧ a1.toInt ≤ 8) : qT (f_X12_takesJobs n a1 M) (po_X12_takesJobs a1 M) := by
  have hS : Sm l_X12_takesJobs M M := Sm.rf
  unfold f_X12_takesJobs
  refine T_mu hG hS (i_rng (lo := 0) (hi := 8) rfl (by omega) (by omega)) nw_77_59 (i := 0) rfl ⟨by decide, by decide, Or.inr ⟨by decide, by decide⟩⟩ ?_
  intro mv20 hq21_ gq22_ kq23_
  have hq24_ : (mv20 77 59).toInt = a1.toInt := by rw [hq21_, mu_at]
  exact (t_X12_takesJobs_7 hn) n a1 (0 : Int32) mv20 gq22_ kq23_ (i_rng (lo := 1) (hi := 8) rfl (by omega) (by omega)) (i_rng (lo := 0) (hi := 8) l_0 (by omega) (by omega)) (by have e1 : ((0 : Int32)).toInt = _ := l_0; omega)
abbrev l_X12_whoDoes : List Bx := []
abbrev po_X12_whoDoes (a1 a2 : Int32) (M : qM) (v : Int32) (M' : qM) : Prop := G M' ∧ Sm l_X12_whoDoes M M'
theorem t_X12_whoDoes_10 {n : Nat} (hn : 200000 ≤ n) {oa1 oa2 : Int32} {M0 : qM} : ∀ (m : Nat) (a2 a3 a4 : Int32) (M : qM), G M → Sm l_X12_whoDoes M0 M → 0 ≤ a2.toInt ∧ a2.toInt ≤ 7 → 0 ≤ a3.toInt ∧ a3.toInt ≤ 6560 → (-1) ≤ a4.toInt ∧ a4.toInt ≤ 7 → 1 ≤ (M 77 60).toInt → a4.toInt - (-1) < (m : Int) → qT (f_X12_whoDoes_10 n m a2 a3 a4 M) (po_X12_whoDoes oa1 oa2 M0) := by
  sorry
theorem t_X12_whoDoes {n : Nat} (hn : 200000 ≤ n) (a1 a2 : Int32) (M : qM) (hG : G M) (pa1 : 0 ≤ a1.toInt ∧ a1.toInt ≤ 6560) (pa2 : 0 ≤ a2.toInt ∧ a2.toInt ≤ 7) (pe : 1 ≤ (M 77 60).toInt) : qT (f_X12_whoDoes n a1 a2 M) (po_X12_whoDoes a1 a2 M) := by
  sorry
abbrev l_X12_jobNeeds : List Bx := []
abbrev po_X12_jobNeeds (a1 a2 : Int32) (M : qM) (v : Int32) (M' : qM) : Prop := (0 ≤ v.toInt ∧ v.toInt ≤ 1) ∧ G M' ∧ Sm l_X12_jobNeeds M M'
theorem t_X12_jobNeeds_2 {n : Nat} (hn : 200000 ≤ n) {oa1 oa2 : Int32} {M0 : qM} : ∀ (m : Nat) (a1 a2 a3 : Int32) (M : qM), G M → Sm l_X12_jobNeeds M0 M → 0 ≤ a1.toInt ∧ a1.toInt ≤ 7 → 0 ≤ a2.toInt ∧ a2.toInt ≤ 11 → 0 ≤ a3.toInt ∧ a3.toInt ≤ 12 → 12 - a3.toInt < (m : Int) → qT (f_X12_jobNeeds_2 n m a1 a2 a3 M) (po_X12_jobNeeds oa1 oa2 M0) := by
  intro m
  induction m with
  | zero =>
    intro a1 a2 a3 M hG hS i0 i1 i2 i3
    exfalso; omega
  | succ m ih =>
    intro a1 a2 a3 M hG hS i0 i1 i2 i3
    show qT (b_X12_jobNeeds_2 n (f_X12_jobNeeds_2 n m) a1 a2 a3 M) _
    unfold b_X12_jobNeeds_2
    refine T_le l_12 rfl (fun hq3_ => ?_) (fun hq3_ => ?_)
    · exact T_ret ⟨(i_rng (lo := 0) (hi := 1) l_1 (by omega) (by omega)), hG, hS⟩
    · refine T_qg rfl (by omega) (by omega) ?_
      refine T_qc (t_X12_has0 hn (M 83 a2.toNatClampNeg) a3 M hG (i_rng (lo := 0) (hi := 11) rfl (by omega) (by omega))) ?_
      rintro rv4 mv5 ⟨hq6_, gq7_, kq8_⟩
      have hq9_ := kq8_.nil
      subst hq9_
      refine T_eq rfl l_0 (fun hq10_ => ?_) (fun hq10_ => ?_)
      · refine T_ql (i_add rfl l_1 (by omega) (by omega)) ?_
        intro xv11 hq12_
        exact ih a1 a2 xv11 M hG hS (i_rng (lo := 0) (hi := 7) rfl (by omega) (by omega)) (i_rng (lo := 0) (hi := 11) rfl (by omega) (by omega)) (i_rng (lo := 0) (hi := 12) rfl (by omega) (by omega)) (by omega)
      · refine T_qc (t_X12_at hn a1 a3 M hG (i_rng (lo := 0) (hi := 7) rfl (by omega) (by omega)) (i_rng (lo := 0) (hi := 11) rfl (by omega) (by omega))) ?_
        rintro rv13 mv14 ⟨hq15_, hq16_, gq17_, kq18_⟩
        have hq19_ := kq18_.nil
        subst hq19_
        refine T_qg (i_add l_192 rfl (by omega) (by omega)) (by omega) (by omega) ?_
        refine T_qg rfl (by omega) (by omega) ?_
        have hq20_ := i_full (M 78 (((192 : Int32) + rv13).toNatClampNeg))
        have hq21_ := i_full (M 115 a3.toNatClampNeg)
        refine T_eq rfl l_0 (fun hq22_ => ?_) (fun hq22_ => ?_)
        · exact T_ret ⟨(i_rng (lo := 0) (hi := 1) l_0 (by omega) (by omega)), hG, hS⟩
        · refine T_ql (i_add rfl l_1 (by omega) (by omega)) ?_
          intro xv23 hq24_
          exact ih a1 a2 xv23 M hG hS (i_rng (lo := 0) (hi := 7) rfl (by omega) (by omega)) (i_rng (lo := 0) (hi := 11) rfl (by omega) (by omega)) (i_rng (lo := 0) (hi := 12) rfl (by omega) (by omega)) (by omega)
theorem t_X12_jobNeeds {n : Nat} (hn : 200000 ≤ n) (a1 a2 : Int32) (M : qM) (hG : G M) (pa1 : 0 ≤ a1.toInt ∧ a1.toInt ≤ 7) (pa2 : 0 ≤ a2.toInt ∧ a2.toInt ≤ 11) : qT (f_X12_jobNeeds n a1 a2 M) (po_X12_jobNeeds a1 a2 M) := by
  have hS : Sm l_X12_jobNeeds M M := Sm.rf
  unfold f_X12_jobNeeds
  exact (t_X12_jobNeeds_2 hn) n a1 a2 (0 : Int32) M hG hS (i_rng (lo := 0) (hi := 7) rfl (by omega) (by omega)) (i_rng (lo := 0) (hi := 11) rfl (by omega) (by omega)) (i_rng (lo := 0) (hi := 12) l_0 (by omega) (by omega)) (by have e2 : ((0 : Int32)).toInt = _ := l_0; omega)
abbrev l_X12_jobCounts : List Bx := [(96, 98, 0, 0), (114, 115, 0, 0)]
abbrev po_X12_jobCounts (a1 a2 : Int32) (M : qM) (v : Int32) (M' : qM) : Prop := (0 ≤ v.toInt ∧ v.toInt ≤ 1) ∧ G M' ∧ Sm l_X12_jobCounts M M'
theorem t_X12_jobCounts_5 {n : Nat} (hn : 200000 ≤ n) {oa1 oa2 : Int32} {M0 : qM} : ∀ (m : Nat) (a1 a2 a3 a4 : Int32) (M : qM), G M → Sm l_X12_jobCounts M0 M → 0 ≤ a1.toInt ∧ a1.toInt ≤ 7 → 0 ≤ a2.toInt ∧ a2.toInt ≤ 11 → 0 ≤ a4.toInt ∧ a4.toInt ≤ 12 → 12 - a4.toInt < (m : Int) → qT (f_X12_jobCounts_5 n m a1 a2 a3 a4 M) (po_X12_jobCounts oa1 oa2 M0) := by
  intro m
  induction m with
  | zero =>
    intro a1 a2 a3 a4 M hG hS i0 i1 i2 i3
    exfalso; omega
  | succ m ih =>
    intro a1 a2 a3 a4 M hG hS i0 i1 i2 i3
    show qT (b_X12_jobCounts_5 n (f_X12_jobCounts_5 n m) a1 a2 a3 a4 M) _
    unfold b_X12_jobCounts_5
    refine T_le l_12 rfl (fun hq4_ => ?_) (fun hq4_ => ?_)
    · refine T_qc (t_X12_feels hn a1 a2 (8 : Int32) M hG (i_rng (lo := 0) (hi := 7) rfl (by omega) (by omega)) (i_rng (lo := 0) (hi := 11) rfl (by omega) (by omega)) (i_rng (lo := 0) (hi := 8) l_8 (by omega) (by omega))) ?_
      rintro rv5 mv6 ⟨hq7_, gq8_, kq9_⟩
      have kq10_ := Sm.call hS kq9_ rfl
      refine T_qg rfl (by omega) (by omega) ?_
      have hq12_ := i_full (mv6 97 9)
      have hq13_ := i_full (mv6 114 a2.toNatClampNeg)
      refine T_mu gq8_ kq10_ (rn_97 _ _) (nw_97 _) (i := 0) rfl ⟨by decide, by decide, Or.inl rfl⟩ ?_
      intro mv11 hq14_ gq15_ kq16_
      have hq17_ : (mv11 97 9).toInt = ((mv6 97 9) + (mv6 114 a2.toNatClampNeg)).toInt := by rw [hq14_, mu_at]
      refine T_qg rfl (by omega) (by omega) ?_
      have hq19_ := i_full (mv11 97 10)
      have hq20_ := i_full (mv11 114 a2.toNatClampNeg)
      refine T_mu gq15_ kq16_ (rn_97 _ _) (nw_97 _) (i := 0) rfl ⟨by decide, by decide, Or.inl rfl⟩ ?_
      intro mv18 hq21_ gq22_ kq23_
      have hq24_ : (mv18 97 9).toInt = (mv11 97 9).toInt := by rw [hq21_, mu_ne (Or.inr (by decide))]
      have hq25_ : (mv18 97 10).toInt = ((mv11 97 10) + (mv11 114 a2.toNatClampNeg)).toInt := by rw [hq21_, mu_at]
      refine T_qg rfl (by omega) (by omega) ?_
      have hq27_ := i_full (mv18 97 11)
      have hq28_ := i_full (mv18 115 a2.toNatClampNeg)
      refine T_mu gq22_ kq23_ (rn_97 _ _) (nw_97 _) (i := 0) rfl ⟨by decide, by decide, Or.inl rfl⟩ ?_
      intro mv26 hq29_ gq30_ kq31_
      have hq32_ : (mv26 97 9).toInt = (mv18 97 9).toInt := by rw [hq29_, mu_ne (Or.inr (by decide))]
      have hq33_ : (mv26 97 10).toInt = (mv18 97 10).toInt := by rw [hq29_, mu_ne (Or.inr (by decide))]
      have hq34_ : (mv26 97 11).toInt = ((mv18 97 11) + (mv18 115 a2.toNatClampNeg)).toInt := by rw [hq29_, mu_at]
      refine T_qg rfl (by omega) (by omega) ?_
      refine T_qg rfl (by omega) (by omega) ?_
      have hq36_ := i_full (mv26 114 a2.toNatClampNeg)
      refine T_mu gq30_ kq31_ (rn_114 _ _) (nw_114 _) (i := 1) rfl ⟨by decide, by decide, Or.inl rfl⟩ ?_
      intro mv35 hq37_ gq38_ kq39_
      have hq40_ : (mv35 97 9).toInt = (mv26 97 9).toInt := by rw [hq37_, mu_ne (Or.inl (by decide))]
      have hq41_ : (mv35 97 10).toInt = (mv26 97 10).toInt := by rw [hq37_, mu_ne (Or.inl (by decide))]
      have hq42_ : (mv35 97 11).toInt = (mv26 97 11).toInt := by rw [hq37_, mu_ne (Or.inl (by decide))]
      have hq43_ : (mv35 114 a2.toNatClampNeg).toInt = ((mv26 114 a2.toNatClampNeg) + (1 : Int32)).toInt := by rw [hq37_, mu_at]
      refine T_qc (t_X12_byLaw hn (118 : Int32) (99 : Int32) (1 : Int32) mv35 gq38_ (i_rng (lo := 99) (hi := 118) l_118 (by omega) (by omega)) (i_rng (lo := 99) (hi := 999) l_99 (by omega) (by omega)) (i_rng (lo := 0) (hi := 1) l_1 (by omega) (by omega))) ?_
      rintro rv44 mv45 ⟨hq46_, gq47_, kq48_⟩
      have kq49_ := Sm.call kq39_ kq48_ rfl
      have hq50_ : (mv45 97 9).toInt = (mv35 97 9).toInt := by rw [kq48_ 97 9 (by decide)]
      have hq51_ : (mv45 97 10).toInt = (mv35 97 10).toInt := by rw [kq48_ 97 10 (by decide)]
      have hq52_ : (mv45 97 11).toInt = (mv35 97 11).toInt := by rw [kq48_ 97 11 (by decide)]
      have hq53_ : (mv45 114 a2.toNatClampNeg).toInt = (mv35 114 a2.toNatClampNeg).toInt := by rw [kq48_ 114 _ (outc rfl)]
      refine T_lt rfl rfl (fun hq54_ => ?_) (fun hq54_ => ?_)
      · exact T_ret ⟨(i_rng (lo := 0) (hi := 1) l_0 (by omega) (by omega)), gq47_, kq49_⟩
      · exact T_ret ⟨(i_rng (lo := 0) (hi := 1) l_1 (by omega) (by omega)), gq47_, kq49_⟩
    · refine T_qg rfl (by omega) (by omega) ?_
      refine T_qc (t_X12_has0 hn (M 113 a2.toNatClampNeg) a4 M hG (i_rng (lo := 0) (hi := 11) rfl (by omega) (by omega))) ?_
      rintro rv55 mv56 ⟨hq57_, gq58_, kq59_⟩
      have hq60_ := kq59_.nil
      subst hq60_
      refine T_eq rfl l_0 (fun hq61_ => ?_) (fun hq61_ => ?_)
      · refine T_ql (i_add rfl l_1 (by omega) (by omega)) ?_
        intro xv62 hq63_
        exact ih a1 a2 a3 xv62 M hG hS (i_rng (lo := 0) (hi := 7) rfl (by omega) (by omega)) (i_rng (lo := 0) (hi := 11) rfl (by omega) (by omega)) (i_rng (lo := 0) (hi := 12) rfl (by omega) (by omega)) (by omega)
      · refine T_qc (t_X12_at hn a1 a4 M hG (i_rng (lo := 0) (hi := 7) rfl (by omega) (by omega)) (i_rng (lo := 0) (hi := 11) rfl (by omega) (by omega))) ?_
        rintro rv64 mv65 ⟨hq66_, hq67_, gq68_, kq69_⟩
        have hq70_ := kq69_.nil
        subst hq70_
        refine T_qg (i_add l_0 rfl (by omega) (by omega)) (by omega) (by omega) ?_
        refine T_qg rfl (by omega) (by omega) ?_
        have hq71_ := i_full (a3)
        have hq72_ := i_full (M 78 (((0 : Int32) + rv64).toNatClampNeg))
        have hq73_ := i_full (a3 + (M 78 (((0 : Int32) + rv64).toNatClampNeg)))
        have hq74_ := i_full (M 114 a4.toNatClampNeg)
        refine T_ql rfl ?_
        intro xv75 hq76_
        refine T_ql (i_add rfl l_1 (by omega) (by omega)) ?_
        intro xv77 hq78_
        exact ih a1 a2 xv75 xv77 M hG hS (i_rng (lo := 0) (hi := 7) rfl (by omega) (by omega)) (i_rng (lo := 0) (hi := 11) rfl (by omega) (by omega)) (i_rng (lo := 0) (hi := 12) rfl (by omega) (by omega)) (by omega)
theorem t_X12_jobCounts {n : Nat} (hn : 200000 ≤ n) (a1 a2 : Int32) (M : qM) (hG : G M) (pa1 : 0 ≤ a1.toInt ∧ a1.toInt ≤ 7) (pa2 : 0 ≤ a2.toInt ∧ a2.toInt ≤ 11) : qT (f_X12_jobCounts n a1 a2 M) (po_X12_jobCounts a1 a2 M) := by
  have hS : Sm l_X12_jobCounts M M := Sm.rf
  unfold f_X12_jobCounts
  exact (t_X12_jobCounts_5 hn) n a1 a2 (0 : Int32) (0 : Int32) M hG hS (i_rng (lo := 0) (hi := 7) rfl (by omega) (by omega)) (i_rng (lo := 0) (hi := 11) rfl (by omega) (by omega)) (i_rng (lo := 0) (hi := 12) l_0 (by omega) (by omega)) (by have e2 : ((0 : Int32)).toInt = _ := l_0; have e3 : ((0 : Int32)).toInt = _ := l_0; omega)
abbrev l_X12_hoursBy : List Bx := [(96, 98, 0, 0), (114, 116, 0, 0)]
abbrev po_X12_hoursBy (a1 a2 : Int32) (M : qM) (v : Int32) (M' : qM) : Prop := G M' ∧ Sm l_X12_hoursBy M M'
theorem t_X12_hoursBy_94 {n : Nat} (hn : 200000 ≤ n) {oa1 oa2 : Int32} {M0 : qM} {K45 : Int32 → Int32 → Int32 → Int32 → Int32 → qM → qR} {BK45 : Nat} (hK45 : ∀ (a1 a2 a3 a4 a5 : Int32) (M : qM), G M → Sm l_X12_hoursBy M0 M → 0 ≤ a1.toInt ∧ a1.toInt ≤ 2 → 0 ≤ a2.toInt ∧ a2.toInt ≤ 6560 → 0 ≤ a3.toInt ∧ a3.toInt ≤ 7 → 0 ≤ a5.toInt ∧ a5.toInt ≤ 8 → 1 ≤ (M 77 60).toInt → 8 - a5.toInt < (BK45 : Int) → qT (K45 a1 a2 a3 a4 a5 M) (po_X12_hoursBy oa1 oa2 M0)) : ∀ (m : Nat) (a1 a2 a3 a4 a5 a6 a7 : Int32) (M : qM), G M → Sm l_X12_hoursBy M0 M → 0 ≤ a1.toInt ∧ a1.toInt ≤ 2 → 0 ≤ a2.toInt ∧ a2.toInt ≤ 6560 → 0 ≤ a3.toInt ∧ a3.toInt ≤ 7 → 0 ≤ a5.toInt ∧ a5.toInt ≤ 7 → 0 ≤ a6.toInt ∧ a6.toInt ≤ 11 → 1 ≤ a7.toInt ∧ a7.toInt ≤ 21 → 1 ≤ (M 77 60).toInt → 8 - a5.toInt < (BK45 : Int) + 1 → 21 - a7.toInt < (m : Int) → qT (f_X12_hoursBy_94 n K45 m a1 a2 a3 a4 a5 a6 a7 M) (po_X12_hoursBy oa1 oa2 M0) := by
  sorry
theorem t_X12_hoursBy_45 {n : Nat} (hn : 200000 ≤ n) {oa1 oa2 : Int32} {M0 : qM} : ∀ (m : Nat) (a1 a2 a3 a4 a5 : Int32) (M : qM), G M → Sm l_X12_hoursBy M0 M → 0 ≤ a1.toInt ∧ a1.toInt ≤ 2 → 0 ≤ a2.toInt ∧ a2.toInt ≤ 6560 → 0 ≤ a3.toInt ∧ a3.toInt ≤ 7 → 0 ≤ a5.toInt ∧ a5.toInt ≤ 8 → 1 ≤ (M 77 60).toInt → 8 - a5.toInt < (m : Int) → qT (f_X12_hoursBy_45 n m a1 a2 a3 a4 a5 M) (po_X12_hoursBy oa1 oa2 M0) := by
  sorry
theorem t_X12_hoursBy_13 {n : Nat} (hn : 200000 ≤ n) {oa1 oa2 : Int32} {M0 : qM} : ∀ (m : Nat) (a1 a2 a3 a4 a5 : Int32) (M : qM), G M → Sm l_X12_hoursBy M0 M → 0 ≤ a1.toInt ∧ a1.toInt ≤ 2 → 0 ≤ a2.toInt ∧ a2.toInt ≤ 6560 → 0 ≤ a3.toInt ∧ a3.toInt ≤ 7 → 0 ≤ a4.toInt ∧ a4.toInt ≤ 0 → 0 ≤ a5.toInt ∧ a5.toInt ≤ 12 → 1 ≤ (M 77 60).toInt → 12 - a5.toInt < (m : Int) → qT (f_X12_hoursBy_13 n m a1 a2 a3 a4 a5 M) (po_X12_hoursBy oa1 oa2 M0) := by
  intro m
  induction m with
  | zero =>
    intro a1 a2 a3 a4 a5 M hG hS i0 i1 i2 i3 i4 i5 i6
    have hq75_ := r_77_60 hG
    exfalso; omega
  | succ m ih =>
    intro a1 a2 a3 a4 a5 M hG hS i0 i1 i2 i3 i4 i5 i6
    show qT (b_X12_hoursBy_13 n (f_X12_hoursBy_13 n m) a1 a2 a3 a4 a5 M) _
    unfold b_X12_hoursBy_13
    have hq75_ := r_77_60 hG
    refine T_le l_12 rfl (fun hq76_ => ?_) (fun hq76_ => ?_)
    · exact (t_X12_hoursBy_45 hn) n a1 a2 a3 a4 (0 : Int32) M hG hS (i_rng (lo := 0) (hi := 2) rfl (by omega) (by omega)) (i_rng (lo := 0) (hi := 6560) rfl (by omega) (by omega)) (i_rng (lo := 0) (hi := 7) rfl (by omega) (by omega)) (i_rng (lo := 0) (hi := 8) l_0 (by omega) (by omega)) (by have e4 : ((0 : Int32)).toInt = _ := l_0; omega) (by have e4 : ((0 : Int32)).toInt = _ := l_0; omega)
    · refine T_qg rfl (by omega) (by omega) ?_
      refine T_mu hG hS (rn_114 _ _) (nw_114 _) (i := 1) rfl ⟨by decide, by decide, Or.inl rfl⟩ ?_
      intro mv77 hq78_ gq79_ kq80_
      have hq81_ : (mv77 77 60).toInt = (M 77 60).toInt := by rw [hq78_, mu_ne (Or.inl (by decide))]
      have hq82_ : (mv77 114 a5.toNatClampNeg).toInt = 0 := by rw [hq78_, mu_at]; exact l_0
      refine T_qg rfl (by omega) (by omega) ?_
      refine T_mu gq79_ kq80_ (rn_115 _ _) (nw_115 _) (i := 1) rfl ⟨by decide, by decide, Or.inl rfl⟩ ?_
      intro mv83 hq84_ gq85_ kq86_
      have hq87_ : (mv83 77 60).toInt = (mv77 77 60).toInt := by rw [hq84_, mu_ne (Or.inl (by decide))]
      have hq88_ : (mv83 114 a5.toNatClampNeg).toInt = (mv77 114 a5.toNatClampNeg).toInt := by rw [hq84_, mu_ne (Or.inl (by decide))]
      have hq89_ : (mv83 115 a5.toNatClampNeg).toInt = 0 := by rw [hq84_, mu_at]; exact l_0
      refine T_ql (i_add rfl l_1 (by omega) (by omega)) ?_
      intro xv90 hq91_
      have hq92_ := r_77_60 gq85_
      exact ih a1 a2 a3 a4 xv90 mv83 gq85_ kq86_ (i_rng (lo := 0) (hi := 2) rfl (by omega) (by omega)) (i_rng (lo := 0) (hi := 6560) rfl (by omega) (by omega)) (i_rng (lo := 0) (hi := 7) rfl (by omega) (by omega)) (i_rng (lo := 0) (hi := 0) rfl (by omega) (by omega)) (i_rng (lo := 0) (hi := 12) rfl (by omega) (by omega)) (by omega) (by omega)
theorem t_X12_hoursBy {n : Nat} (hn : 200000 ≤ n) (a1 a2 : Int32) (M : qM) (hG : G M) (pa1 : 0 ≤ a1.toInt ∧ a1.toInt ≤ 2) (pa2 : 0 ≤ a2.toInt ∧ a2.toInt ≤ 6560) (pe : 1 ≤ (M 77 60).toInt) : qT (f_X12_hoursBy n a1 a2 M) (po_X12_hoursBy a1 a2 M) := by
  have hS : Sm l_X12_hoursBy M M := Sm.rf
  unfold f_X12_hoursBy
  have hq93_ := r_77_60 hG
  refine T_qg rfl (by omega) (by omega) ?_
  have hq94_ := r_112 hG a1.toNatClampNeg
  refine T_ql rfl ?_
  intro xv95 hq96_
  exact (t_X12_hoursBy_13 hn) n a1 a2 xv95 (0 : Int32) (0 : Int32) M hG hS (i_rng (lo := 0) (hi := 2) rfl (by omega) (by omega)) (i_rng (lo := 0) (hi := 6560) rfl (by omega) (by omega)) (i_rng (lo := 0) (hi := 7) rfl (by omega) (by omega)) (i_rng (lo := 0) (hi := 0) l_0 (by omega) (by omega)) (i_rng (lo := 0) (hi := 12) l_0 (by omega) (by omega)) (by have e3 : ((0 : Int32)).toInt = _ := l_0; have e4 : ((0 : Int32)).toInt = _ := l_0; omega) (by have e3 : ((0 : Int32)).toInt = _ := l_0; have e4 : ((0 : Int32)).toInt = _ := l_0; omega)
abbrev l_X12_max : List Bx := []
abbrev po_X12_max (a0 a1 : Int32) (M : qM) (v : Int32) (M' : qM) : Prop := G M' ∧ Sm l_X12_max M M'
theorem t_X12_max {n : Nat} (hn : 200000 ≤ n) (a0 a1 : Int32) (M : qM) (hG : G M) : qT (f_X12_max n a0 a1 M) (po_X12_max a0 a1 M) := by
  have hS : Sm l_X12_max M M := Sm.rf
  unfold f_X12_max
  refine T_le rfl rfl (fun hq1_ => ?_) (fun hq1_ => ?_)
  · exact T_ret ⟨hG, hS⟩
  · exact T_ret ⟨hG, hS⟩
