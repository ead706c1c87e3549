abbrev l_X7_bestWay : List Bx := [(63, 64, 0, 0)]
abbrev po_X7_bestWay (a1 a2 a3 : Int32) (M : qM) (v : Int32) (M' : qM) : Prop := G M' ∧ Sm l_X7_bestWay M M'
theorem t_X7_bestWay_59 {n : Nat} (hn : 200000 ≤ n) {B : Nat} {F_X7_bestWay : Int32 → Int32 → Int32 → qM → qR} (hF_X7_bestWay : ∀ (a1 a2 a3 : Int32) (M : qM), G M → 0 ≤ a2.toInt ∧ a2.toInt ≤ 3 → 0 ≤ a3.toInt ∧ a3.toInt ≤ 13 → 13 - a3.toInt < (B : Int) → qT (F_X7_bestWay a1 a2 a3 M) (po_X7_bestWay a1 a2 a3 M)) {oa1 oa2 oa3 : Int32} {M0 : qM} : ∀ (m : Nat) (a1 a2 a3 a4 a5 a6 : Int32) (M : qM), G M → Sm l_X7_bestWay M0 M → 0 ≤ a2.toInt ∧ a2.toInt ≤ 3 → 0 ≤ a3.toInt ∧ a3.toInt ≤ 12 → 0 ≤ a4.toInt ∧ a4.toInt ≤ 8191 → (-2147483648) ≤ a5.toInt ∧ a5.toInt ≤ 1048576 → 0 ≤ a6.toInt ∧ a6.toInt ≤ 4 → 13 - a3.toInt < (B : Int) + 1 → 4 - a6.toInt < (m : Int) → qT (f_X7_bestWay_59 n F_X7_bestWay m a1 a2 a3 a4 a5 a6 M) (po_X7_bestWay oa1 oa2 oa3 M0) := by
  intro m
  induction m with
  | zero =>
    intro a1 a2 a3 a4 a5 a6 M hG hS i0 i1 i2 i3 i4 i7 i8
    exfalso; omega
  | succ m ih =>
    intro a1 a2 a3 a4 a5 a6 M hG hS i0 i1 i2 i3 i4 i7 i8
    show qT (b_X7_bestWay_59 n F_X7_bestWay (f_X7_bestWay_59 n F_X7_bestWay m) a1 a2 a3 a4 a5 a6 M) _
    unfold b_X7_bestWay_59
    have hq39_ := r_56_10 hG
    refine T_le rfl rfl (fun hq40_ => ?_) (fun hq40_ => ?_)
    · refine T_qg rfl (by omega) (by omega) ?_
      refine T_mu hG hS (rn_63 _ _) (nw_63 _) (i := 0) rfl ⟨by decide, by decide, Or.inl rfl⟩ ?_
      intro mv41 hq42_ gq43_ kq44_
      have hq45_ : (mv41 56 10).toInt = (M 56 10).toInt := by rw [hq42_, mu_ne (Or.inl (by decide))]
      have hq46_ : (mv41 63 a4.toNatClampNeg).toInt = a5.toInt := by rw [hq42_, mu_at]
      exact T_ret ⟨gq43_, kq44_⟩
    · refine T_qc (t_X7_extraAt hn a1 a6 M hG (i_rng (lo := 0) (hi := 3) rfl (by omega) (by omega))) ?_
      rintro rv47 mv48 ⟨hq49_, gq50_, kq51_⟩
      have hq52_ := kq51_.nil
      subst hq52_
      refine T_le l_3 rfl (fun hq53_ => ?_) (fun hq53_ => ?_)
      · refine T_ql (i_add rfl l_1 (by omega) (by omega)) ?_
        intro xv54 hq55_
        have hq56_ := i_full (a5)
        exact ih a1 a2 a3 a4 a5 xv54 M hG hS (i_rng (lo := 0) (hi := 3) rfl (by omega) (by omega)) (i_rng (lo := 0) (hi := 12) rfl (by omega) (by omega)) (i_rng (lo := 0) (hi := 8191) rfl (by omega) (by omega)) (i_rng (lo := (-2147483648)) (hi := 1048576) rfl (by omega) (by omega)) (i_rng (lo := 0) (hi := 4) rfl (by omega) (by omega)) (by omega) (by omega)
      · have hq57_ := i_shl1 (c := 6) (k := (2 : Int32) * a6) (by decide) (i_mul l_2 rfl (by omega) (by omega)) (by omega) (by omega)
        have hq58_ := i_full (a1)
        refine T_ql rfl ?_
        intro xv59 hq60_
        refine T_qc (t_X7_wouldCount hn a1 a6 M hG (i_rng (lo := 0) (hi := 3) rfl (by omega) (by omega))) ?_
        rintro rv61 mv62 ⟨hq63_, gq64_, kq65_⟩
        have hq66_ := kq65_.nil
        subst hq66_
        refine T_eq rfl l_0 (fun hq67_ => ?_) (fun hq67_ => ?_)
        · unfold f_X7_bestWay_121
          unfold f_X7_bestWay_123
          refine T_eq rfl l_0 (fun hq68_ => ?_) (fun hq68_ => ?_)
          · unfold f_X7_bestWay_143
            refine T_qc (hF_X7_bestWay xv59 a2 (a3 + (1 : Int32)) M hG (i_rng (lo := 0) (hi := 3) rfl (by omega) (by omega)) (i_rng (lo := 0) (hi := 13) (i_add rfl l_1 (by omega) (by omega)) (by omega) (by omega)) (by have e2 : (a3 + (1 : Int32)).toInt = _ := (i_add rfl l_1 (by omega) (by omega)); omega)) ?_
            rintro rv69 mv70 ⟨gq71_, kq72_⟩
            have kq73_ := Sm.call hS kq72_ rfl
            have hq74_ : (mv70 56 10).toInt = (M 56 10).toInt := by rw [kq72_ 56 10 (by decide)]
            unfold f_X7_bestWay_153
            refine T_qg rfl (by omega) (by omega) ?_
            have hq75_ := r_57 gq71_ a6.toNatClampNeg
            refine T_qg rfl (by omega) (by omega) ?_
            have hq76_ := i_full (mv70 4 ((mv70 57 a6.toNatClampNeg).toNatClampNeg))
            have hq77_ := i_full ((16 : Int32) * (mv70 4 ((mv70 57 a6.toNatClampNeg).toNatClampNeg)))
            have hq78_ := i_full (((16 : Int32) * (mv70 4 ((mv70 57 a6.toNatClampNeg).toNatClampNeg))) + (1 : Int32))
            have hq79_ := i_full (rv69)
            have hq80_ := i_min (a := a5) (b := (((16 : Int32) * (mv70 4 ((mv70 57 a6.toNatClampNeg).toNatClampNeg))) + (1 : Int32)) + rv69) rfl rfl
            refine T_ql rfl ?_
            intro xv81 hq82_
            refine T_le rfl l_0 (fun hq83_ => ?_) (fun hq83_ => ?_)
            · refine T_ql (i_add rfl l_1 (by omega) (by omega)) ?_
              intro xv84 hq85_
              have hq86_ := i_full (xv81)
              exact ih a1 a2 a3 a4 xv81 xv84 mv70 gq71_ kq73_ (i_rng (lo := 0) (hi := 3) rfl (by omega) (by omega)) (i_rng (lo := 0) (hi := 12) rfl (by omega) (by omega)) (i_rng (lo := 0) (hi := 8191) rfl (by omega) (by omega)) (i_rng (lo := (-2147483648)) (hi := 1048576) rfl (by omega) (by omega)) (i_rng (lo := 0) (hi := 4) rfl (by omega) (by omega)) (by omega) (by omega)
            · refine T_qc (hF_X7_bestWay xv59 (a2 - (1 : Int32)) (a3 + (1 : Int32)) mv70 gq71_ (i_rng (lo := 0) (hi := 3) (i_sub rfl l_1 (by omega) (by omega)) (by omega) (by omega)) (i_rng (lo := 0) (hi := 13) (i_add rfl l_1 (by omega) (by omega)) (by omega) (by omega)) (by have e1 : (a2 - (1 : Int32)).toInt = _ := (i_sub rfl l_1 (by omega) (by omega)); have e2 : (a3 + (1 : Int32)).toInt = _ := (i_add rfl l_1 (by omega) (by omega)); omega)) ?_
              rintro rv87 mv88 ⟨gq89_, kq90_⟩
              have kq91_ := Sm.call kq73_ kq90_ rfl
              have hq92_ : (mv88 56 10).toInt = (mv70 56 10).toInt := by rw [kq90_ 56 10 (by decide)]
              have hq93_ : (mv88 57 a6.toNatClampNeg).toInt = (mv70 57 a6.toNatClampNeg).toInt := by rw [kq90_ 57 _ (outc rfl)]
              have hq94_ := i_min (a := xv81) (b := rv87) rfl rfl
              refine T_ql rfl ?_
              intro xv95 hq96_
              refine T_ql (i_add rfl l_1 (by omega) (by omega)) ?_
              intro xv97 hq98_
              have hq99_ := i_full (xv95)
              exact ih a1 a2 a3 a4 xv95 xv97 mv88 gq89_ kq91_ (i_rng (lo := 0) (hi := 3) rfl (by omega) (by omega)) (i_rng (lo := 0) (hi := 12) rfl (by omega) (by omega)) (i_rng (lo := 0) (hi := 8191) rfl (by omega) (by omega)) (i_rng (lo := (-2147483648)) (hi := 1048576) rfl (by omega) (by omega)) (i_rng (lo := 0) (hi := 4) rfl (by omega) (by omega)) (by omega) (by omega)
          · exfalso; omega
        · refine T_le l_3 rfl (fun hq100_ => ?_) (fun hq100_ => ?_)
          · unfold f_X7_bestWay_121
            unfold f_X7_bestWay_123
            refine T_eq rfl l_0 (fun hq101_ => ?_) (fun hq101_ => ?_)
            · exfalso; omega
            · refine T_eq rfl rfl (fun hq102_ => ?_) (fun hq102_ => ?_)
              · unfold f_X7_bestWay_153
                refine T_qg rfl (by omega) (by omega) ?_
                have hq103_ := r_57 hG a6.toNatClampNeg
                refine T_qg rfl (by omega) (by omega) ?_
                have hq104_ := i_full (M 4 ((M 57 a6.toNatClampNeg).toNatClampNeg))
                have hq105_ := i_full ((16 : Int32) * (M 4 ((M 57 a6.toNatClampNeg).toNatClampNeg)))
                have hq106_ := i_full (((16 : Int32) * (M 4 ((M 57 a6.toNatClampNeg).toNatClampNeg))) + (1 : Int32))
                have hq107_ := i_min (a := a5) (b := (((16 : Int32) * (M 4 ((M 57 a6.toNatClampNeg).toNatClampNeg))) + (1 : Int32)) + (0 : Int32)) rfl (i_add rfl l_0 (by omega) (by omega))
                refine T_ql rfl ?_
                intro xv108 hq109_
                refine T_le rfl l_0 (fun hq110_ => ?_) (fun hq110_ => ?_)
                · refine T_ql (i_add rfl l_1 (by omega) (by omega)) ?_
                  intro xv111 hq112_
                  have hq113_ := i_full (xv108)
                  exact ih a1 a2 a3 a4 xv108 xv111 M hG hS (i_rng (lo := 0) (hi := 3) rfl (by omega) (by omega)) (i_rng (lo := 0) (hi := 12) rfl (by omega) (by omega)) (i_rng (lo := 0) (hi := 8191) rfl (by omega) (by omega)) (i_rng (lo := (-2147483648)) (hi := 1048576) rfl (by omega) (by omega)) (i_rng (lo := 0) (hi := 4) rfl (by omega) (by omega)) (by omega) (by omega)
                · refine T_qc (hF_X7_bestWay xv59 (a2 - (1 : Int32)) (a3 + (1 : Int32)) M hG (i_rng (lo := 0) (hi := 3) (i_sub rfl l_1 (by omega) (by omega)) (by omega) (by omega)) (i_rng (lo := 0) (hi := 13) (i_add rfl l_1 (by omega) (by omega)) (by omega) (by omega)) (by have e1 : (a2 - (1 : Int32)).toInt = _ := (i_sub rfl l_1 (by omega) (by omega)); have e2 : (a3 + (1 : Int32)).toInt = _ := (i_add rfl l_1 (by omega) (by omega)); omega)) ?_
                  rintro rv114 mv115 ⟨gq116_, kq117_⟩
                  have kq118_ := Sm.call hS kq117_ rfl
                  have hq119_ : (mv115 56 10).toInt = (M 56 10).toInt := by rw [kq117_ 56 10 (by decide)]
                  have hq120_ : (mv115 56 11).toInt = (M 56 11).toInt := by rw [kq117_ 56 11 (by decide)]
                  have hq121_ : (mv115 57 a6.toNatClampNeg).toInt = (M 57 a6.toNatClampNeg).toInt := by rw [kq117_ 57 _ (outc rfl)]
                  have hq122_ := i_min (a := xv108) (b := rv114) rfl rfl
                  refine T_ql rfl ?_
                  intro xv123 hq124_
                  refine T_ql (i_add rfl l_1 (by omega) (by omega)) ?_
                  intro xv125 hq126_
                  have hq127_ := i_full (xv123)
                  exact ih a1 a2 a3 a4 xv123 xv125 mv115 gq116_ kq118_ (i_rng (lo := 0) (hi := 3) rfl (by omega) (by omega)) (i_rng (lo := 0) (hi := 12) rfl (by omega) (by omega)) (i_rng (lo := 0) (hi := 8191) rfl (by omega) (by omega)) (i_rng (lo := (-2147483648)) (hi := 1048576) rfl (by omega) (by omega)) (i_rng (lo := 0) (hi := 4) rfl (by omega) (by omega)) (by omega) (by omega)
              · unfold f_X7_bestWay_143
                refine T_qc (hF_X7_bestWay xv59 a2 (a3 + (1 : Int32)) M hG (i_rng (lo := 0) (hi := 3) rfl (by omega) (by omega)) (i_rng (lo := 0) (hi := 13) (i_add rfl l_1 (by omega) (by omega)) (by omega) (by omega)) (by have e2 : (a3 + (1 : Int32)).toInt = _ := (i_add rfl l_1 (by omega) (by omega)); omega)) ?_
                rintro rv128 mv129 ⟨gq130_, kq131_⟩
                have kq132_ := Sm.call hS kq131_ rfl
                have hq133_ : (mv129 56 10).toInt = (M 56 10).toInt := by rw [kq131_ 56 10 (by decide)]
                have hq134_ : (mv129 56 11).toInt = (M 56 11).toInt := by rw [kq131_ 56 11 (by decide)]
                unfold f_X7_bestWay_153
                refine T_qg rfl (by omega) (by omega) ?_
                have hq135_ := r_57 gq130_ a6.toNatClampNeg
                refine T_qg rfl (by omega) (by omega) ?_
                have hq136_ := i_full (mv129 4 ((mv129 57 a6.toNatClampNeg).toNatClampNeg))
                have hq137_ := i_full ((16 : Int32) * (mv129 4 ((mv129 57 a6.toNatClampNeg).toNatClampNeg)))
                have hq138_ := i_full (((16 : Int32) * (mv129 4 ((mv129 57 a6.toNatClampNeg).toNatClampNeg))) + (1 : Int32))
                have hq139_ := i_full (rv128)
                have hq140_ := i_min (a := a5) (b := (((16 : Int32) * (mv129 4 ((mv129 57 a6.toNatClampNeg).toNatClampNeg))) + (1 : Int32)) + rv128) rfl rfl
                refine T_ql rfl ?_
                intro xv141 hq142_
                refine T_le rfl l_0 (fun hq143_ => ?_) (fun hq143_ => ?_)
                · refine T_ql (i_add rfl l_1 (by omega) (by omega)) ?_
                  intro xv144 hq145_
                  have hq146_ := i_full (xv141)
                  exact ih a1 a2 a3 a4 xv141 xv144 mv129 gq130_ kq132_ (i_rng (lo := 0) (hi := 3) rfl (by omega) (by omega)) (i_rng (lo := 0) (hi := 12) rfl (by omega) (by omega)) (i_rng (lo := 0) (hi := 8191) rfl (by omega) (by omega)) (i_rng (lo := (-2147483648)) (hi := 1048576) rfl (by omega) (by omega)) (i_rng (lo := 0) (hi := 4) rfl (by omega) (by omega)) (by omega) (by omega)
                · refine T_qc (hF_X7_bestWay xv59 (a2 - (1 : Int32)) (a3 + (1 : Int32)) mv129 gq130_ (i_rng (lo := 0) (hi := 3) (i_sub rfl l_1 (by omega) (by omega)) (by omega) (by omega)) (i_rng (lo := 0) (hi := 13) (i_add rfl l_1 (by omega) (by omega)) (by omega) (by omega)) (by have e1 : (a2 - (1 : Int32)).toInt = _ := (i_sub rfl l_1 (by omega) (by omega)); have e2 : (a3 + (1 : Int32)).toInt = _ := (i_add rfl l_1 (by omega) (by omega)); omega)) ?_
                  rintro rv147 mv148 ⟨gq149_, kq150_⟩
                  have kq151_ := Sm.call kq132_ kq150_ rfl
                  have hq152_ : (mv148 56 10).toInt = (mv129 56 10).toInt := by rw [kq150_ 56 10 (by decide)]
                  have hq153_ : (mv148 56 11).toInt = (mv129 56 11).toInt := by rw [kq150_ 56 11 (by decide)]
                  have hq154_ : (mv148 57 a6.toNatClampNeg).toInt = (mv129 57 a6.toNatClampNeg).toInt := by rw [kq150_ 57 _ (outc rfl)]
                  have hq155_ := i_min (a := xv141) (b := rv147) rfl rfl
                  refine T_ql rfl ?_
                  intro xv156 hq157_
                  refine T_ql (i_add rfl l_1 (by omega) (by omega)) ?_
                  intro xv158 hq159_
                  have hq160_ := i_full (xv156)
                  exact ih a1 a2 a3 a4 xv156 xv158 mv148 gq149_ kq151_ (i_rng (lo := 0) (hi := 3) rfl (by omega) (by omega)) (i_rng (lo := 0) (hi := 12) rfl (by omega) (by omega)) (i_rng (lo := 0) (hi := 8191) rfl (by omega) (by omega)) (i_rng (lo := (-2147483648)) (hi := 1048576) rfl (by omega) (by omega)) (i_rng (lo := 0) (hi := 4) rfl (by omega) (by omega)) (by omega) (by omega)
          · unfold f_X7_bestWay_123
            refine T_eq rfl l_0 (fun hq161_ => ?_) (fun hq161_ => ?_)
            · exfalso; omega
            · refine T_eq rfl rfl (fun hq162_ => ?_) (fun hq162_ => ?_)
              · unfold f_X7_bestWay_153
                refine T_qg rfl (by omega) (by omega) ?_
                have hq163_ := r_57 hG a6.toNatClampNeg
                refine T_qg rfl (by omega) (by omega) ?_
                have hq164_ := i_full (M 4 ((M 57 a6.toNatClampNeg).toNatClampNeg))
                have hq165_ := i_full ((16 : Int32) * (M 4 ((M 57 a6.toNatClampNeg).toNatClampNeg)))
                have hq166_ := i_full (((16 : Int32) * (M 4 ((M 57 a6.toNatClampNeg).toNatClampNeg))) + (1 : Int32))
                have hq167_ := i_min (a := a5) (b := (((16 : Int32) * (M 4 ((M 57 a6.toNatClampNeg).toNatClampNeg))) + (1 : Int32)) + (0 : Int32)) rfl (i_add rfl l_0 (by omega) (by omega))
                refine T_ql rfl ?_
                intro xv168 hq169_
                refine T_le rfl l_0 (fun hq170_ => ?_) (fun hq170_ => ?_)
                · refine T_ql (i_add rfl l_1 (by omega) (by omega)) ?_
                  intro xv171 hq172_
                  have hq173_ := i_full (xv168)
                  exact ih a1 a2 a3 a4 xv168 xv171 M hG hS (i_rng (lo := 0) (hi := 3) rfl (by omega) (by omega)) (i_rng (lo := 0) (hi := 12) rfl (by omega) (by omega)) (i_rng (lo := 0) (hi := 8191) rfl (by omega) (by omega)) (i_rng (lo := (-2147483648)) (hi := 1048576) rfl (by omega) (by omega)) (i_rng (lo := 0) (hi := 4) rfl (by omega) (by omega)) (by omega) (by omega)
                · refine T_qc (hF_X7_bestWay xv59 (a2 - (1 : Int32)) (a3 + (1 : Int32)) M hG (i_rng (lo := 0) (hi := 3) (i_sub rfl l_1 (by omega) (by omega)) (by omega) (by omega)) (i_rng (lo := 0) (hi := 13) (i_add rfl l_1 (by omega) (by omega)) (by omega) (by omega)) (by have e1 : (a2 - (1 : Int32)).toInt = _ := (i_sub rfl l_1 (by omega) (by omega)); have e2 : (a3 + (1 : Int32)).toInt = _ := (i_add rfl l_1 (by omega) (by omega)); omega)) ?_
                  rintro rv174 mv175 ⟨gq176_, kq177_⟩
                  have kq178_ := Sm.call hS kq177_ rfl
                  have hq179_ : (mv175 56 10).toInt = (M 56 10).toInt := by rw [kq177_ 56 10 (by decide)]
                  have hq180_ : (mv175 56 11).toInt = (M 56 11).toInt := by rw [kq177_ 56 11 (by decide)]
                  have hq181_ : (mv175 57 a6.toNatClampNeg).toInt = (M 57 a6.toNatClampNeg).toInt := by rw [kq177_ 57 _ (outc rfl)]
                  have hq182_ := i_min (a := xv168) (b := rv174) rfl rfl
                  refine T_ql rfl ?_
                  intro xv183 hq184_
                  refine T_ql (i_add rfl l_1 (by omega) (by omega)) ?_
                  intro xv185 hq186_
                  have hq187_ := i_full (xv183)
                  exact ih a1 a2 a3 a4 xv183 xv185 mv175 gq176_ kq178_ (i_rng (lo := 0) (hi := 3) rfl (by omega) (by omega)) (i_rng (lo := 0) (hi := 12) rfl (by omega) (by omega)) (i_rng (lo := 0) (hi := 8191) rfl (by omega) (by omega)) (i_rng (lo := (-2147483648)) (hi := 1048576) rfl (by omega) (by omega)) (i_rng (lo := 0) (hi := 4) rfl (by omega) (by omega)) (by omega) (by omega)
              · unfold f_X7_bestWay_143
                have hq190_ := i_shl1 (c := 10) (k := (8 : Int32) + a6) (by decide) (i_add l_8 rfl (by omega) (by omega)) (by omega) (by omega)
                refine T_qc (hF_X7_bestWay (xv59 ||| ((1 : Int32) <<< (((8 : Int32) + a6) &&& 31))) a2 (a3 + (1 : Int32)) M hG (i_rng (lo := 0) (hi := 3) rfl (by omega) (by omega)) (i_rng (lo := 0) (hi := 13) (i_add rfl l_1 (by omega) (by omega)) (by omega) (by omega)) (by have e2 : (a3 + (1 : Int32)).toInt = _ := (i_add rfl l_1 (by omega) (by omega)); omega)) ?_
                rintro rv188 mv189 ⟨gq191_, kq192_⟩
                have kq193_ := Sm.call hS kq192_ rfl
                have hq194_ : (mv189 56 10).toInt = (M 56 10).toInt := by rw [kq192_ 56 10 (by decide)]
                have hq195_ : (mv189 56 11).toInt = (M 56 11).toInt := by rw [kq192_ 56 11 (by decide)]
                unfold f_X7_bestWay_153
                refine T_qg rfl (by omega) (by omega) ?_
                have hq196_ := r_57 gq191_ a6.toNatClampNeg
                refine T_qg rfl (by omega) (by omega) ?_
                have hq197_ := i_full (mv189 4 ((mv189 57 a6.toNatClampNeg).toNatClampNeg))
                have hq198_ := i_full ((16 : Int32) * (mv189 4 ((mv189 57 a6.toNatClampNeg).toNatClampNeg)))
                have hq199_ := i_full (((16 : Int32) * (mv189 4 ((mv189 57 a6.toNatClampNeg).toNatClampNeg))) + (1 : Int32))
                have hq200_ := i_full (rv188)
                have hq201_ := i_min (a := a5) (b := (((16 : Int32) * (mv189 4 ((mv189 57 a6.toNatClampNeg).toNatClampNeg))) + (1 : Int32)) + rv188) rfl rfl
                refine T_ql rfl ?_
                intro xv202 hq203_
                refine T_le rfl l_0 (fun hq204_ => ?_) (fun hq204_ => ?_)
                · refine T_ql (i_add rfl l_1 (by omega) (by omega)) ?_
                  intro xv205 hq206_
                  have hq207_ := i_full (xv202)
                  exact ih a1 a2 a3 a4 xv202 xv205 mv189 gq191_ kq193_ (i_rng (lo := 0) (hi := 3) rfl (by omega) (by omega)) (i_rng (lo := 0) (hi := 12) rfl (by omega) (by omega)) (i_rng (lo := 0) (hi := 8191) rfl (by omega) (by omega)) (i_rng (lo := (-2147483648)) (hi := 1048576) rfl (by omega) (by omega)) (i_rng (lo := 0) (hi := 4) rfl (by omega) (by omega)) (by omega) (by omega)
                · refine T_qc (hF_X7_bestWay xv59 (a2 - (1 : Int32)) (a3 + (1 : Int32)) mv189 gq191_ (i_rng (lo := 0) (hi := 3) (i_sub rfl l_1 (by omega) (by omega)) (by omega) (by omega)) (i_rng (lo := 0) (hi := 13) (i_add rfl l_1 (by omega) (by omega)) (by omega) (by omega)) (by have e1 : (a2 - (1 : Int32)).toInt = _ := (i_sub rfl l_1 (by omega) (by omega)); have e2 : (a3 + (1 : Int32)).toInt = _ := (i_add rfl l_1 (by omega) (by omega)); omega)) ?_
                  rintro rv208 mv209 ⟨gq210_, kq211_⟩
                  have kq212_ := Sm.call kq193_ kq211_ rfl
                  have hq213_ : (mv209 56 10).toInt = (mv189 56 10).toInt := by rw [kq211_ 56 10 (by decide)]
                  have hq214_ : (mv209 56 11).toInt = (mv189 56 11).toInt := by rw [kq211_ 56 11 (by decide)]
                  have hq215_ : (mv209 57 a6.toNatClampNeg).toInt = (mv189 57 a6.toNatClampNeg).toInt := by rw [kq211_ 57 _ (outc rfl)]
                  have hq216_ := i_min (a := xv202) (b := rv208) rfl rfl
                  refine T_ql rfl ?_
                  intro xv217 hq218_
                  refine T_ql (i_add rfl l_1 (by omega) (by omega)) ?_
                  intro xv219 hq220_
                  have hq221_ := i_full (xv217)
                  exact ih a1 a2 a3 a4 xv217 xv219 mv209 gq210_ kq212_ (i_rng (lo := 0) (hi := 3) rfl (by omega) (by omega)) (i_rng (lo := 0) (hi := 12) rfl (by omega) (by omega)) (i_rng (lo := 0) (hi := 8191) rfl (by omega) (by omega)) (i_rng (lo := (-2147483648)) (hi := 1048576) rfl (by omega) (by omega)) (i_rng (lo := 0) (hi := 4) rfl (by omega) (by omega)) (by omega) (by omega)
theorem to_X7_bestWay {n : Nat} (hn : 200000 ≤ n) {B : Nat} {F_X7_bestWay : Int32 → Int32 → Int32 → qM → qR} (hF_X7_bestWay : ∀ (a1 a2 a3 : Int32) (M : qM), G M → 0 ≤ a2.toInt ∧ a2.toInt ≤ 3 → 0 ≤ a3.toInt ∧ a3.toInt ≤ 13 → 13 - a3.toInt < (B : Int) → qT (F_X7_bestWay a1 a2 a3 M) (po_X7_bestWay a1 a2 a3 M)) (a1 a2 a3 : Int32) (M : qM) (hG : G M) (pa2 : 0 ≤ a2.toInt ∧ a2.toInt ≤ 3) (pa3 : 0 ≤ a3.toInt ∧ a3.toInt ≤ 13) (hb : 13 - a3.toInt < (B : Int) + 1) : qT (fo_X7_bestWay n F_X7_bestWay a1 a2 a3 M) (po_X7_bestWay a1 a2 a3 M) := by
  have hS : Sm l_X7_bestWay M M := Sm.rf
  unfold fo_X7_bestWay
  have hq222_ := i_full (a1)
  refine T_ql rfl ?_
  intro xv223 hq224_
  refine T_lt rfl l_0 (fun hq225_ => ?_) (fun hq225_ => ?_)
  · exact T_ret ⟨hG, hS⟩
  · refine T_le l_8192 rfl (fun hq226_ => ?_) (fun hq226_ => ?_)
    · exact T_ret ⟨hG, hS⟩
    · refine T_le rfl l_12 (fun hq227_ => ?_) (fun hq227_ => ?_)
      · refine T_qg rfl (by omega) (by omega) ?_
        refine T_eq rfl l_m1 (fun hq228_ => ?_) (fun hq228_ => ?_)
        · exact (t_X7_bestWay_59 hn hF_X7_bestWay) n a1 a2 a3 xv223 (1048576 : Int32) (0 : Int32) M hG hS (i_rng (lo := 0) (hi := 3) rfl (by omega) (by omega)) (i_rng (lo := 0) (hi := 12) rfl (by omega) (by omega)) (i_rng (lo := 0) (hi := 8191) rfl (by omega) (by omega)) (i_rng (lo := (-2147483648)) (hi := 1048576) l_1048576 (by omega) (by omega)) (i_rng (lo := 0) (hi := 4) l_0 (by omega) (by omega)) (by omega) (by have e4 : ((1048576 : Int32)).toInt = _ := l_1048576; have e5 : ((0 : Int32)).toInt = _ := l_0; omega)
        · refine T_qg rfl (by omega) (by omega) ?_
          exact T_ret ⟨hG, hS⟩
      · exact T_ret ⟨hG, hS⟩
theorem trc_X7_bestWay {n : Nat} (hn : 200000 ≤ n) : ∀ m : Nat, (∀ (a1 a2 a3 : Int32) (M : qM), G M → 0 ≤ a2.toInt ∧ a2.toInt ≤ 3 → 0 ≤ a3.toInt ∧ a3.toInt ≤ 13 → 13 - a3.toInt < (m : Int) → qT (rc_X7_bestWay n m a1 a2 a3 M) (po_X7_bestWay a1 a2 a3 M)) := by
  intro m
  induction m with
  | zero =>
    exact fun a1 a2 a3 M q0 q1 q2 q3 => by exfalso; omega
  | succ m ih =>
    refine ?_
    · exact fun a1 a2 a3 M q0 q1 q2 q3 => to_X7_bestWay hn (B := m) (ih) a1 a2 a3 M q0 q1 q2 (by omega)
theorem t_X7_bestWay {n : Nat} (hn : 200000 ≤ n) (a1 a2 a3 : Int32) (M : qM) (hG : G M) (pa2 : 0 ≤ a2.toInt ∧ a2.toInt ≤ 3) (pa3 : 0 ≤ a3.toInt ∧ a3.toInt ≤ 13) : qT (f_X7_bestWay n a1 a2 a3 M) (po_X7_bestWay a1 a2 a3 M) := by
  unfold f_X7_bestWay
  exact (trc_X7_bestWay hn 16) a1 a2 a3 M hG pa2 pa3 (by omega)
abbrev l_X7_soonestWay : List Bx := [(63, 64, 0, 0)]
abbrev po_X7_soonestWay (a1 : Int32) (M : qM) (v : Int32) (M' : qM) : Prop := G M' ∧ Sm l_X7_soonestWay M M'
theorem t_X7_soonestWay {n : Nat} (hn : 200000 ≤ n) (a1 : Int32) (M : qM) (hG : G M) (pa1 : 0 ≤ a1.toInt ∧ a1.toInt ≤ 3) : qT (f_X7_soonestWay n a1 M) (po_X7_soonestWay a1 M) := by
  have hS : Sm l_X7_soonestWay M M := Sm.rf
  unfold f_X7_soonestWay
  refine T_qc (t_X7_bestWay hn (0 : Int32) a1 (0 : Int32) M hG (i_rng (lo := 0) (hi := 3) rfl (by omega) (by omega)) (i_rng (lo := 0) (hi := 13) l_0 (by omega) (by omega))) ?_
  rintro rv1 mv2 ⟨gq3_, kq4_⟩
  have kq5_ := Sm.call hS kq4_ rfl
  exact T_ret ⟨gq3_, kq5_⟩
abbrev l_X11_soonest : List Bx := [(34, 35, 4, 5), (35, 37, 0, 0), (56, 57, 10, 12), (57, 61, 0, 0), (62, 64, 0, 0)]
abbrev po_X11_soonest (a1 a2 a3 a4 a5 : Int32) (M : qM) (v : Int32) (M' : qM) : Prop := G M' ∧ Sm l_X11_soonest M M'
theorem t_X11_soonest {n : Nat} (hn : 200000 ≤ n) {j : Nat} (hj : q_isLaw j) (a1 a2 a3 a4 a5 : Int32) (M : qM) (hG : G M) : qT (f_X11_soonest n j a1 a2 a3 a4 a5 M) (po_X11_soonest a1 a2 a3 a4 a5 M) := by
  have hS : Sm l_X11_soonest M M := Sm.rf
  unfold f_X11_soonest
  refine T_qc (t_X11_canChoose hn a1 a2 a3 M hG ) ?_
  rintro rv1 mv2 ⟨hq3_, hq4_, gq5_, kq6_⟩
  have hq7_ := kq6_.nil
  subst hq7_
  refine T_eq rfl l_0 (fun hq8_ => ?_) (fun hq8_ => ?_)
  · exact T_ret ⟨hG, hS⟩
  · refine T_lt rfl l_0 (fun hq9_ => ?_) (fun hq9_ => ?_)
    · exact T_ret ⟨hG, hS⟩
    · refine T_lt l_3 rfl (fun hq10_ => ?_) (fun hq10_ => ?_)
      · exact T_ret ⟨hG, hS⟩
      · refine T_lt rfl l_0 (fun hq11_ => ?_) (fun hq11_ => ?_)
        · exact T_ret ⟨hG, hS⟩
        · refine T_le rfl l_1 (fun hq12_ => ?_) (fun hq12_ => ?_)
          · refine T_qc (t_X7_prepare_c7 hn hj a1 a2 a3 M hG (i_rng (lo := 0) (hi := 7) rfl (by omega) (by omega)) (i_rng (lo := 0) (hi := 11) rfl (by omega) (by omega))) ?_
            rintro rv13 mv14 ⟨hq15_, gq16_, kq17_⟩
            have kq18_ := Sm.call hS kq17_ rfl
            refine T_qc (t_X7_soonestWay hn a4 mv14 gq16_ (i_rng (lo := 0) (hi := 3) rfl (by omega) (by omega))) ?_
            rintro rv19 mv20 ⟨gq21_, kq22_⟩
            have kq23_ := Sm.call kq18_ kq22_ rfl
            refine T_lt rfl l_1048576 (fun hq24_ => ?_) (fun hq24_ => ?_)
            · refine T_eq rfl l_0 (fun hq25_ => ?_) (fun hq25_ => ?_)
              · have hq26_ := i_full (rv19)
                exact T_ret ⟨gq21_, kq23_⟩
              · have hq27_ := i_full (rv19)
                have hq28_ := i_full (rv19 / (16 : Int32))
                have hq29_ := i_full ((rv19 / (16 : Int32)) * (16 : Int32))
                exact T_ret ⟨gq21_, kq23_⟩
            · exact T_ret ⟨gq21_, kq23_⟩
          · exact T_ret ⟨hG, hS⟩
abbrev l_X12_areSome : List Bx := []
abbrev po_X12_areSome (a1 a2 a3 : Int32) (M : qM) (v : Int32) (M' : qM) : Prop := (0 ≤ v.toInt ∧ v.toInt ≤ 1) ∧ (v.toInt = 0 ∨ (0 ≤ a1.toInt ∧ a1.toInt ≤ 7 ∧ 0 ≤ a3.toInt ∧ a3.toInt ≤ 11 ∧ bS a2 12 ≤ 4 ∧ ((a2 >>> (a3 &&& 31)) &&& (1 : Int32)).toInt = 1)) ∧ G M' ∧ Sm l_X12_areSome M M'
theorem t_X12_areSome {n : Nat} (hn : 200000 ≤ n) (a1 a2 a3 : Int32) (M : qM) (hG : G M) : qT (f_X12_areSome n a1 a2 a3 M) (po_X12_areSome a1 a2 a3 M) := by
  have hS : Sm l_X12_areSome M M := Sm.rf
  unfold f_X12_areSome
  refine T_qc (t_X12_isPerson hn a1 M hG ) ?_
  rintro rv1 mv2 ⟨hq3_, hq4_, gq5_, kq6_⟩
  have hq7_ := kq6_.nil
  subst hq7_
  refine T_eq rfl l_0 (fun hq8_ => ?_) (fun hq8_ => ?_)
  · exact T_ret ⟨(i_rng (lo := 0) (hi := 1) l_0 (by omega) (by omega)), (by have e9 : ((0 : Int32)).toInt = _ := l_0; omega), hG, hS⟩
  · refine T_le rfl l_0 (fun hq9_ => ?_) (fun hq9_ => ?_)
    · exact T_ret ⟨(i_rng (lo := 0) (hi := 1) l_0 (by omega) (by omega)), (by have e9 : ((0 : Int32)).toInt = _ := l_0; omega), hG, hS⟩
    · refine T_eq rfl l_0 (fun hq10_ => ?_) (fun hq10_ => ?_)
      · refine T_qc (t_X12_bits hn a2 M hG ) ?_
        rintro rv11 mv12 ⟨hq13_, hq14_, gq15_, kq16_⟩
        have hq17_ := kq16_.nil
        subst hq17_
        refine T_lt l_4 rfl (fun hq18_ => ?_) (fun hq18_ => ?_)
        · exact T_ret ⟨(i_rng (lo := 0) (hi := 1) l_0 (by omega) (by omega)), (by have e9 : ((0 : Int32)).toInt = _ := l_0; omega), hG, hS⟩
        · refine T_qc (t_X12_isKind hn a3 M hG ) ?_
          rintro rv19 mv20 ⟨hq21_, hq22_, gq23_, kq24_⟩
          have hq25_ := kq24_.nil
          subst hq25_
          refine T_eq rfl l_0 (fun hq26_ => ?_) (fun hq26_ => ?_)
          · exact T_ret ⟨(i_rng (lo := 0) (hi := 1) l_0 (by omega) (by omega)), (by have e9 : ((0 : Int32)).toInt = _ := l_0; omega), hG, hS⟩
          · refine T_qc (t_X12_has0 hn a2 a3 M hG (i_rng (lo := 0) (hi := 11) rfl (by omega) (by omega))) ?_
            rintro rv27 mv28 ⟨hq29_, hq30_, gq31_, kq32_⟩
            have hq33_ := kq32_.nil
            subst hq33_
            refine T_eq rfl l_0 (fun hq34_ => ?_) (fun hq34_ => ?_)
            · exact T_ret ⟨(i_rng (lo := 0) (hi := 1) l_0 (by omega) (by omega)), (by have e9 : ((0 : Int32)).toInt = _ := l_0; omega), hG, hS⟩
            · exact T_ret ⟨(i_rng (lo := 0) (hi := 1) l_1 (by omega) (by omega)), (by have e9 : ((1 : Int32)).toInt = _ := l_1; omega), hG, hS⟩
      · exact T_ret ⟨(i_rng (lo := 0) (hi := 1) l_0 (by omega) (by omega)), (by have e9 : ((0 : Int32)).toInt = _ := l_0; omega), hG, hS⟩

abbrev l_X12_laysOwn : List Bx := [(77, 78, 43, 45), (96, 98, 0, 0), (105, 108, 0, 0)]
abbrev po_X12_laysOwn (a1 a2 : Int32) (M : qM) (v : Int32) (M' : qM) : Prop := (0 ≤ v.toInt ∧ v.toInt ≤ 0) ∧ KO a2 M' ∧ G M' ∧ Sm l_X12_laysOwn M M'
theorem t_X12_laysOwn_92 {n : Nat} (hn : 200000 ≤ n) {oa1 oa2 : Int32} {M0 : qM} {K57 : Int32 → Int32 → qM → qR} {BK57 : Nat} (hK57 : ∀ (a1 a3 : Int32) (M : qM), G M → Sm l_X12_laysOwn M0 M → 0 ≤ a1.toInt ∧ a1.toInt ≤ 7 → 0 ≤ a3.toInt ∧ a3.toInt ≤ 4 → KO oa2 M → 4 - a3.toInt < (BK57 : Int) → qT (K57 a1 a3 M) (po_X12_laysOwn oa1 oa2 M0)) : ∀ (m : Nat) (a1 a3 a4 : Int32) (M : qM), G M → Sm l_X12_laysOwn M0 M → 0 ≤ a1.toInt ∧ a1.toInt ≤ 7 → 0 ≤ a3.toInt ∧ a3.toInt ≤ 3 → 0 ≤ a4.toInt ∧ a4.toInt ≤ 4 → KO oa2 M → 4 - a3.toInt < (BK57 : Int) + 1 → 4 - a4.toInt < (m : Int) → qT (f_X12_laysOwn_92 n K57 m a1 a3 a4 M) (po_X12_laysOwn oa1 oa2 M0) := by
  intro m
  induction m with
  | zero =>
    intro a1 a3 a4 M hG hS i0 i1 i2 wKO i6 i7
    exfalso; omega
  | succ m ih =>
    intro a1 a3 a4 M hG hS i0 i1 i2 wKO i6 i7
    show qT (b_X12_laysOwn_92 n K57 (f_X12_laysOwn_92 n K57 m) a1 a3 a4 M) _
    unfold b_X12_laysOwn_92
    have hq10_ := r_77_43 hG
    refine T_le rfl rfl (fun hq11_ => ?_) (fun hq11_ => ?_)
    · refine T_ql (i_add rfl l_1 (by omega) (by omega)) ?_
      intro xv12 hq13_
      exact hK57 a1 xv12 M hG hS (i_rng (lo := 0) (hi := 7) rfl (by omega) (by omega)) (i_rng (lo := 0) (hi := 4) rfl (by omega) (by omega)) wKO (by omega)
    · refine T_qg rfl (by omega) (by omega) ?_
      refine T_qg rfl (by omega) (by omega) ?_
      have hq16_ := r_105 hG a3.toNatClampNeg
      have hq17_ := r_105 hG a4.toNatClampNeg
      refine T_qc (t_X12_isLike hn (M 105 a3.toNatClampNeg) (M 105 a4.toNatClampNeg) M hG (i_rng (lo := 0) (hi := 12) rfl (by omega) (by omega)) (i_rng (lo := 0) (hi := 11) rfl (by omega) (by omega))) ?_
      rintro rv14 mv15 ⟨hq18_, gq19_, kq20_⟩
      have kq21_ := Sm.call hS kq20_ rfl
      have hq22_ := (fun h_ => KO_c (kq20_ 77 43 (by decide)) (funext (fun s_ => kq20_ 105 s_ (outc rfl))) h_) wKO
      have hq23_ : (mv15 77 43).toInt = (M 77 43).toInt := by rw [kq20_ 77 43 (by decide)]
      refine T_eq rfl l_0 (fun hq24_ => ?_) (fun hq24_ => ?_)
      · refine T_ql (i_add rfl l_1 (by omega) (by omega)) ?_
        intro xv25 hq26_
        exact ih a1 a3 xv25 mv15 gq19_ kq21_ (i_rng (lo := 0) (hi := 7) rfl (by omega) (by omega)) (i_rng (lo := 0) (hi := 3) rfl (by omega) (by omega)) (i_rng (lo := 0) (hi := 4) rfl (by omega) (by omega)) hq22_ (by omega) (by omega)
      · refine T_qg rfl (by omega) (by omega) ?_
        refine T_qg rfl (by omega) (by omega) ?_
        have hq28_ := i_shl1 (c := 3) (k := a4) (by decide) rfl (by omega) (by omega)
        refine T_mu gq19_ kq21_ (rn_107 _ _) (nw_107 _) (i := 2) rfl ⟨by decide, by decide, Or.inl rfl⟩ ?_
        intro mv27 hq29_ gq30_ kq31_
        have hq32_ := (fun h_ => KO_c (M := mv15) (M' := mv27) (by rw [hq29_, mu_ne (Or.inl (by decide))]) (by rw [hq29_, mu_nc (by decide)]) h_) hq22_
        have hq33_ : (mv27 77 43).toInt = (mv15 77 43).toInt := by rw [hq29_, mu_ne (Or.inl (by decide))]
        have hq34_ : (mv27 107 a3.toNatClampNeg).toInt = ((mv15 107 a3.toNatClampNeg) ||| ((1 : Int32) <<< (a4 &&& 31))).toInt := by rw [hq29_, mu_at]
        refine T_ql (i_add rfl l_1 (by omega) (by omega)) ?_
        intro xv35 hq36_
        exact ih a1 a3 xv35 mv27 gq30_ kq31_ (i_rng (lo := 0) (hi := 7) rfl (by omega) (by omega)) (i_rng (lo := 0) (hi := 3) rfl (by omega) (by omega)) (i_rng (lo := 0) (hi := 4) rfl (by omega) (by omega)) hq32_ (by omega) (by omega)
theorem t_X12_laysOwn_57 {n : Nat} (hn : 200000 ≤ n) {oa1 oa2 : Int32} {M0 : qM} : ∀ (m : Nat) (a1 a3 : Int32) (M : qM), G M → Sm l_X12_laysOwn M0 M → 0 ≤ a1.toInt ∧ a1.toInt ≤ 7 → 0 ≤ a3.toInt ∧ a3.toInt ≤ 4 → KO oa2 M → 4 - a3.toInt < (m : Int) → qT (f_X12_laysOwn_57 n m a1 a3 M) (po_X12_laysOwn oa1 oa2 M0) := by
  intro m
  induction m with
  | zero =>
    intro a1 a3 M hG hS i0 i1 wKO i5
    exfalso; omega
  | succ m ih =>
    intro a1 a3 M hG hS i0 i1 wKO i5
    show qT (b_X12_laysOwn_57 n (f_X12_laysOwn_57 n m) a1 a3 M) _
    unfold b_X12_laysOwn_57
    have hq40_ := r_77_43 hG
    refine T_le rfl rfl (fun hq41_ => ?_) (fun hq41_ => ?_)
    · exact T_ret ⟨(i_rng (lo := 0) (hi := 0) l_0 (by omega) (by omega)), wKO, hG, hS⟩
    · refine T_qg rfl (by omega) (by omega) ?_
      have hq44_ := r_105 hG a3.toNatClampNeg
      refine T_qc (t_X12_oldOnes hn a1 (M 105 a3.toNatClampNeg) M hG (i_rng (lo := 0) (hi := 7) rfl (by omega) (by omega)) (i_rng (lo := 0) (hi := 11) rfl (by omega) (by omega))) ?_
      rintro rv42 mv43 ⟨gq45_, kq46_⟩
      have kq47_ := Sm.call hS kq46_ rfl
      have hq48_ := (fun h_ => KO_c (kq46_ 77 43 (by decide)) (funext (fun s_ => kq46_ 105 s_ (outc rfl))) h_) wKO
      have hq49_ : (mv43 77 43).toInt = (M 77 43).toInt := by rw [kq46_ 77 43 (by decide)]
      refine T_qg rfl (by omega) (by omega) ?_
      refine T_mu gq45_ kq47_ (rn_106 _ _) (nw_106 _) (i := 2) rfl ⟨by decide, by decide, Or.inl rfl⟩ ?_
      intro mv50 hq51_ gq52_ kq53_
      have hq54_ := (fun h_ => KO_c (M := mv43) (M' := mv50) (by rw [hq51_, mu_ne (Or.inl (by decide))]) (by rw [hq51_, mu_nc (by decide)]) h_) hq48_
      have hq55_ : (mv50 77 43).toInt = (mv43 77 43).toInt := by rw [hq51_, mu_ne (Or.inl (by decide))]
      have hq56_ : (mv50 106 a3.toNatClampNeg).toInt = rv42.toInt := by rw [hq51_, mu_at]
      refine T_qg rfl (by omega) (by omega) ?_
      refine T_mu gq52_ kq53_ (rn_107 _ _) (nw_107 _) (i := 2) rfl ⟨by decide, by decide, Or.inl rfl⟩ ?_
      intro mv57 hq58_ gq59_ kq60_
      have hq61_ := (fun h_ => KO_c (M := mv50) (M' := mv57) (by rw [hq58_, mu_ne (Or.inl (by decide))]) (by rw [hq58_, mu_nc (by decide)]) h_) hq54_
      have hq62_ : (mv57 77 43).toInt = (mv50 77 43).toInt := by rw [hq58_, mu_ne (Or.inl (by decide))]
      have hq63_ : (mv57 106 a3.toNatClampNeg).toInt = (mv50 106 a3.toNatClampNeg).toInt := by rw [hq58_, mu_ne (Or.inl (by decide))]
      have hq64_ : (mv57 107 a3.toNatClampNeg).toInt = 0 := by rw [hq58_, mu_at]; exact l_0
      exact (t_X12_laysOwn_92 hn ih) n a1 a3 (0 : Int32) mv57 gq59_ kq60_ (i_rng (lo := 0) (hi := 7) rfl (by omega) (by omega)) (i_rng (lo := 0) (hi := 3) rfl (by omega) (by omega)) (i_rng (lo := 0) (hi := 4) l_0 (by omega) (by omega)) hq61_ (by omega) (by have e2 : ((0 : Int32)).toInt = _ := l_0; omega)
theorem t_X12_laysOwn_12 {n : Nat} (hn : 200000 ≤ n) {oa1 oa2 : Int32} {M0 : qM} : ∀ (m : Nat) (a1 a2 a3 : Int32) (M : qM), G M → Sm l_X12_laysOwn M0 M → 0 ≤ a1.toInt ∧ a1.toInt ≤ 7 → 0 ≤ a3.toInt ∧ a3.toInt ≤ 12 → (a2 = oa2 ∧ (M 77 43).toInt = bS a2 a3.toInt.toNat ∧ bS a2 12 ≤ 4 ∧ KOk a2 a3.toInt M) → 12 - a3.toInt < (m : Int) → qT (f_X12_laysOwn_12 n m a1 a2 a3 M) (po_X12_laysOwn oa1 oa2 M0) := by
  intro m
  induction m with
  | zero =>
    intro a1 a2 a3 M hG hS i0 i1 hE i5
    have hq67_ := r_77_43 hG
    have hb1 : a3.toInt < 12 → bS a2 (a3.toInt.toNat + 1) ≤ bS a2 12 := fun h_ => bS_m _ (by omega)
    have hb2 := bS_s (x := a2) (a := a3) (by omega)
    obtain ⟨hE0, hE1, hE2, hE3⟩ := hE
    exfalso; omega
  | succ m ih =>
    intro a1 a2 a3 M hG hS i0 i1 hE i5
    show qT (b_X12_laysOwn_12 n (f_X12_laysOwn_12 n m) a1 a2 a3 M) _
    unfold b_X12_laysOwn_12
    have hq67_ := r_77_43 hG
    have hb1 : a3.toInt < 12 → bS a2 (a3.toInt.toNat + 1) ≤ bS a2 12 := fun h_ => bS_m _ (by omega)
    have hb2 := bS_s (x := a2) (a := a3) (by omega)
    obtain ⟨hE0, hE1, hE2, hE3⟩ := hE
    refine T_le l_12 rfl (fun hq68_ => ?_) (fun hq68_ => ?_)
    · exact (t_X12_laysOwn_57 hn) n a1 (0 : Int32) M hG hS (i_rng (lo := 0) (hi := 7) rfl (by omega) (by omega)) (i_rng (lo := 0) (hi := 4) l_0 (by omega) (by omega)) (by rw [← hE0]; rw [show a3.toInt = 12 by omega] at hE3; exact hE3) (by have e1 : ((0 : Int32)).toInt = _ := l_0; omega)
    · refine T_qc (t_X12_has0 hn a2 a3 M hG (i_rng (lo := 0) (hi := 11) rfl (by omega) (by omega))) ?_
      rintro rv69 mv70 ⟨hq71_, hq72_, gq73_, kq74_⟩
      have hq75_ := kq74_.nil
      subst hq75_
      refine T_eq rfl l_0 (fun hq76_ => ?_) (fun hq76_ => ?_)
      · refine T_ql (i_add rfl l_1 (by omega) (by omega)) ?_
        intro xv77 hq78_
        exact ih a1 a2 xv77 M hG hS (i_rng (lo := 0) (hi := 7) rfl (by omega) (by omega)) (i_rng (lo := 0) (hi := 12) rfl (by omega) (by omega)) (by first | exact ⟨rfl, by rw [show ((0 : Int32).toInt.toNat) = 0 from rfl]; show _ = (0 : Int); omega, by omega, KO_0⟩ | (rw [show (xv77).toInt.toNat = a3.toInt.toNat + 1 by omega]; exact ⟨hE0, by omega, by omega, KO_no hE3 (by omega) (by omega)⟩) | (rw [show (xv77).toInt.toNat = a3.toInt.toNat + 1 by omega]; exact ⟨hE0, by omega, by omega, KO_yes hE3 (by omega) (by omega) (by omega) (by rfl) (fun s_ hs_ => by rfl)⟩)) (by omega)
      · refine T_qg rfl (by omega) (by omega) ?_
        refine T_mu hG hS (i_rng (lo := 0) (hi := 11) rfl (by omega) (by omega)) (nw_105 _) (i := 2) rfl ⟨by decide, by decide, Or.inl rfl⟩ ?_
        intro mv79 hq80_ gq81_ kq82_
        have hq83_ : (mv79 77 43).toInt = (M 77 43).toInt := by rw [hq80_, mu_ne (Or.inl (by decide))]
        have hq84_ : (mv79 105 ((M 77 43).toNatClampNeg)).toInt = a3.toInt := by rw [hq80_, mu_at]
        have hq86_ := r_77_43 gq81_
        refine T_mu gq81_ kq82_ (i_rng (lo := 0) (hi := 4) (i_add rfl l_1 (by omega) (by omega)) (by omega) (by omega)) nw_77_43 (i := 0) rfl ⟨by decide, by decide, Or.inr ⟨by decide, by decide⟩⟩ ?_
        intro mv85 hq87_ gq88_ kq89_
        have hq90_ : (mv85 105 ((M 77 43).toNatClampNeg)).toInt = (mv79 105 ((M 77 43).toNatClampNeg)).toInt := by rw [hq87_, mu_ne (Or.inl (by decide))]
        have hq91_ : (mv85 77 43).toInt = ((mv79 77 43).toInt + 1) := by rw [hq87_, mu_at]; exact (i_add rfl l_1 (by omega) (by omega))
        refine T_ql (i_add rfl l_1 (by omega) (by omega)) ?_
        intro xv92 hq93_
        have hq94_ := r_77_43 gq88_
        exact ih a1 a2 xv92 mv85 gq88_ kq89_ (i_rng (lo := 0) (hi := 7) rfl (by omega) (by omega)) (i_rng (lo := 0) (hi := 12) rfl (by omega) (by omega)) (by first | exact ⟨rfl, by rw [show ((0 : Int32).toInt.toNat) = 0 from rfl]; show _ = (0 : Int); omega, by omega, KO_0⟩ | (rw [show (xv92).toInt.toNat = a3.toInt.toNat + 1 by omega]; exact ⟨hE0, by omega, by omega, KO_no hE3 (by omega) (by omega)⟩) | (rw [show (xv92).toInt.toNat = a3.toInt.toNat + 1 by omega]; exact ⟨hE0, by omega, by omega, KO_yes hE3 (by omega) (by omega) (by omega) (by rw [hq87_, mu_ne (Or.inl (by decide))]; rw [hq80_, mu_at]) (fun s_ hs_ => by rw [hq87_, mu_ne (Or.inl (by decide))]; rw [hq80_, mu_ne (Or.inr hs_)])⟩)) (by omega)
theorem t_X12_laysOwn {n : Nat} (hn : 200000 ≤ n) (a1 a2 : Int32) (M : qM) (hG : G M) (pa1 : 0 ≤ a1.toInt ∧ a1.toInt ≤ 7) (pe : bS a2 12 ≤ 4) : qT (f_X12_laysOwn n a1 a2 M) (po_X12_laysOwn a1 a2 M) := by
  have hS : Sm l_X12_laysOwn M M := Sm.rf
  unfold f_X12_laysOwn
  refine T_mu hG hS (i_rng (lo := 0) (hi := 7) rfl (by omega) (by omega)) nw_77_44 (i := 0) rfl ⟨by decide, by decide, Or.inr ⟨by decide, by decide⟩⟩ ?_
  intro mv95 hq96_ gq97_ kq98_
  have hq99_ : (mv95 77 44).toInt = a1.toInt := by rw [hq96_, mu_at]
  refine T_mu gq97_ kq98_ (i_rng (lo := 0) (hi := 4) l_0 (by omega) (by omega)) nw_77_43 (i := 0) rfl ⟨by decide, by decide, Or.inr ⟨by decide, by decide⟩⟩ ?_
  intro mv100 hq101_ gq102_ kq103_
  have hq104_ : (mv100 77 44).toInt = (mv95 77 44).toInt := by rw [hq101_, mu_ne (Or.inr (by decide))]
  have hq105_ : (mv100 77 43).toInt = 0 := by rw [hq101_, mu_at]; exact l_0
  have hq106_ := r_77_43 gq102_
  exact (t_X12_laysOwn_12 hn) n a1 a2 (0 : Int32) mv100 gq102_ kq103_ (i_rng (lo := 0) (hi := 7) rfl (by omega) (by omega)) (i_rng (lo := 0) (hi := 12) l_0 (by omega) (by omega)) (by have e2 : ((0 : Int32)).toInt = _ := l_0; first | exact ⟨rfl, by rw [show ((0 : Int32).toInt.toNat) = 0 from rfl]; show _ = (0 : Int); omega, by omega, KO_0⟩ | (rw [show ((0 : Int32)).toInt.toNat = a3.toInt.toNat + 1 by omega]; exact ⟨hE0, by omega, by omega, KO_no hE3 (by omega) (by omega)⟩) | (rw [show ((0 : Int32)).toInt.toNat = a3.toInt.toNat + 1 by omega]; exact ⟨hE0, by omega, by omega, KO_yes hE3 (by omega) (by omega) (by omega) (by rw [hq101_, mu_ne (Or.inl (by decide))]; rw [hq96_, mu_ne (Or.inl (by decide))]) (fun s_ hs_ => by rw [hq101_, mu_ne (Or.inl (by decide))]; rw [hq96_, mu_ne (Or.inl (by decide))])⟩)) (by have e2 : ((0 : Int32)).toInt = _ := l_0; omega)
abbrev l_X12_statesAll : List Bx := []
abbrev po_X12_statesAll (M : qM) (v : Int32) (M' : qM) : Prop := (1 ≤ v.toInt ∧ v.toInt ≤ 160000) ∧ G M' ∧ Sm l_X12_statesAll M M'
theorem t_X12_statesAll_4 {n : Nat} (hn : 200000 ≤ n) {M0 : qM} : ∀ (m : Nat) (a1 a2 : Int32) (M : qM), G M → Sm l_X12_statesAll M0 M → 1 ≤ a1.toInt ∧ a1.toInt ≤ 160000 → 0 ≤ a2.toInt ∧ a2.toInt ≤ 4 → ((a2.toInt = 0 ∧ a1.toInt = 1) ∨ (a2.toInt = 1 ∧ a1.toInt = 20) ∨ (a2.toInt = 2 ∧ a1.toInt = 400) ∨ (a2.toInt = 3 ∧ a1.toInt = 8000) ∨ (a2.toInt = 4 ∧ a1.toInt = 160000)) → 4 - a2.toInt < (m : Int) → qT (f_X12_statesAll_4 n m a1 a2 M) (po_X12_statesAll  M0) := by
  intro m
  induction m with
  | zero =>
    intro a1 a2 M hG hS i0 i1 hE i5
    have hq3_ := r_77_43 hG
    exfalso; omega
  | succ m ih =>
    intro a1 a2 M hG hS i0 i1 hE i5
    show qT (b_X12_statesAll_4 n (f_X12_statesAll_4 n m) a1 a2 M) _
    unfold b_X12_statesAll_4
    have hq3_ := r_77_43 hG
    refine T_le rfl rfl (fun hq4_ => ?_) (fun hq4_ => ?_)
    · exact T_ret ⟨(i_rng (lo := 1) (hi := 160000) rfl (by omega) (by omega)), hG, hS⟩
    · refine T_ql (i_mul rfl l_20 (by omega) (by omega)) ?_
      intro xv5 hq6_
      refine T_ql (i_add rfl l_1 (by omega) (by omega)) ?_
      intro xv7 hq8_
      exact ih xv5 xv7 M hG hS (i_rng (lo := 1) (hi := 160000) rfl (by omega) (by omega)) (i_rng (lo := 0) (hi := 4) rfl (by omega) (by omega)) (by omega) (by omega)
theorem t_X12_statesAll {n : Nat} (hn : 200000 ≤ n) (M : qM) (hG : G M) : qT (f_X12_statesAll n  M) (po_X12_statesAll  M) := by
  have hS : Sm l_X12_statesAll M M := Sm.rf
  unfold f_X12_statesAll
  have hq9_ := r_77_43 hG
  exact (t_X12_statesAll_4 hn) n (1 : Int32) (0 : Int32) M hG hS (i_rng (lo := 1) (hi := 160000) l_1 (by omega) (by omega)) (i_rng (lo := 0) (hi := 4) l_0 (by omega) (by omega)) (by have e0 : ((1 : Int32)).toInt = _ := l_1; have e1 : ((0 : Int32)).toInt = _ := l_0; omega) (by have e0 : ((1 : Int32)).toInt = _ := l_1; have e1 : ((0 : Int32)).toInt = _ := l_0; omega)
abbrev l_X12_placeOf : List Bx := []
abbrev po_X12_placeOf (a1 : Int32) (M : qM) (v : Int32) (M' : qM) : Prop := (0 ≤ v.toInt ∧ v.toInt ≤ 3) ∧ G M' ∧ Sm l_X12_placeOf M M'
theorem t_X12_placeOf_2 {n : Nat} (hn : 200000 ≤ n) {oa1 : Int32} {M0 : qM} : ∀ (m : Nat) (a1 a2 : Int32) (M : qM), G M → Sm l_X12_placeOf M0 M → 0 ≤ a1.toInt ∧ a1.toInt ≤ 11 → 0 ≤ a2.toInt ∧ a2.toInt ≤ 3 → (∃ i : Nat, a2.toInt ≤ (i : Int) ∧ (i : Int) < (M 77 43).toInt ∧ M 105 i = a1) → 3 - a2.toInt < (m : Int) → qT (f_X12_placeOf_2 n m a1 a2 M) (po_X12_placeOf oa1 M0) := by
  intro m
  induction m with
  | zero =>
    intro a1 a2 M hG hS i0 i1 hE i5
    have hq2_ := r_77_43 hG
    obtain ⟨iE, hE1, hE2, hE3⟩ := hE
    exfalso; omega
  | succ m ih =>
    intro a1 a2 M hG hS i0 i1 hE i5
    show qT (b_X12_placeOf_2 n (f_X12_placeOf_2 n m) a1 a2 M) _
    unfold b_X12_placeOf_2
    have hq2_ := r_77_43 hG
    obtain ⟨iE, hE1, hE2, hE3⟩ := hE
    refine T_qg rfl (by omega) (by omega) ?_
    have hq3_ := r_105 hG a2.toNatClampNeg
    refine T_eq rfl rfl (fun hq4_ => ?_) (fun hq4_ => ?_)
    · exact T_ret ⟨(i_rng (lo := 0) (hi := 3) rfl (by omega) (by omega)), hG, hS⟩
    · refine T_ql (i_add rfl l_1 (by omega) (by omega)) ?_
      intro xv5 hq6_
      have hne : iE ≠ a2.toNatClampNeg := fun e_ => by have h9 := congrArg Int32.toInt hE3; rw [e_] at h9; omega
      rw [tnc] at hne
      exact ih a1 xv5 M hG hS (i_rng (lo := 0) (hi := 11) rfl (by omega) (by omega)) (i_rng (lo := 0) (hi := 3) rfl (by omega) (by omega)) (by first | exact ⟨iE, by omega, by omega, hE3⟩ | (obtain ⟨i_, h1_, h2_⟩ := pe; exact ⟨i_, by have := l_0; omega, h1_, h2_⟩)) (by omega)
theorem t_X12_placeOf {n : Nat} (hn : 200000 ≤ n) (a1 : Int32) (M : qM) (hG : G M) (pa1 : 0 ≤ a1.toInt ∧ a1.toInt ≤ 11) (pe : ∃ i : Nat, (i : Int) < (M 77 43).toInt ∧ M 105 i = a1) : qT (f_X12_placeOf n a1 M) (po_X12_placeOf a1 M) := by
  have hS : Sm l_X12_placeOf M M := Sm.rf
  unfold f_X12_placeOf
  have hq7_ := r_77_43 hG
  exact (t_X12_placeOf_2 hn) n a1 (0 : Int32) M hG hS (i_rng (lo := 0) (hi := 11) rfl (by omega) (by omega)) (i_rng (lo := 0) (hi := 3) l_0 (by omega) (by omega)) (by have e1 : ((0 : Int32)).toInt = _ := l_0; first | exact ⟨iE, by omega, by omega, hE3⟩ | (obtain ⟨i_, h1_, h2_⟩ := pe; exact ⟨i_, by have := l_0; omega, h1_, h2_⟩)) (by have e1 : ((0 : Int32)).toInt = _ := l_0; omega)
abbrev l_X12_takesState : List Bx := [(108, 109, 0, 0)]
abbrev po_X12_takesState (a1 : Int32) (M : qM) (v : Int32) (M' : qM) : Prop := (0 ≤ v.toInt ∧ v.toInt ≤ 0) ∧ G M' ∧ Sm l_X12_takesState M M'
theorem t_X12_takesState_4 {n : Nat} (hn : 200000 ≤ n) {oa1 : Int32} {M0 : qM} : ∀ (m : Nat) (a2 a3 : Int32) (M : qM), G M → Sm l_X12_takesState M0 M → 0 ≤ a2.toInt ∧ a2.toInt ≤ 159999 → 0 ≤ a3.toInt ∧ a3.toInt ≤ 4 → 4 - a3.toInt < (m : Int) → qT (f_X12_takesState_4 n m a2 a3 M) (po_X12_takesState oa1 M0) := by
  intro m
  induction m with
  | zero =>
    intro a2 a3 M hG hS i0 i1 i4
    exfalso; omega
  | succ m ih =>
    intro a2 a3 M hG hS i0 i1 i4
    show qT (b_X12_takesState_4 n (f_X12_takesState_4 n m) a2 a3 M) _
    unfold b_X12_takesState_4
    have hq3_ := r_77_43 hG
    refine T_le rfl rfl (fun hq4_ => ?_) (fun hq4_ => ?_)
    · exact T_ret ⟨(i_rng (lo := 0) (hi := 0) l_0 (by omega) (by omega)), hG, hS⟩
    · refine T_qg rfl (by omega) (by omega) ?_
      refine T_mu hG hS (i_rng (lo := 0) (hi := 19) (i_sub rfl (i_mul (i_div rfl l_20 (by omega) (by omega)) l_20 (by omega) (by omega)) (by omega) (by omega)) (by omega) (by omega)) (nw_108 _) (i := 0) rfl ⟨by decide, by decide, Or.inl rfl⟩ ?_
      intro mv5 hq6_ gq7_ kq8_
      have hq9_ : (mv5 77 43).toInt = (M 77 43).toInt := by rw [hq6_, mu_ne (Or.inl (by decide))]
      have hq10_ : (mv5 108 a3.toNatClampNeg).toInt = (a2.toInt - ((a2.toInt / 20) * 20)) := by rw [hq6_, mu_at]; exact (i_sub rfl (i_mul (i_div rfl l_20 (by omega) (by omega)) l_20 (by omega) (by omega)) (by omega) (by omega))
      refine T_ql (i_div rfl l_20 (by omega) (by omega)) ?_
      intro xv11 hq12_
      refine T_ql (i_add rfl l_1 (by omega) (by omega)) ?_
      intro xv13 hq14_
      exact ih xv11 xv13 mv5 gq7_ kq8_ (i_rng (lo := 0) (hi := 159999) rfl (by omega) (by omega)) (i_rng (lo := 0) (hi := 4) rfl (by omega) (by omega)) (by omega)
theorem t_X12_takesState {n : Nat} (hn : 200000 ≤ n) (a1 : Int32) (M : qM) (hG : G M) (pa1 : 0 ≤ a1.toInt ∧ a1.toInt ≤ 159999) : qT (f_X12_takesState n a1 M) (po_X12_takesState a1 M) := by
  have hS : Sm l_X12_takesState M M := Sm.rf
  unfold f_X12_takesState
  exact (t_X12_takesState_4 hn) n a1 (0 : Int32) M hG hS (i_rng (lo := 0) (hi := 159999) rfl (by omega) (by omega)) (i_rng (lo := 0) (hi := 4) l_0 (by omega) (by omega)) (by have e1 : ((0 : Int32)).toInt = _ := l_0; omega)
abbrev l_X12_goesNow : List Bx := []
abbrev po_X12_goesNow (M : qM) (v : Int32) (M' : qM) : Prop := G M' ∧ Sm l_X12_goesNow M M'
theorem t_X12_goesNow_4 {n : Nat} (hn : 200000 ≤ n) {M0 : qM} : ∀ (m : Nat) (a1 a2 : Int32) (M : qM), G M → Sm l_X12_goesNow M0 M → 0 ≤ a2.toInt ∧ a2.toInt ≤ 4 → 4 - a2.toInt < (m : Int) → qT (f_X12_goesNow_4 n m a1 a2 M) (po_X12_goesNow  M0) := by
  intro m
  induction m with
  | zero =>
    intro a1 a2 M hG hS i0 i3
    exfalso; omega
  | succ m ih =>
    intro a1 a2 M hG hS i0 i3
    show qT (b_X12_goesNow_4 n (f_X12_goesNow_4 n m) a1 a2 M) _
    unfold b_X12_goesNow_4
    have hq3_ := r_77_43 hG
    refine T_le rfl rfl (fun hq4_ => ?_) (fun hq4_ => ?_)
    · exact T_ret ⟨hG, hS⟩
    · refine T_qg rfl (by omega) (by omega) ?_
      have hq5_ := r_108 hG a2.toNatClampNeg
      refine T_qg rfl (by omega) (by omega) ?_
      have hq6_ := r_103 hG ((M 108 a2.toNatClampNeg).toNatClampNeg)
      have hq7_ := i_full (a1)
      refine T_ql rfl ?_
      intro xv8 hq9_
      refine T_ql (i_add rfl l_1 (by omega) (by omega)) ?_
      intro xv10 hq11_
      exact ih xv8 xv10 M hG hS (i_rng (lo := 0) (hi := 4) rfl (by omega) (by omega)) (by omega)
theorem t_X12_goesNow {n : Nat} (hn : 200000 ≤ n) (M : qM) (hG : G M) : qT (f_X12_goesNow n  M) (po_X12_goesNow  M) := by
  have hS : Sm l_X12_goesNow M M := Sm.rf
  unfold f_X12_goesNow
  exact (t_X12_goesNow_4 hn) n (0 : Int32) (0 : Int32) M hG hS (i_rng (lo := 0) (hi := 4) l_0 (by omega) (by omega)) (by have e0 : ((0 : Int32)).toInt = _ := l_0; have e1 : ((0 : Int32)).toInt = _ := l_0; omega)
abbrev l_X12_areCounted : List Bx := []
abbrev po_X12_areCounted (a1 : Int32) (M : qM) (v : Int32) (M' : qM) : Prop := (0 ≤ v.toInt ∧ v.toInt ≤ 1) ∧ G M' ∧ Sm l_X12_areCounted M M'
theorem t_X12_areCounted_45 {n : Nat} (hn : 200000 ≤ n) {oa1 : Int32} {M0 : qM} {K2 : Int32 → Int32 → qM → qR} {BK2 : Nat} (hK2 : ∀ (a1 a2 : Int32) (M : qM), G M → Sm l_X12_areCounted M0 M → 0 ≤ a1.toInt ∧ a1.toInt ≤ 11 → 0 ≤ a2.toInt ∧ a2.toInt ≤ 12 → 12 - a2.toInt < (BK2 : Int) → qT (K2 a1 a2 M) (po_X12_areCounted oa1 M0)) : ∀ (m : Nat) (a1 a2 a3 a4 : Int32) (M : qM), G M → Sm l_X12_areCounted M0 M → 0 ≤ a1.toInt ∧ a1.toInt ≤ 11 → 0 ≤ a2.toInt ∧ a2.toInt ≤ 11 → 0 ≤ a4.toInt ∧ a4.toInt ≤ 4 → 12 - a2.toInt < (BK2 : Int) + 1 → 4 - a4.toInt < (m : Int) → qT (f_X12_areCounted_45 n K2 m a1 a2 a3 a4 M) (po_X12_areCounted oa1 M0) := by
  intro m
  induction m with
  | zero =>
    intro a1 a2 a3 a4 M hG hS i0 i1 i2 i5 i6
    exfalso; omega
  | succ m ih =>
    intro a1 a2 a3 a4 M hG hS i0 i1 i2 i5 i6
    show qT (b_X12_areCounted_45 n K2 (f_X12_areCounted_45 n K2 m) a1 a2 a3 a4 M) _
    unfold b_X12_areCounted_45
    have hq20_ := r_77_43 hG
    refine T_le rfl rfl (fun hq21_ => ?_) (fun hq21_ => ?_)
    · refine T_eq rfl l_0 (fun hq22_ => ?_) (fun hq22_ => ?_)
      · exact T_ret ⟨(i_rng (lo := 0) (hi := 1) l_0 (by omega) (by omega)), hG, hS⟩
      · refine T_ql (i_add rfl l_1 (by omega) (by omega)) ?_
        intro xv23 hq24_
        exact hK2 a1 xv23 M hG hS (i_rng (lo := 0) (hi := 11) rfl (by omega) (by omega)) (i_rng (lo := 0) (hi := 12) rfl (by omega) (by omega)) (by omega)
    · refine T_qg rfl (by omega) (by omega) ?_
      have hq25_ := r_105 hG a4.toNatClampNeg
      refine T_eq rfl rfl (fun hq26_ => ?_) (fun hq26_ => ?_)
      · refine T_qg rfl (by omega) (by omega) ?_
        have hq27_ := r_108 hG a4.toNatClampNeg
        refine T_qg rfl (by omega) (by omega) ?_
        unfold f_X12_areCounted_82
        have hq28_ := r_104 hG ((M 108 a4.toNatClampNeg).toNatClampNeg)
        have hq29_ := i_full (a3)
        refine T_ql rfl ?_
        intro xv30 hq31_
        refine T_ql (i_add rfl l_1 (by omega) (by omega)) ?_
        intro xv32 hq33_
        exact ih a1 a2 xv30 xv32 M hG hS (i_rng (lo := 0) (hi := 11) rfl (by omega) (by omega)) (i_rng (lo := 0) (hi := 11) rfl (by omega) (by omega)) (i_rng (lo := 0) (hi := 4) rfl (by omega) (by omega)) (by omega) (by omega)
      · unfold f_X12_areCounted_82
        have hq34_ := i_full (a3)
        refine T_ql (i_add rfl l_0 (by omega) (by omega)) ?_
        intro xv35 hq36_
        refine T_ql (i_add rfl l_1 (by omega) (by omega)) ?_
        intro xv37 hq38_
        exact ih a1 a2 xv35 xv37 M hG hS (i_rng (lo := 0) (hi := 11) rfl (by omega) (by omega)) (i_rng (lo := 0) (hi := 11) rfl (by omega) (by omega)) (i_rng (lo := 0) (hi := 4) rfl (by omega) (by omega)) (by omega) (by omega)
theorem t_X12_areCounted_2 {n : Nat} (hn : 200000 ≤ n) {oa1 : Int32} {M0 : qM} : ∀ (m : Nat) (a1 a2 : Int32) (M : qM), G M → Sm l_X12_areCounted M0 M → 0 ≤ a1.toInt ∧ a1.toInt ≤ 11 → 0 ≤ a2.toInt ∧ a2.toInt ≤ 12 → 12 - a2.toInt < (m : Int) → qT (f_X12_areCounted_2 n m a1 a2 M) (po_X12_areCounted oa1 M0) := by
  intro m
  induction m with
  | zero =>
    intro a1 a2 M hG hS i0 i1 i4
    exfalso; omega
  | succ m ih =>
    intro a1 a2 M hG hS i0 i1 i4
    show qT (b_X12_areCounted_2 n (f_X12_areCounted_2 n m) a1 a2 M) _
    unfold b_X12_areCounted_2
    refine T_le l_12 rfl (fun hq46_ => ?_) (fun hq46_ => ?_)
    · exact T_ret ⟨(i_rng (lo := 0) (hi := 1) l_1 (by omega) (by omega)), hG, hS⟩
    · refine T_qg rfl (by omega) (by omega) ?_
      refine T_qc (t_X12_has0 hn (M 83 a1.toNatClampNeg) a2 M hG (i_rng (lo := 0) (hi := 11) rfl (by omega) (by omega))) ?_
      rintro rv47 mv48 ⟨hq49_, hq50_, gq51_, kq52_⟩
      have hq53_ := kq52_.nil
      subst hq53_
      refine T_eq rfl l_0 (fun hq54_ => ?_) (fun hq54_ => ?_)
      · refine T_ql (i_add rfl l_1 (by omega) (by omega)) ?_
        intro xv55 hq56_
        exact ih a1 xv55 M hG hS (i_rng (lo := 0) (hi := 11) rfl (by omega) (by omega)) (i_rng (lo := 0) (hi := 12) rfl (by omega) (by omega)) (by omega)
      · have hq59_ := r_77_44 hG
        refine T_qc (t_X12_at hn (M 77 44) a2 M hG (i_rng (lo := 0) (hi := 7) rfl (by omega) (by omega)) (i_rng (lo := 0) (hi := 11) rfl (by omega) (by omega))) ?_
        rintro rv57 mv58 ⟨hq60_, hq61_, gq62_, kq63_⟩
        have hq64_ := kq63_.nil
        subst hq64_
        refine T_qg (i_add l_192 rfl (by omega) (by omega)) (by omega) (by omega) ?_
        refine T_ql rfl ?_
        intro xv65 hq66_
        exact (t_X12_areCounted_45 hn ih) n a1 a2 xv65 (0 : Int32) M hG hS (i_rng (lo := 0) (hi := 11) rfl (by omega) (by omega)) (i_rng (lo := 0) (hi := 11) rfl (by omega) (by omega)) (i_rng (lo := 0) (hi := 4) l_0 (by omega) (by omega)) (by omega) (by have e3 : ((0 : Int32)).toInt = _ := l_0; omega)
theorem t_X12_areCounted {n : Nat} (hn : 200000 ≤ n) (a1 : Int32) (M : qM) (hG : G M) (pa1 : 0 ≤ a1.toInt ∧ a1.toInt ≤ 11) : qT (f_X12_areCounted n a1 M) (po_X12_areCounted a1 M) := by
  have hS : Sm l_X12_areCounted M M := Sm.rf
  unfold f_X12_areCounted
  exact (t_X12_areCounted_2 hn) n a1 (0 : Int32) M hG hS (i_rng (lo := 0) (hi := 11) rfl (by omega) (by omega)) (i_rng (lo := 0) (hi := 12) l_0 (by omega) (by omega)) (by have e1 : ((0 : Int32)).toInt = _ := l_0; omega)

abbrev l_X12_wouldCount : List Bx := [(96, 98, 0, 0)]
abbrev po_X12_wouldCount (a1 : Int32) (M : qM) (v : Int32) (M' : qM) : Prop := (0 ≤ v.toInt ∧ v.toInt ≤ 1) ∧ G M' ∧ Sm l_X12_wouldCount M M'
theorem t_X12_wouldCount_17 {n : Nat} (hn : 200000 ≤ n) {oa1 : Int32} {M0 : qM} : ∀ (m : Nat) (a1 a2 a3 a4 : Int32) (M : qM), G M → Sm l_X12_wouldCount M0 M → 0 ≤ a1.toInt ∧ a1.toInt ≤ 3 → 0 ≤ a2.toInt ∧ a2.toInt ≤ 11 → 0 ≤ a4.toInt ∧ a4.toInt ≤ 4 → 4 - a4.toInt < (m : Int) → qT (f_X12_wouldCount_17 n m a1 a2 a3 a4 M) (po_X12_wouldCount oa1 M0) := by
  intro m
  induction m with
  | zero =>
    intro a1 a2 a3 a4 M hG hS i0 i1 i2 i5
    exfalso; omega
  | succ m ih =>
    intro a1 a2 a3 a4 M hG hS i0 i1 i2 i5
    show qT (b_X12_wouldCount_17 n (f_X12_wouldCount_17 n m) a1 a2 a3 a4 M) _
    unfold b_X12_wouldCount_17
    have hq5_ := r_77_43 hG
    refine T_le rfl rfl (fun hq6_ => ?_) (fun hq6_ => ?_)
    · have hq9_ := r_77_44 hG
      refine T_qc (t_X12_feels hn (M 77 44) a2 (8 : Int32) M hG (i_rng (lo := 0) (hi := 7) rfl (by omega) (by omega)) (i_rng (lo := 0) (hi := 11) rfl (by omega) (by omega)) (i_rng (lo := 0) (hi := 8) l_8 (by omega) (by omega))) ?_
      rintro rv7 mv8 ⟨hq10_, gq11_, kq12_⟩
      have kq13_ := Sm.call hS kq12_ rfl
      have hq14_ : (mv8 77 43).toInt = (M 77 43).toInt := by rw [kq12_ 77 43 (by decide)]
      refine T_qg rfl (by omega) (by omega) ?_
      have hq15_ := r_108 gq11_ a1.toNatClampNeg
      refine T_qg rfl (by omega) (by omega) ?_
      refine T_qg rfl (by omega) (by omega) ?_
      refine T_qg rfl (by omega) (by omega) ?_
      have hq17_ := r_102 gq11_ ((mv8 108 a1.toNatClampNeg).toNatClampNeg)
      have hq18_ := i_full (mv8 97 9)
      have hq19_ := r_103 gq11_ ((mv8 108 a1.toNatClampNeg).toNatClampNeg)
      have hq20_ := i_full ((mv8 97 9) + (mv8 102 ((mv8 108 a1.toNatClampNeg).toNatClampNeg)))
      refine T_mu gq11_ kq13_ (rn_97 _ _) (nw_97 _) (i := 0) rfl ⟨by decide, by decide, Or.inl rfl⟩ ?_
      intro mv16 hq21_ gq22_ kq23_
      have hq24_ : (mv16 77 43).toInt = (mv8 77 43).toInt := by rw [hq21_, mu_ne (Or.inl (by decide))]
      have hq25_ : (mv16 108 a1.toNatClampNeg).toInt = (mv8 108 a1.toNatClampNeg).toInt := by rw [hq21_, mu_ne (Or.inl (by decide))]
      have hq26_ : (mv16 97 9).toInt = (((mv8 97 9) + (mv8 102 ((mv8 108 a1.toNatClampNeg).toNatClampNeg))) + (mv8 103 ((mv8 108 a1.toNatClampNeg).toNatClampNeg))).toInt := by rw [hq21_, mu_at]
      refine T_qg rfl (by omega) (by omega) ?_
      have hq27_ := r_108 gq22_ a1.toNatClampNeg
      refine T_qg rfl (by omega) (by omega) ?_
      refine T_qg rfl (by omega) (by omega) ?_
      refine T_qg rfl (by omega) (by omega) ?_
      have hq29_ := r_102 gq22_ ((mv16 108 a1.toNatClampNeg).toNatClampNeg)
      have hq30_ := i_full (mv16 97 10)
      have hq31_ := r_103 gq22_ ((mv16 108 a1.toNatClampNeg).toNatClampNeg)
      have hq32_ := i_full ((mv16 97 10) + (mv16 102 ((mv16 108 a1.toNatClampNeg).toNatClampNeg)))
      refine T_mu gq22_ kq23_ (rn_97 _ _) (nw_97 _) (i := 0) rfl ⟨by decide, by decide, Or.inl rfl⟩ ?_
      intro mv28 hq33_ gq34_ kq35_
      have hq36_ : (mv28 77 43).toInt = (mv16 77 43).toInt := by rw [hq33_, mu_ne (Or.inl (by decide))]
      have hq37_ : (mv28 108 a1.toNatClampNeg).toInt = (mv16 108 a1.toNatClampNeg).toInt := by rw [hq33_, mu_ne (Or.inl (by decide))]
      have hq38_ : (mv28 97 9).toInt = (mv16 97 9).toInt := by rw [hq33_, mu_ne (Or.inr (by decide))]
      have hq39_ : (mv28 97 10).toInt = (((mv16 97 10) + (mv16 102 ((mv16 108 a1.toNatClampNeg).toNatClampNeg))) + (mv16 103 ((mv16 108 a1.toNatClampNeg).toNatClampNeg))).toInt := by rw [hq33_, mu_at]
      refine T_qg rfl (by omega) (by omega) ?_
      have hq40_ := r_108 gq34_ a1.toNatClampNeg
      refine T_qg rfl (by omega) (by omega) ?_
      have hq42_ := r_104 gq34_ ((mv28 108 a1.toNatClampNeg).toNatClampNeg)
      have hq43_ := i_full (mv28 97 11)
      refine T_mu gq34_ kq35_ (rn_97 _ _) (nw_97 _) (i := 0) rfl ⟨by decide, by decide, Or.inl rfl⟩ ?_
      intro mv41 hq44_ gq45_ kq46_
      have hq47_ : (mv41 77 43).toInt = (mv28 77 43).toInt := by rw [hq44_, mu_ne (Or.inl (by decide))]
      have hq48_ : (mv41 108 a1.toNatClampNeg).toInt = (mv28 108 a1.toNatClampNeg).toInt := by rw [hq44_, mu_ne (Or.inl (by decide))]
      have hq49_ : (mv41 97 9).toInt = (mv28 97 9).toInt := by rw [hq44_, mu_ne (Or.inr (by decide))]
      have hq50_ : (mv41 97 10).toInt = (mv28 97 10).toInt := by rw [hq44_, mu_ne (Or.inr (by decide))]
      have hq51_ : (mv41 97 11).toInt = ((mv28 97 11) + (mv28 104 ((mv28 108 a1.toNatClampNeg).toNatClampNeg))).toInt := by rw [hq44_, mu_at]
      refine T_qc (t_X12_byLaw hn (118 : Int32) (99 : Int32) (1 : Int32) mv41 gq45_ (i_rng (lo := 99) (hi := 118) l_118 (by omega) (by omega)) (i_rng (lo := 99) (hi := 999) l_99 (by omega) (by omega)) (i_rng (lo := 0) (hi := 1) l_1 (by omega) (by omega))) ?_
      rintro rv52 mv53 ⟨hq54_, gq55_, kq56_⟩
      have kq57_ := Sm.call kq46_ kq56_ rfl
      have hq58_ : (mv53 77 43).toInt = (mv41 77 43).toInt := by rw [kq56_ 77 43 (by decide)]
      have hq59_ : (mv53 108 a1.toNatClampNeg).toInt = (mv41 108 a1.toNatClampNeg).toInt := by rw [kq56_ 108 _ (outc rfl)]
      have hq60_ : (mv53 97 9).toInt = (mv41 97 9).toInt := by rw [kq56_ 97 9 (by decide)]
      have hq61_ : (mv53 97 10).toInt = (mv41 97 10).toInt := by rw [kq56_ 97 10 (by decide)]
      have hq62_ : (mv53 97 11).toInt = (mv41 97 11).toInt := by rw [kq56_ 97 11 (by decide)]
      refine T_lt rfl rfl (fun hq63_ => ?_) (fun hq63_ => ?_)
      · exact T_ret ⟨(i_rng (lo := 0) (hi := 1) l_0 (by omega) (by omega)), gq55_, kq57_⟩
      · refine T_qc (t_X12_areCounted hn a2 mv53 gq55_ (i_rng (lo := 0) (hi := 11) rfl (by omega) (by omega))) ?_
        rintro rv64 mv65 ⟨hq66_, gq67_, kq68_⟩
        have hq69_ := kq68_.nil
        subst hq69_
        refine T_eq rfl l_0 (fun hq70_ => ?_) (fun hq70_ => ?_)
        · exact T_ret ⟨(i_rng (lo := 0) (hi := 1) l_0 (by omega) (by omega)), gq55_, kq57_⟩
        · exact T_ret ⟨(i_rng (lo := 0) (hi := 1) l_1 (by omega) (by omega)), gq55_, kq57_⟩
    · refine T_qg rfl (by omega) (by omega) ?_
      refine T_qc (t_X12_has0 hn (M 107 a1.toNatClampNeg) a4 M hG (i_rng (lo := 0) (hi := 11) rfl (by omega) (by omega))) ?_
      rintro rv71 mv72 ⟨hq73_, hq74_, gq75_, kq76_⟩
      have hq77_ := kq76_.nil
      subst hq77_
      refine T_eq rfl l_0 (fun hq78_ => ?_) (fun hq78_ => ?_)
      · unfold f_X12_wouldCount_70
        have hq79_ := i_full (a3)
        refine T_ql (i_add rfl l_0 (by omega) (by omega)) ?_
        intro xv80 hq81_
        refine T_ql (i_add rfl l_1 (by omega) (by omega)) ?_
        intro xv82 hq83_
        exact ih a1 a2 xv80 xv82 M hG hS (i_rng (lo := 0) (hi := 3) rfl (by omega) (by omega)) (i_rng (lo := 0) (hi := 11) rfl (by omega) (by omega)) (i_rng (lo := 0) (hi := 4) rfl (by omega) (by omega)) (by omega)
      · refine T_qg rfl (by omega) (by omega) ?_
        have hq84_ := r_108 hG a4.toNatClampNeg
        refine T_qg rfl (by omega) (by omega) ?_
        refine T_qg rfl (by omega) (by omega) ?_
        refine T_qg rfl (by omega) (by omega) ?_
        unfold f_X12_wouldCount_70
        have hq85_ := r_102 hG ((M 108 a4.toNatClampNeg).toNatClampNeg)
        have hq86_ := r_103 hG ((M 108 a4.toNatClampNeg).toNatClampNeg)
        have hq87_ := i_full (a3)
        refine T_ql rfl ?_
        intro xv88 hq89_
        refine T_ql (i_add rfl l_1 (by omega) (by omega)) ?_
        intro xv90 hq91_
        exact ih a1 a2 xv88 xv90 M hG hS (i_rng (lo := 0) (hi := 3) rfl (by omega) (by omega)) (i_rng (lo := 0) (hi := 11) rfl (by omega) (by omega)) (i_rng (lo := 0) (hi := 4) rfl (by omega) (by omega)) (by omega)
theorem t_X12_wouldCount {n : Nat} (hn : 200000 ≤ n) (a1 : Int32) (M : qM) (hG : G M) (pa1 : 0 ≤ a1.toInt ∧ a1.toInt ≤ 3) : qT (f_X12_wouldCount n a1 M) (po_X12_wouldCount a1 M) := by
  have hS : Sm l_X12_wouldCount M M := Sm.rf
  unfold f_X12_wouldCount
  refine T_qg rfl (by omega) (by omega) ?_
  have hq92_ := r_105 hG a1.toNatClampNeg
  refine T_ql rfl ?_
  intro xv93 hq94_
  refine T_qg rfl (by omega) (by omega) ?_
  refine T_ql rfl ?_
  intro xv95 hq96_
  exact (t_X12_wouldCount_17 hn) n a1 xv93 xv95 (0 : Int32) M hG hS (i_rng (lo := 0) (hi := 3) rfl (by omega) (by omega)) (i_rng (lo := 0) (hi := 11) rfl (by omega) (by omega)) (i_rng (lo := 0) (hi := 4) l_0 (by omega) (by omega)) (by have e3 : ((0 : Int32)).toInt = _ := l_0; omega)
abbrev l_X12_wayWith : List Bx := []
abbrev po_X12_wayWith (a1 a2 a3 : Int32) (M : qM) (v : Int32) (M' : qM) : Prop := (0 ≤ v.toInt ∧ v.toInt ≤ 19) ∧ G M' ∧ Sm l_X12_wayWith M M'
theorem t_X12_wayWith_3 {n : Nat} (hn : 200000 ≤ n) {oa1 oa2 oa3 : Int32} {M0 : qM} : ∀ (m : Nat) (a1 a2 a3 a4 : Int32) (M : qM), G M → Sm l_X12_wayWith M0 M → 0 ≤ a1.toInt ∧ a1.toInt ≤ 3 → 0 ≤ a2.toInt ∧ a2.toInt ≤ 3 → 0 ≤ a3.toInt ∧ a3.toInt ≤ 3 → 0 ≤ a4.toInt ∧ a4.toInt ≤ 20 → (∃ w : Nat, a4.toInt ≤ (w : Int) ∧ w < 20 ∧ (M 102 w).toInt = a1.toInt ∧ (M 103 w).toInt = a2.toInt ∧ (M 104 w).toInt = a3.toInt) → 20 - a4.toInt < (m : Int) → qT (f_X12_wayWith_3 n m a1 a2 a3 a4 M) (po_X12_wayWith oa1 oa2 oa3 M0) := by
  intro m
  induction m with
  | zero =>
    intro a1 a2 a3 a4 M hG hS i0 i1 i2 i3 hE i7
    obtain ⟨wE, hE1, hE2, hE3, hE4, hE5⟩ := hE
    exfalso; omega
  | succ m ih =>
    intro a1 a2 a3 a4 M hG hS i0 i1 i2 i3 hE i7
    show qT (b_X12_wayWith_3 n (f_X12_wayWith_3 n m) a1 a2 a3 a4 M) _
    unfold b_X12_wayWith_3
    obtain ⟨wE, hE1, hE2, hE3, hE4, hE5⟩ := hE
    refine T_le l_20 rfl (fun hq4_ => ?_) (fun hq4_ => ?_)
    · exact T_ret ⟨(i_rng (lo := 0) (hi := 19) l_m1 (by omega) (by omega)), hG, hS⟩
    · refine T_qg rfl (by omega) (by omega) ?_
      have hq5_ := r_102 hG a4.toNatClampNeg
      refine T_eq rfl rfl (fun hq6_ => ?_) (fun hq6_ => ?_)
      · refine T_qg rfl (by omega) (by omega) ?_
        have hq7_ := r_103 hG a4.toNatClampNeg
        refine T_eq rfl rfl (fun hq8_ => ?_) (fun hq8_ => ?_)
        · refine T_qg rfl (by omega) (by omega) ?_
          have hq9_ := r_104 hG a4.toNatClampNeg
          refine T_eq rfl rfl (fun hq10_ => ?_) (fun hq10_ => ?_)
          · exact T_ret ⟨(i_rng (lo := 0) (hi := 19) rfl (by omega) (by omega)), hG, hS⟩
          · refine T_ql (i_add rfl l_1 (by omega) (by omega)) ?_
            intro xv11 hq12_
            have hne : wE ≠ a4.toNatClampNeg := fun e_ => by rw [e_] at hE3 hE4 hE5; omega
            rw [tnc] at hne
            exact ih a1 a2 a3 xv11 M hG hS (i_rng (lo := 0) (hi := 3) rfl (by omega) (by omega)) (i_rng (lo := 0) (hi := 3) rfl (by omega) (by omega)) (i_rng (lo := 0) (hi := 3) rfl (by omega) (by omega)) (i_rng (lo := 0) (hi := 20) rfl (by omega) (by omega)) (by first | exact ⟨wE, by omega, by omega, hE3, hE4, hE5⟩ | (obtain ⟨w_, w1, w2, w3, w4⟩ := hG.2.2.2.1 a1.toInt.toNat a2.toInt.toNat a3.toInt.toNat (by omega) (by omega); exact ⟨w_, by have := l_0; omega, w1, by rw [w2, nI_toInt (by omega)]; omega, by rw [w3, nI_toInt (by omega)]; omega, by rw [w4, nI_toInt (by omega)]; omega⟩)) (by omega)
        · refine T_ql (i_add rfl l_1 (by omega) (by omega)) ?_
          intro xv13 hq14_
          have hne : wE ≠ a4.toNatClampNeg := fun e_ => by rw [e_] at hE3 hE4 hE5; omega
          rw [tnc] at hne
          exact ih a1 a2 a3 xv13 M hG hS (i_rng (lo := 0) (hi := 3) rfl (by omega) (by omega)) (i_rng (lo := 0) (hi := 3) rfl (by omega) (by omega)) (i_rng (lo := 0) (hi := 3) rfl (by omega) (by omega)) (i_rng (lo := 0) (hi := 20) rfl (by omega) (by omega)) (by first | exact ⟨wE, by omega, by omega, hE3, hE4, hE5⟩ | (obtain ⟨w_, w1, w2, w3, w4⟩ := hG.2.2.2.1 a1.toInt.toNat a2.toInt.toNat a3.toInt.toNat (by omega) (by omega); exact ⟨w_, by have := l_0; omega, w1, by rw [w2, nI_toInt (by omega)]; omega, by rw [w3, nI_toInt (by omega)]; omega, by rw [w4, nI_toInt (by omega)]; omega⟩)) (by omega)
      · refine T_ql (i_add rfl l_1 (by omega) (by omega)) ?_
        intro xv15 hq16_
        have hne : wE ≠ a4.toNatClampNeg := fun e_ => by rw [e_] at hE3 hE4 hE5; omega
        rw [tnc] at hne
        exact ih a1 a2 a3 xv15 M hG hS (i_rng (lo := 0) (hi := 3) rfl (by omega) (by omega)) (i_rng (lo := 0) (hi := 3) rfl (by omega) (by omega)) (i_rng (lo := 0) (hi := 3) rfl (by omega) (by omega)) (i_rng (lo := 0) (hi := 20) rfl (by omega) (by omega)) (by first | exact ⟨wE, by omega, by omega, hE3, hE4, hE5⟩ | (obtain ⟨w_, w1, w2, w3, w4⟩ := hG.2.2.2.1 a1.toInt.toNat a2.toInt.toNat a3.toInt.toNat (by omega) (by omega); exact ⟨w_, by have := l_0; omega, w1, by rw [w2, nI_toInt (by omega)]; omega, by rw [w3, nI_toInt (by omega)]; omega, by rw [w4, nI_toInt (by omega)]; omega⟩)) (by omega)
theorem t_X12_wayWith {n : Nat} (hn : 200000 ≤ n) (a1 a2 a3 : Int32) (M : qM) (hG : G M) (pa1 : 0 ≤ a1.toInt ∧ a1.toInt ≤ 3) (pa2 : 0 ≤ a2.toInt ∧ a2.toInt ≤ 3) (pa3 : 0 ≤ a3.toInt ∧ a3.toInt ≤ 3) (pe : 0 ≤ a1.toInt ∧ 0 ≤ a2.toInt ∧ 0 ≤ a3.toInt ∧ a1.toInt + a2.toInt ≤ 3 ∧ a3.toInt ≤ a1.toInt) : qT (f_X12_wayWith n a1 a2 a3 M) (po_X12_wayWith a1 a2 a3 M) := by
  have hS : Sm l_X12_wayWith M M := Sm.rf
  unfold f_X12_wayWith
  exact (t_X12_wayWith_3 hn) n a1 a2 a3 (0 : Int32) M hG hS (i_rng (lo := 0) (hi := 3) rfl (by omega) (by omega)) (i_rng (lo := 0) (hi := 3) rfl (by omega) (by omega)) (i_rng (lo := 0) (hi := 3) rfl (by omega) (by omega)) (i_rng (lo := 0) (hi := 20) l_0 (by omega) (by omega)) (by have e3 : ((0 : Int32)).toInt = _ := l_0; first | exact ⟨wE, by omega, by omega, hE3, hE4, hE5⟩ | (obtain ⟨w_, w1, w2, w3, w4⟩ := hG.2.2.2.1 a1.toInt.toNat a2.toInt.toNat a3.toInt.toNat (by omega) (by omega); exact ⟨w_, by have := l_0; omega, w1, by rw [w2, nI_toInt (by omega)]; omega, by rw [w3, nI_toInt (by omega)]; omega, by rw [w4, nI_toInt (by omega)]; omega⟩)) (by have e3 : ((0 : Int32)).toInt = _ := l_0; omega)
abbrev l_X12_stateNow : List Bx := []
abbrev po_X12_stateNow (M : qM) (v : Int32) (M' : qM) : Prop := (0 ≤ v.toInt ∧ v.toInt ≤ 159999) ∧ G M' ∧ Sm l_X12_stateNow M M'
theorem t_X12_stateNow_9 {n : Nat} (hn : 200000 ≤ n) {M0 : qM} : ∀ (m : Nat) (a1 a2 : Int32) (M : qM), G M → Sm l_X12_stateNow M0 M → 0 ≤ a1.toInt ∧ a1.toInt ≤ 159999 → (-1) ≤ a2.toInt ∧ a2.toInt ≤ 3 → (((M 77 43).toInt - 1 - a2.toInt = 0 ∧ a1.toInt ≤ 0) ∨ ((M 77 43).toInt - 1 - a2.toInt = 1 ∧ a1.toInt ≤ 19) ∨ ((M 77 43).toInt - 1 - a2.toInt = 2 ∧ a1.toInt ≤ 399) ∨ ((M 77 43).toInt - 1 - a2.toInt = 3 ∧ a1.toInt ≤ 7999) ∨ ((M 77 43).toInt - 1 - a2.toInt = 4 ∧ a1.toInt ≤ 159999)) → a2.toInt - (-1) < (m : Int) → qT (f_X12_stateNow_9 n m a1 a2 M) (po_X12_stateNow  M0) := by
  intro m
  induction m with
  | zero =>
    intro a1 a2 M hG hS i0 i1 hE i5
    have hq3_ := r_77_43 hG
    exfalso; omega
  | succ m ih =>
    intro a1 a2 M hG hS i0 i1 hE i5
    show qT (b_X12_stateNow_9 n (f_X12_stateNow_9 n m) a1 a2 M) _
    unfold b_X12_stateNow_9
    have hq3_ := r_77_43 hG
    refine T_lt rfl l_0 (fun hq4_ => ?_) (fun hq4_ => ?_)
    · exact T_ret ⟨(i_rng (lo := 0) (hi := 159999) rfl (by omega) (by omega)), hG, hS⟩
    · refine T_qg rfl (by omega) (by omega) ?_
      have hq5_ := r_108 hG a2.toNatClampNeg
      refine T_ql (i_add (i_mul l_20 rfl (by omega) (by omega)) rfl (by omega) (by omega)) ?_
      intro xv6 hq7_
      refine T_ql (i_add rfl l_m1 (by omega) (by omega)) ?_
      intro xv8 hq9_
      exact ih xv6 xv8 M hG hS (i_rng (lo := 0) (hi := 159999) rfl (by omega) (by omega)) (i_rng (lo := (-1)) (hi := 3) rfl (by omega) (by omega)) (by omega) (by omega)
theorem t_X12_stateNow {n : Nat} (hn : 200000 ≤ n) (M : qM) (hG : G M) : qT (f_X12_stateNow n  M) (po_X12_stateNow  M) := by
  have hS : Sm l_X12_stateNow M M := Sm.rf
  unfold f_X12_stateNow
  have hq10_ := r_77_43 hG
  refine T_ql (i_sub rfl l_1 (by omega) (by omega)) ?_
  intro xv11 hq12_
  exact (t_X12_stateNow_9 hn) n (0 : Int32) xv11 M hG hS (i_rng (lo := 0) (hi := 159999) l_0 (by omega) (by omega)) (i_rng (lo := (-1)) (hi := 3) rfl (by omega) (by omega)) (by have e0 : ((0 : Int32)).toInt = _ := l_0; omega) (by have e0 : ((0 : Int32)).toInt = _ := l_0; omega)
abbrev l_X12_marks : List Bx := [(108, 109, 0, 0), (110, 111, 0, 0)]
abbrev po_X12_marks (a1 a2 : Int32) (M : qM) (v : Int32) (M' : qM) : Prop := (0 ≤ v.toInt ∧ v.toInt ≤ 0) ∧ (M' 108 = M 108) ∧ G M' ∧ Sm l_X12_marks M M'
theorem t_X12_marks {n : Nat} (hn : 200000 ≤ n) (a1 a2 : Int32) (M : qM) (hG : G M) (pa1 : 0 ≤ a1.toInt ∧ a1.toInt ≤ 3) (pa2 : 0 ≤ a2.toInt ∧ a2.toInt ≤ 19) : qT (f_X12_marks n a1 a2 M) (po_X12_marks a1 a2 M) := by
  have hS : Sm l_X12_marks M M := Sm.rf
  unfold f_X12_marks
  refine T_qg rfl (by omega) (by omega) ?_
  have hq1_ := r_108 hG a1.toNatClampNeg
  refine T_ql rfl ?_
  intro xv2 hq3_
  refine T_qg rfl (by omega) (by omega) ?_
  refine T_mu hG hS (i_rng (lo := 0) (hi := 19) rfl (by omega) (by omega)) (nw_108 _) (i := 0) rfl ⟨by decide, by decide, Or.inl rfl⟩ ?_
  intro mv4 hq5_ gq6_ kq7_
  have hq8_ : (mv4 108 a1.toNatClampNeg).toInt = a2.toInt := by rw [hq5_, mu_at]
  refine T_qc (t_X12_stateNow hn  mv4 gq6_ ) ?_
  rintro rv9 mv10 ⟨hq11_, gq12_, kq13_⟩
  have hq14_ := kq13_.nil
  subst hq14_
  refine T_qg rfl (by omega) (by omega) ?_
  have hq16_ := i_bool (1 : Int32)
  refine T_mu gq6_ kq7_ (i_rng (lo := 0) (hi := 1) rfl (by omega) (by omega)) (nw_110 _) (i := 1) rfl ⟨by decide, by decide, Or.inl rfl⟩ ?_
  intro mv15 hq17_ gq18_ kq19_
  have hq20_ : (mv15 108 a1.toNatClampNeg).toInt = (mv4 108 a1.toNatClampNeg).toInt := by rw [hq17_, mu_ne (Or.inl (by decide))]
  have hq21_ : (mv15 110 rv9.toNatClampNeg).toInt = (vp_nar .boolean (1 : Int32)).toInt := by rw [hq17_, mu_at]
  refine T_qg rfl (by omega) (by omega) ?_
  refine T_mu gq18_ kq19_ (i_rng (lo := 0) (hi := 19) rfl (by omega) (by omega)) (nw_108 _) (i := 0) rfl ⟨by decide, by decide, Or.inl rfl⟩ ?_
  intro mv22 hq23_ gq24_ kq25_
  have hq26_ : (mv22 110 rv9.toNatClampNeg).toInt = (mv15 110 rv9.toNatClampNeg).toInt := by rw [hq23_, mu_ne (Or.inl (by decide))]
  have hq27_ : (mv22 108 a1.toNatClampNeg).toInt = xv2.toInt := by rw [hq23_, mu_at]
  exact T_ret ⟨(i_rng (lo := 0) (hi := 0) l_0 (by omega) (by omega)), (by funext s_; by_cases hs_ : s_ = a1.toNatClampNeg; exact (by rw [hs_]; rw [hq23_, mu_at]; exact Int32.toInt_inj.mp (by omega)); rw [hq23_, mu_ne (Or.inr hs_)]; rw [hq17_, mu_ne (Or.inl (by decide))]; rw [hq5_, mu_ne (Or.inr hs_)]), gq24_, kq25_⟩
abbrev l_X12_spreads : List Bx := [(96, 98, 0, 0), (108, 109, 0, 0), (110, 111, 0, 0)]
abbrev po_X12_spreads (a1 : Int32) (M : qM) (v : Int32) (M' : qM) : Prop := (0 ≤ v.toInt ∧ v.toInt ≤ 0) ∧ G M' ∧ Sm l_X12_spreads M M'
theorem t_X12_spreads_7 {n : Nat} (hn : 200000 ≤ n) {oa1 : Int32} {M0 : qM} : ∀ (m : Nat) (a1 a2 a3 : Int32) (M : qM), G M → Sm l_X12_spreads M0 M → 0 ≤ a1.toInt ∧ a1.toInt ≤ 3 → 0 ≤ a3.toInt ∧ a3.toInt ≤ 4 → 4 - a3.toInt < (m : Int) → qT (f_X12_spreads_7 n m a1 a2 a3 M) (po_X12_spreads oa1 M0) := by
  intro m
  induction m with
  | zero =>
    intro a1 a2 a3 M hG hS i0 i1 i4
    exfalso; omega
  | succ m ih =>
    intro a1 a2 a3 M hG hS i0 i1 i4
    show qT (b_X12_spreads_7 n (f_X12_spreads_7 n m) a1 a2 a3 M) _
    unfold b_X12_spreads_7
    have hq8_ := r_77_43 hG
    refine T_le rfl rfl (fun hq9_ => ?_) (fun hq9_ => ?_)
    · exact T_ret ⟨(i_rng (lo := 0) (hi := 0) l_0 (by omega) (by omega)), hG, hS⟩
    · refine T_qg rfl (by omega) (by omega) ?_
      have hq10_ := r_108 hG a3.toNatClampNeg
      refine T_qg rfl (by omega) (by omega) ?_
      have hq11_ := hG.2.2.2.2 ((M 108 a3.toNatClampNeg).toNatClampNeg) (by rw [tnc]; omega)
      have hq12_ := r_102 hG ((M 108 a3.toNatClampNeg).toNatClampNeg)
      refine T_ql rfl ?_
      intro xv13 hq14_
      refine T_qg rfl (by omega) (by omega) ?_
      refine T_qg rfl (by omega) (by omega) ?_
      have hq15_ := r_103 hG ((M 108 a3.toNatClampNeg).toNatClampNeg)
      refine T_ql rfl ?_
      intro xv16 hq17_
      refine T_eq (i_add rfl rfl (by omega) (by omega)) l_3 (fun hq18_ => ?_) (fun hq18_ => ?_)
      · refine T_ql (i_add rfl l_1 (by omega) (by omega)) ?_
        intro xv19 hq20_
        exact ih a1 a2 xv19 M hG hS (i_rng (lo := 0) (hi := 3) rfl (by omega) (by omega)) (i_rng (lo := 0) (hi := 4) rfl (by omega) (by omega)) (by omega)
      · refine T_qg rfl (by omega) (by omega) ?_
        refine T_qg rfl (by omega) (by omega) ?_
        refine T_qc (t_X12_wouldCount hn a3 M hG (i_rng (lo := 0) (hi := 3) rfl (by omega) (by omega))) ?_
        rintro rv21 mv22 ⟨hq23_, gq24_, kq25_⟩
        have kq26_ := Sm.call hS kq25_ rfl
        have hq27_ : (mv22 77 43).toInt = (M 77 43).toInt := by rw [kq25_ 77 43 (by decide)]
        have hq28_ : (mv22 108 a3.toNatClampNeg).toInt = (M 108 a3.toNatClampNeg).toInt := by rw [kq25_ 108 _ (outc rfl)]
        refine T_eq rfl l_0 (fun hq29_ => ?_) (fun hq29_ => ?_)
        · unfold f_X12_spreads_86
          have hq32_ := r_104 hG ((M 108 a3.toNatClampNeg).toNatClampNeg)
          refine T_qc (t_X12_wayWith hn (xv13 + (1 : Int32)) xv16 ((M 104 ((M 108 a3.toNatClampNeg).toNatClampNeg)) + (0 : Int32)) mv22 gq24_ (i_rng (lo := 0) (hi := 3) (i_add rfl l_1 (by omega) (by omega)) (by omega) (by omega)) (i_rng (lo := 0) (hi := 3) rfl (by omega) (by omega)) (i_rng (lo := 0) (hi := 3) (i_add rfl l_0 (by omega) (by omega)) (by omega) (by omega)) (by have e0 : (xv13 + (1 : Int32)).toInt = _ := (i_add rfl l_1 (by omega) (by omega)); have e2 : ((M 104 ((M 108 a3.toNatClampNeg).toNatClampNeg)) + (0 : Int32)).toInt = _ := (i_add rfl l_0 (by omega) (by omega)); omega)) ?_
          rintro rv30 mv31 ⟨hq33_, gq34_, kq35_⟩
          have hq36_ := kq35_.nil
          subst hq36_
          refine T_qc (t_X12_marks hn a3 rv30 mv22 gq24_ (i_rng (lo := 0) (hi := 3) rfl (by omega) (by omega)) (i_rng (lo := 0) (hi := 19) rfl (by omega) (by omega))) ?_
          rintro rv37 mv38 ⟨hq39_, hq40_, gq41_, kq42_⟩
          have kq43_ := Sm.call kq26_ kq42_ rfl
          have hq44_ : (mv38 77 43).toInt = (mv22 77 43).toInt := by rw [kq42_ 77 43 (by decide)]
          have hq45_ : mv38 108 a3.toNatClampNeg = M 108 a3.toNatClampNeg := by rw [hq40_]; rw [kq25_ 108 _ (outc rfl)]
          have hq46_ : mv38 102 (mv38 108 a3.toNatClampNeg).toNatClampNeg = M 102 (M 108 a3.toNatClampNeg).toNatClampNeg := by rw [hq45_]; rw [kq42_ 102 _ (outc rfl)]; rw [kq25_ 102 _ (outc rfl)]
          have hq51_ := congrArg Int32.toInt hq46_
          have hq47_ : mv38 103 (mv38 108 a3.toNatClampNeg).toNatClampNeg = M 103 (M 108 a3.toNatClampNeg).toNatClampNeg := by rw [hq45_]; rw [kq42_ 103 _ (outc rfl)]; rw [kq25_ 103 _ (outc rfl)]
          have hq52_ := congrArg Int32.toInt hq47_
          have hq48_ : mv38 104 (mv38 108 a3.toNatClampNeg).toNatClampNeg = M 104 (M 108 a3.toNatClampNeg).toNatClampNeg := by rw [hq45_]; rw [kq42_ 104 _ (outc rfl)]; rw [kq25_ 104 _ (outc rfl)]
          have hq53_ := congrArg Int32.toInt hq48_
          refine T_le rfl rfl (fun hq54_ => ?_) (fun hq54_ => ?_)
          · refine T_ql (i_add rfl l_1 (by omega) (by omega)) ?_
            intro xv55 hq56_
            exact ih a1 a2 xv55 mv38 gq41_ kq43_ (i_rng (lo := 0) (hi := 3) rfl (by omega) (by omega)) (i_rng (lo := 0) (hi := 4) rfl (by omega) (by omega)) (by omega)
          · refine T_qg rfl (by omega) (by omega) ?_
            have hq57_ := r_108 gq41_ a3.toNatClampNeg
            refine T_qg rfl (by omega) (by omega) ?_
            have hq60_ := gq41_.2.2.2.2 ((mv38 108 a3.toNatClampNeg).toNatClampNeg) (by rw [tnc]; omega)
            have hq61_ := r_104 gq41_ ((mv38 108 a3.toNatClampNeg).toNatClampNeg)
            refine T_qc (t_X12_wayWith hn xv13 (xv16 + (1 : Int32)) (mv38 104 ((mv38 108 a3.toNatClampNeg).toNatClampNeg)) mv38 gq41_ (i_rng (lo := 0) (hi := 3) rfl (by omega) (by omega)) (i_rng (lo := 0) (hi := 3) (i_add rfl l_1 (by omega) (by omega)) (by omega) (by omega)) (i_rng (lo := 0) (hi := 3) rfl (by omega) (by omega)) (by have e1 : (xv16 + (1 : Int32)).toInt = _ := (i_add rfl l_1 (by omega) (by omega)); omega)) ?_
            rintro rv58 mv59 ⟨hq62_, gq63_, kq64_⟩
            have hq65_ := kq64_.nil
            subst hq65_
            refine T_qc (t_X12_marks hn a3 rv58 mv38 gq41_ (i_rng (lo := 0) (hi := 3) rfl (by omega) (by omega)) (i_rng (lo := 0) (hi := 19) rfl (by omega) (by omega))) ?_
            rintro rv66 mv67 ⟨hq68_, hq69_, gq70_, kq71_⟩
            have kq72_ := Sm.call kq43_ kq71_ rfl
            have hq73_ : (mv67 77 43).toInt = (mv38 77 43).toInt := by rw [kq71_ 77 43 (by decide)]
            refine T_ql (i_add rfl l_1 (by omega) (by omega)) ?_
            intro xv74 hq75_
            exact ih a1 a2 xv74 mv67 gq70_ kq72_ (i_rng (lo := 0) (hi := 3) rfl (by omega) (by omega)) (i_rng (lo := 0) (hi := 4) rfl (by omega) (by omega)) (by omega)
        · unfold f_X12_spreads_86
          have hq78_ := r_104 hG ((M 108 a3.toNatClampNeg).toNatClampNeg)
          refine T_qc (t_X12_wayWith hn (xv13 + (1 : Int32)) xv16 ((M 104 ((M 108 a3.toNatClampNeg).toNatClampNeg)) + (1 : Int32)) mv22 gq24_ (i_rng (lo := 0) (hi := 3) (i_add rfl l_1 (by omega) (by omega)) (by omega) (by omega)) (i_rng (lo := 0) (hi := 3) rfl (by omega) (by omega)) (i_rng (lo := 0) (hi := 3) (i_add rfl l_1 (by omega) (by omega)) (by omega) (by omega)) (by have e0 : (xv13 + (1 : Int32)).toInt = _ := (i_add rfl l_1 (by omega) (by omega)); have e2 : ((M 104 ((M 108 a3.toNatClampNeg).toNatClampNeg)) + (1 : Int32)).toInt = _ := (i_add rfl l_1 (by omega) (by omega)); omega)) ?_
          rintro rv76 mv77 ⟨hq79_, gq80_, kq81_⟩
          have hq82_ := kq81_.nil
          subst hq82_
          refine T_qc (t_X12_marks hn a3 rv76 mv22 gq24_ (i_rng (lo := 0) (hi := 3) rfl (by omega) (by omega)) (i_rng (lo := 0) (hi := 19) rfl (by omega) (by omega))) ?_
          rintro rv83 mv84 ⟨hq85_, hq86_, gq87_, kq88_⟩
          have kq89_ := Sm.call kq26_ kq88_ rfl
          have hq90_ : (mv84 77 43).toInt = (mv22 77 43).toInt := by rw [kq88_ 77 43 (by decide)]
          have hq91_ : mv84 108 a3.toNatClampNeg = M 108 a3.toNatClampNeg := by rw [hq86_]; rw [kq25_ 108 _ (outc rfl)]
          have hq92_ : mv84 102 (mv84 108 a3.toNatClampNeg).toNatClampNeg = M 102 (M 108 a3.toNatClampNeg).toNatClampNeg := by rw [hq91_]; rw [kq88_ 102 _ (outc rfl)]; rw [kq25_ 102 _ (outc rfl)]
          have hq97_ := congrArg Int32.toInt hq92_
          have hq93_ : mv84 103 (mv84 108 a3.toNatClampNeg).toNatClampNeg = M 103 (M 108 a3.toNatClampNeg).toNatClampNeg := by rw [hq91_]; rw [kq88_ 103 _ (outc rfl)]; rw [kq25_ 103 _ (outc rfl)]
          have hq98_ := congrArg Int32.toInt hq93_
          have hq94_ : mv84 104 (mv84 108 a3.toNatClampNeg).toNatClampNeg = M 104 (M 108 a3.toNatClampNeg).toNatClampNeg := by rw [hq91_]; rw [kq88_ 104 _ (outc rfl)]; rw [kq25_ 104 _ (outc rfl)]
          have hq99_ := congrArg Int32.toInt hq94_
          refine T_le rfl rfl (fun hq100_ => ?_) (fun hq100_ => ?_)
          · refine T_ql (i_add rfl l_1 (by omega) (by omega)) ?_
            intro xv101 hq102_
            exact ih a1 a2 xv101 mv84 gq87_ kq89_ (i_rng (lo := 0) (hi := 3) rfl (by omega) (by omega)) (i_rng (lo := 0) (hi := 4) rfl (by omega) (by omega)) (by omega)
          · refine T_qg rfl (by omega) (by omega) ?_
            have hq103_ := r_108 gq87_ a3.toNatClampNeg
            refine T_qg rfl (by omega) (by omega) ?_
            have hq106_ := gq87_.2.2.2.2 ((mv84 108 a3.toNatClampNeg).toNatClampNeg) (by rw [tnc]; omega)
            have hq107_ := r_104 gq87_ ((mv84 108 a3.toNatClampNeg).toNatClampNeg)
            refine T_qc (t_X12_wayWith hn xv13 (xv16 + (1 : Int32)) (mv84 104 ((mv84 108 a3.toNatClampNeg).toNatClampNeg)) mv84 gq87_ (i_rng (lo := 0) (hi := 3) rfl (by omega) (by omega)) (i_rng (lo := 0) (hi := 3) (i_add rfl l_1 (by omega) (by omega)) (by omega) (by omega)) (i_rng (lo := 0) (hi := 3) rfl (by omega) (by omega)) (by have e1 : (xv16 + (1 : Int32)).toInt = _ := (i_add rfl l_1 (by omega) (by omega)); omega)) ?_
            rintro rv104 mv105 ⟨hq108_, gq109_, kq110_⟩
            have hq111_ := kq110_.nil
            subst hq111_
            refine T_qc (t_X12_marks hn a3 rv104 mv84 gq87_ (i_rng (lo := 0) (hi := 3) rfl (by omega) (by omega)) (i_rng (lo := 0) (hi := 19) rfl (by omega) (by omega))) ?_
            rintro rv112 mv113 ⟨hq114_, hq115_, gq116_, kq117_⟩
            have kq118_ := Sm.call kq89_ kq117_ rfl
            have hq119_ : (mv113 77 43).toInt = (mv84 77 43).toInt := by rw [kq117_ 77 43 (by decide)]
            refine T_ql (i_add rfl l_1 (by omega) (by omega)) ?_
            intro xv120 hq121_
            exact ih a1 a2 xv120 mv113 gq116_ kq118_ (i_rng (lo := 0) (hi := 3) rfl (by omega) (by omega)) (i_rng (lo := 0) (hi := 4) rfl (by omega) (by omega)) (by omega)
theorem t_X12_spreads {n : Nat} (hn : 200000 ≤ n) (a1 : Int32) (M : qM) (hG : G M) (pa1 : 0 ≤ a1.toInt ∧ a1.toInt ≤ 3) : qT (f_X12_spreads n a1 M) (po_X12_spreads a1 M) := by
  have hS : Sm l_X12_spreads M M := Sm.rf
  unfold f_X12_spreads
  refine T_qc (t_X12_goesNow hn  M hG ) ?_
  rintro rv122 mv123 ⟨gq124_, kq125_⟩
  have hq126_ := kq125_.nil
  subst hq126_
  exact (t_X12_spreads_7 hn) n a1 rv122 (0 : Int32) M hG hS (i_rng (lo := 0) (hi := 3) rfl (by omega) (by omega)) (i_rng (lo := 0) (hi := 4) l_0 (by omega) (by omega)) (by have e2 : ((0 : Int32)).toInt = _ := l_0; omega)

abbrev l_X12_hoursNow : List Bx := []
abbrev po_X12_hoursNow (M : qM) (v : Int32) (M' : qM) : Prop := G M' ∧ Sm l_X12_hoursNow M M'
theorem t_X12_hoursNow_4 {n : Nat} (hn : 200000 ≤ n) {M0 : qM} : ∀ (m : Nat) (a1 a2 : Int32) (M : qM), G M → Sm l_X12_hoursNow M0 M → 0 ≤ a2.toInt ∧ a2.toInt ≤ 4 → 4 - a2.toInt < (m : Int) → qT (f_X12_hoursNow_4 n m a1 a2 M) (po_X12_hoursNow  M0) := by
  intro m
  induction m with
  | zero =>
    intro a1 a2 M hG hS i0 i3
    exfalso; omega
  | succ m ih =>
    intro a1 a2 M hG hS i0 i3
    show qT (b_X12_hoursNow_4 n (f_X12_hoursNow_4 n m) a1 a2 M) _
    unfold b_X12_hoursNow_4
    have hq3_ := r_77_43 hG
    refine T_le rfl rfl (fun hq4_ => ?_) (fun hq4_ => ?_)
    · exact T_ret ⟨hG, hS⟩
    · refine T_qg rfl (by omega) (by omega) ?_
      have hq5_ := r_108 hG a2.toNatClampNeg
      refine T_qg rfl (by omega) (by omega) ?_
      refine T_qg rfl (by omega) (by omega) ?_
      have hq6_ := r_105 hG a2.toNatClampNeg
      refine T_qg rfl (by omega) (by omega) ?_
      have hq7_ := r_102 hG ((M 108 a2.toNatClampNeg).toNatClampNeg)
      have hq8_ := i_full (M 81 ((M 105 a2.toNatClampNeg).toNatClampNeg))
      have hq9_ := i_full (a1)
      have hq10_ := i_full ((M 102 ((M 108 a2.toNatClampNeg).toNatClampNeg)) * (M 81 ((M 105 a2.toNatClampNeg).toNatClampNeg)))
      refine T_ql rfl ?_
      intro xv11 hq12_
      refine T_ql (i_add rfl l_1 (by omega) (by omega)) ?_
      intro xv13 hq14_
      exact ih xv11 xv13 M hG hS (i_rng (lo := 0) (hi := 4) rfl (by omega) (by omega)) (by omega)
theorem t_X12_hoursNow {n : Nat} (hn : 200000 ≤ n) (M : qM) (hG : G M) : qT (f_X12_hoursNow n  M) (po_X12_hoursNow  M) := by
  have hS : Sm l_X12_hoursNow M M := Sm.rf
  unfold f_X12_hoursNow
  exact (t_X12_hoursNow_4 hn) n (0 : Int32) (0 : Int32) M hG hS (i_rng (lo := 0) (hi := 4) l_0 (by omega) (by omega)) (by have e0 : ((0 : Int32)).toInt = _ := l_0; have e1 : ((0 : Int32)).toInt = _ := l_0; omega)
abbrev l_X12_madeNow : List Bx := []
abbrev po_X12_madeNow (M : qM) (v : Int32) (M' : qM) : Prop := G M' ∧ Sm l_X12_madeNow M M'
theorem t_X12_madeNow_4 {n : Nat} (hn : 200000 ≤ n) {M0 : qM} : ∀ (m : Nat) (a1 a2 : Int32) (M : qM), G M → Sm l_X12_madeNow M0 M → 0 ≤ a2.toInt ∧ a2.toInt ≤ 4 → 4 - a2.toInt < (m : Int) → qT (f_X12_madeNow_4 n m a1 a2 M) (po_X12_madeNow  M0) := by
  intro m
  induction m with
  | zero =>
    intro a1 a2 M hG hS i0 i3
    exfalso; omega
  | succ m ih =>
    intro a1 a2 M hG hS i0 i3
    show qT (b_X12_madeNow_4 n (f_X12_madeNow_4 n m) a1 a2 M) _
    unfold b_X12_madeNow_4
    have hq3_ := r_77_43 hG
    refine T_le rfl rfl (fun hq4_ => ?_) (fun hq4_ => ?_)
    · exact T_ret ⟨hG, hS⟩
    · refine T_qg rfl (by omega) (by omega) ?_
      have hq5_ := r_108 hG a2.toNatClampNeg
      refine T_qg rfl (by omega) (by omega) ?_
      have hq6_ := r_102 hG ((M 108 a2.toNatClampNeg).toNatClampNeg)
      have hq7_ := i_full (a1)
      refine T_ql rfl ?_
      intro xv8 hq9_
      refine T_ql (i_add rfl l_1 (by omega) (by omega)) ?_
      intro xv10 hq11_
      exact ih xv8 xv10 M hG hS (i_rng (lo := 0) (hi := 4) rfl (by omega) (by omega)) (by omega)
theorem t_X12_madeNow {n : Nat} (hn : 200000 ≤ n) (M : qM) (hG : G M) : qT (f_X12_madeNow n  M) (po_X12_madeNow  M) := by
  have hS : Sm l_X12_madeNow M M := Sm.rf
  unfold f_X12_madeNow
  exact (t_X12_madeNow_4 hn) n (0 : Int32) (0 : Int32) M hG hS (i_rng (lo := 0) (hi := 4) l_0 (by omega) (by omega)) (by have e0 : ((0 : Int32)).toInt = _ := l_0; have e1 : ((0 : Int32)).toInt = _ := l_0; omega)
abbrev l_X12_soonest : List Bx := [(77, 78, 43, 45), (96, 98, 0, 0), (105, 109, 0, 0), (110, 111, 0, 0)]
abbrev po_X12_soonest (a1 a2 a3 a4 a5 : Int32) (M : qM) (v : Int32) (M' : qM) : Prop := G M' ∧ Sm l_X12_soonest M M'
theorem t_X12_soonest_92 {n : Nat} (hn : 200000 ≤ n) {oa1 oa2 oa3 oa4 oa5 : Int32} {M0 : qM} : ∀ (m : Nat) (a4 a5 a6 a7 a8 a9 : Int32) (M : qM), G M → Sm l_X12_soonest M0 M → 0 ≤ a4.toInt ∧ a4.toInt ≤ 3 → 0 ≤ a5.toInt ∧ a5.toInt ≤ 1 → 1 ≤ a6.toInt ∧ a6.toInt ≤ 160000 → 0 ≤ a7.toInt ∧ a7.toInt ≤ 3 → (-2147483648) ≤ a8.toInt ∧ a8.toInt ≤ 1000000000 → 0 ≤ a9.toInt ∧ a9.toInt ≤ 160000 → 160000 - a9.toInt < (m : Int) → qT (f_X12_soonest_92 n m a4 a5 a6 a7 a8 a9 M) (po_X12_soonest oa1 oa2 oa3 oa4 oa5 M0) := by
  intro m
  induction m with
  | zero =>
    intro a4 a5 a6 a7 a8 a9 M hG hS i0 i1 i2 i3 i4 i5 i8
    exfalso; omega
  | succ m ih =>
    intro a4 a5 a6 a7 a8 a9 M hG hS i0 i1 i2 i3 i4 i5 i8
    show qT (b_X12_soonest_92 n (f_X12_soonest_92 n m) a4 a5 a6 a7 a8 a9 M) _
    unfold b_X12_soonest_92
    refine T_le rfl rfl (fun hq4_ => ?_) (fun hq4_ => ?_)
    · refine T_eq rfl l_1000000000 (fun hq5_ => ?_) (fun hq5_ => ?_)
      · exact T_ret ⟨hG, hS⟩
      · refine T_eq rfl l_0 (fun hq6_ => ?_) (fun hq6_ => ?_)
        · have hq7_ := i_full (a8)
          exact T_ret ⟨hG, hS⟩
        · have hq8_ := i_full (a8)
          have hq9_ := i_full (a8 / (16 : Int32))
          have hq10_ := i_full ((a8 / (16 : Int32)) * (16 : Int32))
          exact T_ret ⟨hG, hS⟩
    · refine T_qg rfl (by omega) (by omega) ?_
      have hq11_ := r_110 hG a9.toNatClampNeg
      refine T_eq rfl l_0 (fun hq12_ => ?_) (fun hq12_ => ?_)
      · refine T_ql (i_add rfl l_1 (by omega) (by omega)) ?_
        intro xv13 hq14_
        have hq15_ := i_full (a8)
        exact ih a4 a5 a6 a7 a8 xv13 M hG hS (i_rng (lo := 0) (hi := 3) rfl (by omega) (by omega)) (i_rng (lo := 0) (hi := 1) rfl (by omega) (by omega)) (i_rng (lo := 1) (hi := 160000) rfl (by omega) (by omega)) (i_rng (lo := 0) (hi := 3) rfl (by omega) (by omega)) (i_rng (lo := (-2147483648)) (hi := 1000000000) rfl (by omega) (by omega)) (i_rng (lo := 0) (hi := 160000) rfl (by omega) (by omega)) (by omega)
      · refine T_qc (t_X12_takesState hn a9 M hG (i_rng (lo := 0) (hi := 159999) rfl (by omega) (by omega))) ?_
        rintro rv16 mv17 ⟨hq18_, gq19_, kq20_⟩
        have kq21_ := Sm.call hS kq20_ rfl
        have hq22_ : (mv17 110 a9.toNatClampNeg).toInt = (M 110 a9.toNatClampNeg).toInt := by rw [kq20_ 110 _ (outc rfl)]
        refine T_qg rfl (by omega) (by omega) ?_
        have hq23_ := r_108 gq19_ a7.toNatClampNeg
        refine T_qg rfl (by omega) (by omega) ?_
        have hq24_ := r_104 gq19_ ((mv17 108 a7.toNatClampNeg).toNatClampNeg)
        refine T_le rfl l_0 (fun hq25_ => ?_) (fun hq25_ => ?_)
        · refine T_qc (t_X12_spreads hn a4 mv17 gq19_ (i_rng (lo := 0) (hi := 3) rfl (by omega) (by omega))) ?_
          rintro rv26 mv27 ⟨hq28_, gq29_, kq30_⟩
          have kq31_ := Sm.call kq21_ kq30_ rfl
          have hq32_ : (mv27 104 ((mv17 108 a7.toNatClampNeg).toNatClampNeg)).toInt = (mv17 104 ((mv17 108 a7.toNatClampNeg).toNatClampNeg)).toInt := by rw [kq30_ 104 _ (outc rfl)]
          refine T_ql (i_add rfl l_1 (by omega) (by omega)) ?_
          intro xv33 hq34_
          have hq35_ := i_full (a8)
          exact ih a4 a5 a6 a7 a8 xv33 mv27 gq29_ kq31_ (i_rng (lo := 0) (hi := 3) rfl (by omega) (by omega)) (i_rng (lo := 0) (hi := 1) rfl (by omega) (by omega)) (i_rng (lo := 1) (hi := 160000) rfl (by omega) (by omega)) (i_rng (lo := 0) (hi := 3) rfl (by omega) (by omega)) (i_rng (lo := (-2147483648)) (hi := 1000000000) rfl (by omega) (by omega)) (i_rng (lo := 0) (hi := 160000) rfl (by omega) (by omega)) (by omega)
        · refine T_qc (t_X12_hoursNow hn  mv17 gq19_ ) ?_
          rintro rv36 mv37 ⟨gq38_, kq39_⟩
          have hq40_ := kq39_.nil
          subst hq40_
          refine T_qc (t_X12_madeNow hn  mv17 gq19_ ) ?_
          rintro rv41 mv42 ⟨gq43_, kq44_⟩
          have hq45_ := kq44_.nil
          subst hq45_
          have hq48_ := i_full (a8)
          have hq49_ := i_full (rv36)
          have hq50_ := i_full ((16 : Int32) * rv36)
          have hq51_ := i_full (rv41)
          refine T_qc (t_X12_min hn a8 (((16 : Int32) * rv36) + rv41) mv17 gq19_ (i_rng (lo := (-2147483648)) (hi := 1000000000) rfl (by omega) (by omega))) ?_
          rintro rv46 mv47 ⟨hq52_, gq53_, kq54_⟩
          have hq55_ := kq54_.nil
          subst hq55_
          refine T_ql (i_add rfl l_1 (by omega) (by omega)) ?_
          intro xv56 hq57_
          have hq58_ := i_full (rv46)
          exact ih a4 a5 a6 a7 rv46 xv56 mv17 gq19_ kq21_ (i_rng (lo := 0) (hi := 3) rfl (by omega) (by omega)) (i_rng (lo := 0) (hi := 1) rfl (by omega) (by omega)) (i_rng (lo := 1) (hi := 160000) rfl (by omega) (by omega)) (i_rng (lo := 0) (hi := 3) rfl (by omega) (by omega)) (i_rng (lo := (-2147483648)) (hi := 1000000000) rfl (by omega) (by omega)) (i_rng (lo := 0) (hi := 160000) rfl (by omega) (by omega)) (by omega)
theorem t_X12_soonest_59 {n : Nat} (hn : 200000 ≤ n) {oa1 oa2 oa3 oa4 oa5 : Int32} {M0 : qM} : ∀ (m : Nat) (a4 a5 a6 a7 a8 a9 : Int32) (M : qM), G M → Sm l_X12_soonest M0 M → 0 ≤ a4.toInt ∧ a4.toInt ≤ 3 → 0 ≤ a5.toInt ∧ a5.toInt ≤ 1 → 1 ≤ a6.toInt ∧ a6.toInt ≤ 160000 → 0 ≤ a7.toInt ∧ a7.toInt ≤ 3 → 1000000000 ≤ a8.toInt ∧ a8.toInt ≤ 1000000000 → 0 ≤ a9.toInt ∧ a9.toInt ≤ 160000 → 160000 - a9.toInt < (m : Int) → qT (f_X12_soonest_59 n m a4 a5 a6 a7 a8 a9 M) (po_X12_soonest oa1 oa2 oa3 oa4 oa5 M0) := by
  intro m
  induction m with
  | zero =>
    intro a4 a5 a6 a7 a8 a9 M hG hS i0 i1 i2 i3 i4 i5 i8
    exfalso; omega
  | succ m ih =>
    intro a4 a5 a6 a7 a8 a9 M hG hS i0 i1 i2 i3 i4 i5 i8
    show qT (b_X12_soonest_59 n (f_X12_soonest_59 n m) a4 a5 a6 a7 a8 a9 M) _
    unfold b_X12_soonest_59
    refine T_le rfl rfl (fun hq61_ => ?_) (fun hq61_ => ?_)
    · have hq62_ := i_full (a8)
      exact (t_X12_soonest_92 hn) n a4 a5 a6 a7 a8 (0 : Int32) M hG hS (i_rng (lo := 0) (hi := 3) rfl (by omega) (by omega)) (i_rng (lo := 0) (hi := 1) rfl (by omega) (by omega)) (i_rng (lo := 1) (hi := 160000) rfl (by omega) (by omega)) (i_rng (lo := 0) (hi := 3) rfl (by omega) (by omega)) (i_rng (lo := (-2147483648)) (hi := 1000000000) rfl (by omega) (by omega)) (i_rng (lo := 0) (hi := 160000) l_0 (by omega) (by omega)) (by have e5 : ((0 : Int32)).toInt = _ := l_0; omega)
    · refine T_eq rfl l_0 (fun hq63_ => ?_) (fun hq63_ => ?_)
      · refine T_qg rfl (by omega) (by omega) ?_
        have hq65_ := i_bool (1 : Int32)
        refine T_mu hG hS (i_rng (lo := 0) (hi := 1) rfl (by omega) (by omega)) (nw_110 _) (i := 3) rfl ⟨by decide, by decide, Or.inl rfl⟩ ?_
        intro mv64 hq66_ gq67_ kq68_
        have hq69_ : (mv64 110 a9.toNatClampNeg).toInt = (vp_nar .boolean (1 : Int32)).toInt := by rw [hq66_, mu_at]
        refine T_ql (i_add rfl l_1 (by omega) (by omega)) ?_
        intro xv70 hq71_
        exact ih a4 a5 a6 a7 a8 xv70 mv64 gq67_ kq68_ (i_rng (lo := 0) (hi := 3) rfl (by omega) (by omega)) (i_rng (lo := 0) (hi := 1) rfl (by omega) (by omega)) (i_rng (lo := 1) (hi := 160000) rfl (by omega) (by omega)) (i_rng (lo := 0) (hi := 3) rfl (by omega) (by omega)) (i_rng (lo := 1000000000) (hi := 1000000000) rfl (by omega) (by omega)) (i_rng (lo := 0) (hi := 160000) rfl (by omega) (by omega)) (by omega)
      · refine T_qg rfl (by omega) (by omega) ?_
        have hq73_ := i_bool (0 : Int32)
        refine T_mu hG hS (i_rng (lo := 0) (hi := 1) rfl (by omega) (by omega)) (nw_110 _) (i := 3) rfl ⟨by decide, by decide, Or.inl rfl⟩ ?_
        intro mv72 hq74_ gq75_ kq76_
        have hq77_ : (mv72 110 a9.toNatClampNeg).toInt = (vp_nar .boolean (0 : Int32)).toInt := by rw [hq74_, mu_at]
        refine T_ql (i_add rfl l_1 (by omega) (by omega)) ?_
        intro xv78 hq79_
        exact ih a4 a5 a6 a7 a8 xv78 mv72 gq75_ kq76_ (i_rng (lo := 0) (hi := 3) rfl (by omega) (by omega)) (i_rng (lo := 0) (hi := 1) rfl (by omega) (by omega)) (i_rng (lo := 1) (hi := 160000) rfl (by omega) (by omega)) (i_rng (lo := 0) (hi := 3) rfl (by omega) (by omega)) (i_rng (lo := 1000000000) (hi := 1000000000) rfl (by omega) (by omega)) (i_rng (lo := 0) (hi := 160000) rfl (by omega) (by omega)) (by omega)
theorem t_X12_soonest {n : Nat} (hn : 200000 ≤ n) (a1 a2 a3 a4 a5 : Int32) (M : qM) (hG : G M) : qT (f_X12_soonest n a1 a2 a3 a4 a5 M) (po_X12_soonest a1 a2 a3 a4 a5 M) := by
  have hS : Sm l_X12_soonest M M := Sm.rf
  unfold f_X12_soonest
  refine T_qc (t_X12_areSome hn a1 a2 a3 M hG ) ?_
  rintro rv80 mv81 ⟨hq82_, hq83_, gq84_, kq85_⟩
  have hq86_ := kq85_.nil
  subst hq86_
  refine T_eq rfl l_0 (fun hq87_ => ?_) (fun hq87_ => ?_)
  · exact T_ret ⟨hG, hS⟩
  · have hq90_ := (show ((0 : Int32)).toInt = _ from l_0)
    have hq91_ := (show ((3 : Int32)).toInt = _ from l_3)
    refine T_qc (t_X12_in hn a4 (0 : Int32) (3 : Int32) M hG (i_rng (lo := 0) (hi := 70) l_0 (by omega) (by omega)) (i_rng (lo := 0) (hi := 99999) l_3 (by omega) (by omega))) ?_
    rintro rv88 mv89 ⟨hq92_, hq93_, gq94_, kq95_⟩
    have hq96_ := kq95_.nil
    subst hq96_
    refine T_eq rfl l_0 (fun hq97_ => ?_) (fun hq97_ => ?_)
    · exact T_ret ⟨hG, hS⟩
    · have hq100_ := (show ((1 : Int32)).toInt = _ from l_1)
      refine T_qc (t_X12_in hn a5 (0 : Int32) (1 : Int32) M hG (i_rng (lo := 0) (hi := 70) l_0 (by omega) (by omega)) (i_rng (lo := 0) (hi := 99999) l_1 (by omega) (by omega))) ?_
      rintro rv98 mv99 ⟨hq101_, hq102_, gq103_, kq104_⟩
      have hq105_ := kq104_.nil
      subst hq105_
      refine T_eq rfl l_0 (fun hq106_ => ?_) (fun hq106_ => ?_)
      · exact T_ret ⟨hG, hS⟩
      · refine T_qc (t_X12_laysOwn hn a1 a2 M hG (i_rng (lo := 0) (hi := 7) rfl (by omega) (by omega)) (by omega)) ?_
        rintro rv107 mv108 ⟨hq109_, hq110_, gq111_, kq112_⟩
        have kq113_ := Sm.call hS kq112_ rfl
        refine T_qc (t_X12_statesAll hn  mv108 gq111_ ) ?_
        rintro rv114 mv115 ⟨hq116_, gq117_, kq118_⟩
        have hq119_ := kq118_.nil
        subst hq119_
        refine T_qc (t_X12_placeOf hn a3 mv108 gq111_ (i_rng (lo := 0) (hi := 11) rfl (by omega) (by omega)) (hq110_ a3 (by omega) (by omega) (by omega))) ?_
        rintro rv120 mv121 ⟨hq122_, gq123_, kq124_⟩
        have hq125_ := kq124_.nil
        subst hq125_
        exact (t_X12_soonest_59 hn) n a4 a5 rv114 rv120 (1000000000 : Int32) (0 : Int32) mv108 gq111_ kq113_ (i_rng (lo := 0) (hi := 3) rfl (by omega) (by omega)) (i_rng (lo := 0) (hi := 1) rfl (by omega) (by omega)) (i_rng (lo := 1) (hi := 160000) rfl (by omega) (by omega)) (i_rng (lo := 0) (hi := 3) rfl (by omega) (by omega)) (i_rng (lo := 1000000000) (hi := 1000000000) l_1000000000 (by omega) (by omega)) (i_rng (lo := 0) (hi := 160000) l_0 (by omega) (by omega)) (by have e4 : ((1000000000 : Int32)).toInt = _ := l_1000000000; have e5 : ((0 : Int32)).toInt = _ := l_0; omega)
abbrev l_X7_tryGoes : List Bx := [(56, 57, 12, 14), (63, 64, 0, 0)]
abbrev po_X7_tryGoes (a1 a2 a3 a4 a5 : Int32) (M : qM) (v : Int32) (M' : qM) : Prop := (0 ≤ v.toInt ∧ v.toInt ≤ 0) ∧ G M' ∧ Sm l_X7_tryGoes M M'
theorem t_X7_tryGoes_67 {n : Nat} (hn : 200000 ≤ n) {B : Nat} {F_X7_tryGoes : Int32 → Int32 → Int32 → Int32 → Int32 → qM → qR} (hF_X7_tryGoes : ∀ (a1 a2 a3 a4 a5 : Int32) (M : qM), G M → 0 ≤ a1.toInt ∧ a1.toInt ≤ 4 → 0 ≤ a4.toInt ∧ a4.toInt ≤ 3 → 0 ≤ a5.toInt ∧ a5.toInt ≤ 200 → 4 - a1.toInt < (B : Int) → qT (F_X7_tryGoes a1 a2 a3 a4 a5 M) (po_X7_tryGoes a1 a2 a3 a4 a5 M)) {oa1 oa2 oa3 oa4 oa5 : Int32} {M0 : qM} : ∀ (m : Nat) (a1 a2 a3 a4 a5 a6 : Int32) (M : qM), G M → Sm l_X7_tryGoes M0 M → 0 ≤ a1.toInt ∧ a1.toInt ≤ 3 → 0 ≤ a4.toInt ∧ a4.toInt ≤ 3 → 0 ≤ a5.toInt ∧ a5.toInt ≤ 200 → 0 ≤ a6.toInt ∧ a6.toInt ≤ 4 → 4 - a1.toInt < (B : Int) + 1 → 4 - a6.toInt < (m : Int) → qT (f_X7_tryGoes_67 n F_X7_tryGoes m a1 a2 a3 a4 a5 a6 M) (po_X7_tryGoes oa1 oa2 oa3 oa4 oa5 M0) := by
  intro m
  induction m with
  | zero =>
    intro a1 a2 a3 a4 a5 a6 M hG hS i0 i1 i2 i3 i6 i7
    exfalso; omega
  | succ m ih =>
    intro a1 a2 a3 a4 a5 a6 M hG hS i0 i1 i2 i3 i6 i7
    show qT (b_X7_tryGoes_67 n F_X7_tryGoes (f_X7_tryGoes_67 n F_X7_tryGoes m) a1 a2 a3 a4 a5 a6 M) _
    unfold b_X7_tryGoes_67
    refine T_lt rfl rfl (fun hq5_ => ?_) (fun hq5_ => ?_)
    · exact T_ret ⟨(i_rng (lo := 0) (hi := 0) l_0 (by omega) (by omega)), hG, hS⟩
    · refine T_eq rfl l_0 (fun hq6_ => ?_) (fun hq6_ => ?_)
      · unfold f_X7_tryGoes_90
        refine T_ql rfl ?_
        intro xv7 hq8_
        refine T_qg rfl (by omega) (by omega) ?_
        have hq11_ := i_full (a2)
        have hq12_ := i_full (xv7)
        have hq13_ := i_full (M 61 a1.toNatClampNeg)
        have hq14_ := i_full (a3)
        have hq15_ := i_full (a6 * (M 61 a1.toNatClampNeg))
        refine T_qc (hF_X7_tryGoes (a1 + (1 : Int32)) (a2 + xv7) (a3 + (a6 * (M 61 a1.toNatClampNeg))) (a4 - a6) a5 M hG (i_rng (lo := 0) (hi := 4) (i_add rfl l_1 (by omega) (by omega)) (by omega) (by omega)) (i_rng (lo := 0) (hi := 3) (i_sub rfl rfl (by omega) (by omega)) (by omega) (by omega)) (i_rng (lo := 0) (hi := 200) rfl (by omega) (by omega)) (by have e0 : (a1 + (1 : Int32)).toInt = _ := (i_add rfl l_1 (by omega) (by omega)); have e3 : (a4 - a6).toInt = _ := (i_sub rfl rfl (by omega) (by omega)); omega)) ?_
        rintro rv9 mv10 ⟨hq16_, gq17_, kq18_⟩
        have kq19_ := Sm.call hS kq18_ rfl
        refine T_ql (i_add rfl l_1 (by omega) (by omega)) ?_
        intro xv20 hq21_
        exact ih a1 a2 a3 a4 a5 xv20 mv10 gq17_ kq19_ (i_rng (lo := 0) (hi := 3) rfl (by omega) (by omega)) (i_rng (lo := 0) (hi := 3) rfl (by omega) (by omega)) (i_rng (lo := 0) (hi := 200) rfl (by omega) (by omega)) (i_rng (lo := 0) (hi := 4) rfl (by omega) (by omega)) (by omega) (by omega)
      · refine T_qg rfl (by omega) (by omega) ?_
        refine T_le l_1048576 rfl (fun hq22_ => ?_) (fun hq22_ => ?_)
        · exact T_ret ⟨(i_rng (lo := 0) (hi := 0) l_0 (by omega) (by omega)), hG, hS⟩
        · unfold f_X7_tryGoes_90
          refine T_ql rfl ?_
          intro xv23 hq24_
          refine T_qg rfl (by omega) (by omega) ?_
          have hq27_ := i_full (a2)
          have hq28_ := i_full (xv23)
          have hq29_ := i_full (M 61 a1.toNatClampNeg)
          have hq30_ := i_full (a3)
          have hq31_ := i_full (a6 * (M 61 a1.toNatClampNeg))
          refine T_qc (hF_X7_tryGoes (a1 + (1 : Int32)) (a2 + xv23) (a3 + (a6 * (M 61 a1.toNatClampNeg))) (a4 - a6) a5 M hG (i_rng (lo := 0) (hi := 4) (i_add rfl l_1 (by omega) (by omega)) (by omega) (by omega)) (i_rng (lo := 0) (hi := 3) (i_sub rfl rfl (by omega) (by omega)) (by omega) (by omega)) (i_rng (lo := 0) (hi := 200) rfl (by omega) (by omega)) (by have e0 : (a1 + (1 : Int32)).toInt = _ := (i_add rfl l_1 (by omega) (by omega)); have e3 : (a4 - a6).toInt = _ := (i_sub rfl rfl (by omega) (by omega)); omega)) ?_
          rintro rv25 mv26 ⟨hq32_, gq33_, kq34_⟩
          have kq35_ := Sm.call hS kq34_ rfl
          have hq36_ : (mv26 61 a1.toNatClampNeg).toInt = (M 61 a1.toNatClampNeg).toInt := by rw [kq34_ 61 _ (outc rfl)]
          refine T_ql (i_add rfl l_1 (by omega) (by omega)) ?_
          intro xv37 hq38_
          exact ih a1 a2 a3 a4 a5 xv37 mv26 gq33_ kq35_ (i_rng (lo := 0) (hi := 3) rfl (by omega) (by omega)) (i_rng (lo := 0) (hi := 3) rfl (by omega) (by omega)) (i_rng (lo := 0) (hi := 200) rfl (by omega) (by omega)) (i_rng (lo := 0) (hi := 4) rfl (by omega) (by omega)) (by omega) (by omega)
theorem to_X7_tryGoes {n : Nat} (hn : 200000 ≤ n) {B : Nat} {F_X7_tryGoes : Int32 → Int32 → Int32 → Int32 → Int32 → qM → qR} (hF_X7_tryGoes : ∀ (a1 a2 a3 a4 a5 : Int32) (M : qM), G M → 0 ≤ a1.toInt ∧ a1.toInt ≤ 4 → 0 ≤ a4.toInt ∧ a4.toInt ≤ 3 → 0 ≤ a5.toInt ∧ a5.toInt ≤ 200 → 4 - a1.toInt < (B : Int) → qT (F_X7_tryGoes a1 a2 a3 a4 a5 M) (po_X7_tryGoes a1 a2 a3 a4 a5 M)) (a1 a2 a3 a4 a5 : Int32) (M : qM) (hG : G M) (pa1 : 0 ≤ a1.toInt ∧ a1.toInt ≤ 4) (pa4 : 0 ≤ a4.toInt ∧ a4.toInt ≤ 3) (pa5 : 0 ≤ a5.toInt ∧ a5.toInt ≤ 200) (hb : 4 - a1.toInt < (B : Int) + 1) : qT (fo_X7_tryGoes n F_X7_tryGoes a1 a2 a3 a4 a5 M) (po_X7_tryGoes a1 a2 a3 a4 a5 M) := by
  have hS : Sm l_X7_tryGoes M M := Sm.rf
  unfold fo_X7_tryGoes
  have hq39_ := r_56_10 hG
  refine T_lt rfl rfl (fun hq40_ => ?_) (fun hq40_ => ?_)
  · exact (t_X7_tryGoes_67 hn hF_X7_tryGoes) n a1 a2 a3 a4 a5 (0 : Int32) M hG hS (i_rng (lo := 0) (hi := 3) rfl (by omega) (by omega)) (i_rng (lo := 0) (hi := 3) rfl (by omega) (by omega)) (i_rng (lo := 0) (hi := 200) rfl (by omega) (by omega)) (i_rng (lo := 0) (hi := 4) l_0 (by omega) (by omega)) (by omega) (by have e5 : ((0 : Int32)).toInt = _ := l_0; omega)
  · refine T_qc (t_X7_bestWay hn a2 (0 : Int32) (0 : Int32) M hG (i_rng (lo := 0) (hi := 3) l_0 (by omega) (by omega)) (i_rng (lo := 0) (hi := 13) l_0 (by omega) (by omega))) ?_
    rintro rv41 mv42 ⟨gq43_, kq44_⟩
    have kq45_ := Sm.call hS kq44_ rfl
    have hq46_ : (mv42 56 10).toInt = (M 56 10).toInt := by rw [kq44_ 56 10 (by decide)]
    have hq47_ := i_full (rv41)
    refine T_ql rfl ?_
    intro xv48 hq49_
    refine T_lt rfl rfl (fun hq50_ => ?_) (fun hq50_ => ?_)
    · exact T_ret ⟨(i_rng (lo := 0) (hi := 0) l_0 (by omega) (by omega)), gq43_, kq45_⟩
    · refine T_lt rfl rfl (fun hq51_ => ?_) (fun hq51_ => ?_)
      · unfold f_X7_tryGoes_52
        refine T_mu gq43_ kq45_ (rn_56_12 _) (nw_56 _) (i := 0) rfl ⟨by decide, by decide, Or.inr ⟨by decide, by decide⟩⟩ ?_
        intro mv52 hq53_ gq54_ kq55_
        have hq56_ : (mv52 56 10).toInt = (mv42 56 10).toInt := by rw [hq53_, mu_ne (Or.inr (by decide))]
        have hq57_ : (mv52 56 12).toInt = a3.toInt := by rw [hq53_, mu_at]
        refine T_mu gq54_ kq55_ (rn_56_13 _) (nw_56 _) (i := 0) rfl ⟨by decide, by decide, Or.inr ⟨by decide, by decide⟩⟩ ?_
        intro mv58 hq59_ gq60_ kq61_
        have hq62_ : (mv58 56 10).toInt = (mv52 56 10).toInt := by rw [hq59_, mu_ne (Or.inr (by decide))]
        have hq63_ : (mv58 56 12).toInt = (mv52 56 12).toInt := by rw [hq59_, mu_ne (Or.inr (by decide))]
        have hq64_ : (mv58 56 13).toInt = xv48.toInt := by rw [hq59_, mu_at]
        exact T_ret ⟨(i_rng (lo := 0) (hi := 0) l_0 (by omega) (by omega)), gq60_, kq61_⟩
      · refine T_eq rfl rfl (fun hq65_ => ?_) (fun hq65_ => ?_)
        · refine T_le rfl rfl (fun hq66_ => ?_) (fun hq66_ => ?_)
          · exact T_ret ⟨(i_rng (lo := 0) (hi := 0) l_0 (by omega) (by omega)), gq43_, kq45_⟩
          · unfold f_X7_tryGoes_52
            refine T_mu gq43_ kq45_ (rn_56_12 _) (nw_56 _) (i := 0) rfl ⟨by decide, by decide, Or.inr ⟨by decide, by decide⟩⟩ ?_
            intro mv67 hq68_ gq69_ kq70_
            have hq71_ : (mv67 56 10).toInt = (mv42 56 10).toInt := by rw [hq68_, mu_ne (Or.inr (by decide))]
            have hq72_ : (mv67 56 13).toInt = (mv42 56 13).toInt := by rw [hq68_, mu_ne (Or.inr (by decide))]
            have hq73_ : (mv67 56 12).toInt = a3.toInt := by rw [hq68_, mu_at]
            refine T_mu gq69_ kq70_ (rn_56_13 _) (nw_56 _) (i := 0) rfl ⟨by decide, by decide, Or.inr ⟨by decide, by decide⟩⟩ ?_
            intro mv74 hq75_ gq76_ kq77_
            have hq78_ : (mv74 56 10).toInt = (mv67 56 10).toInt := by rw [hq75_, mu_ne (Or.inr (by decide))]
            have hq79_ : (mv74 56 12).toInt = (mv67 56 12).toInt := by rw [hq75_, mu_ne (Or.inr (by decide))]
            have hq80_ : (mv74 56 13).toInt = xv48.toInt := by rw [hq75_, mu_at]
            exact T_ret ⟨(i_rng (lo := 0) (hi := 0) l_0 (by omega) (by omega)), gq76_, kq77_⟩
        · exact T_ret ⟨(i_rng (lo := 0) (hi := 0) l_0 (by omega) (by omega)), gq43_, kq45_⟩
theorem trc_X7_tryGoes {n : Nat} (hn : 200000 ≤ n) : ∀ m : Nat, (∀ (a1 a2 a3 a4 a5 : Int32) (M : qM), G M → 0 ≤ a1.toInt ∧ a1.toInt ≤ 4 → 0 ≤ a4.toInt ∧ a4.toInt ≤ 3 → 0 ≤ a5.toInt ∧ a5.toInt ≤ 200 → 4 - a1.toInt < (m : Int) → qT (rc_X7_tryGoes n m a1 a2 a3 a4 a5 M) (po_X7_tryGoes a1 a2 a3 a4 a5 M)) := by
  intro m
  induction m with
  | zero =>
    exact fun a1 a2 a3 a4 a5 M q0 q1 q2 q3 q4 => by exfalso; omega
  | succ m ih =>
    refine ?_
    · exact fun a1 a2 a3 a4 a5 M q0 q1 q2 q3 q4 => to_X7_tryGoes hn (B := m) (ih) a1 a2 a3 a4 a5 M q0 q1 q2 q3 (by omega)
theorem t_X7_tryGoes {n : Nat} (hn : 200000 ≤ n) (a1 a2 a3 a4 a5 : Int32) (M : qM) (hG : G M) (pa1 : 0 ≤ a1.toInt ∧ a1.toInt ≤ 4) (pa4 : 0 ≤ a4.toInt ∧ a4.toInt ≤ 3) (pa5 : 0 ≤ a5.toInt ∧ a5.toInt ≤ 200) : qT (f_X7_tryGoes n a1 a2 a3 a4 a5 M) (po_X7_tryGoes a1 a2 a3 a4 a5 M) := by
  unfold f_X7_tryGoes
  exact (trc_X7_tryGoes hn 8) a1 a2 a3 a4 a5 M hG pa1 pa4 pa5 (by omega)
abbrev l_X7_leastPrice_c7 : List Bx := [(34, 35, 4, 5), (35, 37, 0, 0)]
abbrev po_X7_leastPrice_c7 (a2 a3 : Int32) (M : qM) (v : Int32) (M' : qM) : Prop := ((-2147483648) ≤ v.toInt ∧ v.toInt ≤ 1048576) ∧ G M' ∧ Sm l_X7_leastPrice_c7 M M'
theorem t_X7_leastPrice_c7_7 {n : Nat} (hn : 200000 ≤ n) {j : Nat} (hj : q_isLaw j) {oa2 oa3 : Int32} {M0 : qM} : ∀ (m : Nat) (a2 a3 a4 a5 : Int32) (M : qM), G M → Sm l_X7_leastPrice_c7 M0 M → 0 ≤ a2.toInt ∧ a2.toInt ≤ 7 → 0 ≤ a3.toInt ∧ a3.toInt ≤ 11 → (-2147483648) ≤ a4.toInt ∧ a4.toInt ≤ 1048576 → 0 ≤ a5.toInt ∧ a5.toInt ≤ 8 → 8 - a5.toInt < (m : Int) → qT (f_X7_leastPrice_7 n 7 j m a2 a3 a4 a5 M) (po_X7_leastPrice_c7 oa2 oa3 M0) := by
  intro m
  induction m with
  | zero =>
    intro a2 a3 a4 a5 M hG hS i0 i1 i2 i3 i6
    exfalso; omega
  | succ m ih =>
    intro a2 a3 a4 a5 M hG hS i0 i1 i2 i3 i6
    show qT (b_X7_leastPrice_7 n 7 j (f_X7_leastPrice_7 n 7 j m) a2 a3 a4 a5 M) _
    unfold b_X7_leastPrice_7
    try simp only [Nat.reduceAdd]
    refine T_le l_8 rfl (fun hq6_ => ?_) (fun hq6_ => ?_)
    · have hq7_ := i_full (a4)
      exact T_ret ⟨(i_rng (lo := (-2147483648)) (hi := 1048576) rfl (by omega) (by omega)), hG, hS⟩
    · refine T_eq rfl rfl (fun hq8_ => ?_) (fun hq8_ => ?_)
      · refine T_ql (i_add rfl l_1 (by omega) (by omega)) ?_
        intro xv9 hq10_
        have hq11_ := i_full (a4)
        exact ih a2 a3 a4 xv9 M hG hS (i_rng (lo := 0) (hi := 7) rfl (by omega) (by omega)) (i_rng (lo := 0) (hi := 11) rfl (by omega) (by omega)) (i_rng (lo := (-2147483648)) (hi := 1048576) rfl (by omega) (by omega)) (i_rng (lo := 0) (hi := 8) rfl (by omega) (by omega)) (by omega)
      · refine T_qc (t_X10_knows_c7 hn a5 M hG ) ?_
        rintro rv12 mv13 ⟨hq14_, hq15_, gq16_, kq17_⟩
        have hq18_ := kq17_.nil
        subst hq18_
        refine T_eq rfl l_0 (fun hq19_ => ?_) (fun hq19_ => ?_)
        · refine T_ql (i_add rfl l_1 (by omega) (by omega)) ?_
          intro xv20 hq21_
          have hq22_ := i_full (a4)
          exact ih a2 a3 a4 xv20 M hG hS (i_rng (lo := 0) (hi := 7) rfl (by omega) (by omega)) (i_rng (lo := 0) (hi := 11) rfl (by omega) (by omega)) (i_rng (lo := (-2147483648)) (hi := 1048576) rfl (by omega) (by omega)) (i_rng (lo := 0) (hi := 8) rfl (by omega) (by omega)) (by omega)
        · refine T_qg (i_add (i_mul rfl l_12 (by omega) (by omega)) rfl (by omega) (by omega)) (by omega) (by omega) ?_
          refine T_le rfl l_0 (fun hq23_ => ?_) (fun hq23_ => ?_)
          · refine T_ql (i_add rfl l_1 (by omega) (by omega)) ?_
            intro xv24 hq25_
            have hq26_ := i_full (a4)
            exact ih a2 a3 a4 xv24 M hG hS (i_rng (lo := 0) (hi := 7) rfl (by omega) (by omega)) (i_rng (lo := 0) (hi := 11) rfl (by omega) (by omega)) (i_rng (lo := (-2147483648)) (hi := 1048576) rfl (by omega) (by omega)) (i_rng (lo := 0) (hi := 8) rfl (by omega) (by omega)) (by omega)
          · refine T_qc (t_X0_price_c7 hn hj a2 a3 a5 M hG (i_rng (lo := 0) (hi := 7) rfl (by omega) (by omega)) (i_rng (lo := 0) (hi := 11) rfl (by omega) (by omega)) (i_rng (lo := 0) (hi := 7) rfl (by omega) (by omega))) ?_
            rintro rv27 mv28 ⟨hq29_, gq30_, kq31_⟩
            have kq32_ := Sm.call hS kq31_ rfl
            have hq33_ : (mv28 9 (((a5 * (12 : Int32)) + a3).toNatClampNeg)).toInt = (M 9 (((a5 * (12 : Int32)) + a3).toNatClampNeg)).toInt := by rw [kq31_ 9 _ (outc rfl)]
            have hq34_ := i_min (a := a4) (b := rv27) rfl rfl
            refine T_ql rfl ?_
            intro xv35 hq36_
            refine T_ql (i_add rfl l_1 (by omega) (by omega)) ?_
            intro xv37 hq38_
            have hq39_ := i_full (xv35)
            exact ih a2 a3 xv35 xv37 mv28 gq30_ kq32_ (i_rng (lo := 0) (hi := 7) rfl (by omega) (by omega)) (i_rng (lo := 0) (hi := 11) rfl (by omega) (by omega)) (i_rng (lo := (-2147483648)) (hi := 1048576) rfl (by omega) (by omega)) (i_rng (lo := 0) (hi := 8) rfl (by omega) (by omega)) (by omega)
theorem t_X7_leastPrice_c7 {n : Nat} (hn : 200000 ≤ n) {j : Nat} (hj : q_isLaw j) (a2 a3 : Int32) (M : qM) (hG : G M) (pa2 : 0 ≤ a2.toInt ∧ a2.toInt ≤ 7) (pa3 : 0 ≤ a3.toInt ∧ a3.toInt ≤ 11) : qT (f_X7_leastPrice n 7 j a2 a3 M) (po_X7_leastPrice_c7 a2 a3 M) := by
  have hS : Sm l_X7_leastPrice_c7 M M := Sm.rf
  unfold f_X7_leastPrice
  try simp only [Nat.reduceAdd]
  exact (t_X7_leastPrice_c7_7 hn hj) n a2 a3 (1048576 : Int32) (0 : Int32) M hG hS (i_rng (lo := 0) (hi := 7) rfl (by omega) (by omega)) (i_rng (lo := 0) (hi := 11) rfl (by omega) (by omega)) (i_rng (lo := (-2147483648)) (hi := 1048576) l_1048576 (by omega) (by omega)) (i_rng (lo := 0) (hi := 8) l_0 (by omega) (by omega)) (by have e2 : ((1048576 : Int32)).toInt = _ := l_1048576; have e3 : ((0 : Int32)).toInt = _ := l_0; omega)

abbrev l_X7_findCheapest_c7 : List Bx := [(34, 35, 4, 5), (35, 37, 0, 0), (56, 57, 12, 14), (61, 62, 0, 0), (63, 64, 0, 0)]
abbrev po_X7_findCheapest_c7 (a2 a3 : Int32) (M : qM) (v : Int32) (M' : qM) : Prop := (0 ≤ v.toInt ∧ v.toInt ≤ 0) ∧ G M' ∧ Sm l_X7_findCheapest_c7 M M'
theorem t_X7_findCheapest_c7_3 {n : Nat} (hn : 200000 ≤ n) {j : Nat} (hj : q_isLaw j) {oa2 oa3 : Int32} {M0 : qM} : ∀ (m : Nat) (a2 a3 a4 : Int32) (M : qM), G M → Sm l_X7_findCheapest_c7 M0 M → 0 ≤ a2.toInt ∧ a2.toInt ≤ 7 → 0 ≤ a3.toInt ∧ a3.toInt ≤ 200 → 0 ≤ a4.toInt ∧ a4.toInt ≤ 4 → 4 - a4.toInt < (m : Int) → qT (f_X7_findCheapest_3 n 7 j m a2 a3 a4 M) (po_X7_findCheapest_c7 oa2 oa3 M0) := by
  intro m
  induction m with
  | zero =>
    intro a2 a3 a4 M hG hS i0 i1 i2 i5
    exfalso; omega
  | succ m ih =>
    intro a2 a3 a4 M hG hS i0 i1 i2 i5
    show qT (b_X7_findCheapest_3 n 7 j (f_X7_findCheapest_3 n 7 j m) a2 a3 a4 M) _
    unfold b_X7_findCheapest_3
    try simp only [Nat.reduceAdd]
    have hq2_ := r_56_10 hG
    refine T_le rfl rfl (fun hq3_ => ?_) (fun hq3_ => ?_)
    · refine T_mu hG hS (rn_56_12 _) (nw_56 _) (i := 2) rfl ⟨by decide, by decide, Or.inr ⟨by decide, by decide⟩⟩ ?_
      intro mv4 hq5_ gq6_ kq7_
      have hq8_ : (mv4 56 10).toInt = (M 56 10).toInt := by rw [hq5_, mu_ne (Or.inr (by decide))]
      have hq9_ : (mv4 56 12).toInt = 1048576 := by rw [hq5_, mu_at]; exact l_1048576
      refine T_mu gq6_ kq7_ (rn_56_13 _) (nw_56 _) (i := 2) rfl ⟨by decide, by decide, Or.inr ⟨by decide, by decide⟩⟩ ?_
      intro mv10 hq11_ gq12_ kq13_
      have hq14_ : (mv10 56 10).toInt = (mv4 56 10).toInt := by rw [hq11_, mu_ne (Or.inr (by decide))]
      have hq15_ : (mv10 56 12).toInt = (mv4 56 12).toInt := by rw [hq11_, mu_ne (Or.inr (by decide))]
      have hq16_ : (mv10 56 13).toInt = 1048576 := by rw [hq11_, mu_at]; exact l_1048576
      refine T_qc (t_X7_tryGoes hn (0 : Int32) (0 : Int32) (0 : Int32) (3 : Int32) a3 mv10 gq12_ (i_rng (lo := 0) (hi := 4) l_0 (by omega) (by omega)) (i_rng (lo := 0) (hi := 3) l_3 (by omega) (by omega)) (i_rng (lo := 0) (hi := 200) rfl (by omega) (by omega))) ?_
      rintro rv17 mv18 ⟨hq19_, gq20_, kq21_⟩
      have kq22_ := Sm.call kq13_ kq21_ rfl
      have hq23_ : (mv18 56 10).toInt = (mv10 56 10).toInt := by rw [kq21_ 56 10 (by decide)]
      exact T_ret ⟨(i_rng (lo := 0) (hi := 0) l_0 (by omega) (by omega)), gq20_, kq22_⟩
    · refine T_qg rfl (by omega) (by omega) ?_
      have hq26_ := r_57 hG a4.toNatClampNeg
      refine T_qc (t_X7_leastPrice_c7 hn hj a2 (M 57 a4.toNatClampNeg) M hG (i_rng (lo := 0) (hi := 7) rfl (by omega) (by omega)) (i_rng (lo := 0) (hi := 11) rfl (by omega) (by omega))) ?_
      rintro rv24 mv25 ⟨hq27_, gq28_, kq29_⟩
      have kq30_ := Sm.call hS kq29_ rfl
      have hq31_ : (mv25 56 10).toInt = (M 56 10).toInt := by rw [kq29_ 56 10 (by decide)]
      refine T_qg rfl (by omega) (by omega) ?_
      refine T_mu gq28_ kq30_ (rn_61 _ _) (nw_61 _) (i := 3) rfl ⟨by decide, by decide, Or.inl rfl⟩ ?_
      intro mv32 hq33_ gq34_ kq35_
      have hq36_ : (mv32 56 10).toInt = (mv25 56 10).toInt := by rw [hq33_, mu_ne (Or.inl (by decide))]
      have hq37_ : (mv32 61 a4.toNatClampNeg).toInt = rv24.toInt := by rw [hq33_, mu_at]
      refine T_ql (i_add rfl l_1 (by omega) (by omega)) ?_
      intro xv38 hq39_
      exact ih a2 a3 xv38 mv32 gq34_ kq35_ (i_rng (lo := 0) (hi := 7) rfl (by omega) (by omega)) (i_rng (lo := 0) (hi := 200) rfl (by omega) (by omega)) (i_rng (lo := 0) (hi := 4) rfl (by omega) (by omega)) (by omega)
theorem t_X7_findCheapest_c7 {n : Nat} (hn : 200000 ≤ n) {j : Nat} (hj : q_isLaw j) (a2 a3 : Int32) (M : qM) (hG : G M) (pa2 : 0 ≤ a2.toInt ∧ a2.toInt ≤ 7) (pa3 : 0 ≤ a3.toInt ∧ a3.toInt ≤ 200) : qT (f_X7_findCheapest n 7 j a2 a3 M) (po_X7_findCheapest_c7 a2 a3 M) := by
  have hS : Sm l_X7_findCheapest_c7 M M := Sm.rf
  unfold f_X7_findCheapest
  try simp only [Nat.reduceAdd]
  exact (t_X7_findCheapest_c7_3 hn hj) n a2 a3 (0 : Int32) M hG hS (i_rng (lo := 0) (hi := 7) rfl (by omega) (by omega)) (i_rng (lo := 0) (hi := 200) rfl (by omega) (by omega)) (i_rng (lo := 0) (hi := 4) l_0 (by omega) (by omega)) (by have e2 : ((0 : Int32)).toInt = _ := l_0; omega)
abbrev l_X11_cheapest : List Bx := [(34, 35, 4, 5), (35, 37, 0, 0), (56, 57, 10, 14), (57, 64, 0, 0)]
abbrev po_X11_cheapest (a1 a2 a3 a4 a5 : Int32) (M : qM) (v : Int32) (M' : qM) : Prop := G M' ∧ Sm l_X11_cheapest M M'
theorem t_X11_cheapest {n : Nat} (hn : 200000 ≤ n) {j : Nat} (hj : q_isLaw j) (a1 a2 a3 a4 a5 : Int32) (M : qM) (hG : G M) : qT (f_X11_cheapest n j a1 a2 a3 a4 a5 M) (po_X11_cheapest a1 a2 a3 a4 a5 M) := by
  have hS : Sm l_X11_cheapest M M := Sm.rf
  unfold f_X11_cheapest
  refine T_qc (t_X11_canChoose hn a1 a2 a3 M hG ) ?_
  rintro rv1 mv2 ⟨hq3_, hq4_, gq5_, kq6_⟩
  have hq7_ := kq6_.nil
  subst hq7_
  refine T_eq rfl l_0 (fun hq8_ => ?_) (fun hq8_ => ?_)
  · exact T_ret ⟨hG, hS⟩
  · refine T_lt rfl l_0 (fun hq9_ => ?_) (fun hq9_ => ?_)
    · exact T_ret ⟨hG, hS⟩
    · refine T_lt l_200 rfl (fun hq10_ => ?_) (fun hq10_ => ?_)
      · exact T_ret ⟨hG, hS⟩
      · refine T_lt rfl l_0 (fun hq11_ => ?_) (fun hq11_ => ?_)
        · exact T_ret ⟨hG, hS⟩
        · refine T_le rfl l_1 (fun hq12_ => ?_) (fun hq12_ => ?_)
          · refine T_qc (t_X7_prepare_c7 hn hj a1 a2 a3 M hG (i_rng (lo := 0) (hi := 7) rfl (by omega) (by omega)) (i_rng (lo := 0) (hi := 11) rfl (by omega) (by omega))) ?_
            rintro rv13 mv14 ⟨hq15_, gq16_, kq17_⟩
            have kq18_ := Sm.call hS kq17_ rfl
            refine T_qc (t_X7_findCheapest_c7 hn hj a1 a4 mv14 gq16_ (i_rng (lo := 0) (hi := 7) rfl (by omega) (by omega)) (i_rng (lo := 0) (hi := 200) rfl (by omega) (by omega))) ?_
            rintro rv19 mv20 ⟨hq21_, gq22_, kq23_⟩
            have kq24_ := Sm.call kq18_ kq23_ rfl
            refine T_lt rfl l_1048576 (fun hq25_ => ?_) (fun hq25_ => ?_)
            · refine T_eq rfl l_0 (fun hq26_ => ?_) (fun hq26_ => ?_)
              · exact T_ret ⟨gq22_, kq24_⟩
              · exact T_ret ⟨gq22_, kq24_⟩
            · exact T_ret ⟨gq22_, kq24_⟩
          · exact T_ret ⟨hG, hS⟩
abbrev l_X12_marksBought : List Bx := [(108, 109, 0, 0), (110, 111, 0, 0)]
abbrev po_X12_marksBought (a1 : Int32) (M : qM) (v : Int32) (M' : qM) : Prop := (0 ≤ v.toInt ∧ v.toInt ≤ 0) ∧ G M' ∧ Sm l_X12_marksBought M M'
theorem t_X12_marksBought_36 {n : Nat} (hn : 200000 ≤ n) {oa1 : Int32} {M0 : qM} {K2 : Int32 → Int32 → qM → qR} {BK2 : Nat} (hK2 : ∀ (a1 a2 : Int32) (M : qM), G M → Sm l_X12_marksBought M0 M → 1 ≤ a1.toInt ∧ a1.toInt ≤ 160000 → 0 ≤ a2.toInt ∧ a2.toInt ≤ 160000 → 160000 - a2.toInt < (BK2 : Int) → qT (K2 a1 a2 M) (po_X12_marksBought oa1 M0)) : ∀ (m : Nat) (a1 a2 a3 a4 : Int32) (M : qM), G M → Sm l_X12_marksBought M0 M → 1 ≤ a1.toInt ∧ a1.toInt ≤ 160000 → 0 ≤ a2.toInt ∧ a2.toInt ≤ 159999 → 0 ≤ a3.toInt ∧ a3.toInt ≤ 1 → 0 ≤ a4.toInt ∧ a4.toInt ≤ 4 → 160000 - a2.toInt < (BK2 : Int) + 1 → 4 - a4.toInt < (m : Int) → qT (f_X12_marksBought_36 n K2 m a1 a2 a3 a4 M) (po_X12_marksBought oa1 M0) := by
  intro m
  induction m with
  | zero =>
    intro a1 a2 a3 a4 M hG hS i0 i1 i2 i3 i6 i7
    exfalso; omega
  | succ m ih =>
    intro a1 a2 a3 a4 M hG hS i0 i1 i2 i3 i6 i7
    show qT (b_X12_marksBought_36 n K2 (f_X12_marksBought_36 n K2 m) a1 a2 a3 a4 M) _
    unfold b_X12_marksBought_36
    have hq36_ := r_77_43 hG
    refine T_le rfl rfl (fun hq37_ => ?_) (fun hq37_ => ?_)
    · refine T_qg rfl (by omega) (by omega) ?_
      have hq39_ := i_bool a3
      refine T_mu hG hS (i_rng (lo := 0) (hi := 1) rfl (by omega) (by omega)) (nw_110 _) (i := 1) rfl ⟨by decide, by decide, Or.inl rfl⟩ ?_
      intro mv38 hq40_ gq41_ kq42_
      have hq43_ : (mv38 77 43).toInt = (M 77 43).toInt := by rw [hq40_, mu_ne (Or.inl (by decide))]
      have hq44_ : (mv38 110 a2.toNatClampNeg).toInt = (vp_nar .boolean a3).toInt := by rw [hq40_, mu_at]
      refine T_ql (i_add rfl l_1 (by omega) (by omega)) ?_
      intro xv45 hq46_
      exact hK2 a1 xv45 mv38 gq41_ kq42_ (i_rng (lo := 1) (hi := 160000) rfl (by omega) (by omega)) (i_rng (lo := 0) (hi := 160000) rfl (by omega) (by omega)) (by omega)
    · refine T_eq rfl l_0 (fun hq47_ => ?_) (fun hq47_ => ?_)
      · unfold f_X12_marksBought_81
        refine T_ql (i_add rfl l_1 (by omega) (by omega)) ?_
        intro xv48 hq49_
        exact ih a1 a2 (0 : Int32) xv48 M hG hS (i_rng (lo := 1) (hi := 160000) rfl (by omega) (by omega)) (i_rng (lo := 0) (hi := 159999) rfl (by omega) (by omega)) (i_rng (lo := 0) (hi := 1) l_0 (by omega) (by omega)) (i_rng (lo := 0) (hi := 4) rfl (by omega) (by omega)) (by omega) (by have e2 : ((0 : Int32)).toInt = _ := l_0; omega)
      · refine T_qg rfl (by omega) (by omega) ?_
        have hq50_ := r_108 hG a4.toNatClampNeg
        refine T_qg rfl (by omega) (by omega) ?_
        have hq51_ := r_103 hG ((M 108 a4.toNatClampNeg).toNatClampNeg)
        refine T_eq rfl l_0 (fun hq52_ => ?_) (fun hq52_ => ?_)
        · refine T_ql (i_add rfl l_1 (by omega) (by omega)) ?_
          intro xv53 hq54_
          exact ih a1 a2 (1 : Int32) xv53 M hG hS (i_rng (lo := 1) (hi := 160000) rfl (by omega) (by omega)) (i_rng (lo := 0) (hi := 159999) rfl (by omega) (by omega)) (i_rng (lo := 0) (hi := 1) l_1 (by omega) (by omega)) (i_rng (lo := 0) (hi := 4) rfl (by omega) (by omega)) (by omega) (by have e2 : ((1 : Int32)).toInt = _ := l_1; omega)
        · refine T_qg rfl (by omega) (by omega) ?_
          refine T_le l_1000000000 rfl (fun hq55_ => ?_) (fun hq55_ => ?_)
          · unfold f_X12_marksBought_81
            refine T_ql (i_add rfl l_1 (by omega) (by omega)) ?_
            intro xv56 hq57_
            exact ih a1 a2 (0 : Int32) xv56 M hG hS (i_rng (lo := 1) (hi := 160000) rfl (by omega) (by omega)) (i_rng (lo := 0) (hi := 159999) rfl (by omega) (by omega)) (i_rng (lo := 0) (hi := 1) l_0 (by omega) (by omega)) (i_rng (lo := 0) (hi := 4) rfl (by omega) (by omega)) (by omega) (by have e2 : ((0 : Int32)).toInt = _ := l_0; omega)
          · refine T_ql (i_add rfl l_1 (by omega) (by omega)) ?_
            intro xv58 hq59_
            exact ih a1 a2 (1 : Int32) xv58 M hG hS (i_rng (lo := 1) (hi := 160000) rfl (by omega) (by omega)) (i_rng (lo := 0) (hi := 159999) rfl (by omega) (by omega)) (i_rng (lo := 0) (hi := 1) l_1 (by omega) (by omega)) (i_rng (lo := 0) (hi := 4) rfl (by omega) (by omega)) (by omega) (by have e2 : ((1 : Int32)).toInt = _ := l_1; omega)
theorem t_X12_marksBought_2 {n : Nat} (hn : 200000 ≤ n) {oa1 : Int32} {M0 : qM} : ∀ (m : Nat) (a1 a2 : Int32) (M : qM), G M → Sm l_X12_marksBought M0 M → 1 ≤ a1.toInt ∧ a1.toInt ≤ 160000 → 0 ≤ a2.toInt ∧ a2.toInt ≤ 160000 → 160000 - a2.toInt < (m : Int) → qT (f_X12_marksBought_2 n m a1 a2 M) (po_X12_marksBought oa1 M0) := by
  intro m
  induction m with
  | zero =>
    intro a1 a2 M hG hS i0 i1 i4
    exfalso; omega
  | succ m ih =>
    intro a1 a2 M hG hS i0 i1 i4
    show qT (b_X12_marksBought_2 n (f_X12_marksBought_2 n m) a1 a2 M) _
    unfold b_X12_marksBought_2
    refine T_le rfl rfl (fun hq75_ => ?_) (fun hq75_ => ?_)
    · exact T_ret ⟨(i_rng (lo := 0) (hi := 0) l_0 (by omega) (by omega)), hG, hS⟩
    · refine T_qc (t_X12_takesState hn a2 M hG (i_rng (lo := 0) (hi := 159999) rfl (by omega) (by omega))) ?_
      rintro rv76 mv77 ⟨hq78_, gq79_, kq80_⟩
      have kq81_ := Sm.call hS kq80_ rfl
      refine T_qc (t_X12_madeNow hn  mv77 gq79_ ) ?_
      rintro rv82 mv83 ⟨gq84_, kq85_⟩
      have hq86_ := kq85_.nil
      subst hq86_
      refine T_eq rfl l_0 (fun hq87_ => ?_) (fun hq87_ => ?_)
      · refine T_qc (t_X12_goesNow hn  mv77 gq79_ ) ?_
        rintro rv88 mv89 ⟨gq90_, kq91_⟩
        have hq92_ := kq91_.nil
        subst hq92_
        refine T_lt l_3 rfl (fun hq93_ => ?_) (fun hq93_ => ?_)
        · unfold f_X12_marksBought_31
          unfold f_X12_marksBought_32
          exact (t_X12_marksBought_36 hn ih) n a1 a2 (0 : Int32) (0 : Int32) mv77 gq79_ kq81_ (i_rng (lo := 1) (hi := 160000) rfl (by omega) (by omega)) (i_rng (lo := 0) (hi := 159999) rfl (by omega) (by omega)) (i_rng (lo := 0) (hi := 1) l_0 (by omega) (by omega)) (i_rng (lo := 0) (hi := 4) l_0 (by omega) (by omega)) (by omega) (by have e2 : ((0 : Int32)).toInt = _ := l_0; have e3 : ((0 : Int32)).toInt = _ := l_0; omega)
        · unfold f_X12_marksBought_32
          exact (t_X12_marksBought_36 hn ih) n a1 a2 (1 : Int32) (0 : Int32) mv77 gq79_ kq81_ (i_rng (lo := 1) (hi := 160000) rfl (by omega) (by omega)) (i_rng (lo := 0) (hi := 159999) rfl (by omega) (by omega)) (i_rng (lo := 0) (hi := 1) l_1 (by omega) (by omega)) (i_rng (lo := 0) (hi := 4) l_0 (by omega) (by omega)) (by omega) (by have e2 : ((1 : Int32)).toInt = _ := l_1; have e3 : ((0 : Int32)).toInt = _ := l_0; omega)
      · unfold f_X12_marksBought_31
        unfold f_X12_marksBought_32
        exact (t_X12_marksBought_36 hn ih) n a1 a2 (0 : Int32) (0 : Int32) mv77 gq79_ kq81_ (i_rng (lo := 1) (hi := 160000) rfl (by omega) (by omega)) (i_rng (lo := 0) (hi := 159999) rfl (by omega) (by omega)) (i_rng (lo := 0) (hi := 1) l_0 (by omega) (by omega)) (i_rng (lo := 0) (hi := 4) l_0 (by omega) (by omega)) (by omega) (by have e2 : ((0 : Int32)).toInt = _ := l_0; have e3 : ((0 : Int32)).toInt = _ := l_0; omega)
theorem t_X12_marksBought {n : Nat} (hn : 200000 ≤ n) (a1 : Int32) (M : qM) (hG : G M) (pa1 : 1 ≤ a1.toInt ∧ a1.toInt ≤ 160000) : qT (f_X12_marksBought n a1 M) (po_X12_marksBought a1 M) := by
  have hS : Sm l_X12_marksBought M M := Sm.rf
  unfold f_X12_marksBought
  exact (t_X12_marksBought_2 hn) n a1 (0 : Int32) M hG hS (i_rng (lo := 1) (hi := 160000) rfl (by omega) (by omega)) (i_rng (lo := 0) (hi := 160000) l_0 (by omega) (by omega)) (by have e1 : ((0 : Int32)).toInt = _ := l_0; omega)
abbrev l_X12_leastPrice : List Bx := [(96, 98, 0, 0)]
abbrev po_X12_leastPrice (a1 a2 : Int32) (M : qM) (v : Int32) (M' : qM) : Prop := ((-2147483648) ≤ v.toInt ∧ v.toInt ≤ 1000000000) ∧ G M' ∧ Sm l_X12_leastPrice M M'
theorem t_X12_leastPrice_7 {n : Nat} (hn : 200000 ≤ n) {oa1 oa2 : Int32} {M0 : qM} : ∀ (m : Nat) (a1 a2 a3 a4 : Int32) (M : qM), G M → Sm l_X12_leastPrice M0 M → 0 ≤ a1.toInt ∧ a1.toInt ≤ 7 → 0 ≤ a2.toInt ∧ a2.toInt ≤ 11 → (-2147483648) ≤ a3.toInt ∧ a3.toInt ≤ 1000000000 → 0 ≤ a4.toInt ∧ a4.toInt ≤ 8 → 8 - a4.toInt < (m : Int) → qT (f_X12_leastPrice_7 n m a1 a2 a3 a4 M) (po_X12_leastPrice oa1 oa2 M0) := by
  intro m
  induction m with
  | zero =>
    intro a1 a2 a3 a4 M hG hS i0 i1 i2 i3 i6
    exfalso; omega
  | succ m ih =>
    intro a1 a2 a3 a4 M hG hS i0 i1 i2 i3 i6
    show qT (b_X12_leastPrice_7 n (f_X12_leastPrice_7 n m) a1 a2 a3 a4 M) _
    unfold b_X12_leastPrice_7
    refine T_le l_8 rfl (fun hq5_ => ?_) (fun hq5_ => ?_)
    · have hq6_ := i_full (a3)
      exact T_ret ⟨(i_rng (lo := (-2147483648)) (hi := 1000000000) rfl (by omega) (by omega)), hG, hS⟩
    · refine T_qc (t_X12_isPerson hn a4 M hG ) ?_
      rintro rv7 mv8 ⟨hq9_, hq10_, gq11_, kq12_⟩
      have hq13_ := kq12_.nil
      subst hq13_
      refine T_eq rfl l_0 (fun hq14_ => ?_) (fun hq14_ => ?_)
      · refine T_ql (i_add rfl l_1 (by omega) (by omega)) ?_
        intro xv15 hq16_
        have hq17_ := i_full (a3)
        exact ih a1 a2 a3 xv15 M hG hS (i_rng (lo := 0) (hi := 7) rfl (by omega) (by omega)) (i_rng (lo := 0) (hi := 11) rfl (by omega) (by omega)) (i_rng (lo := (-2147483648)) (hi := 1000000000) rfl (by omega) (by omega)) (i_rng (lo := 0) (hi := 8) rfl (by omega) (by omega)) (by omega)
      · refine T_eq rfl rfl (fun hq18_ => ?_) (fun hq18_ => ?_)
        · refine T_ql (i_add rfl l_1 (by omega) (by omega)) ?_
          intro xv19 hq20_
          have hq21_ := i_full (a3)
          exact ih a1 a2 a3 xv19 M hG hS (i_rng (lo := 0) (hi := 7) rfl (by omega) (by omega)) (i_rng (lo := 0) (hi := 11) rfl (by omega) (by omega)) (i_rng (lo := (-2147483648)) (hi := 1000000000) rfl (by omega) (by omega)) (i_rng (lo := 0) (hi := 8) rfl (by omega) (by omega)) (by omega)
        · refine T_qc (t_X12_at hn a4 a2 M hG (i_rng (lo := 0) (hi := 7) rfl (by omega) (by omega)) (i_rng (lo := 0) (hi := 11) rfl (by omega) (by omega))) ?_
          rintro rv22 mv23 ⟨hq24_, hq25_, gq26_, kq27_⟩
          have hq28_ := kq27_.nil
          subst hq28_
          refine T_qg (i_add l_0 rfl (by omega) (by omega)) (by omega) (by omega) ?_
          refine T_le rfl l_0 (fun hq29_ => ?_) (fun hq29_ => ?_)
          · refine T_ql (i_add rfl l_1 (by omega) (by omega)) ?_
            intro xv30 hq31_
            have hq32_ := i_full (a3)
            exact ih a1 a2 a3 xv30 M hG hS (i_rng (lo := 0) (hi := 7) rfl (by omega) (by omega)) (i_rng (lo := 0) (hi := 11) rfl (by omega) (by omega)) (i_rng (lo := (-2147483648)) (hi := 1000000000) rfl (by omega) (by omega)) (i_rng (lo := 0) (hi := 8) rfl (by omega) (by omega)) (by omega)
          · refine T_qc (t_X12_costOf hn a1 a2 a4 M hG (i_rng (lo := 0) (hi := 7) rfl (by omega) (by omega)) (i_rng (lo := 0) (hi := 11) rfl (by omega) (by omega)) (i_rng (lo := 0) (hi := 7) rfl (by omega) (by omega))) ?_
            rintro rv33 mv34 ⟨hq35_, gq36_, kq37_⟩
            have kq38_ := Sm.call hS kq37_ rfl
            have hq39_ : (mv34 78 (((0 : Int32) + rv22).toNatClampNeg)).toInt = (M 78 (((0 : Int32) + rv22).toNatClampNeg)).toInt := by rw [kq37_ 78 _ (out78 (lo := 0) (hi := 96) rfl (by rw [tnc, (i_add l_0 rfl (by omega) (by omega))]; omega) (by rw [tnc, (i_add l_0 rfl (by omega) (by omega))]; omega))]
            have hq42_ := i_full (a3)
            refine T_qc (t_X12_min hn a3 rv33 mv34 gq36_ (i_rng (lo := (-2147483648)) (hi := 1000000000) rfl (by omega) (by omega))) ?_
            rintro rv40 mv41 ⟨hq43_, gq44_, kq45_⟩
            have hq46_ := kq45_.nil
            subst hq46_
            refine T_ql (i_add rfl l_1 (by omega) (by omega)) ?_
            intro xv47 hq48_
            have hq49_ := i_full (rv40)
            exact ih a1 a2 rv40 xv47 mv34 gq36_ kq38_ (i_rng (lo := 0) (hi := 7) rfl (by omega) (by omega)) (i_rng (lo := 0) (hi := 11) rfl (by omega) (by omega)) (i_rng (lo := (-2147483648)) (hi := 1000000000) rfl (by omega) (by omega)) (i_rng (lo := 0) (hi := 8) rfl (by omega) (by omega)) (by omega)
theorem t_X12_leastPrice {n : Nat} (hn : 200000 ≤ n) (a1 a2 : Int32) (M : qM) (hG : G M) (pa1 : 0 ≤ a1.toInt ∧ a1.toInt ≤ 7) (pa2 : 0 ≤ a2.toInt ∧ a2.toInt ≤ 11) : qT (f_X12_leastPrice n a1 a2 M) (po_X12_leastPrice a1 a2 M) := by
  have hS : Sm l_X12_leastPrice M M := Sm.rf
  unfold f_X12_leastPrice
  exact (t_X12_leastPrice_7 hn) n a1 a2 (1000000000 : Int32) (0 : Int32) M hG hS (i_rng (lo := 0) (hi := 7) rfl (by omega) (by omega)) (i_rng (lo := 0) (hi := 11) rfl (by omega) (by omega)) (i_rng (lo := (-2147483648)) (hi := 1000000000) l_1000000000 (by omega) (by omega)) (i_rng (lo := 0) (hi := 8) l_0 (by omega) (by omega)) (by have e2 : ((1000000000 : Int32)).toInt = _ := l_1000000000; have e3 : ((0 : Int32)).toInt = _ := l_0; omega)
abbrev l_X12_coinsNow : List Bx := []
abbrev po_X12_coinsNow (M : qM) (v : Int32) (M' : qM) : Prop := G M' ∧ Sm l_X12_coinsNow M M'
theorem t_X12_coinsNow_4 {n : Nat} (hn : 200000 ≤ n) {M0 : qM} : ∀ (m : Nat) (a1 a2 : Int32) (M : qM), G M → Sm l_X12_coinsNow M0 M → 0 ≤ a2.toInt ∧ a2.toInt ≤ 4 → 4 - a2.toInt < (m : Int) → qT (f_X12_coinsNow_4 n m a1 a2 M) (po_X12_coinsNow  M0) := by
  intro m
  induction m with
  | zero =>
    intro a1 a2 M hG hS i0 i3
    exfalso; omega
  | succ m ih =>
    intro a1 a2 M hG hS i0 i3
    show qT (b_X12_coinsNow_4 n (f_X12_coinsNow_4 n m) a1 a2 M) _
    unfold b_X12_coinsNow_4
    have hq5_ := r_77_43 hG
    refine T_le rfl rfl (fun hq6_ => ?_) (fun hq6_ => ?_)
    · exact T_ret ⟨hG, hS⟩
    · refine T_qg rfl (by omega) (by omega) ?_
      have hq7_ := r_108 hG a2.toNatClampNeg
      refine T_qg rfl (by omega) (by omega) ?_
      have hq8_ := r_103 hG ((M 108 a2.toNatClampNeg).toNatClampNeg)
      refine T_le rfl l_0 (fun hq9_ => ?_) (fun hq9_ => ?_)
      · unfold f_X12_coinsNow_49
        have hq10_ := i_full (a1)
        refine T_ql (i_add rfl l_0 (by omega) (by omega)) ?_
        intro xv11 hq12_
        refine T_ql (i_add rfl l_1 (by omega) (by omega)) ?_
        intro xv13 hq14_
        exact ih xv11 xv13 M hG hS (i_rng (lo := 0) (hi := 4) rfl (by omega) (by omega)) (by omega)
      · refine T_qg rfl (by omega) (by omega) ?_
        refine T_qg rfl (by omega) (by omega) ?_
        refine T_qg rfl (by omega) (by omega) ?_
        unfold f_X12_coinsNow_49
        have hq15_ := i_full (M 109 a2.toNatClampNeg)
        have hq16_ := i_full (a1)
        have hq17_ := i_full ((M 103 ((M 108 a2.toNatClampNeg).toNatClampNeg)) * (M 109 a2.toNatClampNeg))
        refine T_ql rfl ?_
        intro xv18 hq19_
        refine T_ql (i_add rfl l_1 (by omega) (by omega)) ?_
        intro xv20 hq21_
        exact ih xv18 xv20 M hG hS (i_rng (lo := 0) (hi := 4) rfl (by omega) (by omega)) (by omega)
theorem t_X12_coinsNow {n : Nat} (hn : 200000 ≤ n) (M : qM) (hG : G M) : qT (f_X12_coinsNow n  M) (po_X12_coinsNow  M) := by
  have hS : Sm l_X12_coinsNow M M := Sm.rf
  unfold f_X12_coinsNow
  exact (t_X12_coinsNow_4 hn) n (0 : Int32) (0 : Int32) M hG hS (i_rng (lo := 0) (hi := 4) l_0 (by omega) (by omega)) (by have e0 : ((0 : Int32)).toInt = _ := l_0; have e1 : ((0 : Int32)).toInt = _ := l_0; omega)

abbrev l_X12_cheapest : List Bx := [(77, 78, 43, 45), (96, 98, 0, 0), (105, 111, 0, 0)]
abbrev po_X12_cheapest (a1 a2 a3 a4 a5 : Int32) (M : qM) (v : Int32) (M' : qM) : Prop := G M' ∧ Sm l_X12_cheapest M M'
theorem t_X12_cheapest_104 {n : Nat} (hn : 200000 ≤ n) {oa1 oa2 oa3 oa4 oa5 : Int32} {M0 : qM} : ∀ (m : Nat) (a4 a5 a6 a7 a8 a9 : Int32) (M : qM), G M → Sm l_X12_cheapest M0 M → 0 ≤ a4.toInt ∧ a4.toInt ≤ 200 → 0 ≤ a5.toInt ∧ a5.toInt ≤ 1 → 1 ≤ a6.toInt ∧ a6.toInt ≤ 160000 → 0 ≤ a7.toInt ∧ a7.toInt ≤ 3 → (-2147483648) ≤ a8.toInt ∧ a8.toInt ≤ 1000000000 → 0 ≤ a9.toInt ∧ a9.toInt ≤ 160000 → 160000 - a9.toInt < (m : Int) → qT (f_X12_cheapest_104 n m a4 a5 a6 a7 a8 a9 M) (po_X12_cheapest oa1 oa2 oa3 oa4 oa5 M0) := by
  intro m
  induction m with
  | zero =>
    intro a4 a5 a6 a7 a8 a9 M hG hS i0 i1 i2 i3 i4 i5 i8
    exfalso; omega
  | succ m ih =>
    intro a4 a5 a6 a7 a8 a9 M hG hS i0 i1 i2 i3 i4 i5 i8
    show qT (b_X12_cheapest_104 n (f_X12_cheapest_104 n m) a4 a5 a6 a7 a8 a9 M) _
    unfold b_X12_cheapest_104
    refine T_le rfl rfl (fun hq5_ => ?_) (fun hq5_ => ?_)
    · refine T_eq rfl l_1000000000 (fun hq6_ => ?_) (fun hq6_ => ?_)
      · exact T_ret ⟨hG, hS⟩
      · refine T_eq rfl l_0 (fun hq7_ => ?_) (fun hq7_ => ?_)
        · have hq8_ := i_full (a8)
          exact T_ret ⟨hG, hS⟩
        · have hq9_ := i_full (a8)
          have hq10_ := i_full (a8 / (256 : Int32))
          have hq11_ := i_full ((a8 / (256 : Int32)) * (256 : Int32))
          exact T_ret ⟨hG, hS⟩
    · refine T_qg rfl (by omega) (by omega) ?_
      have hq12_ := r_110 hG a9.toNatClampNeg
      refine T_eq rfl l_0 (fun hq13_ => ?_) (fun hq13_ => ?_)
      · refine T_ql (i_add rfl l_1 (by omega) (by omega)) ?_
        intro xv14 hq15_
        have hq16_ := i_full (a8)
        exact ih a4 a5 a6 a7 a8 xv14 M hG hS (i_rng (lo := 0) (hi := 200) rfl (by omega) (by omega)) (i_rng (lo := 0) (hi := 1) rfl (by omega) (by omega)) (i_rng (lo := 1) (hi := 160000) rfl (by omega) (by omega)) (i_rng (lo := 0) (hi := 3) rfl (by omega) (by omega)) (i_rng (lo := (-2147483648)) (hi := 1000000000) rfl (by omega) (by omega)) (i_rng (lo := 0) (hi := 160000) rfl (by omega) (by omega)) (by omega)
      · refine T_qc (t_X12_takesState hn a9 M hG (i_rng (lo := 0) (hi := 159999) rfl (by omega) (by omega))) ?_
        rintro rv17 mv18 ⟨hq19_, gq20_, kq21_⟩
        have kq22_ := Sm.call hS kq21_ rfl
        have hq23_ : (mv18 110 a9.toNatClampNeg).toInt = (M 110 a9.toNatClampNeg).toInt := by rw [kq21_ 110 _ (outc rfl)]
        refine T_qc (t_X12_hoursNow hn  mv18 gq20_ ) ?_
        rintro rv24 mv25 ⟨gq26_, kq27_⟩
        have hq28_ := kq27_.nil
        subst hq28_
        refine T_le rfl rfl (fun hq29_ => ?_) (fun hq29_ => ?_)
        · refine T_qg rfl (by omega) (by omega) ?_
          have hq30_ := r_108 gq20_ a7.toNatClampNeg
          refine T_qg rfl (by omega) (by omega) ?_
          have hq31_ := r_104 gq20_ ((mv18 108 a7.toNatClampNeg).toNatClampNeg)
          refine T_le rfl l_0 (fun hq32_ => ?_) (fun hq32_ => ?_)
          · refine T_qc (t_X12_spreads hn (0 : Int32) mv18 gq20_ (i_rng (lo := 0) (hi := 3) l_0 (by omega) (by omega))) ?_
            rintro rv33 mv34 ⟨hq35_, gq36_, kq37_⟩
            have kq38_ := Sm.call kq22_ kq37_ rfl
            have hq39_ : (mv34 104 ((mv18 108 a7.toNatClampNeg).toNatClampNeg)).toInt = (mv18 104 ((mv18 108 a7.toNatClampNeg).toNatClampNeg)).toInt := by rw [kq37_ 104 _ (outc rfl)]
            refine T_ql (i_add rfl l_1 (by omega) (by omega)) ?_
            intro xv40 hq41_
            have hq42_ := i_full (a8)
            exact ih a4 a5 a6 a7 a8 xv40 mv34 gq36_ kq38_ (i_rng (lo := 0) (hi := 200) rfl (by omega) (by omega)) (i_rng (lo := 0) (hi := 1) rfl (by omega) (by omega)) (i_rng (lo := 1) (hi := 160000) rfl (by omega) (by omega)) (i_rng (lo := 0) (hi := 3) rfl (by omega) (by omega)) (i_rng (lo := (-2147483648)) (hi := 1000000000) rfl (by omega) (by omega)) (i_rng (lo := 0) (hi := 160000) rfl (by omega) (by omega)) (by omega)
          · refine T_qc (t_X12_coinsNow hn  mv18 gq20_ ) ?_
            rintro rv43 mv44 ⟨gq45_, kq46_⟩
            have hq47_ := kq46_.nil
            subst hq47_
            refine T_qc (t_X12_hoursNow hn  mv18 gq20_ ) ?_
            rintro rv48 mv49 ⟨gq50_, kq51_⟩
            have hq52_ := kq51_.nil
            subst hq52_
            have hq55_ := i_full (a8)
            have hq56_ := i_full (rv43)
            have hq57_ := i_full ((256 : Int32) * rv43)
            have hq58_ := i_full (rv48)
            refine T_qc (t_X12_min hn a8 (((256 : Int32) * rv43) + rv48) mv18 gq20_ (i_rng (lo := (-2147483648)) (hi := 1000000000) rfl (by omega) (by omega))) ?_
            rintro rv53 mv54 ⟨hq59_, gq60_, kq61_⟩
            have hq62_ := kq61_.nil
            subst hq62_
            refine T_ql (i_add rfl l_1 (by omega) (by omega)) ?_
            intro xv63 hq64_
            have hq65_ := i_full (rv53)
            exact ih a4 a5 a6 a7 rv53 xv63 mv18 gq20_ kq22_ (i_rng (lo := 0) (hi := 200) rfl (by omega) (by omega)) (i_rng (lo := 0) (hi := 1) rfl (by omega) (by omega)) (i_rng (lo := 1) (hi := 160000) rfl (by omega) (by omega)) (i_rng (lo := 0) (hi := 3) rfl (by omega) (by omega)) (i_rng (lo := (-2147483648)) (hi := 1000000000) rfl (by omega) (by omega)) (i_rng (lo := 0) (hi := 160000) rfl (by omega) (by omega)) (by omega)
        · refine T_ql (i_add rfl l_1 (by omega) (by omega)) ?_
          intro xv66 hq67_
          have hq68_ := i_full (a8)
          exact ih a4 a5 a6 a7 a8 xv66 mv18 gq20_ kq22_ (i_rng (lo := 0) (hi := 200) rfl (by omega) (by omega)) (i_rng (lo := 0) (hi := 1) rfl (by omega) (by omega)) (i_rng (lo := 1) (hi := 160000) rfl (by omega) (by omega)) (i_rng (lo := 0) (hi := 3) rfl (by omega) (by omega)) (i_rng (lo := (-2147483648)) (hi := 1000000000) rfl (by omega) (by omega)) (i_rng (lo := 0) (hi := 160000) rfl (by omega) (by omega)) (by omega)
theorem t_X12_cheapest_43 {n : Nat} (hn : 200000 ≤ n) {oa1 oa2 oa3 oa4 oa5 : Int32} {M0 : qM} : ∀ (m : Nat) (a1 a3 a4 a5 a6 : Int32) (M : qM), G M → Sm l_X12_cheapest M0 M → 0 ≤ a1.toInt ∧ a1.toInt ≤ 7 → 0 ≤ a3.toInt ∧ a3.toInt ≤ 11 → 0 ≤ a4.toInt ∧ a4.toInt ≤ 200 → 0 ≤ a5.toInt ∧ a5.toInt ≤ 1 → 0 ≤ a6.toInt ∧ a6.toInt ≤ 4 → ((oa2 >>> (a3 &&& 31)) &&& (1 : Int32)).toInt = 1 → KO oa2 M → 4 - a6.toInt < (m : Int) → qT (f_X12_cheapest_43 n m a1 a3 a4 a5 a6 M) (po_X12_cheapest oa1 oa2 oa3 oa4 oa5 M0) := by
  intro m
  induction m with
  | zero =>
    intro a1 a3 a4 a5 a6 M hG hS i0 i1 i2 i3 i4 hE wKO i9
    exfalso; omega
  | succ m ih =>
    intro a1 a3 a4 a5 a6 M hG hS i0 i1 i2 i3 i4 hE wKO i9
    show qT (b_X12_cheapest_43 n (f_X12_cheapest_43 n m) a1 a3 a4 a5 a6 M) _
    unfold b_X12_cheapest_43
    have hq70_ := r_77_43 hG
    refine T_le rfl rfl (fun hq71_ => ?_) (fun hq71_ => ?_)
    · refine T_qc (t_X12_statesAll hn  M hG ) ?_
      rintro rv72 mv73 ⟨hq74_, gq75_, kq76_⟩
      have hq77_ := kq76_.nil
      subst hq77_
      refine T_qc (t_X12_placeOf hn a3 M hG (i_rng (lo := 0) (hi := 11) rfl (by omega) (by omega)) (wKO a3 (by omega) (by omega) (by omega))) ?_
      rintro rv78 mv79 ⟨hq80_, gq81_, kq82_⟩
      have hq83_ := kq82_.nil
      subst hq83_
      refine T_qc (t_X12_marksBought hn rv72 M hG (i_rng (lo := 1) (hi := 160000) rfl (by omega) (by omega))) ?_
      rintro rv84 mv85 ⟨hq86_, gq87_, kq88_⟩
      have kq89_ := Sm.call hS kq88_ rfl
      have hq90_ := (fun h_ => KO_c (kq88_ 77 43 (by decide)) (funext (fun s_ => kq88_ 105 s_ (outc rfl))) h_) wKO
      have hq91_ : (mv85 77 43).toInt = (M 77 43).toInt := by rw [kq88_ 77 43 (by decide)]
      exact (t_X12_cheapest_104 hn) n a4 a5 rv72 rv78 (1000000000 : Int32) (0 : Int32) mv85 gq87_ kq89_ (i_rng (lo := 0) (hi := 200) rfl (by omega) (by omega)) (i_rng (lo := 0) (hi := 1) rfl (by omega) (by omega)) (i_rng (lo := 1) (hi := 160000) rfl (by omega) (by omega)) (i_rng (lo := 0) (hi := 3) rfl (by omega) (by omega)) (i_rng (lo := (-2147483648)) (hi := 1000000000) l_1000000000 (by omega) (by omega)) (i_rng (lo := 0) (hi := 160000) l_0 (by omega) (by omega)) (by have e4 : ((1000000000 : Int32)).toInt = _ := l_1000000000; have e5 : ((0 : Int32)).toInt = _ := l_0; omega)
    · refine T_qg rfl (by omega) (by omega) ?_
      have hq94_ := r_105 hG a6.toNatClampNeg
      refine T_qc (t_X12_leastPrice hn a1 (M 105 a6.toNatClampNeg) M hG (i_rng (lo := 0) (hi := 7) rfl (by omega) (by omega)) (i_rng (lo := 0) (hi := 11) rfl (by omega) (by omega))) ?_
      rintro rv92 mv93 ⟨hq95_, gq96_, kq97_⟩
      have kq98_ := Sm.call hS kq97_ rfl
      have hq99_ := (fun h_ => KO_c (kq97_ 77 43 (by decide)) (funext (fun s_ => kq97_ 105 s_ (outc rfl))) h_) wKO
      have hq100_ : (mv93 77 43).toInt = (M 77 43).toInt := by rw [kq97_ 77 43 (by decide)]
      refine T_qg rfl (by omega) (by omega) ?_
      refine T_mu gq96_ kq98_ (rn_109 _ _) (nw_109 _) (i := 2) rfl ⟨by decide, by decide, Or.inl rfl⟩ ?_
      intro mv101 hq102_ gq103_ kq104_
      have hq105_ := (fun h_ => KO_c (M := mv93) (M' := mv101) (by rw [hq102_, mu_ne (Or.inl (by decide))]) (by rw [hq102_, mu_nc (by decide)]) h_) hq99_
      have hq106_ : (mv101 77 43).toInt = (mv93 77 43).toInt := by rw [hq102_, mu_ne (Or.inl (by decide))]
      have hq107_ : (mv101 109 a6.toNatClampNeg).toInt = rv92.toInt := by rw [hq102_, mu_at]
      refine T_ql (i_add rfl l_1 (by omega) (by omega)) ?_
      intro xv108 hq109_
      exact ih a1 a3 a4 a5 xv108 mv101 gq103_ kq104_ (i_rng (lo := 0) (hi := 7) rfl (by omega) (by omega)) (i_rng (lo := 0) (hi := 11) rfl (by omega) (by omega)) (i_rng (lo := 0) (hi := 200) rfl (by omega) (by omega)) (i_rng (lo := 0) (hi := 1) rfl (by omega) (by omega)) (i_rng (lo := 0) (hi := 4) rfl (by omega) (by omega)) (by omega) hq105_ (by omega)
theorem t_X12_cheapest {n : Nat} (hn : 200000 ≤ n) (a1 a2 a3 a4 a5 : Int32) (M : qM) (hG : G M) : qT (f_X12_cheapest n a1 a2 a3 a4 a5 M) (po_X12_cheapest a1 a2 a3 a4 a5 M) := by
  have hS : Sm l_X12_cheapest M M := Sm.rf
  unfold f_X12_cheapest
  refine T_qc (t_X12_areSome hn a1 a2 a3 M hG ) ?_
  rintro rv110 mv111 ⟨hq112_, hq113_, gq114_, kq115_⟩
  have hq116_ := kq115_.nil
  subst hq116_
  refine T_eq rfl l_0 (fun hq117_ => ?_) (fun hq117_ => ?_)
  · exact T_ret ⟨hG, hS⟩
  · have hq120_ := (show ((0 : Int32)).toInt = _ from l_0)
    have hq121_ := (show ((200 : Int32)).toInt = _ from l_200)
    refine T_qc (t_X12_in hn a4 (0 : Int32) (200 : Int32) M hG (i_rng (lo := 0) (hi := 70) l_0 (by omega) (by omega)) (i_rng (lo := 0) (hi := 99999) l_200 (by omega) (by omega))) ?_
    rintro rv118 mv119 ⟨hq122_, hq123_, gq124_, kq125_⟩
    have hq126_ := kq125_.nil
    subst hq126_
    refine T_eq rfl l_0 (fun hq127_ => ?_) (fun hq127_ => ?_)
    · exact T_ret ⟨hG, hS⟩
    · have hq130_ := (show ((1 : Int32)).toInt = _ from l_1)
      refine T_qc (t_X12_in hn a5 (0 : Int32) (1 : Int32) M hG (i_rng (lo := 0) (hi := 70) l_0 (by omega) (by omega)) (i_rng (lo := 0) (hi := 99999) l_1 (by omega) (by omega))) ?_
      rintro rv128 mv129 ⟨hq131_, hq132_, gq133_, kq134_⟩
      have hq135_ := kq134_.nil
      subst hq135_
      refine T_eq rfl l_0 (fun hq136_ => ?_) (fun hq136_ => ?_)
      · exact T_ret ⟨hG, hS⟩
      · refine T_qc (t_X12_laysOwn hn a1 a2 M hG (i_rng (lo := 0) (hi := 7) rfl (by omega) (by omega)) (by omega)) ?_
        rintro rv137 mv138 ⟨hq139_, hq140_, gq141_, kq142_⟩
        have kq143_ := Sm.call hS kq142_ rfl
        exact (t_X12_cheapest_43 hn) n a1 a3 a4 a5 (0 : Int32) mv138 gq141_ kq143_ (i_rng (lo := 0) (hi := 7) rfl (by omega) (by omega)) (i_rng (lo := 0) (hi := 11) rfl (by omega) (by omega)) (i_rng (lo := 0) (hi := 200) rfl (by omega) (by omega)) (i_rng (lo := 0) (hi := 1) rfl (by omega) (by omega)) (i_rng (lo := 0) (hi := 4) l_0 (by omega) (by omega)) (by have e4 : ((0 : Int32)).toInt = _ := l_0; omega) hq140_ (by have e4 : ((0 : Int32)).toInt = _ := l_0; omega)
abbrev l_X1_isLoophole : List Bx := [(34, 35, 4, 5), (35, 37, 0, 0)]
abbrev po_X1_isLoophole (a1 a2 a3 a4 : Int32) (M : qM) (v : Int32) (M' : qM) : Prop := (0 ≤ v.toInt ∧ v.toInt ≤ 1) ∧ G M' ∧ Sm l_X1_isLoophole M M'
theorem t_X1_isLoophole_13 {n : Nat} (hn : 200000 ≤ n) {j : Nat} (hj : q_isLaw j) {oa1 oa2 oa3 oa4 : Int32} {M0 : qM} : ∀ (m : Nat) (a2 a3 a5 : Int32) (M : qM), G M → Sm l_X1_isLoophole M0 M → 0 ≤ a5.toInt ∧ a5.toInt ≤ 12 → 12 - a5.toInt < (m : Int) → qT (f_X1_isLoophole_13 n j m a2 a3 a5 M) (po_X1_isLoophole oa1 oa2 oa3 oa4 M0) := by
  intro m
  induction m with
  | zero =>
    intro a2 a3 a5 M hG hS i0 i3
    exfalso; omega
  | succ m ih =>
    intro a2 a3 a5 M hG hS i0 i3
    show qT (b_X1_isLoophole_13 n j (f_X1_isLoophole_13 n j m) a2 a3 a5 M) _
    unfold b_X1_isLoophole_13
    refine T_le l_12 rfl (fun hq6_ => ?_) (fun hq6_ => ?_)
    · exact T_ret ⟨(i_rng (lo := 0) (hi := 1) l_1 (by omega) (by omega)), hG, hS⟩
    · have hq7_ := i_shl1 (c := 11) (k := a5) (by decide) rfl (by omega) (by omega)
      refine T_ql rfl ?_
      intro xv8 hq9_
      have hq10_ := i_and (a := a2) (b := xv8) rfl (by omega)
      refine T_eq rfl l_0 (fun hq11_ => ?_) (fun hq11_ => ?_)
      · unfold f_X1_isLoophole_42
        have hq12_ := i_and (a := a3) (b := xv8) rfl (by omega)
        refine T_eq rfl l_0 (fun hq13_ => ?_) (fun hq13_ => ?_)
        · refine T_ql (i_add rfl l_1 (by omega) (by omega)) ?_
          intro xv14 hq15_
          exact ih a2 a3 xv14 M hG hS (i_rng (lo := 0) (hi := 12) rfl (by omega) (by omega)) (by omega)
        · refine T_qc (t_X1_isAlike hn hj a5 M hG (i_rng (lo := 0) (hi := 11) rfl (by omega) (by omega))) ?_
          rintro rv16 mv17 ⟨hq18_, gq19_, kq20_⟩
          have kq21_ := Sm.call hS kq20_ rfl
          refine T_eq rfl l_0 (fun hq22_ => ?_) (fun hq22_ => ?_)
          · refine T_ql (i_add rfl l_1 (by omega) (by omega)) ?_
            intro xv23 hq24_
            exact ih a2 a3 xv23 mv17 gq19_ kq21_ (i_rng (lo := 0) (hi := 12) rfl (by omega) (by omega)) (by omega)
          · exact T_ret ⟨(i_rng (lo := 0) (hi := 1) l_0 (by omega) (by omega)), gq19_, kq21_⟩
      · refine T_qc (t_X1_isAlike hn hj a5 M hG (i_rng (lo := 0) (hi := 11) rfl (by omega) (by omega))) ?_
        rintro rv25 mv26 ⟨hq27_, gq28_, kq29_⟩
        have kq30_ := Sm.call hS kq29_ rfl
        refine T_eq rfl l_0 (fun hq31_ => ?_) (fun hq31_ => ?_)
        · exact T_ret ⟨(i_rng (lo := 0) (hi := 1) l_0 (by omega) (by omega)), gq28_, kq30_⟩
        · unfold f_X1_isLoophole_42
          have hq32_ := i_and (a := a3) (b := xv8) rfl (by omega)
          refine T_eq rfl l_0 (fun hq33_ => ?_) (fun hq33_ => ?_)
          · refine T_ql (i_add rfl l_1 (by omega) (by omega)) ?_
            intro xv34 hq35_
            exact ih a2 a3 xv34 mv26 gq28_ kq30_ (i_rng (lo := 0) (hi := 12) rfl (by omega) (by omega)) (by omega)
          · refine T_qc (t_X1_isAlike hn hj a5 mv26 gq28_ (i_rng (lo := 0) (hi := 11) rfl (by omega) (by omega))) ?_
            rintro rv36 mv37 ⟨hq38_, gq39_, kq40_⟩
            have kq41_ := Sm.call kq30_ kq40_ rfl
            refine T_eq rfl l_0 (fun hq42_ => ?_) (fun hq42_ => ?_)
            · refine T_ql (i_add rfl l_1 (by omega) (by omega)) ?_
              intro xv43 hq44_
              exact ih a2 a3 xv43 mv37 gq39_ kq41_ (i_rng (lo := 0) (hi := 12) rfl (by omega) (by omega)) (by omega)
            · exact T_ret ⟨(i_rng (lo := 0) (hi := 1) l_0 (by omega) (by omega)), gq39_, kq41_⟩
theorem t_X1_isLoophole {n : Nat} (hn : 200000 ≤ n) {j : Nat} (hj : q_isLaw j) (a1 a2 a3 a4 : Int32) (M : qM) (hG : G M) (pa1 : 0 ≤ a1.toInt ∧ a1.toInt ≤ 255) : qT (f_X1_isLoophole n j a1 a2 a3 a4 M) (po_X1_isLoophole a1 a2 a3 a4 M) := by
  have hS : Sm l_X1_isLoophole M M := Sm.rf
  unfold f_X1_isLoophole
  refine T_qc (t_X1_tellDeed hn (12 : Int32) (1 : Int32) a1 a4 M hG (i_rng (lo := 0) (hi := 12) l_12 (by omega) (by omega))) ?_
  rintro rv45 mv46 ⟨hq47_, gq48_, kq49_⟩
  have kq50_ := Sm.call hS kq49_ rfl
  exact (t_X1_isLoophole_13 hn hj) n a2 a3 (0 : Int32) mv46 gq48_ kq50_ (i_rng (lo := 0) (hi := 12) l_0 (by omega) (by omega)) (by have e2 : ((0 : Int32)).toInt = _ := l_0; omega)
abbrev l_X11_loophole : List Bx := [(34, 35, 4, 5), (35, 37, 0, 0)]
abbrev po_X11_loophole (a1 a2 a3 : Int32) (M : qM) (v : Int32) (M' : qM) : Prop := G M' ∧ Sm l_X11_loophole M M'
theorem t_X11_loophole_49 {n : Nat} (hn : 200000 ≤ n) {j : Nat} (hj : q_isLaw j) {oa1 oa2 oa3 : Int32} {M0 : qM} : ∀ (m : Nat) (a1 a2 a3 a4 a5 a6 : Int32) (M : qM), G M → Sm l_X11_loophole M0 M → 0 ≤ a3.toInt ∧ a3.toInt ≤ 1 → (-2) ≤ a4.toInt ∧ a4.toInt ≤ 255 → 0 ≤ a6.toInt ∧ a6.toInt ≤ 256 → 256 - a6.toInt < (m : Int) → qT (f_X11_loophole_49 n j m a1 a2 a3 a4 a5 a6 M) (po_X11_loophole oa1 oa2 oa3 M0) := by
  intro m
  induction m with
  | zero =>
    intro a1 a2 a3 a4 a5 a6 M hG hS i0 i1 i2 i5
    exfalso; omega
  | succ m ih =>
    intro a1 a2 a3 a4 a5 a6 M hG hS i0 i1 i2 i5
    show qT (b_X11_loophole_49 n j (f_X11_loophole_49 n j m) a1 a2 a3 a4 a5 a6 M) _
    unfold b_X11_loophole_49
    refine T_lt l_255 rfl (fun hq6_ => ?_) (fun hq6_ => ?_)
    · refine T_eq rfl l_0 (fun hq7_ => ?_) (fun hq7_ => ?_)
      · exact T_ret ⟨hG, hS⟩
      · exact T_ret ⟨hG, hS⟩
    · refine T_qc (t_X1_isLoophole hn hj a6 a1 a2 (M 7 9) M hG (i_rng (lo := 0) (hi := 255) rfl (by omega) (by omega))) ?_
      rintro rv8 mv9 ⟨hq10_, gq11_, kq12_⟩
      have kq13_ := Sm.call hS kq12_ rfl
      refine T_eq rfl l_0 (fun hq14_ => ?_) (fun hq14_ => ?_)
      · refine T_ql (i_add rfl l_1 (by omega) (by omega)) ?_
        intro xv15 hq16_
        exact ih a1 a2 a3 a4 a5 xv15 mv9 gq11_ kq13_ (i_rng (lo := 0) (hi := 1) rfl (by omega) (by omega)) (i_rng (lo := (-2)) (hi := 255) rfl (by omega) (by omega)) (i_rng (lo := 0) (hi := 256) rfl (by omega) (by omega)) (by omega)
      · have hq17_ := i_full (a5)
        refine T_ql rfl ?_
        intro xv18 hq19_
        refine T_eq rfl l_m2 (fun hq20_ => ?_) (fun hq20_ => ?_)
        · unfold f_X11_loophole_101
          refine T_ql (i_add rfl l_1 (by omega) (by omega)) ?_
          intro xv21 hq22_
          exact ih a1 a2 a3 a6 xv18 xv21 mv9 gq11_ kq13_ (i_rng (lo := 0) (hi := 1) rfl (by omega) (by omega)) (i_rng (lo := (-2)) (hi := 255) rfl (by omega) (by omega)) (i_rng (lo := 0) (hi := 256) rfl (by omega) (by omega)) (by omega)
        · refine T_qc (t_J6_bitCount_0f7a4 hn a6 mv9 gq11_ ) ?_
          rintro rv23 mv24 ⟨hq25_, gq26_, kq27_⟩
          have hq28_ := kq27_.nil
          subst hq28_
          refine T_qc (t_J6_bitCount_0f7a4 hn a4 mv9 gq11_ ) ?_
          rintro rv29 mv30 ⟨hq31_, gq32_, kq33_⟩
          have hq34_ := kq33_.nil
          subst hq34_
          refine T_le rfl rfl (fun hq35_ => ?_) (fun hq35_ => ?_)
          · refine T_ql (i_add rfl l_1 (by omega) (by omega)) ?_
            intro xv36 hq37_
            exact ih a1 a2 a3 a4 xv18 xv36 mv9 gq11_ kq13_ (i_rng (lo := 0) (hi := 1) rfl (by omega) (by omega)) (i_rng (lo := (-2)) (hi := 255) rfl (by omega) (by omega)) (i_rng (lo := 0) (hi := 256) rfl (by omega) (by omega)) (by omega)
          · unfold f_X11_loophole_101
            refine T_ql (i_add rfl l_1 (by omega) (by omega)) ?_
            intro xv38 hq39_
            exact ih a1 a2 a3 a6 xv18 xv38 mv9 gq11_ kq13_ (i_rng (lo := 0) (hi := 1) rfl (by omega) (by omega)) (i_rng (lo := (-2)) (hi := 255) rfl (by omega) (by omega)) (i_rng (lo := 0) (hi := 256) rfl (by omega) (by omega)) (by omega)
theorem t_X11_loophole {n : Nat} (hn : 200000 ≤ n) {j : Nat} (hj : q_isLaw j) (a1 a2 a3 : Int32) (M : qM) (hG : G M) : qT (f_X11_loophole n j a1 a2 a3 M) (po_X11_loophole a1 a2 a3 M) := by
  have hS : Sm l_X11_loophole M M := Sm.rf
  unfold f_X11_loophole
  refine T_qc (t_X2_knowsAll hn a1 M hG ) ?_
  rintro rv40 mv41 ⟨hq42_, gq43_, kq44_⟩
  have hq45_ := kq44_.nil
  subst hq45_
  refine T_eq rfl l_0 (fun hq46_ => ?_) (fun hq46_ => ?_)
  · exact T_ret ⟨hG, hS⟩
  · refine T_qc (t_X2_knowsAll hn a2 M hG ) ?_
    rintro rv47 mv48 ⟨hq49_, gq50_, kq51_⟩
    have hq52_ := kq51_.nil
    subst hq52_
    refine T_eq rfl l_0 (fun hq53_ => ?_) (fun hq53_ => ?_)
    · exact T_ret ⟨hG, hS⟩
    · refine T_eq rfl l_0 (fun hq54_ => ?_) (fun hq54_ => ?_)
      · refine T_lt rfl l_0 (fun hq55_ => ?_) (fun hq55_ => ?_)
        · exact T_ret ⟨hG, hS⟩
        · refine T_le rfl l_1 (fun hq56_ => ?_) (fun hq56_ => ?_)
          · exact (t_X11_loophole_49 hn hj) n a1 a2 a3 (-2 : Int32) (0 : Int32) (0 : Int32) M hG hS (i_rng (lo := 0) (hi := 1) rfl (by omega) (by omega)) (i_rng (lo := (-2)) (hi := 255) l_m2 (by omega) (by omega)) (i_rng (lo := 0) (hi := 256) l_0 (by omega) (by omega)) (by have e3 : ((-2 : Int32)).toInt = _ := l_m2; have e4 : ((0 : Int32)).toInt = _ := l_0; have e5 : ((0 : Int32)).toInt = _ := l_0; omega)
          · exact T_ret ⟨hG, hS⟩
      · exact T_ret ⟨hG, hS⟩
abbrev l_X12_finds : List Bx := [(96, 98, 0, 0)]
abbrev po_X12_finds (a1 a2 : Int32) (M : qM) (v : Int32) (M' : qM) : Prop := (0 ≤ v.toInt ∧ v.toInt ≤ 1) ∧ G M' ∧ Sm l_X12_finds M M'
theorem t_X12_finds_2 {n : Nat} (hn : 200000 ≤ n) {oa1 oa2 : Int32} {M0 : qM} : ∀ (m : Nat) (a1 a2 a3 : Int32) (M : qM), G M → Sm l_X12_finds M0 M → 0 ≤ a1.toInt ∧ a1.toInt ≤ 2147483647 → 0 ≤ a2.toInt ∧ a2.toInt ≤ 2147483647 → 0 ≤ a3.toInt ∧ a3.toInt ≤ 12 → 12 - a3.toInt < (m : Int) → qT (f_X12_finds_2 n m a1 a2 a3 M) (po_X12_finds oa1 oa2 M0) := by
  intro m
  induction m with
  | zero =>
    intro a1 a2 a3 M hG hS i0 i1 i2 i5
    exfalso; omega
  | succ m ih =>
    intro a1 a2 a3 M hG hS i0 i1 i2 i5
    show qT (b_X12_finds_2 n (f_X12_finds_2 n m) a1 a2 a3 M) _
    unfold b_X12_finds_2
    refine T_le l_12 rfl (fun hq5_ => ?_) (fun hq5_ => ?_)
    · exact T_ret ⟨(i_rng (lo := 0) (hi := 1) l_1 (by omega) (by omega)), hG, hS⟩
    · refine T_qc (t_X12_has0 hn a1 a3 M hG (i_rng (lo := 0) (hi := 11) rfl (by omega) (by omega))) ?_
      rintro rv6 mv7 ⟨hq8_, hq9_, gq10_, kq11_⟩
      have hq12_ := kq11_.nil
      subst hq12_
      refine T_eq rfl l_0 (fun hq13_ => ?_) (fun hq13_ => ?_)
      · unfold f_X12_finds_28
        refine T_qc (t_X12_has0 hn a2 a3 M hG (i_rng (lo := 0) (hi := 11) rfl (by omega) (by omega))) ?_
        rintro rv14 mv15 ⟨hq16_, hq17_, gq18_, kq19_⟩
        have hq20_ := kq19_.nil
        subst hq20_
        refine T_eq rfl l_0 (fun hq21_ => ?_) (fun hq21_ => ?_)
        · refine T_ql (i_add rfl l_1 (by omega) (by omega)) ?_
          intro xv22 hq23_
          have hq24_ := i_full (a1)
          have hq25_ := i_full (a2)
          exact ih a1 a2 xv22 M hG hS (i_rng (lo := 0) (hi := 2147483647) rfl (by omega) (by omega)) (i_rng (lo := 0) (hi := 2147483647) rfl (by omega) (by omega)) (i_rng (lo := 0) (hi := 12) rfl (by omega) (by omega)) (by omega)
        · refine T_qc (t_X12_isLike hn (12 : Int32) a3 M hG (i_rng (lo := 0) (hi := 12) l_12 (by omega) (by omega)) (i_rng (lo := 0) (hi := 11) rfl (by omega) (by omega))) ?_
          rintro rv26 mv27 ⟨hq28_, gq29_, kq30_⟩
          have kq31_ := Sm.call hS kq30_ rfl
          refine T_eq rfl l_0 (fun hq32_ => ?_) (fun hq32_ => ?_)
          · refine T_ql (i_add rfl l_1 (by omega) (by omega)) ?_
            intro xv33 hq34_
            have hq35_ := i_full (a1)
            have hq36_ := i_full (a2)
            exact ih a1 a2 xv33 mv27 gq29_ kq31_ (i_rng (lo := 0) (hi := 2147483647) rfl (by omega) (by omega)) (i_rng (lo := 0) (hi := 2147483647) rfl (by omega) (by omega)) (i_rng (lo := 0) (hi := 12) rfl (by omega) (by omega)) (by omega)
          · exact T_ret ⟨(i_rng (lo := 0) (hi := 1) l_0 (by omega) (by omega)), gq29_, kq31_⟩
      · refine T_qc (t_X12_isLike hn (12 : Int32) a3 M hG (i_rng (lo := 0) (hi := 12) l_12 (by omega) (by omega)) (i_rng (lo := 0) (hi := 11) rfl (by omega) (by omega))) ?_
        rintro rv37 mv38 ⟨hq39_, gq40_, kq41_⟩
        have kq42_ := Sm.call hS kq41_ rfl
        refine T_eq rfl l_0 (fun hq43_ => ?_) (fun hq43_ => ?_)
        · exact T_ret ⟨(i_rng (lo := 0) (hi := 1) l_0 (by omega) (by omega)), gq40_, kq42_⟩
        · unfold f_X12_finds_28
          refine T_qc (t_X12_has0 hn a2 a3 mv38 gq40_ (i_rng (lo := 0) (hi := 11) rfl (by omega) (by omega))) ?_
          rintro rv44 mv45 ⟨hq46_, hq47_, gq48_, kq49_⟩
          have hq50_ := kq49_.nil
          subst hq50_
          refine T_eq rfl l_0 (fun hq51_ => ?_) (fun hq51_ => ?_)
          · refine T_ql (i_add rfl l_1 (by omega) (by omega)) ?_
            intro xv52 hq53_
            have hq54_ := i_full (a1)
            have hq55_ := i_full (a2)
            exact ih a1 a2 xv52 mv38 gq40_ kq42_ (i_rng (lo := 0) (hi := 2147483647) rfl (by omega) (by omega)) (i_rng (lo := 0) (hi := 2147483647) rfl (by omega) (by omega)) (i_rng (lo := 0) (hi := 12) rfl (by omega) (by omega)) (by omega)
          · refine T_qc (t_X12_isLike hn (12 : Int32) a3 mv38 gq40_ (i_rng (lo := 0) (hi := 12) l_12 (by omega) (by omega)) (i_rng (lo := 0) (hi := 11) rfl (by omega) (by omega))) ?_
            rintro rv56 mv57 ⟨hq58_, gq59_, kq60_⟩
            have kq61_ := Sm.call kq42_ kq60_ rfl
            refine T_eq rfl l_0 (fun hq62_ => ?_) (fun hq62_ => ?_)
            · refine T_ql (i_add rfl l_1 (by omega) (by omega)) ?_
              intro xv63 hq64_
              have hq65_ := i_full (a1)
              have hq66_ := i_full (a2)
              exact ih a1 a2 xv63 mv57 gq59_ kq61_ (i_rng (lo := 0) (hi := 2147483647) rfl (by omega) (by omega)) (i_rng (lo := 0) (hi := 2147483647) rfl (by omega) (by omega)) (i_rng (lo := 0) (hi := 12) rfl (by omega) (by omega)) (by omega)
            · exact T_ret ⟨(i_rng (lo := 0) (hi := 1) l_0 (by omega) (by omega)), gq59_, kq61_⟩
theorem t_X12_finds {n : Nat} (hn : 200000 ≤ n) (a1 a2 : Int32) (M : qM) (hG : G M) (pa1 : 0 ≤ a1.toInt ∧ a1.toInt ≤ 2147483647) (pa2 : 0 ≤ a2.toInt ∧ a2.toInt ≤ 2147483647) : qT (f_X12_finds n a1 a2 M) (po_X12_finds a1 a2 M) := by
  have hS : Sm l_X12_finds M M := Sm.rf
  unfold f_X12_finds
  have hq67_ := i_full (a1)
  have hq68_ := i_full (a2)
  exact (t_X12_finds_2 hn) n a1 a2 (0 : Int32) M hG hS (i_rng (lo := 0) (hi := 2147483647) rfl (by omega) (by omega)) (i_rng (lo := 0) (hi := 2147483647) rfl (by omega) (by omega)) (i_rng (lo := 0) (hi := 12) l_0 (by omega) (by omega)) (by have e2 : ((0 : Int32)).toInt = _ := l_0; omega)

abbrev l_X12_loophole : List Bx := [(81, 82, 12, 13), (82, 83, 12, 13), (96, 98, 0, 0)]
abbrev po_X12_loophole (a1 a2 a3 : Int32) (M : qM) (v : Int32) (M' : qM) : Prop := G M' ∧ Sm l_X12_loophole M M'
theorem t_X12_loophole_56 {n : Nat} (hn : 200000 ≤ n) {oa1 oa2 oa3 : Int32} {M0 : qM} : ∀ (m : Nat) (a1 a2 a3 a4 a5 a6 : Int32) (M : qM), G M → Sm l_X12_loophole M0 M → 0 ≤ a1.toInt ∧ a1.toInt ≤ 2147483647 → 0 ≤ a2.toInt ∧ a2.toInt ≤ 2147483647 → 0 ≤ a3.toInt ∧ a3.toInt ≤ 1 → (-2) ≤ a5.toInt ∧ a5.toInt ≤ 255 → 0 ≤ a6.toInt ∧ a6.toInt ≤ 256 → 256 - a6.toInt < (m : Int) → qT (f_X12_loophole_56 n m a1 a2 a3 a4 a5 a6 M) (po_X12_loophole oa1 oa2 oa3 M0) := by
  intro m
  induction m with
  | zero =>
    intro a1 a2 a3 a4 a5 a6 M hG hS i0 i1 i2 i3 i4 i7
    exfalso; omega
  | succ m ih =>
    intro a1 a2 a3 a4 a5 a6 M hG hS i0 i1 i2 i3 i4 i7
    show qT (b_X12_loophole_56 n (f_X12_loophole_56 n m) a1 a2 a3 a4 a5 a6 M) _
    unfold b_X12_loophole_56
    refine T_le l_256 rfl (fun hq6_ => ?_) (fun hq6_ => ?_)
    · refine T_eq rfl l_0 (fun hq7_ => ?_) (fun hq7_ => ?_)
      · exact T_ret ⟨hG, hS⟩
      · exact T_ret ⟨hG, hS⟩
    · refine T_mu hG hS (rn_82 _ _) (nw_82 _) (i := 1) rfl ⟨by decide, by decide, Or.inr ⟨by decide, by decide⟩⟩ ?_
      intro mv8 hq9_ gq10_ kq11_
      have hq12_ : (mv8 82 12).toInt = a6.toInt := by rw [hq9_, mu_at]
      have hq15_ := i_full (a1)
      have hq16_ := i_full (a2)
      refine T_qc (t_X12_finds hn a1 a2 mv8 gq10_ (i_rng (lo := 0) (hi := 2147483647) rfl (by omega) (by omega)) (i_rng (lo := 0) (hi := 2147483647) rfl (by omega) (by omega))) ?_
      rintro rv13 mv14 ⟨hq17_, gq18_, kq19_⟩
      have kq20_ := Sm.call kq11_ kq19_ rfl
      have hq21_ : (mv14 82 12).toInt = (mv8 82 12).toInt := by rw [kq19_ 82 12 (by decide)]
      refine T_eq rfl l_0 (fun hq22_ => ?_) (fun hq22_ => ?_)
      · refine T_ql (i_add rfl l_1 (by omega) (by omega)) ?_
        intro xv23 hq24_
        exact ih a1 a2 a3 a4 a5 xv23 mv14 gq18_ kq20_ (i_rng (lo := 0) (hi := 2147483647) rfl (by omega) (by omega)) (i_rng (lo := 0) (hi := 2147483647) rfl (by omega) (by omega)) (i_rng (lo := 0) (hi := 1) rfl (by omega) (by omega)) (i_rng (lo := (-2)) (hi := 255) rfl (by omega) (by omega)) (i_rng (lo := 0) (hi := 256) rfl (by omega) (by omega)) (by omega)
      · have hq25_ := i_full (a4)
        refine T_ql rfl ?_
        intro xv26 hq27_
        refine T_eq rfl l_m2 (fun hq28_ => ?_) (fun hq28_ => ?_)
        · unfold f_X12_loophole_111
          refine T_ql (i_add rfl l_1 (by omega) (by omega)) ?_
          intro xv29 hq30_
          exact ih a1 a2 a3 xv26 a6 xv29 mv14 gq18_ kq20_ (i_rng (lo := 0) (hi := 2147483647) rfl (by omega) (by omega)) (i_rng (lo := 0) (hi := 2147483647) rfl (by omega) (by omega)) (i_rng (lo := 0) (hi := 1) rfl (by omega) (by omega)) (i_rng (lo := (-2)) (hi := 255) rfl (by omega) (by omega)) (i_rng (lo := 0) (hi := 256) rfl (by omega) (by omega)) (by omega)
        · refine T_qc (t_X12_bits hn a6 mv14 gq18_ ) ?_
          rintro rv31 mv32 ⟨hq33_, hq34_, gq35_, kq36_⟩
          have hq37_ := kq36_.nil
          subst hq37_
          refine T_qc (t_X12_bits hn a5 mv14 gq18_ ) ?_
          rintro rv38 mv39 ⟨hq40_, hq41_, gq42_, kq43_⟩
          have hq44_ := kq43_.nil
          subst hq44_
          refine T_le rfl rfl (fun hq45_ => ?_) (fun hq45_ => ?_)
          · refine T_ql (i_add rfl l_1 (by omega) (by omega)) ?_
            intro xv46 hq47_
            exact ih a1 a2 a3 xv26 a5 xv46 mv14 gq18_ kq20_ (i_rng (lo := 0) (hi := 2147483647) rfl (by omega) (by omega)) (i_rng (lo := 0) (hi := 2147483647) rfl (by omega) (by omega)) (i_rng (lo := 0) (hi := 1) rfl (by omega) (by omega)) (i_rng (lo := (-2)) (hi := 255) rfl (by omega) (by omega)) (i_rng (lo := 0) (hi := 256) rfl (by omega) (by omega)) (by omega)
          · unfold f_X12_loophole_111
            refine T_ql (i_add rfl l_1 (by omega) (by omega)) ?_
            intro xv48 hq49_
            exact ih a1 a2 a3 xv26 a6 xv48 mv14 gq18_ kq20_ (i_rng (lo := 0) (hi := 2147483647) rfl (by omega) (by omega)) (i_rng (lo := 0) (hi := 2147483647) rfl (by omega) (by omega)) (i_rng (lo := 0) (hi := 1) rfl (by omega) (by omega)) (i_rng (lo := (-2)) (hi := 255) rfl (by omega) (by omega)) (i_rng (lo := 0) (hi := 256) rfl (by omega) (by omega)) (by omega)
theorem t_X12_loophole {n : Nat} (hn : 200000 ≤ n) (a1 a2 a3 : Int32) (M : qM) (hG : G M) : qT (f_X12_loophole n a1 a2 a3 M) (po_X12_loophole a1 a2 a3 M) := by
  have hS : Sm l_X12_loophole M M := Sm.rf
  unfold f_X12_loophole
  refine T_lt rfl l_0 (fun hq50_ => ?_) (fun hq50_ => ?_)
  · exact T_ret ⟨hG, hS⟩
  · refine T_lt rfl l_0 (fun hq51_ => ?_) (fun hq51_ => ?_)
    · exact T_ret ⟨hG, hS⟩
    · refine T_eq rfl l_0 (fun hq52_ => ?_) (fun hq52_ => ?_)
      · have hq53_ := i_and (a := a1) (b := a2) rfl (by omega)
        refine T_eq rfl l_0 (fun hq54_ => ?_) (fun hq54_ => ?_)
        · have hq57_ := (show ((0 : Int32)).toInt = _ from l_0)
          have hq58_ := (show ((1 : Int32)).toInt = _ from l_1)
          refine T_qc (t_X12_in hn a3 (0 : Int32) (1 : Int32) M hG (i_rng (lo := 0) (hi := 70) l_0 (by omega) (by omega)) (i_rng (lo := 0) (hi := 99999) l_1 (by omega) (by omega))) ?_
          rintro rv55 mv56 ⟨hq59_, hq60_, gq61_, kq62_⟩
          have hq63_ := kq62_.nil
          subst hq63_
          refine T_eq rfl l_0 (fun hq64_ => ?_) (fun hq64_ => ?_)
          · exact T_ret ⟨hG, hS⟩
          · refine T_mu hG hS (rn_81 _ _) (nw_81 _) (i := 0) rfl ⟨by decide, by decide, Or.inr ⟨by decide, by decide⟩⟩ ?_
            intro mv65 hq66_ gq67_ kq68_
            have hq69_ : (mv65 81 12).toInt = 1 := by rw [hq66_, mu_at]; exact l_1
            have hq70_ := i_full (a1)
            have hq71_ := i_full (a2)
            exact (t_X12_loophole_56 hn) n a1 a2 a3 (0 : Int32) (-2 : Int32) (0 : Int32) mv65 gq67_ kq68_ (i_rng (lo := 0) (hi := 2147483647) rfl (by omega) (by omega)) (i_rng (lo := 0) (hi := 2147483647) rfl (by omega) (by omega)) (i_rng (lo := 0) (hi := 1) rfl (by omega) (by omega)) (i_rng (lo := (-2)) (hi := 255) l_m2 (by omega) (by omega)) (i_rng (lo := 0) (hi := 256) l_0 (by omega) (by omega)) (by have e3 : ((0 : Int32)).toInt = _ := l_0; have e4 : ((-2 : Int32)).toInt = _ := l_m2; have e5 : ((0 : Int32)).toInt = _ := l_0; omega)
        · exact T_ret ⟨hG, hS⟩
      · exact T_ret ⟨hG, hS⟩
abbrev l_X9_at : List Bx := []
abbrev po_X9_at (a1 : Int32) (M : qM) (v : Int32) (M' : qM) : Prop := ((-1) ≤ v.toInt ∧ v.toInt ≤ 255) ∧ G M' ∧ Sm l_X9_at M M'
theorem t_X9_at {n : Nat} (hn : 200000 ≤ n) (a1 : Int32) (M : qM) (hG : G M) (pa1 : 0 ≤ a1.toInt ∧ a1.toInt ≤ 47) : qT (f_X9_at n a1 M) (po_X9_at a1 M) := by
  have hS : Sm l_X9_at M M := Sm.rf
  unfold f_X9_at
  refine T_lt rfl l_0 (fun hq1_ => ?_) (fun hq1_ => ?_)
  · exfalso; omega
  · have hq2_ := r_1_1 hG
    refine T_le rfl rfl (fun hq3_ => ?_) (fun hq3_ => ?_)
    · exact T_ret ⟨(i_rng (lo := (-1)) (hi := 255) l_m1 (by omega) (by omega)), hG, hS⟩
    · refine T_qg rfl (by omega) (by omega) ?_
      have hq4_ := r_2 hG a1.toNatClampNeg
      exact T_ret ⟨(i_rng (lo := (-1)) (hi := 255) rfl (by omega) (by omega)), hG, hS⟩
abbrev l_X5_read : List Bx := [(64, 65, 9, 10), (65, 66, 0, 0)]
abbrev po_X5_read (a2 : Int32) (M : qM) (v : Int32) (M' : qM) : Prop := (0 ≤ v.toInt ∧ v.toInt ≤ 1) ∧ (v.toInt = 0 ∨ KJ  M') ∧ G M' ∧ Sm l_X5_read M M'
theorem t_X5_read_15 {n : Nat} (hn : 200000 ≤ n) {oa2 : Int32} {M0 : qM} : ∀ (m : Nat) (a3 a4 : Int32) (M : qM), G M → Sm l_X5_read M0 M → 0 ≤ a3.toInt ∧ a3.toInt ≤ 1 → 0 ≤ a4.toInt ∧ a4.toInt ≤ 8 → (a3.toInt = 0 ∨ (∀ i : Nat, (i : Int) < a4.toInt → 0 ≤ (M 65 i).toInt ∧ (M 65 i).toInt ≤ 11)) → 8 - a4.toInt < (m : Int) → qT (f_X5_read_15 n m a3 a4 M) (po_X5_read oa2 M0) := by
  intro m
  induction m with
  | zero =>
    intro a3 a4 M hG hS i0 i1 hE i5
    exfalso; omega
  | succ m ih =>
    intro a3 a4 M hG hS i0 i1 hE i5
    show qT (b_X5_read_15 n (f_X5_read_15 n m) a3 a4 M) _
    unfold b_X5_read_15
    have hq4_ := r_64_9 hG
    refine T_le rfl rfl (fun hq5_ => ?_) (fun hq5_ => ?_)
    · refine T_qb rfl (by omega) (by omega) ?_
      exact T_ret ⟨(i_rng (lo := 0) (hi := 1) rfl (by omega) (by omega)), (hE.imp_right (fun h i hi => h i (by omega))), hG, hS⟩
    · refine T_qc (t_X9_at hn a4 M hG (i_rng (lo := 0) (hi := 47) rfl (by omega) (by omega))) ?_
      rintro rv6 mv7 ⟨hq8_, gq9_, kq10_⟩
      have hq11_ := kq10_.nil
      subst hq11_
      refine T_qg rfl (by omega) (by omega) ?_
      refine T_mu hG hS (i_rng (lo := (-1)) (hi := 255) rfl (by omega) (by omega)) (nw_65 _) (i := 1) rfl ⟨by decide, by decide, Or.inl rfl⟩ ?_
      intro mv12 hq13_ gq14_ kq15_
      have hq16_ : (mv12 64 9).toInt = (M 64 9).toInt := by rw [hq13_, mu_ne (Or.inl (by decide))]
      have hq17_ : (mv12 65 a4.toNatClampNeg).toInt = rv6.toInt := by rw [hq13_, mu_at]
      refine T_eq rfl l_0 (fun hq18_ => ?_) (fun hq18_ => ?_)
      · unfold f_X5_read_62
        refine T_ql (i_add rfl l_1 (by omega) (by omega)) ?_
        intro xv19 hq20_
        exact ih (0 : Int32) xv19 mv12 gq14_ kq15_ (i_rng (lo := 0) (hi := 1) l_0 (by omega) (by omega)) (i_rng (lo := 0) (hi := 8) rfl (by omega) (by omega)) (by have e0 : ((0 : Int32)).toInt = _ := l_0; first | exact Or.inl l_0 | exact Or.inr (fun i hi => absurd hi (by omega)) | exact Or.inr (kAll_step (M := M) (a := a4) (fun s_ hs_ => by rw [hq13_, mu_ne (Or.inr hs_)]) (hE.resolve_left (by omega)) (by omega) (by omega) (by omega) (by omega))) (by have e0 : ((0 : Int32)).toInt = _ := l_0; omega)
      · refine T_qg rfl (by omega) (by omega) ?_
        have hq23_ := r_65 gq14_ a4.toNatClampNeg
        refine T_qc (t_X2_knows hn (mv12 65 a4.toNatClampNeg) mv12 gq14_ ) ?_
        rintro rv21 mv22 ⟨hq24_, hq25_, gq26_, kq27_⟩
        have hq28_ := kq27_.nil
        subst hq28_
        refine T_eq rfl l_0 (fun hq29_ => ?_) (fun hq29_ => ?_)
        · unfold f_X5_read_62
          refine T_ql (i_add rfl l_1 (by omega) (by omega)) ?_
          intro xv30 hq31_
          exact ih (0 : Int32) xv30 mv12 gq14_ kq15_ (i_rng (lo := 0) (hi := 1) l_0 (by omega) (by omega)) (i_rng (lo := 0) (hi := 8) rfl (by omega) (by omega)) (by have e0 : ((0 : Int32)).toInt = _ := l_0; first | exact Or.inl l_0 | exact Or.inr (fun i hi => absurd hi (by omega)) | exact Or.inr (kAll_step (M := M) (a := a4) (fun s_ hs_ => by rw [hq13_, mu_ne (Or.inr hs_)]) (hE.resolve_left (by omega)) (by omega) (by omega) (by omega) (by omega))) (by have e0 : ((0 : Int32)).toInt = _ := l_0; omega)
        · refine T_ql (i_add rfl l_1 (by omega) (by omega)) ?_
          intro xv32 hq33_
          exact ih (1 : Int32) xv32 mv12 gq14_ kq15_ (i_rng (lo := 0) (hi := 1) l_1 (by omega) (by omega)) (i_rng (lo := 0) (hi := 8) rfl (by omega) (by omega)) (by have e0 : ((1 : Int32)).toInt = _ := l_1; first | exact Or.inl l_0 | exact Or.inr (fun i hi => absurd hi (by omega)) | exact Or.inr (kAll_step (M := M) (a := a4) (fun s_ hs_ => by rw [hq13_, mu_ne (Or.inr hs_)]) (hE.resolve_left (by omega)) (by omega) (by omega) (by omega) (by omega))) (by have e0 : ((1 : Int32)).toInt = _ := l_1; omega)
theorem t_X5_read {n : Nat} (hn : 200000 ≤ n) (a2 : Int32) (M : qM) (hG : G M) (pa2 : 1 ≤ a2.toInt ∧ a2.toInt ≤ 8) : qT (f_X5_read n a2 M) (po_X5_read a2 M) := by
  have hS : Sm l_X5_read M M := Sm.rf
  unfold f_X5_read
  have hq35_ := i_min (a := a2) (b := (8 : Int32)) rfl l_8
  refine T_mu hG hS (i_rng (lo := 0) (hi := 8) rfl (by omega) (by omega)) (nw_64 _) (i := 0) rfl ⟨by decide, by decide, Or.inr ⟨by decide, by decide⟩⟩ ?_
  intro mv34 hq36_ gq37_ kq38_
  have hq39_ : (mv34 64 9).toInt = (qmin a2 (8 : Int32)).toInt := by rw [hq36_, mu_at]
  exact (t_X5_read_15 hn) n (1 : Int32) (0 : Int32) mv34 gq37_ kq38_ (i_rng (lo := 0) (hi := 1) l_1 (by omega) (by omega)) (i_rng (lo := 0) (hi := 8) l_0 (by omega) (by omega)) (by have e0 : ((1 : Int32)).toInt = _ := l_1; have e1 : ((0 : Int32)).toInt = _ := l_0; first | exact Or.inl l_0 | exact Or.inr (fun i hi => absurd hi (by omega)) | exact Or.inr (kAll_step (M := M) (a := a4) (fun s_ hs_ => by rw [hq36_, mu_ne (Or.inl (by decide))]) (hE.resolve_left (by omega)) (by omega) (by omega) (by omega) (by omega))) (by have e0 : ((1 : Int32)).toInt = _ := l_1; have e1 : ((0 : Int32)).toInt = _ := l_0; omega)
abbrev l_X10_knowsAll_c7 : List Bx := []
abbrev po_X10_knowsAll_c7 (a1 : Int32) (M : qM) (v : Int32) (M' : qM) : Prop := (0 ≤ v.toInt ∧ v.toInt ≤ 1) ∧ G M' ∧ Sm l_X10_knowsAll_c7 M M'
theorem t_X10_knowsAll_c7 {n : Nat} (hn : 200000 ≤ n) (a1 : Int32) (M : qM) (hG : G M) : qT (f_X10_knowsAll n 7 a1 M) (po_X10_knowsAll_c7 a1 M) := by
  have hS : Sm l_X10_knowsAll_c7 M M := Sm.rf
  unfold f_X10_knowsAll
  try simp only [Nat.reduceAdd]
  refine T_eq rfl l_0 (fun hq1_ => ?_) (fun hq1_ => ?_)
  · exact T_ret ⟨(i_rng (lo := 0) (hi := 1) l_1 (by omega) (by omega)), hG, hS⟩
  · exact T_ret ⟨(i_rng (lo := 0) (hi := 1) l_0 (by omega) (by omega)), hG, hS⟩
abbrev l_X5_takeWorkers : List Bx := [(64, 65, 10, 11), (66, 67, 0, 0)]
abbrev po_X5_takeWorkers (a1 : Int32) (M : qM) (v : Int32) (M' : qM) : Prop := (0 ≤ v.toInt ∧ v.toInt ≤ 1) ∧ G M' ∧ Sm l_X5_takeWorkers M M'
theorem t_X5_takeWorkers_21 {n : Nat} (hn : 200000 ≤ n) {oa1 : Int32} {M0 : qM} : ∀ (m : Nat) (a1 a2 : Int32) (M : qM), G M → Sm l_X5_takeWorkers M0 M → 0 ≤ a2.toInt ∧ a2.toInt ≤ 8 → 8 - a2.toInt < (m : Int) → qT (f_X5_takeWorkers_21 n m a1 a2 M) (po_X5_takeWorkers oa1 M0) := by
  intro m
  induction m with
  | zero =>
    intro a1 a2 M hG hS i0 i3
    exfalso; omega
  | succ m ih =>
    intro a1 a2 M hG hS i0 i3
    show qT (b_X5_takeWorkers_21 n (f_X5_takeWorkers_21 n m) a1 a2 M) _
    unfold b_X5_takeWorkers_21
    refine T_le l_8 rfl (fun hq3_ => ?_) (fun hq3_ => ?_)
    · unfold f_X5_takeWorkers_70
      have hq4_ := r_64_10 hG
      refine T_le rfl l_0 (fun hq5_ => ?_) (fun hq5_ => ?_)
      · exact T_ret ⟨(i_rng (lo := 0) (hi := 1) l_0 (by omega) (by omega)), hG, hS⟩
      · exact T_ret ⟨(i_rng (lo := 0) (hi := 1) l_1 (by omega) (by omega)), hG, hS⟩
    · have hq6_ := r_64_10 hG
      refine T_le l_3 rfl (fun hq7_ => ?_) (fun hq7_ => ?_)
      · unfold f_X5_takeWorkers_70
        refine T_le rfl l_0 (fun hq8_ => ?_) (fun hq8_ => ?_)
        · exfalso; omega
        · exact T_ret ⟨(i_rng (lo := 0) (hi := 1) l_1 (by omega) (by omega)), hG, hS⟩
      · have hq9_ := i_and (a := a1 >>> (a2 &&& 31)) (b := (1 : Int32)) l_1 (by omega)
        refine T_eq rfl l_1 (fun hq10_ => ?_) (fun hq10_ => ?_)
        · refine T_qg rfl (by omega) (by omega) ?_
          refine T_mu hG hS (i_rng (lo := 0) (hi := 7) rfl (by omega) (by omega)) (nw_66 _) (i := 1) rfl ⟨by decide, by decide, Or.inl rfl⟩ ?_
          intro mv11 hq12_ gq13_ kq14_
          have hq15_ : (mv11 64 10).toInt = (M 64 10).toInt := by rw [hq12_, mu_ne (Or.inl (by decide))]
          have hq16_ : (mv11 66 ((M 64 10).toNatClampNeg)).toInt = a2.toInt := by rw [hq12_, mu_at]
          have hq18_ := r_64_10 gq13_
          refine T_mu gq13_ kq14_ (i_rng (lo := 0) (hi := 3) (i_add rfl l_1 (by omega) (by omega)) (by omega) (by omega)) (nw_64 _) (i := 0) rfl ⟨by decide, by decide, Or.inr ⟨by decide, by decide⟩⟩ ?_
          intro mv17 hq19_ gq20_ kq21_
          have hq22_ : (mv17 66 ((M 64 10).toNatClampNeg)).toInt = (mv11 66 ((M 64 10).toNatClampNeg)).toInt := by rw [hq19_, mu_ne (Or.inl (by decide))]
          have hq23_ : (mv17 64 10).toInt = ((mv11 64 10).toInt + 1) := by rw [hq19_, mu_at]; exact (i_add rfl l_1 (by omega) (by omega))
          refine T_ql (i_add rfl l_1 (by omega) (by omega)) ?_
          intro xv24 hq25_
          exact ih a1 xv24 mv17 gq20_ kq21_ (i_rng (lo := 0) (hi := 8) rfl (by omega) (by omega)) (by omega)
        · refine T_ql (i_add rfl l_1 (by omega) (by omega)) ?_
          intro xv26 hq27_
          exact ih a1 xv26 M hG hS (i_rng (lo := 0) (hi := 8) rfl (by omega) (by omega)) (by omega)
theorem t_X5_takeWorkers {n : Nat} (hn : 200000 ≤ n) (a1 : Int32) (M : qM) (hG : G M) : qT (f_X5_takeWorkers n a1 M) (po_X5_takeWorkers a1 M) := by
  have hS : Sm l_X5_takeWorkers M M := Sm.rf
  unfold f_X5_takeWorkers
  refine T_mu hG hS (i_rng (lo := 0) (hi := 3) l_0 (by omega) (by omega)) (nw_64 _) (i := 0) rfl ⟨by decide, by decide, Or.inr ⟨by decide, by decide⟩⟩ ?_
  intro mv28 hq29_ gq30_ kq31_
  have hq32_ : (mv28 64 10).toInt = 0 := by rw [hq29_, mu_at]; exact l_0
  refine T_eq rfl l_0 (fun hq33_ => ?_) (fun hq33_ => ?_)
  · exact T_ret ⟨(i_rng (lo := 0) (hi := 1) l_0 (by omega) (by omega)), gq30_, kq31_⟩
  · refine T_qc (t_J6_bitCount_0f7a4 hn a1 mv28 gq30_ ) ?_
    rintro rv34 mv35 ⟨hq36_, gq37_, kq38_⟩
    have hq39_ := kq38_.nil
    subst hq39_
    refine T_le rfl l_3 (fun hq40_ => ?_) (fun hq40_ => ?_)
    · exact (t_X5_takeWorkers_21 hn) n a1 (0 : Int32) mv28 gq30_ kq31_ (i_rng (lo := 0) (hi := 8) l_0 (by omega) (by omega)) (by have e1 : ((0 : Int32)).toInt = _ := l_0; omega)
    · exact T_ret ⟨(i_rng (lo := 0) (hi := 1) l_0 (by omega) (by omega)), gq30_, kq31_⟩
abbrev l_J7_fill_53178_c69_3 : List Bx := [(69, 70, 0, 0)]
abbrev po_J7_fill_53178_c69_3 (a1 : Int32) (M : qM) (v : Int32) (M' : qM) : Prop := (0 ≤ v.toInt ∧ v.toInt ≤ 0) ∧ G M' ∧ Sm l_J7_fill_53178_c69_3 M M'
theorem t_J7_fill_53178_c69_3_5 {n : Nat} (hn : 200000 ≤ n) {oa1 : Int32} {M0 : qM} : ∀ (m : Nat) (a1 a2 a3 : Int32) (M : qM), G M → Sm l_J7_fill_53178_c69_3 M0 M → 0 ≤ a1.toInt ∧ a1.toInt ≤ 0 → 0 ≤ a2.toInt ∧ a2.toInt ≤ 3 → 3 ≤ a3.toInt ∧ a3.toInt ≤ 3 → 3 - a2.toInt < (m : Int) → qT (f_J7_fill_53178_5 n 69 3 m a1 a2 a3 M) (po_J7_fill_53178_c69_3 oa1 M0) := by
  intro m
  induction m with
  | zero =>
    intro a1 a2 a3 M hG hS i0 i1 i2 i5
    exfalso; omega
  | succ m ih =>
    intro a1 a2 a3 M hG hS i0 i1 i2 i5
    show qT (b_J7_fill_53178_5 n 69 3 (f_J7_fill_53178_5 n 69 3 m) a1 a2 a3 M) _
    unfold b_J7_fill_53178_5
    try simp only [Nat.reduceAdd]
    refine T_le rfl rfl (fun hq2_ => ?_) (fun hq2_ => ?_)
    · exact T_ret ⟨(i_rng (lo := 0) (hi := 0) l_0 (by omega) (by omega)), hG, hS⟩
    · refine T_qg rfl (by omega) (by omega) ?_
      refine T_mu hG hS (i_rng (lo := 0) (hi := 255) rfl (by omega) (by omega)) (nw_69 _) (i := 0) rfl ⟨by decide, by decide, Or.inl rfl⟩ ?_
      intro mv3 hq4_ gq5_ kq6_
      have hq7_ : (mv3 69 a2.toNatClampNeg).toInt = a1.toInt := by rw [hq4_, mu_at]
      refine T_ql (i_add rfl l_1 (by omega) (by omega)) ?_
      intro xv8 hq9_
      exact ih a1 xv8 a3 mv3 gq5_ kq6_ (i_rng (lo := 0) (hi := 0) rfl (by omega) (by omega)) (i_rng (lo := 0) (hi := 3) rfl (by omega) (by omega)) (i_rng (lo := 3) (hi := 3) rfl (by omega) (by omega)) (by omega)
theorem t_J7_fill_53178_c69_3 {n : Nat} (hn : 200000 ≤ n) (a1 : Int32) (M : qM) (hG : G M) (pa1 : 0 ≤ a1.toInt ∧ a1.toInt ≤ 0) : qT (f_J7_fill_53178 n 69 3 a1 M) (po_J7_fill_53178_c69_3 a1 M) := by
  have hS : Sm l_J7_fill_53178_c69_3 M M := Sm.rf
  unfold f_J7_fill_53178
  try simp only [Nat.reduceAdd]
  refine T_ql (show (Int32.ofNat 3).toInt = 3 from by decide) ?_
  intro xv10 hq11_
  exact (t_J7_fill_53178_c69_3_5 hn) n a1 (0 : Int32) xv10 M hG hS (i_rng (lo := 0) (hi := 0) rfl (by omega) (by omega)) (i_rng (lo := 0) (hi := 3) l_0 (by omega) (by omega)) (i_rng (lo := 3) (hi := 3) rfl (by omega) (by omega)) (by have e1 : ((0 : Int32)).toInt = _ := l_0; omega)
abbrev l_X5_longestOf : List Bx := [(69, 70, 0, 0)]
abbrev po_X5_longestOf (a1 : Int32) (M : qM) (v : Int32) (M' : qM) : Prop := (0 ≤ v.toInt ∧ v.toInt ≤ 2147483647) ∧ G M' ∧ Sm l_X5_longestOf M M'
theorem t_X5_longestOf_63 {n : Nat} (hn : 200000 ≤ n) {oa1 : Int32} {M0 : qM} : ∀ (m : Nat) (a3 a4 : Int32) (M : qM), G M → Sm l_X5_longestOf M0 M → 0 ≤ a3.toInt ∧ a3.toInt ≤ 2147483647 → 0 ≤ a4.toInt ∧ a4.toInt ≤ 3 → 3 - a4.toInt < (m : Int) → qT (f_X5_longestOf_63 n m a3 a4 M) (po_X5_longestOf oa1 M0) := by
  intro m
  induction m with
  | zero =>
    intro a3 a4 M hG hS i0 i1 i4
    exfalso; omega
  | succ m ih =>
    intro a3 a4 M hG hS i0 i1 i4
    show qT (b_X5_longestOf_63 n (f_X5_longestOf_63 n m) a3 a4 M) _
    unfold b_X5_longestOf_63
    have hq3_ := r_64_10 hG
    refine T_le rfl rfl (fun hq4_ => ?_) (fun hq4_ => ?_)
    · have hq5_ := i_full (a3)
      exact T_ret ⟨(i_rng (lo := 0) (hi := 2147483647) rfl (by omega) (by omega)), hG, hS⟩
    · refine T_qg rfl (by omega) (by omega) ?_
      have hq6_ := r_69 hG a4.toNatClampNeg
      refine T_qg (i_add (i_mul rfl l_256 (by omega) (by omega)) rfl (by omega) (by omega)) (by omega) (by omega) ?_
      have hq7_ := i_max (a := a3) (b := M 67 (((a4 * (256 : Int32)) + (M 69 a4.toNatClampNeg)).toNatClampNeg)) rfl rfl
      refine T_ql rfl ?_
      intro xv8 hq9_
      refine T_ql (i_add rfl l_1 (by omega) (by omega)) ?_
      intro xv10 hq11_
      have hq12_ := i_full (xv8)
      exact ih xv8 xv10 M hG hS (i_rng (lo := 0) (hi := 2147483647) rfl (by omega) (by omega)) (i_rng (lo := 0) (hi := 3) rfl (by omega) (by omega)) (by omega)
theorem t_X5_longestOf_17 {n : Nat} (hn : 200000 ≤ n) {oa1 : Int32} {M0 : qM} : ∀ (m : Nat) (a2 a3 : Int32) (M : qM), G M → Sm l_X5_longestOf M0 M → 0 ≤ a2.toInt ∧ a2.toInt ≤ 6561 → (-1) ≤ a3.toInt ∧ a3.toInt ≤ 7 → a3.toInt - (-1) < (m : Int) → qT (f_X5_longestOf_17 n m a2 a3 M) (po_X5_longestOf oa1 M0) := by
  intro m
  induction m with
  | zero =>
    intro a2 a3 M hG hS i0 i1 i4
    exfalso; omega
  | succ m ih =>
    intro a2 a3 M hG hS i0 i1 i4
    show qT (b_X5_longestOf_17 n (f_X5_longestOf_17 n m) a2 a3 M) _
    unfold b_X5_longestOf_17
    refine T_lt rfl l_0 (fun hq16_ => ?_) (fun hq16_ => ?_)
    · unfold f_X5_longestOf_58
      exact (t_X5_longestOf_63 hn) n (0 : Int32) (0 : Int32) M hG hS (i_rng (lo := 0) (hi := 2147483647) l_0 (by omega) (by omega)) (i_rng (lo := 0) (hi := 3) l_0 (by omega) (by omega)) (by have e0 : ((0 : Int32)).toInt = _ := l_0; have e1 : ((0 : Int32)).toInt = _ := l_0; omega)
    · have hq17_ := r_64_10 hG
      refine T_le rfl l_0 (fun hq18_ => ?_) (fun hq18_ => ?_)
      · unfold f_X5_longestOf_58
        exact (t_X5_longestOf_63 hn) n (0 : Int32) (0 : Int32) M hG hS (i_rng (lo := 0) (hi := 2147483647) l_0 (by omega) (by omega)) (i_rng (lo := 0) (hi := 3) l_0 (by omega) (by omega)) (by have e0 : ((0 : Int32)).toInt = _ := l_0; have e1 : ((0 : Int32)).toInt = _ := l_0; omega)
      · refine T_qd rfl (by omega) ?_
        have hq19_ := i_remb (a := a2) (b := M 64 10) rfl rfl (by omega) (by omega)
        refine T_ql rfl ?_
        intro xv20 hq21_
        refine T_qg rfl (by omega) (by omega) ?_
        refine T_qg rfl (by omega) (by omega) ?_
        have hq23_ := r_69 hG xv20.toNatClampNeg
        have hq24_ := i_shl1 (c := 7) (k := a3) (by decide) rfl (by omega) (by omega)
        have hq25_ := i_or (k := 8) (a := M 69 xv20.toNatClampNeg) (b := (1 : Int32) <<< (a3 &&& 31)) (by decide) rfl rfl (by omega) (by omega) (by omega) (by omega)
        refine T_mu hG hS (i_rng (lo := 0) (hi := 255) rfl (by omega) (by omega)) (nw_69 _) (i := 0) rfl ⟨by decide, by decide, Or.inl rfl⟩ ?_
        intro mv22 hq26_ gq27_ kq28_
        have hq29_ : (mv22 64 10).toInt = (M 64 10).toInt := by rw [hq26_, mu_ne (Or.inl (by decide))]
        have hq30_ : (mv22 69 xv20.toNatClampNeg).toInt = ((M 69 xv20.toNatClampNeg) ||| ((1 : Int32) <<< (a3 &&& 31))).toInt := by rw [hq26_, mu_at]
        have hq31_ := r_64_10 gq27_
        refine T_qd rfl (by omega) ?_
        have hq32_ := i_divb (a := a2) (b := mv22 64 10) rfl rfl (by omega) (by omega)
        refine T_ql rfl ?_
        intro xv33 hq34_
        refine T_ql (i_add rfl l_m1 (by omega) (by omega)) ?_
        intro xv35 hq36_
        exact ih xv33 xv35 mv22 gq27_ kq28_ (i_rng (lo := 0) (hi := 6561) rfl (by omega) (by omega)) (i_rng (lo := (-1)) (hi := 7) rfl (by omega) (by omega)) (by omega)
theorem t_X5_longestOf {n : Nat} (hn : 200000 ≤ n) (a1 : Int32) (M : qM) (hG : G M) (pa1 : 0 ≤ a1.toInt ∧ a1.toInt ≤ 6561) : qT (f_X5_longestOf n a1 M) (po_X5_longestOf a1 M) := by
  have hS : Sm l_X5_longestOf M M := Sm.rf
  unfold f_X5_longestOf
  refine T_qc (t_J7_fill_53178_c69_3 hn (0 : Int32) M hG (i_rng (lo := 0) (hi := 0) l_0 (by omega) (by omega))) ?_
  rintro rv37 mv38 ⟨hq39_, gq40_, kq41_⟩
  have kq42_ := Sm.call hS kq41_ rfl
  have hq43_ := r_64_9 gq40_
  refine T_ql (i_sub rfl l_1 (by omega) (by omega)) ?_
  intro xv44 hq45_
  exact (t_X5_longestOf_17 hn) n a1 xv44 mv38 gq40_ kq42_ (i_rng (lo := 0) (hi := 6561) rfl (by omega) (by omega)) (i_rng (lo := (-1)) (hi := 7) rfl (by omega) (by omega)) (by omega)
abbrev l_X5_findBestRow : List Bx := [(64, 65, 11, 13), (69, 70, 0, 0)]
abbrev po_X5_findBestRow (M : qM) (v : Int32) (M' : qM) : Prop := (0 ≤ v.toInt ∧ v.toInt ≤ 0) ∧ G M' ∧ Sm l_X5_findBestRow M M'
theorem t_X5_findBestRow_38 {n : Nat} (hn : 200000 ≤ n) {M0 : qM} : ∀ (m : Nat) (a1 a2 : Int32) (M : qM), G M → Sm l_X5_findBestRow M0 M → 0 ≤ a1.toInt ∧ a1.toInt ≤ 6561 → 0 ≤ a2.toInt ∧ a2.toInt ≤ 6561 → 6561 - a2.toInt < (m : Int) → qT (f_X5_findBestRow_38 n m a1 a2 M) (po_X5_findBestRow  M0) := by
  intro m
  induction m with
  | zero =>
    intro a1 a2 M hG hS i0 i1 i4
    exfalso; omega
  | succ m ih =>
    intro a1 a2 M hG hS i0 i1 i4
    show qT (b_X5_findBestRow_38 n (f_X5_findBestRow_38 n m) a1 a2 M) _
    unfold b_X5_findBestRow_38
    refine T_le rfl rfl (fun hq3_ => ?_) (fun hq3_ => ?_)
    · exact T_ret ⟨(i_rng (lo := 0) (hi := 0) l_0 (by omega) (by omega)), hG, hS⟩
    · refine T_qc (t_X5_longestOf hn a2 M hG (i_rng (lo := 0) (hi := 6561) rfl (by omega) (by omega))) ?_
      rintro rv4 mv5 ⟨hq6_, gq7_, kq8_⟩
      have kq9_ := Sm.call hS kq8_ rfl
      refine T_le rfl rfl (fun hq10_ => ?_) (fun hq10_ => ?_)
      · refine T_ql (i_add rfl l_1 (by omega) (by omega)) ?_
        intro xv11 hq12_
        exact ih a1 xv11 mv5 gq7_ kq9_ (i_rng (lo := 0) (hi := 6561) rfl (by omega) (by omega)) (i_rng (lo := 0) (hi := 6561) rfl (by omega) (by omega)) (by omega)
      · refine T_mu gq7_ kq9_ (rn_64_11 _) (nw_64 _) (i := 0) rfl ⟨by decide, by decide, Or.inr ⟨by decide, by decide⟩⟩ ?_
        intro mv13 hq14_ gq15_ kq16_
        have hq17_ : (mv13 64 11).toInt = rv4.toInt := by rw [hq14_, mu_at]
        refine T_mu gq15_ kq16_ (i_rng (lo := 0) (hi := 6561) rfl (by omega) (by omega)) (nw_64 _) (i := 0) rfl ⟨by decide, by decide, Or.inr ⟨by decide, by decide⟩⟩ ?_
        intro mv18 hq19_ gq20_ kq21_
        have hq22_ : (mv18 64 11).toInt = (mv13 64 11).toInt := by rw [hq19_, mu_ne (Or.inr (by decide))]
        have hq23_ : (mv18 64 12).toInt = a2.toInt := by rw [hq19_, mu_at]
        refine T_ql (i_add rfl l_1 (by omega) (by omega)) ?_
        intro xv24 hq25_
        exact ih a1 xv24 mv18 gq20_ kq21_ (i_rng (lo := 0) (hi := 6561) rfl (by omega) (by omega)) (i_rng (lo := 0) (hi := 6561) rfl (by omega) (by omega)) (by omega)
theorem t_X5_findBestRow_4 {n : Nat} (hn : 200000 ≤ n) {M0 : qM} : ∀ (m : Nat) (a1 a2 : Int32) (M : qM), G M → Sm l_X5_findBestRow M0 M → 0 ≤ a1.toInt ∧ a1.toInt ≤ 6561 → 0 ≤ a2.toInt ∧ a2.toInt ≤ 8 → ((a2.toInt = 0 ∧ a1.toInt ≤ 1) ∨ (a2.toInt = 1 ∧ a1.toInt ≤ 3) ∨ (a2.toInt = 2 ∧ a1.toInt ≤ 9) ∨ (a2.toInt = 3 ∧ a1.toInt ≤ 27) ∨ (a2.toInt = 4 ∧ a1.toInt ≤ 81) ∨ (a2.toInt = 5 ∧ a1.toInt ≤ 243) ∨ (a2.toInt = 6 ∧ a1.toInt ≤ 729) ∨ (a2.toInt = 7 ∧ a1.toInt ≤ 2187) ∨ (a2.toInt = 8 ∧ a1.toInt ≤ 6561)) → 8 - a2.toInt < (m : Int) → qT (f_X5_findBestRow_4 n m a1 a2 M) (po_X5_findBestRow  M0) := by
  intro m
  induction m with
  | zero =>
    intro a1 a2 M hG hS i0 i1 hE i5
    exfalso; omega
  | succ m ih =>
    intro a1 a2 M hG hS i0 i1 hE i5
    show qT (b_X5_findBestRow_4 n (f_X5_findBestRow_4 n m) a1 a2 M) _
    unfold b_X5_findBestRow_4
    have hq28_ := r_64_9 hG
    refine T_le rfl rfl (fun hq29_ => ?_) (fun hq29_ => ?_)
    · refine T_mu hG hS (rn_64_11 _) (nw_64 _) (i := 0) rfl ⟨by decide, by decide, Or.inr ⟨by decide, by decide⟩⟩ ?_
      intro mv30 hq31_ gq32_ kq33_
      have hq34_ : (mv30 64 9).toInt = (M 64 9).toInt := by rw [hq31_, mu_ne (Or.inr (by decide))]
      have hq35_ : (mv30 64 11).toInt = 1048576 := by rw [hq31_, mu_at]; exact l_1048576
      refine T_mu gq32_ kq33_ (i_rng (lo := 0) (hi := 6561) l_0 (by omega) (by omega)) (nw_64 _) (i := 0) rfl ⟨by decide, by decide, Or.inr ⟨by decide, by decide⟩⟩ ?_
      intro mv36 hq37_ gq38_ kq39_
      have hq40_ : (mv36 64 9).toInt = (mv30 64 9).toInt := by rw [hq37_, mu_ne (Or.inr (by decide))]
      have hq41_ : (mv36 64 11).toInt = (mv30 64 11).toInt := by rw [hq37_, mu_ne (Or.inr (by decide))]
      have hq42_ : (mv36 64 12).toInt = 0 := by rw [hq37_, mu_at]; exact l_0
      exact (t_X5_findBestRow_38 hn) n a1 (0 : Int32) mv36 gq38_ kq39_ (i_rng (lo := 0) (hi := 6561) rfl (by omega) (by omega)) (i_rng (lo := 0) (hi := 6561) l_0 (by omega) (by omega)) (by have e1 : ((0 : Int32)).toInt = _ := l_0; omega)
    · have hq43_ := r_64_10 hG
      have hq44_ := i_mulk 3 (a := a1) (b := M 64 10) rfl rfl (by omega) (by omega) (by omega) (by omega)
      refine T_ql rfl ?_
      intro xv45 hq46_
      refine T_ql (i_add rfl l_1 (by omega) (by omega)) ?_
      intro xv47 hq48_
      exact ih xv45 xv47 M hG hS (i_rng (lo := 0) (hi := 6561) rfl (by omega) (by omega)) (i_rng (lo := 0) (hi := 8) rfl (by omega) (by omega)) (by omega) (by omega)
theorem t_X5_findBestRow {n : Nat} (hn : 200000 ≤ n) (M : qM) (hG : G M) : qT (f_X5_findBestRow n  M) (po_X5_findBestRow  M) := by
  have hS : Sm l_X5_findBestRow M M := Sm.rf
  unfold f_X5_findBestRow
  exact (t_X5_findBestRow_4 hn) n (1 : Int32) (0 : Int32) M hG hS (i_rng (lo := 0) (hi := 6561) l_1 (by omega) (by omega)) (i_rng (lo := 0) (hi := 8) l_0 (by omega) (by omega)) (by have e0 : ((1 : Int32)).toInt = _ := l_1; have e1 : ((0 : Int32)).toInt = _ := l_0; omega) (by have e0 : ((1 : Int32)).toInt = _ := l_1; have e1 : ((0 : Int32)).toInt = _ := l_0; omega)

abbrev l_X5_hoursFor : List Bx := [(27, 30, 0, 0), (34, 35, 4, 5), (35, 37, 0, 0)]
abbrev po_X5_hoursFor (a1 a2 : Int32) (M : qM) (v : Int32) (M' : qM) : Prop := G M' ∧ Sm l_X5_hoursFor M M'
theorem t_X5_hoursFor_25 {n : Nat} (hn : 200000 ≤ n) {j : Nat} (hj : q_isLaw j) {oa1 oa2 : Int32} {M0 : qM} : ∀ (m : Nat) (a1 a2 a3 : Int32) (M : qM), G M → Sm l_X5_hoursFor M0 M → 0 ≤ a1.toInt ∧ a1.toInt ≤ 7 → 0 ≤ a2.toInt ∧ a2.toInt ≤ 11 → 1 ≤ a3.toInt ∧ a3.toInt ≤ 21 → 21 - a3.toInt < (m : Int) → qT (f_X5_hoursFor_25 n j m a1 a2 a3 M) (po_X5_hoursFor oa1 oa2 M0) := by
  intro m
  induction m with
  | zero =>
    intro a1 a2 a3 M hG hS i0 i1 i2 i5
    exfalso; omega
  | succ m ih =>
    intro a1 a2 a3 M hG hS i0 i1 i2 i5
    show qT (b_X5_hoursFor_25 n j (f_X5_hoursFor_25 n j m) a1 a2 a3 M) _
    unfold b_X5_hoursFor_25
    refine T_lt l_20 rfl (fun hq3_ => ?_) (fun hq3_ => ?_)
    · exact T_ret ⟨hG, hS⟩
    · refine T_qg rfl (by omega) (by omega) ?_
      refine T_qc (t_X10_triesAmong_c25 hn a1 (M 68 a2.toNatClampNeg) M hG (i_rng (lo := 0) (hi := 7) rfl (by omega) (by omega))) ?_
      rintro rv4 mv5 ⟨gq6_, kq7_⟩
      have hq8_ := kq7_.nil
      subst hq8_
      refine T_qc (t_X0_tellAll_c25 hn a1 a2 (8 : Int32) M hG (i_rng (lo := 0) (hi := 7) rfl (by omega) (by omega)) (i_rng (lo := 0) (hi := 11) rfl (by omega) (by omega)) (i_rng (lo := 0) (hi := 8) l_8 (by omega) (by omega))) ?_
      rintro rv9 mv10 ⟨hq11_, gq12_, kq13_⟩
      have kq14_ := Sm.call hS kq13_ rfl
      refine T_qc (t_X1_voidTries hn hj  mv10 gq12_ ) ?_
      rintro rv15 mv16 ⟨hq17_, gq18_, kq19_⟩
      have kq20_ := Sm.call kq14_ kq19_ rfl
      refine T_lt rfl rfl (fun hq21_ => ?_) (fun hq21_ => ?_)
      · unfold f_X5_hoursFor_79
        refine T_qc (t_X10_addTry_c25 hn a1 a2 mv16 gq18_ (i_rng (lo := 0) (hi := 7) rfl (by omega) (by omega)) (i_rng (lo := 0) (hi := 11) rfl (by omega) (by omega))) ?_
        rintro rv22 mv23 ⟨hq24_, gq25_, kq26_⟩
        have kq27_ := Sm.call kq20_ kq26_ rfl
        refine T_eq l_0 l_0 (fun hq28_ => ?_) (fun hq28_ => ?_)
        · refine T_ql (i_add rfl l_1 (by omega) (by omega)) ?_
          intro xv29 hq30_
          exact ih a1 a2 xv29 mv23 gq25_ kq27_ (i_rng (lo := 0) (hi := 7) rfl (by omega) (by omega)) (i_rng (lo := 0) (hi := 11) rfl (by omega) (by omega)) (i_rng (lo := 1) (hi := 21) rfl (by omega) (by omega)) (by omega)
        · exfalso; omega
      · unfold f_X5_hoursFor_79
        refine T_qc (t_X10_addTry_c25 hn a1 a2 mv16 gq18_ (i_rng (lo := 0) (hi := 7) rfl (by omega) (by omega)) (i_rng (lo := 0) (hi := 11) rfl (by omega) (by omega))) ?_
        rintro rv31 mv32 ⟨hq33_, gq34_, kq35_⟩
        have kq36_ := Sm.call kq20_ kq35_ rfl
        refine T_eq l_1 l_0 (fun hq37_ => ?_) (fun hq37_ => ?_)
        · exfalso; omega
        · refine T_qc (t_X10_addCounted_c25 hn a1 a2 mv32 gq34_ (i_rng (lo := 0) (hi := 7) rfl (by omega) (by omega)) (i_rng (lo := 0) (hi := 11) rfl (by omega) (by omega))) ?_
          rintro rv38 mv39 ⟨hq40_, gq41_, kq42_⟩
          have kq43_ := Sm.call kq36_ kq42_ rfl
          refine T_qg rfl (by omega) (by omega) ?_
          have hq44_ := i_full (mv39 4 a2.toNatClampNeg)
          exact T_ret ⟨gq41_, kq43_⟩
theorem t_X5_hoursFor {n : Nat} (hn : 200000 ≤ n) {j : Nat} (hj : q_isLaw j) (a1 a2 : Int32) (M : qM) (hG : G M) (pa1 : 0 ≤ a1.toInt ∧ a1.toInt ≤ 7) (pa2 : 0 ≤ a2.toInt ∧ a2.toInt ≤ 11) : qT (f_X5_hoursFor n j a1 a2 M) (po_X5_hoursFor a1 a2 M) := by
  have hS : Sm l_X5_hoursFor M M := Sm.rf
  unfold f_X5_hoursFor
  refine T_qg rfl (by omega) (by omega) ?_
  refine T_qc (t_X10_hasCounted_c25 hn a1 (M 6 a2.toNatClampNeg) M hG (i_rng (lo := 0) (hi := 7) rfl (by omega) (by omega))) ?_
  rintro rv45 mv46 ⟨hq47_, gq48_, kq49_⟩
  have hq50_ := kq49_.nil
  subst hq50_
  refine T_eq rfl l_0 (fun hq51_ => ?_) (fun hq51_ => ?_)
  · exact T_ret ⟨hG, hS⟩
  · exact (t_X5_hoursFor_25 hn hj) n a1 a2 (1 : Int32) M hG hS (i_rng (lo := 0) (hi := 7) rfl (by omega) (by omega)) (i_rng (lo := 0) (hi := 11) rfl (by omega) (by omega)) (i_rng (lo := 1) (hi := 21) l_1 (by omega) (by omega)) (by have e2 : ((1 : Int32)).toInt = _ := l_1; omega)
abbrev l_X5_goThroughSets : List Bx := [(27, 30, 0, 0), (34, 35, 4, 5), (35, 37, 0, 0), (67, 68, 0, 0)]
abbrev po_X5_goThroughSets (a1 a2 a3 a4 : Int32) (M : qM) (v : Int32) (M' : qM) : Prop := (0 ≤ v.toInt ∧ v.toInt ≤ 0) ∧ G M' ∧ Sm l_X5_goThroughSets M M'
theorem to_X5_goThroughSets {n : Nat} (hn : 200000 ≤ n) {j : Nat} (hj : q_isLaw j) {B : Nat} {F_X5_goThroughSets : Int32 → Int32 → Int32 → Int32 → qM → qR} (hF_X5_goThroughSets : ∀ (a1 a2 a3 a4 : Int32) (M : qM), G M → 0 ≤ a1.toInt ∧ a1.toInt ≤ 2 → 0 ≤ a2.toInt ∧ a2.toInt ≤ 8 → 0 ≤ a3.toInt ∧ a3.toInt ≤ 255 → KJ  M → 8 - a2.toInt < (B : Int) → qT (F_X5_goThroughSets a1 a2 a3 a4 M) (po_X5_goThroughSets a1 a2 a3 a4 M)) (a1 a2 a3 a4 : Int32) (M : qM) (hG : G M) (pa1 : 0 ≤ a1.toInt ∧ a1.toInt ≤ 2) (pa2 : 0 ≤ a2.toInt ∧ a2.toInt ≤ 8) (pa3 : 0 ≤ a3.toInt ∧ a3.toInt ≤ 255) (wKJ : KJ  M) (hb : 8 - a2.toInt < (B : Int) + 1) : qT (fo_X5_goThroughSets n j F_X5_goThroughSets a1 a2 a3 a4 M) (po_X5_goThroughSets a1 a2 a3 a4 M) := by
  have hS : Sm l_X5_goThroughSets M M := Sm.rf
  unfold fo_X5_goThroughSets
  have hq1_ := r_64_9 hG
  refine T_lt rfl rfl (fun hq2_ => ?_) (fun hq2_ => ?_)
  · refine T_qc (hF_X5_goThroughSets a1 (a2 + (1 : Int32)) a3 a4 M hG (i_rng (lo := 0) (hi := 2) rfl (by omega) (by omega)) (i_rng (lo := 0) (hi := 8) (i_add rfl l_1 (by omega) (by omega)) (by omega) (by omega)) (i_rng (lo := 0) (hi := 255) rfl (by omega) (by omega)) wKJ (by have e1 : (a2 + (1 : Int32)).toInt = _ := (i_add rfl l_1 (by omega) (by omega)); omega)) ?_
    rintro rv3 mv4 ⟨hq5_, gq6_, kq7_⟩
    have kq8_ := Sm.call hS kq7_ rfl
    have hq9_ := (fun h_ => KJ_c (kq7_ 64 9 (by decide)) (funext (fun s_ => kq7_ 65 s_ (outc rfl))) h_) wKJ
    have hq10_ : (mv4 64 9).toInt = (M 64 9).toInt := by rw [kq7_ 64 9 (by decide)]
    refine T_qg rfl (by omega) (by omega) ?_
    refine T_qg rfl (by omega) (by omega) ?_
    have hq11_ := r_66 gq6_ a1.toNatClampNeg
    have hq12_ := hq9_ a2.toNatClampNeg (by rw [tnc]; omega)
    have hq13_ := r_65 gq6_ a2.toNatClampNeg
    refine T_ql (i_add (i_mul rfl l_12 (by omega) (by omega)) rfl (by omega) (by omega)) ?_
    intro xv14 hq15_
    refine T_qg rfl (by omega) (by omega) ?_
    refine T_ql rfl ?_
    intro xv16 hq17_
    refine T_qg rfl (by omega) (by omega) ?_
    refine T_ql rfl ?_
    intro xv18 hq19_
    refine T_le l_1048576 rfl (fun hq20_ => ?_) (fun hq20_ => ?_)
    · unfold f_X5_goThroughSets_104
      have hq23_ := i_shl1 (c := 7) (k := a2) (by decide) rfl (by omega) (by omega)
      have hq24_ := i_or (k := 8) (a := a3) (b := (1 : Int32) <<< (a2 &&& 31)) (by decide) rfl rfl (by omega) (by omega) (by omega) (by omega)
      have hq25_ := i_full (a4)
      have hq26_ := i_min (a := (1048576 : Int32)) (b := a4 + (1048576 : Int32)) l_1048576 rfl
      refine T_qc (hF_X5_goThroughSets a1 (a2 + (1 : Int32)) (a3 ||| ((1 : Int32) <<< (a2 &&& 31))) (qmin (1048576 : Int32) (a4 + (1048576 : Int32))) mv4 gq6_ (i_rng (lo := 0) (hi := 2) rfl (by omega) (by omega)) (i_rng (lo := 0) (hi := 8) (i_add rfl l_1 (by omega) (by omega)) (by omega) (by omega)) (i_rng (lo := 0) (hi := 255) rfl (by omega) (by omega)) hq9_ (by have e1 : (a2 + (1 : Int32)).toInt = _ := (i_add rfl l_1 (by omega) (by omega)); omega)) ?_
      rintro rv21 mv22 ⟨hq27_, gq28_, kq29_⟩
      have kq30_ := Sm.call kq8_ kq29_ rfl
      have hq31_ := (fun h_ => KJ_c (kq29_ 64 9 (by decide)) (funext (fun s_ => kq29_ 65 s_ (outc rfl))) h_) hq9_
      have hq32_ : (mv22 64 9).toInt = (mv4 64 9).toInt := by rw [kq29_ 64 9 (by decide)]
      refine T_qg rfl (by omega) (by omega) ?_
      refine T_mu gq28_ kq30_ (rn_27 _ _) (nw_27 _) (i := 0) rfl ⟨by decide, by decide, Or.inl rfl⟩ ?_
      intro mv33 hq34_ gq35_ kq36_
      have hq37_ := (fun h_ => KJ_c (M := mv22) (M' := mv33) (by rw [hq34_, mu_ne (Or.inl (by decide))]) (by rw [hq34_, mu_nc (by decide)]) h_) hq31_
      have hq38_ : (mv33 64 9).toInt = (mv22 64 9).toInt := by rw [hq34_, mu_ne (Or.inl (by decide))]
      have hq39_ : (mv33 27 xv14.toNatClampNeg).toInt = xv16.toInt := by rw [hq34_, mu_at]
      refine T_qg rfl (by omega) (by omega) ?_
      refine T_mu gq35_ kq36_ (rn_29 _ _) (nw_29 _) (i := 0) rfl ⟨by decide, by decide, Or.inl rfl⟩ ?_
      intro mv40 hq41_ gq42_ kq43_
      have hq44_ := (fun h_ => KJ_c (M := mv33) (M' := mv40) (by rw [hq41_, mu_ne (Or.inl (by decide))]) (by rw [hq41_, mu_nc (by decide)]) h_) hq37_
      have hq45_ : (mv40 64 9).toInt = (mv33 64 9).toInt := by rw [hq41_, mu_ne (Or.inl (by decide))]
      have hq46_ : (mv40 27 xv14.toNatClampNeg).toInt = (mv33 27 xv14.toNatClampNeg).toInt := by rw [hq41_, mu_ne (Or.inl (by decide))]
      have hq47_ : (mv40 29 xv14.toNatClampNeg).toInt = xv18.toInt := by rw [hq41_, mu_at]
      exact T_ret ⟨(i_rng (lo := 0) (hi := 0) l_0 (by omega) (by omega)), gq42_, kq43_⟩
    · refine T_qg rfl (by omega) (by omega) ?_
      refine T_qg rfl (by omega) (by omega) ?_
      refine T_qc (t_X5_hoursFor hn hj (mv4 66 a1.toNatClampNeg) (mv4 65 a2.toNatClampNeg) mv4 gq6_ (i_rng (lo := 0) (hi := 7) rfl (by omega) (by omega)) (i_rng (lo := 0) (hi := 11) rfl (by omega) (by omega))) ?_
      rintro rv48 mv49 ⟨gq50_, kq51_⟩
      have kq52_ := Sm.call kq8_ kq51_ rfl
      have hq53_ := (fun h_ => KJ_c (kq51_ 64 9 (by decide)) (funext (fun s_ => kq51_ 65 s_ (outc rfl))) h_) hq9_
      have hq54_ : (mv49 64 9).toInt = (mv4 64 9).toInt := by rw [kq51_ 64 9 (by decide)]
      unfold f_X5_goThroughSets_104
      have hq57_ := i_shl1 (c := 7) (k := a2) (by decide) rfl (by omega) (by omega)
      have hq58_ := i_or (k := 8) (a := a3) (b := (1 : Int32) <<< (a2 &&& 31)) (by decide) rfl rfl (by omega) (by omega) (by omega) (by omega)
      have hq59_ := i_full (a4)
      have hq60_ := i_full (rv48)
      have hq61_ := i_min (a := (1048576 : Int32)) (b := a4 + rv48) l_1048576 rfl
      refine T_qc (hF_X5_goThroughSets a1 (a2 + (1 : Int32)) (a3 ||| ((1 : Int32) <<< (a2 &&& 31))) (qmin (1048576 : Int32) (a4 + rv48)) mv49 gq50_ (i_rng (lo := 0) (hi := 2) rfl (by omega) (by omega)) (i_rng (lo := 0) (hi := 8) (i_add rfl l_1 (by omega) (by omega)) (by omega) (by omega)) (i_rng (lo := 0) (hi := 255) rfl (by omega) (by omega)) hq53_ (by have e1 : (a2 + (1 : Int32)).toInt = _ := (i_add rfl l_1 (by omega) (by omega)); omega)) ?_
      rintro rv55 mv56 ⟨hq62_, gq63_, kq64_⟩
      have kq65_ := Sm.call kq52_ kq64_ rfl
      have hq66_ := (fun h_ => KJ_c (kq64_ 64 9 (by decide)) (funext (fun s_ => kq64_ 65 s_ (outc rfl))) h_) hq53_
      have hq67_ : (mv56 64 9).toInt = (mv49 64 9).toInt := by rw [kq64_ 64 9 (by decide)]
      refine T_qg rfl (by omega) (by omega) ?_
      refine T_mu gq63_ kq65_ (rn_27 _ _) (nw_27 _) (i := 0) rfl ⟨by decide, by decide, Or.inl rfl⟩ ?_
      intro mv68 hq69_ gq70_ kq71_
      have hq72_ := (fun h_ => KJ_c (M := mv56) (M' := mv68) (by rw [hq69_, mu_ne (Or.inl (by decide))]) (by rw [hq69_, mu_nc (by decide)]) h_) hq66_
      have hq73_ : (mv68 64 9).toInt = (mv56 64 9).toInt := by rw [hq69_, mu_ne (Or.inl (by decide))]
      have hq74_ : (mv68 27 xv14.toNatClampNeg).toInt = xv16.toInt := by rw [hq69_, mu_at]
      refine T_qg rfl (by omega) (by omega) ?_
      refine T_mu gq70_ kq71_ (rn_29 _ _) (nw_29 _) (i := 0) rfl ⟨by decide, by decide, Or.inl rfl⟩ ?_
      intro mv75 hq76_ gq77_ kq78_
      have hq79_ := (fun h_ => KJ_c (M := mv68) (M' := mv75) (by rw [hq76_, mu_ne (Or.inl (by decide))]) (by rw [hq76_, mu_nc (by decide)]) h_) hq72_
      have hq80_ : (mv75 64 9).toInt = (mv68 64 9).toInt := by rw [hq76_, mu_ne (Or.inl (by decide))]
      have hq81_ : (mv75 27 xv14.toNatClampNeg).toInt = (mv68 27 xv14.toNatClampNeg).toInt := by rw [hq76_, mu_ne (Or.inl (by decide))]
      have hq82_ : (mv75 29 xv14.toNatClampNeg).toInt = xv18.toInt := by rw [hq76_, mu_at]
      exact T_ret ⟨(i_rng (lo := 0) (hi := 0) l_0 (by omega) (by omega)), gq77_, kq78_⟩
  · refine T_qg (i_add (i_mul rfl l_256 (by omega) (by omega)) rfl (by omega) (by omega)) (by omega) (by omega) ?_
    refine T_mu hG hS (rn_67 _ _) (nw_67 _) (i := 3) rfl ⟨by decide, by decide, Or.inl rfl⟩ ?_
    intro mv83 hq84_ gq85_ kq86_
    have hq87_ := (fun h_ => KJ_c (M := M) (M' := mv83) (by rw [hq84_, mu_ne (Or.inl (by decide))]) (by rw [hq84_, mu_nc (by decide)]) h_) wKJ
    have hq88_ : (mv83 64 9).toInt = (M 64 9).toInt := by rw [hq84_, mu_ne (Or.inl (by decide))]
    have hq89_ : (mv83 67 (((a1 * (256 : Int32)) + a3).toNatClampNeg)).toInt = a4.toInt := by rw [hq84_, mu_at]
    exact T_ret ⟨(i_rng (lo := 0) (hi := 0) l_0 (by omega) (by omega)), gq85_, kq86_⟩
theorem trc_X5_goThroughSets {n : Nat} (hn : 200000 ≤ n) {j : Nat} (hj : q_isLaw j) : ∀ m : Nat, (∀ (a1 a2 a3 a4 : Int32) (M : qM), G M → 0 ≤ a1.toInt ∧ a1.toInt ≤ 2 → 0 ≤ a2.toInt ∧ a2.toInt ≤ 8 → 0 ≤ a3.toInt ∧ a3.toInt ≤ 255 → KJ  M → 8 - a2.toInt < (m : Int) → qT (rc_X5_goThroughSets n j m a1 a2 a3 a4 M) (po_X5_goThroughSets a1 a2 a3 a4 M)) := by
  intro m
  induction m with
  | zero =>
    exact fun a1 a2 a3 a4 M q0 q1 q2 q3 q4 q5 => by exfalso; omega
  | succ m ih =>
    refine ?_
    · exact fun a1 a2 a3 a4 M q0 q1 q2 q3 q4 q5 => to_X5_goThroughSets hn hj (B := m) (ih) a1 a2 a3 a4 M q0 q1 q2 q3 q4 (by omega)
theorem t_X5_goThroughSets {n : Nat} (hn : 200000 ≤ n) {j : Nat} (hj : q_isLaw j) (a1 a2 a3 a4 : Int32) (M : qM) (hG : G M) (pa1 : 0 ≤ a1.toInt ∧ a1.toInt ≤ 2) (pa2 : 0 ≤ a2.toInt ∧ a2.toInt ≤ 8) (pa3 : 0 ≤ a3.toInt ∧ a3.toInt ≤ 255) (wKJ : KJ  M) : qT (f_X5_goThroughSets n j a1 a2 a3 a4 M) (po_X5_goThroughSets a1 a2 a3 a4 M) := by
  unfold f_X5_goThroughSets
  exact (trc_X5_goThroughSets hn hj 12) a1 a2 a3 a4 M hG pa1 pa2 pa3 wKJ (by omega)
abbrev l_X5_solve_c7 : List Bx := [(25, 26, 8, 10), (26, 34, 0, 0), (34, 35, 4, 5), (35, 37, 0, 0), (64, 65, 11, 13), (67, 70, 0, 0)]
abbrev po_X5_solve_c7 (M : qM) (v : Int32) (M' : qM) : Prop := (0 ≤ v.toInt ∧ v.toInt ≤ 0) ∧ G M' ∧ Sm l_X5_solve_c7 M M'
theorem t_X5_solve_c7_54 {n : Nat} (hn : 200000 ≤ n) {j : Nat} (hj : q_isLaw j) {M0 : qM} : ∀ (m : Nat) (a2 : Int32) (M : qM), G M → Sm l_X5_solve_c7 M0 M → 0 ≤ a2.toInt ∧ a2.toInt ≤ 3 → KJ  M → 3 - a2.toInt < (m : Int) → qT (f_X5_solve_54 n 7 j m a2 M) (po_X5_solve_c7  M0) := by
  intro m
  induction m with
  | zero =>
    intro a2 M hG hS i0 wKJ i4
    exfalso; omega
  | succ m ih =>
    intro a2 M hG hS i0 wKJ i4
    show qT (b_X5_solve_54 n 7 j (f_X5_solve_54 n 7 j m) a2 M) _
    unfold b_X5_solve_54
    try simp only [Nat.reduceAdd]
    have hq2_ := r_64_10 hG
    refine T_le rfl rfl (fun hq3_ => ?_) (fun hq3_ => ?_)
    · refine T_qc (t_X5_findBestRow hn  M hG ) ?_
      rintro rv4 mv5 ⟨hq6_, gq7_, kq8_⟩
      have kq9_ := Sm.call hS kq8_ rfl
      have hq10_ := (fun h_ => KJ_c (kq8_ 64 9 (by decide)) (funext (fun s_ => kq8_ 65 s_ (outc rfl))) h_) wKJ
      have hq11_ : (mv5 64 10).toInt = (M 64 10).toInt := by rw [kq8_ 64 10 (by decide)]
      exact T_ret ⟨(i_rng (lo := 0) (hi := 0) l_0 (by omega) (by omega)), gq7_, kq9_⟩
    · refine T_qc (t_X5_goThroughSets hn hj a2 (0 : Int32) (0 : Int32) (0 : Int32) M hG (i_rng (lo := 0) (hi := 2) rfl (by omega) (by omega)) (i_rng (lo := 0) (hi := 8) l_0 (by omega) (by omega)) (i_rng (lo := 0) (hi := 255) l_0 (by omega) (by omega)) wKJ) ?_
      rintro rv12 mv13 ⟨hq14_, gq15_, kq16_⟩
      have kq17_ := Sm.call hS kq16_ rfl
      have hq18_ := (fun h_ => KJ_c (kq16_ 64 9 (by decide)) (funext (fun s_ => kq16_ 65 s_ (outc rfl))) h_) wKJ
      have hq19_ : (mv13 64 10).toInt = (M 64 10).toInt := by rw [kq16_ 64 10 (by decide)]
      refine T_ql (i_add rfl l_1 (by omega) (by omega)) ?_
      intro xv20 hq21_
      exact ih xv20 mv13 gq15_ kq17_ (i_rng (lo := 0) (hi := 3) rfl (by omega) (by omega)) hq18_ (by omega)
theorem t_X5_solve_c7_10 {n : Nat} (hn : 200000 ≤ n) {j : Nat} (hj : q_isLaw j) {M0 : qM} : ∀ (m : Nat) (a2 : Int32) (M : qM), G M → Sm l_X5_solve_c7 M0 M → 0 ≤ a2.toInt ∧ a2.toInt ≤ 8 → KJ  M → 8 - a2.toInt < (m : Int) → qT (f_X5_solve_10 n 7 j m a2 M) (po_X5_solve_c7  M0) := by
  intro m
  induction m with
  | zero =>
    intro a2 M hG hS i0 wKJ i4
    exfalso; omega
  | succ m ih =>
    intro a2 M hG hS i0 wKJ i4
    show qT (b_X5_solve_10 n 7 j (f_X5_solve_10 n 7 j m) a2 M) _
    unfold b_X5_solve_10
    try simp only [Nat.reduceAdd]
    have hq23_ := r_64_9 hG
    refine T_le rfl rfl (fun hq24_ => ?_) (fun hq24_ => ?_)
    · exact (t_X5_solve_c7_54 hn hj) n (0 : Int32) M hG hS (i_rng (lo := 0) (hi := 3) l_0 (by omega) (by omega)) wKJ (by have e0 : ((0 : Int32)).toInt = _ := l_0; omega)
    · refine T_qg rfl (by omega) (by omega) ?_
      refine T_qg rfl (by omega) (by omega) ?_
      have hq27_ := wKJ a2.toNatClampNeg (by rw [tnc]; omega)
      have hq28_ := r_65 hG a2.toNatClampNeg
      refine T_qc (t_X1_alikes hn hj (M 65 a2.toNatClampNeg) (M 7 9) M hG (i_rng (lo := 0) (hi := 11) rfl (by omega) (by omega))) ?_
      rintro rv25 mv26 ⟨gq29_, kq30_⟩
      have kq31_ := Sm.call hS kq30_ rfl
      have hq32_ := (fun h_ => KJ_c (kq30_ 64 9 (by decide)) (funext (fun s_ => kq30_ 65 s_ (outc rfl))) h_) wKJ
      have hq33_ : (mv26 64 9).toInt = (M 64 9).toInt := by rw [kq30_ 64 9 (by decide)]
      refine T_qg rfl (by omega) (by omega) ?_
      refine T_mu gq29_ kq31_ (rn_68 _ _) (nw_68 _) (i := 5) rfl ⟨by decide, by decide, Or.inl rfl⟩ ?_
      intro mv34 hq35_ gq36_ kq37_
      have hq38_ := (fun h_ => KJ_c (M := mv26) (M' := mv34) (by rw [hq35_, mu_ne (Or.inl (by decide))]) (by rw [hq35_, mu_nc (by decide)]) h_) hq32_
      have hq39_ : (mv34 64 9).toInt = (mv26 64 9).toInt := by rw [hq35_, mu_ne (Or.inl (by decide))]
      have hq40_ : (mv34 68 ((M 65 a2.toNatClampNeg).toNatClampNeg)).toInt = rv25.toInt := by rw [hq35_, mu_at]
      refine T_ql (i_add rfl l_1 (by omega) (by omega)) ?_
      intro xv41 hq42_
      exact ih xv41 mv34 gq36_ kq37_ (i_rng (lo := 0) (hi := 8) rfl (by omega) (by omega)) hq38_ (by omega)
theorem t_X5_solve_c7 {n : Nat} (hn : 200000 ≤ n) {j : Nat} (hj : q_isLaw j) (M : qM) (hG : G M) (wKJ : KJ  M) : qT (f_X5_solve n 7 j  M) (po_X5_solve_c7  M) := by
  have hS : Sm l_X5_solve_c7 M M := Sm.rf
  unfold f_X5_solve
  try simp only [Nat.reduceAdd]
  refine T_qc (t_X10_copy_c25_7 hn  M hG ) ?_
  rintro rv43 mv44 ⟨hq45_, hq46_, gq47_, kq48_⟩
  have kq49_ := Sm.call hS kq48_ rfl
  have hq50_ := (fun h_ => KJ_c (kq48_ 64 9 (by decide)) (funext (fun s_ => kq48_ 65 s_ (outc rfl))) h_) wKJ
  exact (t_X5_solve_c7_10 hn hj) n (0 : Int32) mv44 gq47_ kq49_ (i_rng (lo := 0) (hi := 8) l_0 (by omega) (by omega)) hq50_ (by have e0 : ((0 : Int32)).toInt = _ := l_0; omega)
abbrev l_X5_workerOf : List Bx := []
abbrev po_X5_workerOf (a1 : Int32) (M : qM) (v : Int32) (M' : qM) : Prop := ((-1) ≤ v.toInt ∧ v.toInt ≤ 7) ∧ G M' ∧ Sm l_X5_workerOf M M'
theorem t_X5_workerOf_12 {n : Nat} (hn : 200000 ≤ n) {oa1 : Int32} {M0 : qM} : ∀ (m : Nat) (a1 a2 a3 : Int32) (M : qM), G M → Sm l_X5_workerOf M0 M → 0 ≤ a1.toInt ∧ a1.toInt ≤ 7 → 0 ≤ a2.toInt ∧ a2.toInt ≤ 6561 → (-1) ≤ a3.toInt ∧ a3.toInt ≤ 7 → a3.toInt - (-1) < (m : Int) → qT (f_X5_workerOf_12 n m a1 a2 a3 M) (po_X5_workerOf oa1 M0) := by
  intro m
  induction m with
  | zero =>
    intro a1 a2 a3 M hG hS i0 i1 i2 i5
    exfalso; omega
  | succ m ih =>
    intro a1 a2 a3 M hG hS i0 i1 i2 i5
    show qT (b_X5_workerOf_12 n (f_X5_workerOf_12 n m) a1 a2 a3 M) _
    unfold b_X5_workerOf_12
    refine T_le rfl rfl (fun hq3_ => ?_) (fun hq3_ => ?_)
    · unfold f_X5_workerOf_37
      have hq4_ := r_64_10 hG
      refine T_le rfl l_0 (fun hq5_ => ?_) (fun hq5_ => ?_)
      · exact T_ret ⟨(i_rng (lo := (-1)) (hi := 7) l_m1 (by omega) (by omega)), hG, hS⟩
      · refine T_qd rfl (by omega) ?_
        have hq6_ := i_remb (a := a2) (b := M 64 10) rfl rfl (by omega) (by omega)
        refine T_qg rfl (by omega) (by omega) ?_
        have hq7_ := r_66 hG ((a2 - ((a2 / (M 64 10)) * (M 64 10))).toNatClampNeg)
        exact T_ret ⟨(i_rng (lo := (-1)) (hi := 7) rfl (by omega) (by omega)), hG, hS⟩
    · have hq8_ := r_64_10 hG
      refine T_le rfl l_0 (fun hq9_ => ?_) (fun hq9_ => ?_)
      · unfold f_X5_workerOf_37
        refine T_le rfl l_0 (fun hq10_ => ?_) (fun hq10_ => ?_)
        · exact T_ret ⟨(i_rng (lo := (-1)) (hi := 7) l_m1 (by omega) (by omega)), hG, hS⟩
        · exfalso; omega
      · refine T_qd rfl (by omega) ?_
        have hq11_ := i_divb (a := a2) (b := M 64 10) rfl rfl (by omega) (by omega)
        refine T_ql rfl ?_
        intro xv12 hq13_
        refine T_ql (i_add rfl l_m1 (by omega) (by omega)) ?_
        intro xv14 hq15_
        exact ih a1 xv12 xv14 M hG hS (i_rng (lo := 0) (hi := 7) rfl (by omega) (by omega)) (i_rng (lo := 0) (hi := 6561) rfl (by omega) (by omega)) (i_rng (lo := (-1)) (hi := 7) rfl (by omega) (by omega)) (by omega)
theorem t_X5_workerOf {n : Nat} (hn : 200000 ≤ n) (a1 : Int32) (M : qM) (hG : G M) (pa1 : 0 ≤ a1.toInt ∧ a1.toInt ≤ 7) : qT (f_X5_workerOf n a1 M) (po_X5_workerOf a1 M) := by
  have hS : Sm l_X5_workerOf M M := Sm.rf
  unfold f_X5_workerOf
  have hq16_ := r_64_12 hG
  refine T_ql rfl ?_
  intro xv17 hq18_
  have hq19_ := r_64_9 hG
  refine T_ql (i_sub rfl l_1 (by omega) (by omega)) ?_
  intro xv20 hq21_
  exact (t_X5_workerOf_12 hn) n a1 xv17 xv20 M hG hS (i_rng (lo := 0) (hi := 7) rfl (by omega) (by omega)) (i_rng (lo := 0) (hi := 6561) rfl (by omega) (by omega)) (i_rng (lo := (-1)) (hi := 7) rfl (by omega) (by omega)) (by omega)
abbrev l_X11_jobs : List Bx := [(1, 2, 1, 2), (25, 26, 8, 10), (26, 34, 0, 0), (34, 35, 4, 5), (35, 37, 0, 0), (64, 65, 9, 13), (65, 70, 0, 0)]
abbrev po_X11_jobs (a1 a2 a3 : Int32) (M : qM) (v : Int32) (M' : qM) : Prop := ((-2147483648) ≤ v.toInt ∧ v.toInt ≤ 1048575) ∧ (((1 ≤ a1.toInt ∧ a1.toInt ≤ 8 ∧ a1.toInt ≤ (M 1 1).toInt) ∧ (M' 1 1).toInt = 0) ∨ (¬ (1 ≤ a1.toInt ∧ a1.toInt ≤ 8 ∧ a1.toInt ≤ (M 1 1).toInt) ∧ (M' 1 1).toInt = (M 1 1).toInt)) ∧ G M' ∧ Sm l_X11_jobs M M'
theorem t_X11_jobs {n : Nat} (hn : 200000 ≤ n) {j : Nat} (hj : q_isLaw j) (a1 a2 a3 : Int32) (M : qM) (hG : G M) : qT (f_X11_jobs n j a1 a2 a3 M) (po_X11_jobs a1 a2 a3 M) := by
  have hS : Sm l_X11_jobs M M := Sm.rf
  unfold f_X11_jobs
  have hq1_ := r_1_1 hG
  refine T_lt rfl l_1 (fun hq2_ => ?_) (fun hq2_ => ?_)
  · exact T_ret ⟨(i_rng (lo := (-2147483648)) (hi := 1048575) l_m1 (by omega) (by omega)), (by have e9 : ((-1 : Int32)).toInt = _ := l_m1; omega), hG, hS⟩
  · refine T_lt l_8 rfl (fun hq3_ => ?_) (fun hq3_ => ?_)
    · exact T_ret ⟨(i_rng (lo := (-2147483648)) (hi := 1048575) l_m1 (by omega) (by omega)), (by have e9 : ((-1 : Int32)).toInt = _ := l_m1; omega), hG, hS⟩
    · refine T_le rfl rfl (fun hq4_ => ?_) (fun hq4_ => ?_)
      · refine T_qc (t_X5_read hn a1 M hG (i_rng (lo := 1) (hi := 8) rfl (by omega) (by omega))) ?_
        rintro rv5 mv6 ⟨hq7_, hq8_, gq9_, kq10_⟩
        have kq11_ := Sm.call hS kq10_ rfl
        have hq12_ : (mv6 1 1).toInt = (M 1 1).toInt := by rw [kq10_ 1 1 (by decide)]
        refine T_qc (t_X9_clear hn  mv6 gq9_ ) ?_
        rintro rv13 mv14 ⟨hq15_, hq16_, gq17_, kq18_⟩
        have kq19_ := Sm.call kq11_ kq18_ rfl
        have hq20_ := Or.imp_right (fun h_ => KJ_c (kq18_ 64 9 (by decide)) (funext (fun s_ => kq18_ 65 s_ (outc rfl))) h_) hq8_
        have hq21_ := r_1_1 gq17_
        refine T_eq rfl l_0 (fun hq22_ => ?_) (fun hq22_ => ?_)
        · exact T_ret ⟨(i_rng (lo := (-2147483648)) (hi := 1048575) l_m2 (by omega) (by omega)), (by have e9 : ((-2 : Int32)).toInt = _ := l_m2; omega), gq17_, kq19_⟩
        · refine T_eq rfl l_10 (fun hq23_ => ?_) (fun hq23_ => ?_)
          · unfold f_X11_jobs_73
            refine T_eq l_1 l_0 (fun hq24_ => ?_) (fun hq24_ => ?_)
            · exfalso; omega
            · refine T_qc (t_X10_knowsAll_c7 hn a2 mv14 gq17_ ) ?_
              rintro rv25 mv26 ⟨hq27_, gq28_, kq29_⟩
              have hq30_ := kq29_.nil
              subst hq30_
              refine T_eq rfl l_0 (fun hq31_ => ?_) (fun hq31_ => ?_)
              · exact T_ret ⟨(i_rng (lo := (-2147483648)) (hi := 1048575) l_m4 (by omega) (by omega)), (by have e9 : ((-4 : Int32)).toInt = _ := l_m4; omega), gq17_, kq19_⟩
              · refine T_qc (t_X5_takeWorkers hn a2 mv14 gq17_ ) ?_
                rintro rv32 mv33 ⟨hq34_, gq35_, kq36_⟩
                have kq37_ := Sm.call kq19_ kq36_ rfl
                have hq38_ := Or.imp_right (fun h_ => KJ_c (kq36_ 64 9 (by decide)) (funext (fun s_ => kq36_ 65 s_ (outc rfl))) h_) hq20_
                have hq39_ : (mv33 1 1).toInt = (mv14 1 1).toInt := by rw [kq36_ 1 1 (by decide)]
                refine T_eq rfl l_0 (fun hq40_ => ?_) (fun hq40_ => ?_)
                · exact T_ret ⟨(i_rng (lo := (-2147483648)) (hi := 1048575) l_m4 (by omega) (by omega)), (by have e9 : ((-4 : Int32)).toInt = _ := l_m4; omega), gq35_, kq37_⟩
                · refine T_qc (t_X5_solve_c7 hn hj  mv33 gq35_ (hq38_.resolve_left (by omega))) ?_
                  rintro rv41 mv42 ⟨hq43_, gq44_, kq45_⟩
                  have kq46_ := Sm.call kq37_ kq45_ rfl
                  have hq47_ := Or.imp_right (fun h_ => KJ_c (kq45_ 64 9 (by decide)) (funext (fun s_ => kq45_ 65 s_ (outc rfl))) h_) hq38_
                  have hq48_ : (mv42 1 1).toInt = (mv33 1 1).toInt := by rw [kq45_ 1 1 (by decide)]
                  refine T_lt rfl l_1048576 (fun hq49_ => ?_) (fun hq49_ => ?_)
                  · refine T_eq rfl l_10 (fun hq50_ => ?_) (fun hq50_ => ?_)
                    · have hq51_ := i_full (mv42 64 11)
                      exact T_ret ⟨(i_rng (lo := (-2147483648)) (hi := 1048575) rfl (by omega) (by omega)), (by have e9 : (mv42 64 11).toInt = _ := rfl; omega), gq44_, kq46_⟩
                    · exfalso; omega
                  · exact T_ret ⟨(i_rng (lo := (-2147483648)) (hi := 1048575) l_m3 (by omega) (by omega)), (by have e9 : ((-3 : Int32)).toInt = _ := l_m3; omega), gq44_, kq46_⟩
          · refine T_lt rfl l_0 (fun hq52_ => ?_) (fun hq52_ => ?_)
            · unfold f_X11_jobs_72
              unfold f_X11_jobs_73
              refine T_eq l_0 l_0 (fun hq53_ => ?_) (fun hq53_ => ?_)
              · exact T_ret ⟨(i_rng (lo := (-2147483648)) (hi := 1048575) l_m4 (by omega) (by omega)), (by have e9 : ((-4 : Int32)).toInt = _ := l_m4; omega), gq17_, kq19_⟩
              · exfalso; omega
            · refine T_le rfl rfl (fun hq54_ => ?_) (fun hq54_ => ?_)
              · unfold f_X11_jobs_72
                unfold f_X11_jobs_73
                refine T_eq l_0 l_0 (fun hq55_ => ?_) (fun hq55_ => ?_)
                · exact T_ret ⟨(i_rng (lo := (-2147483648)) (hi := 1048575) l_m4 (by omega) (by omega)), (by have e9 : ((-4 : Int32)).toInt = _ := l_m4; omega), gq17_, kq19_⟩
                · exfalso; omega
              · unfold f_X11_jobs_73
                refine T_eq l_1 l_0 (fun hq56_ => ?_) (fun hq56_ => ?_)
                · exfalso; omega
                · refine T_qc (t_X10_knowsAll_c7 hn a2 mv14 gq17_ ) ?_
                  rintro rv57 mv58 ⟨hq59_, gq60_, kq61_⟩
                  have hq62_ := kq61_.nil
                  subst hq62_
                  refine T_eq rfl l_0 (fun hq63_ => ?_) (fun hq63_ => ?_)
                  · exact T_ret ⟨(i_rng (lo := (-2147483648)) (hi := 1048575) l_m4 (by omega) (by omega)), (by have e9 : ((-4 : Int32)).toInt = _ := l_m4; omega), gq17_, kq19_⟩
                  · refine T_qc (t_X5_takeWorkers hn a2 mv14 gq17_ ) ?_
                    rintro rv64 mv65 ⟨hq66_, gq67_, kq68_⟩
                    have kq69_ := Sm.call kq19_ kq68_ rfl
                    have hq70_ := Or.imp_right (fun h_ => KJ_c (kq68_ 64 9 (by decide)) (funext (fun s_ => kq68_ 65 s_ (outc rfl))) h_) hq20_
                    have hq71_ : (mv65 1 1).toInt = (mv14 1 1).toInt := by rw [kq68_ 1 1 (by decide)]
                    refine T_eq rfl l_0 (fun hq72_ => ?_) (fun hq72_ => ?_)
                    · exact T_ret ⟨(i_rng (lo := (-2147483648)) (hi := 1048575) l_m4 (by omega) (by omega)), (by have e9 : ((-4 : Int32)).toInt = _ := l_m4; omega), gq67_, kq69_⟩
                    · refine T_qc (t_X5_solve_c7 hn hj  mv65 gq67_ (hq70_.resolve_left (by omega))) ?_
                      rintro rv73 mv74 ⟨hq75_, gq76_, kq77_⟩
                      have kq78_ := Sm.call kq69_ kq77_ rfl
                      have hq79_ := Or.imp_right (fun h_ => KJ_c (kq77_ 64 9 (by decide)) (funext (fun s_ => kq77_ 65 s_ (outc rfl))) h_) hq70_
                      have hq80_ : (mv74 1 1).toInt = (mv65 1 1).toInt := by rw [kq77_ 1 1 (by decide)]
                      refine T_lt rfl l_1048576 (fun hq81_ => ?_) (fun hq81_ => ?_)
                      · refine T_eq rfl l_10 (fun hq82_ => ?_) (fun hq82_ => ?_)
                        · exfalso; omega
                        · refine T_qc (t_X5_workerOf hn a3 mv74 gq76_ (i_rng (lo := 0) (hi := 7) rfl (by omega) (by omega))) ?_
                          rintro rv83 mv84 ⟨hq85_, gq86_, kq87_⟩
                          have hq88_ := kq87_.nil
                          subst hq88_
                          have hq89_ := i_full (rv83)
                          exact T_ret ⟨(i_rng (lo := (-2147483648)) (hi := 1048575) rfl (by omega) (by omega)), (by have e9 : (rv83).toInt = _ := rfl; omega), gq76_, kq78_⟩
                      · exact T_ret ⟨(i_rng (lo := (-2147483648)) (hi := 1048575) l_m3 (by omega) (by omega)), (by have e9 : ((-3 : Int32)).toInt = _ := l_m3; omega), gq76_, kq78_⟩
      · exact T_ret ⟨(i_rng (lo := (-2147483648)) (hi := 1048575) l_m1 (by omega) (by omega)), (by have e9 : ((-1 : Int32)).toInt = _ := l_m1; omega), hG, hS⟩

