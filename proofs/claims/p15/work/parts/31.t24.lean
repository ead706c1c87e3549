abbrev l_X7_bestWay : List Bx := [(63, 64, 0, 0)]
abbrev po_X7_bestWay (a1 a2 a3 : Int32) (M : qM) (v : Int32) (M' : qM) : Prop := G M' ∧ Sm l_X7_bestWay M M'
theorem t_X7_bestWay_59 {n : Nat} (hn : 200000 ≤ n) {B : Nat} {F_X7_bestWay : Int32 → Int32 → Int32 → qM → qR} (hF_X7_bestWay : ∀ (a1 a2 a3 : Int32) (M : qM), G M → 0 ≤ a2.toInt ∧ a2.toInt ≤ 3 → 0 ≤ a3.toInt ∧ a3.toInt ≤ 13 → 13 - a3.toInt < (B : Int) → qT (F_X7_bestWay a1 a2 a3 M) (po_X7_bestWay a1 a2 a3 M)) {oa1 oa2 oa3 : Int32} {M0 : qM} : ∀ (m : Nat) (a1 a2 a3 a4 a5 a6 : Int32) (M : qM), G M → Sm l_X7_bestWay M0 M → 0 ≤ a2.toInt ∧ a2.toInt ≤ 3 → 0 ≤ a3.toInt ∧ a3.toInt ≤ 12 → 0 ≤ a4.toInt ∧ a4.toInt ≤ 8191 → (-2147483648) ≤ a5.toInt ∧ a5.toInt ≤ 1048576 → 0 ≤ a6.toInt ∧ a6.toInt ≤ 4 → 13 - a3.toInt < (B : Int) + 1 → 4 - a6.toInt < (m : Int) → qT (f_X7_bestWay_59 n F_X7_bestWay m a1 a2 a3 a4 a5 a6 M) (po_X7_bestWay oa1 oa2 oa3 M0) := by
  intro m
  induction m with
  | zero =>
    intro a1 a2 a3 a4 a5 a6 M hG hS i0 i1 i2 i3 i4 i7 i8
    exfalso; omega
  | succ m ih =>
    intro a1 a2 a3 a4 a5 a6 M hG hS i0 i1 i2 i3 i4 i7 i8
    show qT (b_X7_bestWay_59 n F_X7_bestWay (f_X7_bestWay_59 n F_X7_bestWay m) a1 a2 a3 a4 a5 a6 M) _
    unfold b_X7_bestWay_59
    have hq39_ := r_56_10 hG
    refine T_le rfl rfl (fun hq40_ => ?_) (fun hq40_ => ?_)
    · refine T_qg rfl (by omega) (by omega) ?_
      refine T_mu hG hS (rn_63 _ _) (nw_63 _) (i := 0) rfl ⟨by decide, by decide, Or.inl rfl⟩ ?_
      intro mv41 hq42_ gq43_ kq44_
      have hq45_ : (mv41 56 10).toInt = (M 56 10).toInt := by rw [hq42_, mu_ne (Or.inl (by decide))]
      have hq46_ : (mv41 63 a4.toNatClampNeg).toInt = a5.toInt := by rw [hq42_, mu_at]
      exact T_ret ⟨gq43_, kq44_⟩
    · refine T_qc (t_X7_extraAt hn a1 a6 M hG (i_rng (lo := 0) (hi := 3) rfl (by omega) (by omega))) ?_
      rintro rv47 mv48 ⟨hq49_, gq50_, kq51_⟩
      have hq52_ := kq51_.nil
      subst hq52_
      refine T_le l_3 rfl (fun hq53_ => ?_) (fun hq53_ => ?_)
      · refine T_ql (i_add rfl l_1 (by omega) (by omega)) ?_
        intro xv54 hq55_
        have hq56_ := i_full (a5)
        exact ih a1 a2 a3 a4 a5 xv54 M hG hS (i_rng (lo := 0) (hi := 3) rfl (by omega) (by omega)) (i_rng (lo := 0) (hi := 12) rfl (by omega) (by omega)) (i_rng (lo := 0) (hi := 8191) rfl (by omega) (by omega)) (i_rng (lo := (-2147483648)) (hi := 1048576) rfl (by omega) (by omega)) (i_rng (lo := 0) (hi := 4) rfl (by omega) (by omega)) (by omega) (by omega)
      · have hq57_ := i_shl1 (c := 6) (k := (2 : Int32) * a6) (by decide) (i_mul l_2 rfl (by omega) (by omega)) (by omega) (by omega)
        have hq58_ := i_full (a1)
        refine T_ql rfl ?_
        intro xv59 hq60_
        refine T_qc (t_X7_wouldCount hn a1 a6 M hG (i_rng (lo := 0) (hi := 3) rfl (by omega) (by omega))) ?_
        rintro rv61 mv62 ⟨hq63_, gq64_, kq65_⟩
        have hq66_ := kq65_.nil
        subst hq66_
        refine T_eq rfl l_0 (fun hq67_ => ?_) (fun hq67_ => ?_)
        · unfold f_X7_bestWay_121
          unfold f_X7_bestWay_123
          refine T_eq rfl l_0 (fun hq68_ => ?_) (fun hq68_ => ?_)
          · unfold f_X7_bestWay_143
            refine T_qc (hF_X7_bestWay xv59 a2 (a3 + (1 : Int32)) M hG (i_rng (lo := 0) (hi := 3) rfl (by omega) (by omega)) (i_rng (lo := 0) (hi := 13) (i_add rfl l_1 (by omega) (by omega)) (by omega) (by omega)) (by have e2 : (a3 + (1 : Int32)).toInt = _ := (i_add rfl l_1 (by omega) (by omega)); omega)) ?_
            rintro rv69 mv70 ⟨gq71_, kq72_⟩
            have kq73_ := Sm.call hS kq72_ rfl
            have hq74_ : (mv70 56 10).toInt = (M 56 10).toInt := by rw [kq72_ 56 10 (by decide)]
            unfold f_X7_bestWay_153
            refine T_qg rfl (by omega) (by omega) ?_
            have hq75_ := r_57 gq71_ a6.toNatClampNeg
            refine T_qg rfl (by omega) (by omega) ?_
            have hq76_ := i_full (mv70 4 ((mv70 57 a6.toNatClampNeg).toNatClampNeg))
            have hq77_ := i_full ((16 : Int32) * (mv70 4 ((mv70 57 a6.toNatClampNeg).toNatClampNeg)))
            have hq78_ := i_full (((16 : Int32) * (mv70 4 ((mv70 57 a6.toNatClampNeg).toNatClampNeg))) + (1 : Int32))
            have hq79_ := i_full (rv69)
            have hq80_ := i_min (a := a5) (b := (((16 : Int32) * (mv70 4 ((mv70 57 a6.toNatClampNeg).toNatClampNeg))) + (1 : Int32)) + rv69) rfl rfl
            refine T_ql rfl ?_
            intro xv81 hq82_
            refine T_le rfl l_0 (fun hq83_ => ?_) (fun hq83_ => ?_)
            · refine T_ql (i_add rfl l_1 (by omega) (by omega)) ?_
              intro xv84 hq85_
              have hq86_ := i_full (xv81)
              exact ih a1 a2 a3 a4 xv81 xv84 mv70 gq71_ kq73_ (i_rng (lo := 0) (hi := 3) rfl (by omega) (by omega)) (i_rng (lo := 0) (hi := 12) rfl (by omega) (by omega)) (i_rng (lo := 0) (hi := 8191) rfl (by omega) (by omega)) (i_rng (lo := (-2147483648)) (hi := 1048576) rfl (by omega) (by omega)) (i_rng (lo := 0) (hi := 4) rfl (by omega) (by omega)) (by omega) (by omega)
            · refine T_qc (hF_X7_bestWay xv59 (a2 - (1 : Int32)) (a3 + (1 : Int32)) mv70 gq71_ (i_rng (lo := 0) (hi := 3) (i_sub rfl l_1 (by omega) (by omega)) (by omega) (by omega)) (i_rng (lo := 0) (hi := 13) (i_add rfl l_1 (by omega) (by omega)) (by omega) (by omega)) (by have e1 : (a2 - (1 : Int32)).toInt = _ := (i_sub rfl l_1 (by omega) (by omega)); have e2 : (a3 + (1 : Int32)).toInt = _ := (i_add rfl l_1 (by omega) (by omega)); omega)) ?_
              rintro rv87 mv88 ⟨gq89_, kq90_⟩
              have kq91_ := Sm.call kq73_ kq90_ rfl
              have hq92_ : (mv88 56 10).toInt = (mv70 56 10).toInt := by rw [kq90_ 56 10 (by decide)]
              have hq93_ : (mv88 57 a6.toNatClampNeg).toInt = (mv70 57 a6.toNatClampNeg).toInt := by rw [kq90_ 57 _ (outc rfl)]
              have hq94_ := i_min (a := xv81) (b := rv87) rfl rfl
              refine T_ql rfl ?_
              intro xv95 hq96_
              refine T_ql (i_add rfl l_1 (by omega) (by omega)) ?_
              intro xv97 hq98_
              have hq99_ := i_full (xv95)
              exact ih a1 a2 a3 a4 xv95 xv97 mv88 gq89_ kq91_ (i_rng (lo := 0) (hi := 3) rfl (by omega) (by omega)) (i_rng (lo := 0) (hi := 12) rfl (by omega) (by omega)) (i_rng (lo := 0) (hi := 8191) rfl (by omega) (by omega)) (i_rng (lo := (-2147483648)) (hi := 1048576) rfl (by omega) (by omega)) (i_rng (lo := 0) (hi := 4) rfl (by omega) (by omega)) (by omega) (by omega)
          · exfalso; omega
        · refine T_le l_3 rfl (fun hq100_ => ?_) (fun hq100_ => ?_)
          · unfold f_X7_bestWay_121
            unfold f_X7_bestWay_123
            refine T_eq rfl l_0 (fun hq101_ => ?_) (fun hq101_ => ?_)
            · exfalso; omega
            · refine T_eq rfl rfl (fun hq102_ => ?_) (fun hq102_ => ?_)
              · unfold f_X7_bestWay_153
                refine T_qg rfl (by omega) (by omega) ?_
                have hq103_ := r_57 hG a6.toNatClampNeg
                refine T_qg rfl (by omega) (by omega) ?_
                have hq104_ := i_full (M 4 ((M 57 a6.toNatClampNeg).toNatClampNeg))
                have hq105_ := i_full ((16 : Int32) * (M 4 ((M 57 a6.toNatClampNeg).toNatClampNeg)))
                have hq106_ := i_full (((16 : Int32) * (M 4 ((M 57 a6.toNatClampNeg).toNatClampNeg))) + (1 : Int32))
                have hq107_ := i_min (a := a5) (b := (((16 : Int32) * (M 4 ((M 57 a6.toNatClampNeg).toNatClampNeg))) + (1 : Int32)) + (0 : Int32)) rfl (i_add rfl l_0 (by omega) (by omega))
                refine T_ql rfl ?_
                intro xv108 hq109_
                refine T_le rfl l_0 (fun hq110_ => ?_) (fun hq110_ => ?_)
                · refine T_ql (i_add rfl l_1 (by omega) (by omega)) ?_
                  intro xv111 hq112_
                  have hq113_ := i_full (xv108)
                  exact ih a1 a2 a3 a4 xv108 xv111 M hG hS (i_rng (lo := 0) (hi := 3) rfl (by omega) (by omega)) (i_rng (lo := 0) (hi := 12) rfl (by omega) (by omega)) (i_rng (lo := 0) (hi := 8191) rfl (by omega) (by omega)) (i_rng (lo := (-2147483648)) (hi := 1048576) rfl (by omega) (by omega)) (i_rng (lo := 0) (hi := 4) rfl (by omega) (by omega)) (by omega) (by omega)
                · refine T_qc (hF_X7_bestWay xv59 (a2 - (1 : Int32)) (a3 + (1 : Int32)) M hG (i_rng (lo := 0) (hi := 3) (i_sub rfl l_1 (by omega) (by omega)) (by omega) (by omega)) (i_rng (lo := 0) (hi := 13) (i_add rfl l_1 (by omega) (by omega)) (by omega) (by omega)) (by have e1 : (a2 - (1 : Int32)).toInt = _ := (i_sub rfl l_1 (by omega) (by omega)); have e2 : (a3 + (1 : Int32)).toInt = _ := (i_add rfl l_1 (by omega) (by omega)); omega)) ?_
                  rintro rv114 mv115 ⟨gq116_, kq117_⟩
                  have kq118_ := Sm.call hS kq117_ rfl
                  have hq119_ : (mv115 56 10).toInt = (M 56 10).toInt := by rw [kq117_ 56 10 (by decide)]
                  have hq120_ : (mv115 56 11).toInt = (M 56 11).toInt := by rw [kq117_ 56 11 (by decide)]
                  have hq121_ : (mv115 57 a6.toNatClampNeg).toInt = (M 57 a6.toNatClampNeg).toInt := by rw [kq117_ 57 _ (outc rfl)]
                  have hq122_ := i_min (a := xv108) (b := rv114) rfl rfl
                  refine T_ql rfl ?_
                  intro xv123 hq124_
                  refine T_ql (i_add rfl l_1 (by omega) (by omega)) ?_
                  intro xv125 hq126_
                  have hq127_ := i_full (xv123)
                  exact ih a1 a2 a3 a4 xv123 xv125 mv115 gq116_ kq118_ (i_rng (lo := 0) (hi := 3) rfl (by omega) (by omega)) (i_rng (lo := 0) (hi := 12) rfl (by omega) (by omega)) (i_rng (lo := 0) (hi := 8191) rfl (by omega) (by omega)) (i_rng (lo := (-2147483648)) (hi := 1048576) rfl (by omega) (by omega)) (i_rng (lo := 0) (hi := 4) rfl (by omega) (by omega)) (by omega) (by omega)
              · unfold f_X7_bestWay_143
                refine T_qc (hF_X7_bestWay xv59 a2 (a3 + (1 : Int32)) M hG (i_rng (lo := 0) (hi := 3) rfl (by omega) (by omega)) (i_rng (lo := 0) (hi := 13) (i_add rfl l_1 (by omega) (by omega)) (by omega) (by omega)) (by have e2 : (a3 + (1 : Int32)).toInt = _ := (i_add rfl l_1 (by omega) (by omega)); omega)) ?_
                rintro rv128 mv129 ⟨gq130_, kq131_⟩
                have kq132_ := Sm.call hS kq131_ rfl
                have hq133_ : (mv129 56 10).toInt = (M 56 10).toInt := by rw [kq131_ 56 10 (by decide)]
                have hq134_ : (mv129 56 11).toInt = (M 56 11).toInt := by rw [kq131_ 56 11 (by decide)]
                unfold f_X7_bestWay_153
                refine T_qg rfl (by omega) (by omega) ?_
                have hq135_ := r_57 gq130_ a6.toNatClampNeg
                refine T_qg rfl (by omega) (by omega) ?_
                have hq136_ := i_full (mv129 4 ((mv129 57 a6.toNatClampNeg).toNatClampNeg))
                have hq137_ := i_full ((16 : Int32) * (mv129 4 ((mv129 57 a6.toNatClampNeg).toNatClampNeg)))
                have hq138_ := i_full (((16 : Int32) * (mv129 4 ((mv129 57 a6.toNatClampNeg).toNatClampNeg))) + (1 : Int32))
                have hq139_ := i_full (rv128)
                have hq140_ := i_min (a := a5) (b := (((16 : Int32) * (mv129 4 ((mv129 57 a6.toNatClampNeg).toNatClampNeg))) + (1 : Int32)) + rv128) rfl rfl
                refine T_ql rfl ?_
                intro xv141 hq142_
                refine T_le rfl l_0 (fun hq143_ => ?_) (fun hq143_ => ?_)
                · refine T_ql (i_add rfl l_1 (by omega) (by omega)) ?_
                  intro xv144 hq145_
                  have hq146_ := i_full (xv141)
                  exact ih a1 a2 a3 a4 xv141 xv144 mv129 gq130_ kq132_ (i_rng (lo := 0) (hi := 3) rfl (by omega) (by omega)) (i_rng (lo := 0) (hi := 12) rfl (by omega) (by omega)) (i_rng (lo := 0) (hi := 8191) rfl (by omega) (by omega)) (i_rng (lo := (-2147483648)) (hi := 1048576) rfl (by omega) (by omega)) (i_rng (lo := 0) (hi := 4) rfl (by omega) (by omega)) (by omega) (by omega)
                · refine T_qc (hF_X7_bestWay xv59 (a2 - (1 : Int32)) (a3 + (1 : Int32)) mv129 gq130_ (i_rng (lo := 0) (hi := 3) (i_sub rfl l_1 (by omega) (by omega)) (by omega) (by omega)) (i_rng (lo := 0) (hi := 13) (i_add rfl l_1 (by omega) (by omega)) (by omega) (by omega)) (by have e1 : (a2 - (1 : Int32)).toInt = _ := (i_sub rfl l_1 (by omega) (by omega)); have e2 : (a3 + (1 : Int32)).toInt = _ := (i_add rfl l_1 (by omega) (by omega)); omega)) ?_
                  rintro rv147 mv148 ⟨gq149_, kq150_⟩
                  have kq151_ := Sm.call kq132_ kq150_ rfl
                  have hq152_ : (mv148 56 10).toInt = (mv129 56 10).toInt := by rw [kq150_ 56 10 (by decide)]
                  have hq153_ : (mv148 56 11).toInt = (mv129 56 11).toInt := by rw [kq150_ 56 11 (by decide)]
                  have hq154_ : (mv148 57 a6.toNatClampNeg).toInt = (mv129 57 a6.toNatClampNeg).toInt := by rw [kq150_ 57 _ (outc rfl)]
                  have hq155_ := i_min (a := xv141) (b := rv147) rfl rfl
                  refine T_ql rfl ?_
                  intro xv156 hq157_
                  refine T_ql (i_add rfl l_1 (by omega) (by omega)) ?_
                  intro xv158 hq159_
                  have hq160_ := i_full (xv156)
                  exact ih a1 a2 a3 a4 xv156 xv158 mv148 gq149_ kq151_ (i_rng (lo := 0) (hi := 3) rfl (by omega) (by omega)) (i_rng (lo := 0) (hi := 12) rfl (by omega) (by omega)) (i_rng (lo := 0) (hi := 8191) rfl (by omega) (by omega)) (i_rng (lo := (-2147483648)) (hi := 1048576) rfl (by omega) (by omega)) (i_rng (lo := 0) (hi := 4) rfl (by omega) (by omega)) (by omega) (by omega)
          · unfold f_X7_bestWay_123
            refine T_eq rfl l_0 (fun hq161_ => ?_) (fun hq161_ => ?_)
            · exfalso; omega
            · refine T_eq rfl rfl (fun hq162_ => ?_) (fun hq162_ => ?_)
              · unfold f_X7_bestWay_153
                refine T_qg rfl (by omega) (by omega) ?_
                have hq163_ := r_57 hG a6.toNatClampNeg
                refine T_qg rfl (by omega) (by omega) ?_
                have hq164_ := i_full (M 4 ((M 57 a6.toNatClampNeg).toNatClampNeg))
                have hq165_ := i_full ((16 : Int32) * (M 4 ((M 57 a6.toNatClampNeg).toNatClampNeg)))
                have hq166_ := i_full (((16 : Int32) * (M 4 ((M 57 a6.toNatClampNeg).toNatClampNeg))) + (1 : Int32))
                have hq167_ := i_min (a := a5) (b := (((16 : Int32) * (M 4 ((M 57 a6.toNatClampNeg).toNatClampNeg))) + (1 : Int32)) + (0 : Int32)) rfl (i_add rfl l_0 (by omega) (by omega))
                refine T_ql rfl ?_
                intro xv168 hq169_
                refine T_le rfl l_0 (fun hq170_ => ?_) (fun hq170_ => ?_)
                · refine T_ql (i_add rfl l_1 (by omega) (by omega)) ?_
                  intro xv171 hq172_
                  have hq173_ := i_full (xv168)
                  exact ih a1 a2 a3 a4 xv168 xv171 M hG hS (i_rng (lo := 0) (hi := 3) rfl (by omega) (by omega)) (i_rng (lo := 0) (hi := 12) rfl (by omega) (by omega)) (i_rng (lo := 0) (hi := 8191) rfl (by omega) (by omega)) (i_rng (lo := (-2147483648)) (hi := 1048576) rfl (by omega) (by omega)) (i_rng (lo := 0) (hi := 4) rfl (by omega) (by omega)) (by omega) (by omega)
                · refine T_qc (hF_X7_bestWay xv59 (a2 - (1 : Int32)) (a3 + (1 : Int32)) M hG (i_rng (lo := 0) (hi := 3) (i_sub rfl l_1 (by omega) (by omega)) (by omega) (by omega)) (i_rng (lo := 0) (hi := 13) (i_add rfl l_1 (by omega) (by omega)) (by omega) (by omega)) (by have e1 : (a2 - (1 : Int32)).toInt = _ := (i_sub rfl l_1 (by omega) (by omega)); have e2 : (a3 + (1 : Int32)).toInt = _ := (i_add rfl l_1 (by omega) (by omega)); omega)) ?_
                  rintro rv174 mv175 ⟨gq176_, kq177_⟩
                  have kq178_ := Sm.call hS kq177_ rfl
                  have hq179_ : (mv175 56 10).toInt = (M 56 10).toInt := by rw [kq177_ 56 10 (by decide)]
                  have hq180_ : (mv175 56 11).toInt = (M 56 11).toInt := by rw [kq177_ 56 11 (by decide)]
                  have hq181_ : (mv175 57 a6.toNatClampNeg).toInt = (M 57 a6.toNatClampNeg).toInt := by rw [kq177_ 57 _ (outc rfl)]
                  have hq182_ := i_min (a := xv168) (b := rv174) rfl rfl
                  refine T_ql rfl ?_
                  intro xv183 hq184_
                  refine T_ql (i_add rfl l_1 (by omega) (by omega)) ?_
                  intro xv185 hq186_
                  have hq187_ := i_full (xv183)
                  exact ih a1 a2 a3 a4 xv183 xv185 mv175 gq176_ kq178_ (i_rng (lo := 0) (hi := 3) rfl (by omega) (by omega)) (i_rng (lo := 0) (hi := 12) rfl (by omega) (by omega)) (i_rng (lo := 0) (hi := 8191) rfl (by omega) (by omega)) (i_rng (lo := (-2147483648)) (hi := 1048576) rfl (by omega) (by omega)) (i_rng (lo := 0) (hi := 4) rfl (by omega) (by omega)) (by omega) (by omega)
              · unfold f_X7_bestWay_143
                have hq190_ := i_shl1 (c := 10) (k := (8 : Int32) + a6) (by decide) (i_add l_8 rfl (by omega) (by omega)) (by omega) (by omega)
                refine T_qc (hF_X7_bestWay (xv59 ||| ((1 : Int32) <<< (((8 : Int32) + a6) &&& 31))) a2 (a3 + (1 : Int32)) M hG (i_rng (lo := 0) (hi := 3) rfl (by omega) (by omega)) (i_rng (lo := 0) (hi := 13) (i_add rfl l_1 (by omega) (by omega)) (by omega) (by omega)) (by have e2 : (a3 + (1 : Int32)).toInt = _ := (i_add rfl l_1 (by omega) (by omega)); omega)) ?_
                rintro rv188 mv189 ⟨gq191_, kq192_⟩
                have kq193_ := Sm.call hS kq192_ rfl
                have hq194_ : (mv189 56 10).toInt = (M 56 10).toInt := by rw [kq192_ 56 10 (by decide)]
                have hq195_ : (mv189 56 11).toInt = (M 56 11).toInt := by rw [kq192_ 56 11 (by decide)]
                unfold f_X7_bestWay_153
                refine T_qg rfl (by omega) (by omega) ?_
                have hq196_ := r_57 gq191_ a6.toNatClampNeg
                refine T_qg rfl (by omega) (by omega) ?_
                have hq197_ := i_full (mv189 4 ((mv189 57 a6.toNatClampNeg).toNatClampNeg))
                have hq198_ := i_full ((16 : Int32) * (mv189 4 ((mv189 57 a6.toNatClampNeg).toNatClampNeg)))
                have hq199_ := i_full (((16 : Int32) * (mv189 4 ((mv189 57 a6.toNatClampNeg).toNatClampNeg))) + (1 : Int32))
                have hq200_ := i_full (rv188)
                have hq201_ := i_min (a := a5) (b := (((16 : Int32) * (mv189 4 ((mv189 57 a6.toNatClampNeg).toNatClampNeg))) + (1 : Int32)) + rv188) rfl rfl
                refine T_ql rfl ?_
                intro xv202 hq203_
                refine T_le rfl l_0 (fun hq204_ => ?_) (fun hq204_ => ?_)
                · refine T_ql (i_add rfl l_1 (by omega) (by omega)) ?_
                  intro xv205 hq206_
                  have hq207_ := i_full (xv202)
                  exact ih a1 a2 a3 a4 xv202 xv205 mv189 gq191_ kq193_ (i_rng (lo := 0) (hi := 3) rfl (by omega) (by omega)) (i_rng (lo := 0) (hi := 12) rfl (by omega) (by omega)) (i_rng (lo := 0) (hi := 8191) rfl (by omega) (by omega)) (i_rng (lo := (-2147483648)) (hi := 1048576) rfl (by omega) (by omega)) (i_rng (lo := 0) (hi := 4) rfl (by omega) (by omega)) (by omega) (by omega)
                · refine T_qc (hF_X7_bestWay xv59 (a2 - (1 : Int32)) (a3 + (1 : Int32)) mv189 gq191_ (i_rng (lo := 0) (hi := 3) (i_sub rfl l_1 (by omega) (by omega)) (by omega) (by omega)) (i_rng (lo := 0) (hi := 13) (i_add rfl l_1 (by omega) (by omega)) (by omega) (by omega)) (by have e1 : (a2 - (1 : Int32)).toInt = _ := (i_sub rfl l_1 (by omega) (by omega)); have e2 : (a3 + (1 : Int32)).toInt = _ := (i_add rfl l_1 (by omega) (by omega)); omega)) ?_
                  rintro rv208 mv209 ⟨gq210_, kq211_⟩
                  have kq212_ := Sm.call kq193_ kq211_ rfl
                  have hq213_ : (mv209 56 10).toInt = (mv189 56 10).toInt := by rw [kq211_ 56 10 (by decide)]
                  have hq214_ : (mv209 56 11).toInt = (mv189 56 11).toInt := by rw [kq211_ 56 11 (by decide)]
                  have hq215_ : (mv209 57 a6.toNatClampNeg).toInt = (mv189 57 a6.toNatClampNeg).toInt := by rw [kq211_ 57 _ (outc rfl)]
                  have hq216_ := i_min (a := xv202) (b := rv208) rfl rfl
                  refine T_ql rfl ?_
                  intro xv217 hq218_
                  refine T_ql (i_add rfl l_1 (by omega) (by omega)) ?_
                  intro xv219 hq220_
                  have hq221_ := i_full (xv217)
                  exact ih a1 a2 a3 a4 xv217 xv219 mv209 gq210_ kq212_ (i_rng (lo := 0) (hi := 3) rfl (by omega) (by omega)) (i_rng (lo := 0) (hi := 12) rfl (by omega) (by omega)) (i_rng (lo := 0) (hi := 8191) rfl (by omega) (by omega)) (i_rng (lo := (-2147483648)) (hi := 1048576) rfl (by omega) (by omega)) (i_rng (lo := 0) (hi := 4) rfl (by omega) (by omega)) (by omega) (by omega)
theorem to_X7_bestWay {n : Nat} (hn : 200000 ≤ n) {B : Nat} {F_X7_bestWay : Int32 → Int32 → Int32 → qM → qR} (hF_X7_bestWay : ∀ (a1 a2 a3 : Int32) (M : qM), G M → 0 ≤ a2.toInt ∧ a2.toInt ≤ 3 → 0 ≤ a3.toInt ∧ a3.toInt ≤ 13 → 13 - a3.toInt < (B : Int) → qT (F_X7_bestWay a1 a2 a3 M) (po_X7_bestWay a1 a2 a3 M)) (a1 a2 a3 : Int32) (M : qM) (hG : G M) (pa2 : 0 ≤ a2.toInt ∧ a2.toInt ≤ 3) (pa3 : 0 ≤ a3.toInt ∧ a3.toInt ≤ 13) (hb : 13 - a3.toInt < (B : Int) + 1) : qT (fo_X7_bestWay n F_X7_bestWay a1 a2 a3 M) (po_X7_bestWay a1 a2 a3 M) := by
  have hS : Sm l_X7_bestWay M M := Sm.rf
  unfold fo_X7_bestWay
  have hq222_ := i_full (a1)
  refine T_ql rfl ?_
  intro xv223 hq224_
  refine T_lt rfl l_0 (fun hq225_ => ?_) (fun hq225_ => ?_)
  · exact T_ret ⟨hG, hS⟩
  · refine T_le l_8192 rfl (fun hq226_ => ?_) (fun hq226_ => ?_)
    · exact T_ret ⟨hG, hS⟩
    · refine T_le rfl l_12 (fun hq227_ => ?_) (fun hq227_ => ?_)
      · refine T_qg rfl (by omega) (by omega) ?_
        refine T_eq rfl l_m1 (fun hq228_ => ?_) (fun hq228_ => ?_)
        · exact (t_X7_bestWay_59 hn hF_X7_bestWay) n a1 a2 a3 xv223 (1048576 : Int32) (0 : Int32) M hG hS (i_rng (lo := 0) (hi := 3) rfl (by omega) (by omega)) (i_rng (lo := 0) (hi := 12) rfl (by omega) (by omega)) (i_rng (lo := 0) (hi := 8191) rfl (by omega) (by omega)) (i_rng (lo := (-2147483648)) (hi := 1048576) l_1048576 (by omega) (by omega)) (i_rng (lo := 0) (hi := 4) l_0 (by omega) (by omega)) (by omega) (by have e4 : ((1048576 : Int32)).toInt = _ := l_1048576; have e5 : ((0 : Int32)).toInt = _ := l_0; omega)
        · refine T_qg rfl (by omega) (by omega) ?_
          exact T_ret ⟨hG, hS⟩
      · exact T_ret ⟨hG, hS⟩
theorem trc_X7_bestWay {n : Nat} (hn : 200000 ≤ n) : ∀ m : Nat, (∀ (a1 a2 a3 : Int32) (M : qM), G M → 0 ≤ a2.toInt ∧ a2.toInt ≤ 3 → 0 ≤ a3.toInt ∧ a3.toInt ≤ 13 → 13 - a3.toInt < (m : Int) → qT (rc_X7_bestWay n m a1 a2 a3 M) (po_X7_bestWay a1 a2 a3 M)) := by
  intro m
  induction m with
  | zero =>
    exact fun a1 a2 a3 M q0 q1 q2 q3 => by exfalso; omega
  | succ m ih =>
    refine ?_
    · exact fun a1 a2 a3 M q0 q1 q2 q3 => to_X7_bestWay hn (B := m) (ih) a1 a2 a3 M q0 q1 q2 (by omega)
theorem t_X7_bestWay {n : Nat} (hn : 200000 ≤ n) (a1 a2 a3 : Int32) (M : qM) (hG : G M) (pa2 : 0 ≤ a2.toInt ∧ a2.toInt ≤ 3) (pa3 : 0 ≤ a3.toInt ∧ a3.toInt ≤ 13) : qT (f_X7_bestWay n a1 a2 a3 M) (po_X7_bestWay a1 a2 a3 M) := by
  unfold f_X7_bestWay
  exact (trc_X7_bestWay hn 16) a1 a2 a3 M hG pa2 pa3 (by omega)
abbrev l_X7_soonestWay : List Bx := [(63, 64, 0, 0)]
abbrev po_X7_soonestWay (a1 : Int32) (M : qM) (v : Int32) (M' : qM) : Prop := G M' ∧ Sm l_X7_soonestWay M M'
theorem t_X7_soonestWay {n : Nat} (hn : 200000 ≤ n) (a1 : Int32) (M : qM) (hG : G M) (pa1 : 0 ≤ a1.toInt ∧ a1.toInt ≤ 3) : qT (f_X7_soonestWay n a1 M) (po_X7_soonestWay a1 M) := by
  have hS : Sm l_X7_soonestWay M M := Sm.rf
  unfold f_X7_soonestWay
  refine T_qc (t_X7_bestWay hn (0 : Int32) a1 (0 : Int32) M hG (i_rng (lo := 0) (hi := 3) rfl (by omega) (by omega)) (i_rng (lo := 0) (hi := 13) l_0 (by omega) (by omega))) ?_
  rintro rv1 mv2 ⟨gq3_, kq4_⟩
  have kq5_ := Sm.call hS kq4_ rfl
  exact T_ret ⟨gq3_, kq5_⟩
abbrev l_X11_soonest : List Bx := [(34, 35, 4, 5), (35, 37, 0, 0), (56, 57, 10, 12), (57, 61, 0, 0), (62, 64, 0, 0)]
abbrev po_X11_soonest (a1 a2 a3 a4 a5 : Int32) (M : qM) (v : Int32) (M' : qM) : Prop := G M' ∧ Sm l_X11_soonest M M'
theorem t_X11_soonest {n : Nat} (hn : 200000 ≤ n) {j : Nat} (hj : q_isLaw j) (a1 a2 a3 a4 a5 : Int32) (M : qM) (hG : G M) : qT (f_X11_soonest n j a1 a2 a3 a4 a5 M) (po_X11_soonest a1 a2 a3 a4 a5 M) := by
  have hS : Sm l_X11_soonest M M := Sm.rf
  unfold f_X11_soonest
  refine T_qc (t_X11_canChoose hn a1 a2 a3 M hG ) ?_
  rintro rv1 mv2 ⟨hq3_, hq4_, gq5_, kq6_⟩
  have hq7_ := kq6_.nil
  subst hq7_
  refine T_eq rfl l_0 (fun hq8_ => ?_) (fun hq8_ => ?_)
  · exact T_ret ⟨hG, hS⟩
  · refine T_lt rfl l_0 (fun hq9_ => ?_) (fun hq9_ => ?_)
    · exact T_ret ⟨hG, hS⟩
    · refine T_lt l_3 rfl (fun hq10_ => ?_) (fun hq10_ => ?_)
      · exact T_ret ⟨hG, hS⟩
      · refine T_lt rfl l_0 (fun hq11_ => ?_) (fun hq11_ => ?_)
        · exact T_ret ⟨hG, hS⟩
        · refine T_le rfl l_1 (fun hq12_ => ?_) (fun hq12_ => ?_)
          · refine T_qc (t_X7_prepare_c7 hn hj a1 a2 a3 M hG (i_rng (lo := 0) (hi := 7) rfl (by omega) (by omega)) (i_rng (lo := 0) (hi := 11) rfl (by omega) (by omega))) ?_
            rintro rv13 mv14 ⟨hq15_, gq16_, kq17_⟩
            have kq18_ := Sm.call hS kq17_ rfl
            refine T_qc (t_X7_soonestWay hn a4 mv14 gq16_ (i_rng (lo := 0) (hi := 3) rfl (by omega) (by omega))) ?_
            rintro rv19 mv20 ⟨gq21_, kq22_⟩
            have kq23_ := Sm.call kq18_ kq22_ rfl
            refine T_lt rfl l_1048576 (fun hq24_ => ?_) (fun hq24_ => ?_)
            · refine T_eq rfl l_0 (fun hq25_ => ?_) (fun hq25_ => ?_)
              · have hq26_ := i_full (rv19)
                exact T_ret ⟨gq21_, kq23_⟩
              · have hq27_ := i_full (rv19)
                have hq28_ := i_full (rv19 / (16 : Int32))
                have hq29_ := i_full ((rv19 / (16 : Int32)) * (16 : Int32))
                exact T_ret ⟨gq21_, kq23_⟩
            · exact T_ret ⟨gq21_, kq23_⟩
          · exact T_ret ⟨hG, hS⟩
abbrev l_X12_areSome : List Bx := []
abbrev po_X12_areSome (a1 a2 a3 : Int32) (M : qM) (v : Int32) (M' : qM) : Prop := (0 ≤ v.toInt ∧ v.toInt ≤ 1) ∧ (v.toInt = 0 ∨ (0 ≤ a1.toInt ∧ a1.toInt ≤ 7 ∧ 0 ≤ a3.toInt ∧ a3.toInt ≤ 11 ∧ bS a2 12 ≤ 4 ∧ ((a2 >>> (a3 &&& 31)) &&& (1 : Int32)).toInt = 1)) ∧ G M' ∧ Sm l_X12_areSome M M'
theorem t_X12_areSome {n : Nat} (hn : 200000 ≤ n) (a1 a2 a3 : Int32) (M : qM) (hG : G M) : qT (f_X12_areSome n a1 a2 a3 M) (po_X12_areSome a1 a2 a3 M) := by
  have hS : Sm l_X12_areSome M M := Sm.rf
  unfold f_X12_areSome
  refine T_qc (t_X12_isPerson hn a1 M hG ) ?_
  rintro rv1 mv2 ⟨hq3_, hq4_, gq5_, kq6_⟩
  have hq7_ := kq6_.nil
  subst hq7_
  refine T_eq rfl l_0 (fun hq8_ => ?_) (fun hq8_ => ?_)
  · exact T_ret ⟨(i_rng (lo := 0) (hi := 1) l_0 (by omega) (by omega)), (by have e9 : ((0 : Int32)).toInt = _ := l_0; omega), hG, hS⟩
  · refine T_le rfl l_0 (fun hq9_ => ?_) (fun hq9_ => ?_)
    · exact T_ret ⟨(i_rng (lo := 0) (hi := 1) l_0 (by omega) (by omega)), (by have e9 : ((0 : Int32)).toInt = _ := l_0; omega), hG, hS⟩
    · refine T_eq rfl l_0 (fun hq10_ => ?_) (fun hq10_ => ?_)
      · refine T_qc (t_X12_bits hn a2 M hG ) ?_
        rintro rv11 mv12 ⟨hq13_, hq14_, gq15_, kq16_⟩
        have hq17_ := kq16_.nil
        subst hq17_
        refine T_lt l_4 rfl (fun hq18_ => ?_) (fun hq18_ => ?_)
        · exact T_ret ⟨(i_rng (lo := 0) (hi := 1) l_0 (by omega) (by omega)), (by have e9 : ((0 : Int32)).toInt = _ := l_0; omega), hG, hS⟩
        · refine T_qc (t_X12_isKind hn a3 M hG ) ?_
          rintro rv19 mv20 ⟨hq21_, hq22_, gq23_, kq24_⟩
          have hq25_ := kq24_.nil
          subst hq25_
          refine T_eq rfl l_0 (fun hq26_ => ?_) (fun hq26_ => ?_)
          · exact T_ret ⟨(i_rng (lo := 0) (hi := 1) l_0 (by omega) (by omega)), (by have e9 : ((0 : Int32)).toInt = _ := l_0; omega), hG, hS⟩
          · refine T_qc (t_X12_has0 hn a2 a3 M hG (i_rng (lo := 0) (hi := 11) rfl (by omega) (by omega))) ?_
            rintro rv27 mv28 ⟨hq29_, hq30_, gq31_, kq32_⟩
            have hq33_ := kq32_.nil
            subst hq33_
            refine T_eq rfl l_0 (fun hq34_ => ?_) (fun hq34_ => ?_)
            · exact T_ret ⟨(i_rng (lo := 0) (hi := 1) l_0 (by omega) (by omega)), (by have e9 : ((0 : Int32)).toInt = _ := l_0; omega), hG, hS⟩
            · exact T_ret ⟨(i_rng (lo := 0) (hi := 1) l_1 (by omega) (by omega)), (by have e9 : ((1 : Int32)).toInt = _ := l_1; omega), hG, hS⟩
      · exact T_ret ⟨(i_rng (lo := 0) (hi := 1) l_0 (by omega) (by omega)), (by have e9 : ((0 : Int32)).toInt = _ := l_0; omega), hG, hS⟩
