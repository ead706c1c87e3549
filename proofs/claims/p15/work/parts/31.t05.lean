abbrev l_X3_addClause : List Bx := [(37, 53, 0, 0)]
abbrev po_X3_addClause (w : Nat) (a1 a2 a3 : Int32) (M : qM) (v : Int32) (M' : qM) : Prop := (0 ≤ v.toInt ∧ v.toInt ≤ 0) ∧ ((M' w 6).toInt = (M w 6).toInt) ∧ G M' ∧ Sm l_X3_addClause M M'
theorem G_lr {M : qM} {w k s : Nat} {v : Int32} (hw : q_isLaw w) (hG : G M) (hk : 3 ≤ k ∧ k ≤ 6) (hv : k = 3 ∨ (0 ≤ v.toInt ∧ v.toInt ≤ 240)) : G (mu M (w + k) s v) := by
  have hk2 : k = 3 ∨ k = 4 ∨ k = 5 ∨ k = 6 := by omega
  rcases hw with rfl | rfl <;> rcases hk2 with rfl | rfl | rfl | rfl
  · exact G_mu hG trivial (nw_40 _)
  · exact G_mu hG (hv.resolve_left (by decide)) (nw_41 _)
  · exact G_mu hG (hv.resolve_left (by decide)) (nw_42 _)
  · exact G_mu hG (hv.resolve_left (by decide)) (nw_43 _)
  · exact G_mu hG trivial (nw_49 _)
  · exact G_mu hG (hv.resolve_left (by decide)) (nw_50 _)
  · exact G_mu hG (hv.resolve_left (by decide)) (nw_51 _)
  · exact G_mu hG (hv.resolve_left (by decide)) (nw_52 _)
theorem t_X3_addClause {n : Nat} (hn : 200000 ≤ n) {w : Nat} (hw : q_isLaw w) (a1 a2 a3 : Int32) (M : qM) (hG : G M) (pa2 : 0 ≤ a2.toInt ∧ a2.toInt ≤ 240) (pa3 : 0 ≤ a3.toInt ∧ a3.toInt ≤ 240) : qT (f_X3_addClause n w a1 a2 a3 M) (po_X3_addClause w a1 a2 a3 M) := by
  have h6 := rw_0_6 hw hG
  have h7 := rw_0_7 hw hG
  unfold f_X3_addClause
  refine T_le l_16 rfl (fun c => ?_) (fun c => ?_)
  · exact T_ret ⟨⟨by decide, by decide⟩, rfl, hG, Sm.rf⟩
  · refine T_qg rfl (by omega) (by omega) (T_qlm ?_)
    have e1 : ∀ s, mu M (w + 3) (M w 7).toNatClampNeg a1 w s = M w s := fun s => mu_ne (Or.inl (by omega))
    have g1 := G_lr (k := 3) (s := (M w 7).toNatClampNeg) (v := a1) hw hG (by omega) (Or.inl rfl)
    have s1 : Sm l_X3_addClause M (mu M (w + 3) (M w 7).toNatClampNeg a1) := (Sm.rf).mu (i := 0) rfl (lwin (k := 3) hw (by decide))
    generalize mu M (w + 3) (M w 7).toNatClampNeg a1 = m1 at e1 g1 s1 ⊢
    rw [e1 7]
    refine T_qg rfl (by omega) (by omega) (T_qlm ?_)
    have e2 : ∀ s, mu m1 (w + 4) (M w 7).toNatClampNeg a2 w s = M w s := fun s => by rw [mu_ne (Or.inl (by omega)), e1]
    have g2 := G_lr (k := 4) (s := (M w 7).toNatClampNeg) (v := a2) hw g1 (by omega) (Or.inr pa2)
    have s2 : Sm l_X3_addClause M (mu m1 (w + 4) (M w 7).toNatClampNeg a2) := s1.mu (i := 0) rfl (lwin (k := 4) hw (by decide))
    generalize mu m1 (w + 4) (M w 7).toNatClampNeg a2 = m2 at e2 g2 s2 ⊢
    rw [e2 7]
    refine T_qg rfl (by omega) (by omega) (T_qlm ?_)
    have e3 : ∀ s, mu m2 (w + 5) (M w 7).toNatClampNeg a3 w s = M w s := fun s => by rw [mu_ne (Or.inl (by omega)), e2]
    have g3 := G_lr (k := 5) (s := (M w 7).toNatClampNeg) (v := a3) hw g2 (by omega) (Or.inr pa3)
    have s3 : Sm l_X3_addClause M (mu m2 (w + 5) (M w 7).toNatClampNeg a3) := s2.mu (i := 0) rfl (lwin (k := 5) hw (by decide))
    generalize mu m2 (w + 5) (M w 7).toNatClampNeg a3 = m3 at e3 g3 s3 ⊢
    rw [e3 7, e3 6]
    refine T_qg rfl (by omega) (by omega) (T_qlm ?_)
    have e4 : ∀ s, mu m3 (w + 6) (M w 7).toNatClampNeg (M w 6) w s = M w s := fun s => by rw [mu_ne (Or.inl (by omega)), e3]
    have g4 := G_lr (k := 6) (s := (M w 7).toNatClampNeg) (v := M w 6) hw g3 (by omega) (Or.inr h6)
    have s4 : Sm l_X3_addClause M (mu m3 (w + 6) (M w 7).toNatClampNeg (M w 6)) := s3.mu (i := 0) rfl (lwin (k := 6) hw (by decide))
    generalize mu m3 (w + 6) (M w 7).toNatClampNeg (M w 6) = m4 at e4 g4 s4 ⊢
    refine T_qlm ?_
    rw [e4 7]
    have e5 : (M w 7 + 1).toInt = (M w 7).toInt + 1 := i_add rfl l_1 (by omega) (by omega)
    refine T_ret ⟨⟨by decide, by decide⟩, ?_, G_lw hw g4 (fun q => absurd q (by decide)) (fun _ => by rw [e5]; omega) (Or.inr rfl), s4.mu (i := 0) rfl (lwin (k := 0) hw (by decide))⟩
    rw [mu_ne (Or.inr (by decide)), e4]

abbrev l_X4_readClause : List Bx := [(1, 2, 3, 5), (37, 53, 0, 0)]
abbrev po_X4_readClause (r : Nat) (M : qM) (v : Int32) (M' : qM) : Prop := (0 ≤ v.toInt ∧ v.toInt ≤ 1) ∧ (v.toInt = 0 ∨ ((M 1 3).toInt - (M r 6).toInt ≤ (M' 1 3).toInt - (M' r 6).toInt ∧ (M' 1 3).toInt ≤ (M' 1 2).toInt ∧ (M' r 6).toInt ≤ (M' 1 3).toInt)) ∧ G M' ∧ Sm l_X4_readClause M M'
theorem t_X4_readClause {n : Nat} (hn : 200000 ≤ n) {r : Nat} (hr : q_isLaw r) (M : qM) (hG : G M) (pe : (M 1 3).toInt ≤ (M 1 2).toInt ∧ (M r 6).toInt ≤ (M 1 3).toInt) : qT (f_X4_readClause n r  M) (po_X4_readClause r  M) := by
  have hS : Sm l_X4_readClause M M := Sm.rf
  unfold f_X4_readClause
  have hq1_ := r_1_3 hG
  have hq2_ := r_1_2 hG
  have hq3_ := rw_0_6 hr hG
  refine T_qc (t_X9_sign hn  M hG ) ?_
  rintro rv4 mv5 ⟨hq6_, hq7_, gq8_, kq9_⟩
  have hq10_ := r_2 hG ((M 1 3).toNatClampNeg)
  have hq11_ := kq9_.nil
  subst hq11_
  refine T_eq rfl l_97 (fun hq12_ => ?_) (fun hq12_ => ?_)
  · unfold f_X4_readClause_48
    have hq13_ := rw_0_7 hr hG
    refine T_lt rfl l_16 (fun hq14_ => ?_) (fun hq14_ => ?_)
    · refine T_mu hG hS (i_rng (lo := 0) (hi := 240) (i_add rfl l_1 (by omega) (by omega)) (by omega) (by omega)) (nw_1 _) (i := 0) rfl ⟨by decide, by decide, Or.inr ⟨by decide, by decide⟩⟩ ?_
      intro mv15 hq16_ gq17_ kq18_
      have hq19_ : (mv15 1 2).toInt = (M 1 2).toInt := by rw [hq16_, mu_ne (Or.inr (by decide))]
      have hq20_ : (mv15 r 6).toInt = (M r 6).toInt := by rw [hq16_, mu_ne (Or.inl (lawne hr (by decide)).1)]
      have hq21_ : (mv15 r 7).toInt = (M r 7).toInt := by rw [hq16_, mu_ne (Or.inl (lawne hr (by decide)).1)]
      have hq22_ : (mv15 1 3).toInt = ((M 1 3).toInt + 1) := by rw [hq16_, mu_at]; exact (i_add rfl l_1 (by omega) (by omega))
      have hq23_ := rw_0_6 hr gq17_
      refine T_ql rfl ?_
      intro xv24 hq25_
      refine T_eq rfl l_97 (fun hq26_ => ?_) (fun hq26_ => ?_)
      · unfold f_X4_readClause_113
        refine T_ql rfl ?_
        intro xv27 hq28_
        have hq31_ := (show ((40 : Int32)).toInt = _ from l_40)
        refine T_qc (t_X9_mustTake hn (40 : Int32) mv15 gq17_ (i_rng (lo := 0) (hi := 255) l_40 (by omega) (by omega))) ?_
        rintro rv29 mv30 ⟨hq32_, hq33_, gq34_, kq35_⟩
        have hq36_ := r_1_3 gq17_
        have hq37_ := r_1_2 gq17_
        have kq38_ := Sm.call kq18_ kq35_ rfl
        have hq39_ : (mv30 r 6).toInt = (mv15 r 6).toInt := by rw [kq35_ r 6 (outl (lawin hr).1 rfl)]
        have hq40_ : (mv30 r 7).toInt = (mv15 r 7).toInt := by rw [kq35_ r 7 (outl (lawin hr).1 rfl)]
        have hq41_ : (mv30 1 2).toInt = (mv15 1 2).toInt := by rw [kq35_ 1 2 (by decide)]
        have hq42_ := r_1_3 gq34_
        refine T_eq rfl l_0 (fun hq43_ => ?_) (fun hq43_ => ?_)
        · exact T_ret ⟨(i_rng (lo := 0) (hi := 1) l_0 (by omega) (by omega)), (by have e9 : ((0 : Int32)).toInt = _ := l_0; omega), gq34_, kq38_⟩
        · have hq46_ := (show ((1 : Int32)).toInt = _ from l_1)
          refine T_qc (t_X4_readCondition hn hr (1 : Int32) mv30 gq34_ (i_rng (lo := 0) (hi := 6) l_1 (by omega) (by omega)) (by have e0 : ((1 : Int32)).toInt = _ := l_1; omega)) ?_
          rintro rv44 mv45 ⟨hq47_, hq48_, hq49_, gq50_, kq51_⟩
          have hq52_ := r_1_2 gq34_
          have hq53_ := rw_0_6 hr gq34_
          have kq54_ := Sm.call kq38_ kq51_ rfl
          have hq55_ : (mv45 1 2).toInt = (mv30 1 2).toInt := by rw [kq51_ 1 2 (by decide)]
          have hq56_ := r_1_3 gq50_
          have hq57_ := rw_0_6 hr gq50_
          have hq58_ := r_1_2 gq50_
          refine T_eq rfl l_0 (fun hq59_ => ?_) (fun hq59_ => ?_)
          · exact T_ret ⟨(i_rng (lo := 0) (hi := 1) l_0 (by omega) (by omega)), (by have e9 : ((0 : Int32)).toInt = _ := l_0; omega), gq50_, kq54_⟩
          · have hq62_ := (show ((41 : Int32)).toInt = _ from l_41)
            refine T_qc (t_X9_mustTake hn (41 : Int32) mv45 gq50_ (i_rng (lo := 0) (hi := 255) l_41 (by omega) (by omega))) ?_
            rintro rv60 mv61 ⟨hq63_, hq64_, gq65_, kq66_⟩
            have kq67_ := Sm.call kq54_ kq66_ rfl
            have hq68_ : (mv61 r 6).toInt = (mv45 r 6).toInt := by rw [kq66_ r 6 (outl (lawin hr).1 rfl)]
            have hq69_ : (mv61 1 2).toInt = (mv45 1 2).toInt := by rw [kq66_ 1 2 (by decide)]
            have hq70_ := r_1_3 gq65_
            refine T_eq rfl l_0 (fun hq71_ => ?_) (fun hq71_ => ?_)
            · exact T_ret ⟨(i_rng (lo := 0) (hi := 1) l_0 (by omega) (by omega)), (by have e9 : ((0 : Int32)).toInt = _ := l_0; omega), gq65_, kq67_⟩
            · refine T_qc (t_X3_addClause hn hr rv4 xv24 xv27 mv61 gq65_ (i_rng (lo := 0) (hi := 240) rfl (by omega) (by omega)) (i_rng (lo := 0) (hi := 240) rfl (by omega) (by omega))) ?_
              rintro rv72 mv73 ⟨hq74_, hq75_, gq76_, kq77_⟩
              have kq78_ := Sm.call kq67_ kq77_ rfl
              have hq79_ : (mv73 1 2).toInt = (mv61 1 2).toInt := by rw [kq77_ 1 2 (by decide)]
              have hq80_ : (mv73 1 3).toInt = (mv61 1 3).toInt := by rw [kq77_ 1 3 (by decide)]
              have hq81_ := rw_0_6 hr gq76_
              exact T_ret ⟨(i_rng (lo := 0) (hi := 1) l_1 (by omega) (by omega)), (by have e9 : ((1 : Int32)).toInt = _ := l_1; omega), gq76_, kq78_⟩
      · exfalso; omega
    · refine T_qc (t_X9_fails hn (4 : Int32) (M 1 3) M hG (i_rng (lo := 1) (hi := 6) l_4 (by omega) (by omega)) (i_rng (lo := 0) (hi := 240) rfl (by omega) (by omega))) ?_
      rintro rv82 mv83 ⟨hq84_, gq85_, kq86_⟩
      have kq87_ := Sm.call hS kq86_ rfl
      have hq88_ : (mv83 r 6).toInt = (M r 6).toInt := by rw [kq86_ r 6 (outl (lawin hr).1 rfl)]
      have hq89_ : (mv83 r 7).toInt = (M r 7).toInt := by rw [kq86_ r 7 (outl (lawin hr).1 rfl)]
      have hq90_ : (mv83 1 3).toInt = (M 1 3).toInt := by rw [kq86_ 1 3 (by decide)]
      have hq91_ : (mv83 1 2).toInt = (M 1 2).toInt := by rw [kq86_ 1 2 (by decide)]
      refine T_qb rfl (by omega) (by omega) ?_
      exact T_ret ⟨(i_rng (lo := 0) (hi := 1) rfl (by omega) (by omega)), (by have e9 : (rv82).toInt = _ := rfl; omega), gq85_, kq87_⟩
  · refine T_eq rfl l_118 (fun hq92_ => ?_) (fun hq92_ => ?_)
    · unfold f_X4_readClause_48
      have hq93_ := rw_0_7 hr hG
      refine T_lt rfl l_16 (fun hq94_ => ?_) (fun hq94_ => ?_)
      · refine T_mu hG hS (i_rng (lo := 0) (hi := 240) (i_add rfl l_1 (by omega) (by omega)) (by omega) (by omega)) (nw_1 _) (i := 0) rfl ⟨by decide, by decide, Or.inr ⟨by decide, by decide⟩⟩ ?_
        intro mv95 hq96_ gq97_ kq98_
        have hq99_ : (mv95 1 2).toInt = (M 1 2).toInt := by rw [hq96_, mu_ne (Or.inr (by decide))]
        have hq100_ : (mv95 r 6).toInt = (M r 6).toInt := by rw [hq96_, mu_ne (Or.inl (lawne hr (by decide)).1)]
        have hq101_ : (mv95 r 7).toInt = (M r 7).toInt := by rw [hq96_, mu_ne (Or.inl (lawne hr (by decide)).1)]
        have hq102_ : (mv95 1 3).toInt = ((M 1 3).toInt + 1) := by rw [hq96_, mu_at]; exact (i_add rfl l_1 (by omega) (by omega))
        have hq103_ := rw_0_6 hr gq97_
        refine T_ql rfl ?_
        intro xv104 hq105_
        refine T_eq rfl l_97 (fun hq106_ => ?_) (fun hq106_ => ?_)
        · exfalso; omega
        · have hq109_ := (show ((0 : Int32)).toInt = _ from l_0)
          refine T_qc (t_X4_readSum hn hr (0 : Int32) mv95 gq97_ (i_rng (lo := 0) (hi := 6) l_0 (by omega) (by omega)) (by have e0 : ((0 : Int32)).toInt = _ := l_0; omega)) ?_
          rintro rv107 mv108 ⟨hq110_, hq111_, hq112_, gq113_, kq114_⟩
          have hq115_ := r_1_3 gq97_
          have hq116_ := r_1_2 gq97_
          have kq117_ := Sm.call kq98_ kq114_ rfl
          have hq118_ : (mv108 1 2).toInt = (mv95 1 2).toInt := by rw [kq114_ 1 2 (by decide)]
          have hq119_ := r_1_3 gq113_
          have hq120_ := rw_0_6 hr gq113_
          have hq121_ := r_1_2 gq113_
          refine T_eq rfl l_0 (fun hq122_ => ?_) (fun hq122_ => ?_)
          · exact T_ret ⟨(i_rng (lo := 0) (hi := 1) l_0 (by omega) (by omega)), (by have e9 : ((0 : Int32)).toInt = _ := l_0; omega), gq113_, kq117_⟩
          · unfold f_X4_readClause_113
            refine T_ql rfl ?_
            intro xv123 hq124_
            have hq127_ := (show ((40 : Int32)).toInt = _ from l_40)
            refine T_qc (t_X9_mustTake hn (40 : Int32) mv108 gq113_ (i_rng (lo := 0) (hi := 255) l_40 (by omega) (by omega))) ?_
            rintro rv125 mv126 ⟨hq128_, hq129_, gq130_, kq131_⟩
            have kq132_ := Sm.call kq117_ kq131_ rfl
            have hq133_ : (mv126 r 6).toInt = (mv108 r 6).toInt := by rw [kq131_ r 6 (outl (lawin hr).1 rfl)]
            have hq134_ : (mv126 1 2).toInt = (mv108 1 2).toInt := by rw [kq131_ 1 2 (by decide)]
            have hq135_ := r_1_3 gq130_
            refine T_eq rfl l_0 (fun hq136_ => ?_) (fun hq136_ => ?_)
            · exact T_ret ⟨(i_rng (lo := 0) (hi := 1) l_0 (by omega) (by omega)), (by have e9 : ((0 : Int32)).toInt = _ := l_0; omega), gq130_, kq132_⟩
            · have hq139_ := (show ((1 : Int32)).toInt = _ from l_1)
              refine T_qc (t_X4_readCondition hn hr (1 : Int32) mv126 gq130_ (i_rng (lo := 0) (hi := 6) l_1 (by omega) (by omega)) (by have e0 : ((1 : Int32)).toInt = _ := l_1; omega)) ?_
              rintro rv137 mv138 ⟨hq140_, hq141_, hq142_, gq143_, kq144_⟩
              have hq145_ := r_1_2 gq130_
              have hq146_ := rw_0_6 hr gq130_
              have kq147_ := Sm.call kq132_ kq144_ rfl
              have hq148_ : (mv138 1 2).toInt = (mv126 1 2).toInt := by rw [kq144_ 1 2 (by decide)]
              have hq149_ := r_1_3 gq143_
              have hq150_ := rw_0_6 hr gq143_
              have hq151_ := r_1_2 gq143_
              refine T_eq rfl l_0 (fun hq152_ => ?_) (fun hq152_ => ?_)
              · exact T_ret ⟨(i_rng (lo := 0) (hi := 1) l_0 (by omega) (by omega)), (by have e9 : ((0 : Int32)).toInt = _ := l_0; omega), gq143_, kq147_⟩
              · have hq155_ := (show ((41 : Int32)).toInt = _ from l_41)
                refine T_qc (t_X9_mustTake hn (41 : Int32) mv138 gq143_ (i_rng (lo := 0) (hi := 255) l_41 (by omega) (by omega))) ?_
                rintro rv153 mv154 ⟨hq156_, hq157_, gq158_, kq159_⟩
                have kq160_ := Sm.call kq147_ kq159_ rfl
                have hq161_ : (mv154 r 6).toInt = (mv138 r 6).toInt := by rw [kq159_ r 6 (outl (lawin hr).1 rfl)]
                have hq162_ : (mv154 1 2).toInt = (mv138 1 2).toInt := by rw [kq159_ 1 2 (by decide)]
                have hq163_ := r_1_3 gq158_
                refine T_eq rfl l_0 (fun hq164_ => ?_) (fun hq164_ => ?_)
                · exact T_ret ⟨(i_rng (lo := 0) (hi := 1) l_0 (by omega) (by omega)), (by have e9 : ((0 : Int32)).toInt = _ := l_0; omega), gq158_, kq160_⟩
                · refine T_qc (t_X3_addClause hn hr rv4 xv104 xv123 mv154 gq158_ (i_rng (lo := 0) (hi := 240) rfl (by omega) (by omega)) (i_rng (lo := 0) (hi := 240) rfl (by omega) (by omega))) ?_
                  rintro rv165 mv166 ⟨hq167_, hq168_, gq169_, kq170_⟩
                  have kq171_ := Sm.call kq160_ kq170_ rfl
                  have hq172_ : (mv166 1 2).toInt = (mv154 1 2).toInt := by rw [kq170_ 1 2 (by decide)]
                  have hq173_ : (mv166 1 3).toInt = (mv154 1 3).toInt := by rw [kq170_ 1 3 (by decide)]
                  have hq174_ := rw_0_6 hr gq169_
                  exact T_ret ⟨(i_rng (lo := 0) (hi := 1) l_1 (by omega) (by omega)), (by have e9 : ((1 : Int32)).toInt = _ := l_1; omega), gq169_, kq171_⟩
      · refine T_qc (t_X9_fails hn (4 : Int32) (M 1 3) M hG (i_rng (lo := 1) (hi := 6) l_4 (by omega) (by omega)) (i_rng (lo := 0) (hi := 240) rfl (by omega) (by omega))) ?_
        rintro rv175 mv176 ⟨hq177_, gq178_, kq179_⟩
        have kq180_ := Sm.call hS kq179_ rfl
        have hq181_ : (mv176 r 6).toInt = (M r 6).toInt := by rw [kq179_ r 6 (outl (lawin hr).1 rfl)]
        have hq182_ : (mv176 r 7).toInt = (M r 7).toInt := by rw [kq179_ r 7 (outl (lawin hr).1 rfl)]
        have hq183_ : (mv176 1 3).toInt = (M 1 3).toInt := by rw [kq179_ 1 3 (by decide)]
        have hq184_ : (mv176 1 2).toInt = (M 1 2).toInt := by rw [kq179_ 1 2 (by decide)]
        refine T_qb rfl (by omega) (by omega) ?_
        exact T_ret ⟨(i_rng (lo := 0) (hi := 1) rfl (by omega) (by omega)), (by have e9 : (rv175).toInt = _ := rfl; omega), gq178_, kq180_⟩
    · refine T_eq rfl l_102 (fun hq185_ => ?_) (fun hq185_ => ?_)
      · unfold f_X4_readClause_48
        have hq186_ := rw_0_7 hr hG
        refine T_lt rfl l_16 (fun hq187_ => ?_) (fun hq187_ => ?_)
        · refine T_mu hG hS (i_rng (lo := 0) (hi := 240) (i_add rfl l_1 (by omega) (by omega)) (by omega) (by omega)) (nw_1 _) (i := 0) rfl ⟨by decide, by decide, Or.inr ⟨by decide, by decide⟩⟩ ?_
          intro mv188 hq189_ gq190_ kq191_
          have hq192_ : (mv188 1 2).toInt = (M 1 2).toInt := by rw [hq189_, mu_ne (Or.inr (by decide))]
          have hq193_ : (mv188 r 6).toInt = (M r 6).toInt := by rw [hq189_, mu_ne (Or.inl (lawne hr (by decide)).1)]
          have hq194_ : (mv188 r 7).toInt = (M r 7).toInt := by rw [hq189_, mu_ne (Or.inl (lawne hr (by decide)).1)]
          have hq195_ : (mv188 1 3).toInt = ((M 1 3).toInt + 1) := by rw [hq189_, mu_at]; exact (i_add rfl l_1 (by omega) (by omega))
          have hq196_ := rw_0_6 hr gq190_
          refine T_ql rfl ?_
          intro xv197 hq198_
          refine T_eq rfl l_97 (fun hq199_ => ?_) (fun hq199_ => ?_)
          · exfalso; omega
          · have hq202_ := (show ((0 : Int32)).toInt = _ from l_0)
            refine T_qc (t_X4_readSum hn hr (0 : Int32) mv188 gq190_ (i_rng (lo := 0) (hi := 6) l_0 (by omega) (by omega)) (by have e0 : ((0 : Int32)).toInt = _ := l_0; omega)) ?_
            rintro rv200 mv201 ⟨hq203_, hq204_, hq205_, gq206_, kq207_⟩
            have hq208_ := r_1_3 gq190_
            have hq209_ := r_1_2 gq190_
            have kq210_ := Sm.call kq191_ kq207_ rfl
            have hq211_ : (mv201 1 2).toInt = (mv188 1 2).toInt := by rw [kq207_ 1 2 (by decide)]
            have hq212_ := r_1_3 gq206_
            have hq213_ := rw_0_6 hr gq206_
            have hq214_ := r_1_2 gq206_
            refine T_eq rfl l_0 (fun hq215_ => ?_) (fun hq215_ => ?_)
            · exact T_ret ⟨(i_rng (lo := 0) (hi := 1) l_0 (by omega) (by omega)), (by have e9 : ((0 : Int32)).toInt = _ := l_0; omega), gq206_, kq210_⟩
            · unfold f_X4_readClause_113
              refine T_ql rfl ?_
              intro xv216 hq217_
              have hq220_ := (show ((40 : Int32)).toInt = _ from l_40)
              refine T_qc (t_X9_mustTake hn (40 : Int32) mv201 gq206_ (i_rng (lo := 0) (hi := 255) l_40 (by omega) (by omega))) ?_
              rintro rv218 mv219 ⟨hq221_, hq222_, gq223_, kq224_⟩
              have kq225_ := Sm.call kq210_ kq224_ rfl
              have hq226_ : (mv219 r 6).toInt = (mv201 r 6).toInt := by rw [kq224_ r 6 (outl (lawin hr).1 rfl)]
              have hq227_ : (mv219 1 2).toInt = (mv201 1 2).toInt := by rw [kq224_ 1 2 (by decide)]
              have hq228_ := r_1_3 gq223_
              refine T_eq rfl l_0 (fun hq229_ => ?_) (fun hq229_ => ?_)
              · exact T_ret ⟨(i_rng (lo := 0) (hi := 1) l_0 (by omega) (by omega)), (by have e9 : ((0 : Int32)).toInt = _ := l_0; omega), gq223_, kq225_⟩
              · have hq232_ := (show ((1 : Int32)).toInt = _ from l_1)
                refine T_qc (t_X4_readCondition hn hr (1 : Int32) mv219 gq223_ (i_rng (lo := 0) (hi := 6) l_1 (by omega) (by omega)) (by have e0 : ((1 : Int32)).toInt = _ := l_1; omega)) ?_
                rintro rv230 mv231 ⟨hq233_, hq234_, hq235_, gq236_, kq237_⟩
                have hq238_ := r_1_2 gq223_
                have hq239_ := rw_0_6 hr gq223_
                have kq240_ := Sm.call kq225_ kq237_ rfl
                have hq241_ : (mv231 1 2).toInt = (mv219 1 2).toInt := by rw [kq237_ 1 2 (by decide)]
                have hq242_ := r_1_3 gq236_
                have hq243_ := rw_0_6 hr gq236_
                have hq244_ := r_1_2 gq236_
                refine T_eq rfl l_0 (fun hq245_ => ?_) (fun hq245_ => ?_)
                · exact T_ret ⟨(i_rng (lo := 0) (hi := 1) l_0 (by omega) (by omega)), (by have e9 : ((0 : Int32)).toInt = _ := l_0; omega), gq236_, kq240_⟩
                · have hq248_ := (show ((41 : Int32)).toInt = _ from l_41)
                  refine T_qc (t_X9_mustTake hn (41 : Int32) mv231 gq236_ (i_rng (lo := 0) (hi := 255) l_41 (by omega) (by omega))) ?_
                  rintro rv246 mv247 ⟨hq249_, hq250_, gq251_, kq252_⟩
                  have kq253_ := Sm.call kq240_ kq252_ rfl
                  have hq254_ : (mv247 r 6).toInt = (mv231 r 6).toInt := by rw [kq252_ r 6 (outl (lawin hr).1 rfl)]
                  have hq255_ : (mv247 1 2).toInt = (mv231 1 2).toInt := by rw [kq252_ 1 2 (by decide)]
                  have hq256_ := r_1_3 gq251_
                  refine T_eq rfl l_0 (fun hq257_ => ?_) (fun hq257_ => ?_)
                  · exact T_ret ⟨(i_rng (lo := 0) (hi := 1) l_0 (by omega) (by omega)), (by have e9 : ((0 : Int32)).toInt = _ := l_0; omega), gq251_, kq253_⟩
                  · refine T_qc (t_X3_addClause hn hr rv4 xv197 xv216 mv247 gq251_ (i_rng (lo := 0) (hi := 240) rfl (by omega) (by omega)) (i_rng (lo := 0) (hi := 240) rfl (by omega) (by omega))) ?_
                    rintro rv258 mv259 ⟨hq260_, hq261_, gq262_, kq263_⟩
                    have kq264_ := Sm.call kq253_ kq263_ rfl
                    have hq265_ : (mv259 1 2).toInt = (mv247 1 2).toInt := by rw [kq263_ 1 2 (by decide)]
                    have hq266_ : (mv259 1 3).toInt = (mv247 1 3).toInt := by rw [kq263_ 1 3 (by decide)]
                    have hq267_ := rw_0_6 hr gq262_
                    exact T_ret ⟨(i_rng (lo := 0) (hi := 1) l_1 (by omega) (by omega)), (by have e9 : ((1 : Int32)).toInt = _ := l_1; omega), gq262_, kq264_⟩
        · refine T_qc (t_X9_fails hn (4 : Int32) (M 1 3) M hG (i_rng (lo := 1) (hi := 6) l_4 (by omega) (by omega)) (i_rng (lo := 0) (hi := 240) rfl (by omega) (by omega))) ?_
          rintro rv268 mv269 ⟨hq270_, gq271_, kq272_⟩
          have kq273_ := Sm.call hS kq272_ rfl
          have hq274_ : (mv269 r 6).toInt = (M r 6).toInt := by rw [kq272_ r 6 (outl (lawin hr).1 rfl)]
          have hq275_ : (mv269 r 7).toInt = (M r 7).toInt := by rw [kq272_ r 7 (outl (lawin hr).1 rfl)]
          have hq276_ : (mv269 1 3).toInt = (M 1 3).toInt := by rw [kq272_ 1 3 (by decide)]
          have hq277_ : (mv269 1 2).toInt = (M 1 2).toInt := by rw [kq272_ 1 2 (by decide)]
          refine T_qb rfl (by omega) (by omega) ?_
          exact T_ret ⟨(i_rng (lo := 0) (hi := 1) rfl (by omega) (by omega)), (by have e9 : (rv268).toInt = _ := rfl; omega), gq271_, kq273_⟩
      · refine T_eq rfl l_99 (fun hq278_ => ?_) (fun hq278_ => ?_)
        · unfold f_X4_readClause_48
          have hq279_ := rw_0_7 hr hG
          refine T_lt rfl l_16 (fun hq280_ => ?_) (fun hq280_ => ?_)
          · refine T_mu hG hS (i_rng (lo := 0) (hi := 240) (i_add rfl l_1 (by omega) (by omega)) (by omega) (by omega)) (nw_1 _) (i := 0) rfl ⟨by decide, by decide, Or.inr ⟨by decide, by decide⟩⟩ ?_
            intro mv281 hq282_ gq283_ kq284_
            have hq285_ : (mv281 1 2).toInt = (M 1 2).toInt := by rw [hq282_, mu_ne (Or.inr (by decide))]
            have hq286_ : (mv281 r 6).toInt = (M r 6).toInt := by rw [hq282_, mu_ne (Or.inl (lawne hr (by decide)).1)]
            have hq287_ : (mv281 r 7).toInt = (M r 7).toInt := by rw [hq282_, mu_ne (Or.inl (lawne hr (by decide)).1)]
            have hq288_ : (mv281 1 3).toInt = ((M 1 3).toInt + 1) := by rw [hq282_, mu_at]; exact (i_add rfl l_1 (by omega) (by omega))
            have hq289_ := rw_0_6 hr gq283_
            refine T_ql rfl ?_
            intro xv290 hq291_
            refine T_eq rfl l_97 (fun hq292_ => ?_) (fun hq292_ => ?_)
            · exfalso; omega
            · have hq295_ := (show ((0 : Int32)).toInt = _ from l_0)
              refine T_qc (t_X4_readSum hn hr (0 : Int32) mv281 gq283_ (i_rng (lo := 0) (hi := 6) l_0 (by omega) (by omega)) (by have e0 : ((0 : Int32)).toInt = _ := l_0; omega)) ?_
              rintro rv293 mv294 ⟨hq296_, hq297_, hq298_, gq299_, kq300_⟩
              have hq301_ := r_1_3 gq283_
              have hq302_ := r_1_2 gq283_
              have kq303_ := Sm.call kq284_ kq300_ rfl
              have hq304_ : (mv294 1 2).toInt = (mv281 1 2).toInt := by rw [kq300_ 1 2 (by decide)]
              have hq305_ := r_1_3 gq299_
              have hq306_ := rw_0_6 hr gq299_
              have hq307_ := r_1_2 gq299_
              refine T_eq rfl l_0 (fun hq308_ => ?_) (fun hq308_ => ?_)
              · exact T_ret ⟨(i_rng (lo := 0) (hi := 1) l_0 (by omega) (by omega)), (by have e9 : ((0 : Int32)).toInt = _ := l_0; omega), gq299_, kq303_⟩
              · unfold f_X4_readClause_113
                refine T_ql rfl ?_
                intro xv309 hq310_
                have hq313_ := (show ((40 : Int32)).toInt = _ from l_40)
                refine T_qc (t_X9_mustTake hn (40 : Int32) mv294 gq299_ (i_rng (lo := 0) (hi := 255) l_40 (by omega) (by omega))) ?_
                rintro rv311 mv312 ⟨hq314_, hq315_, gq316_, kq317_⟩
                have kq318_ := Sm.call kq303_ kq317_ rfl
                have hq319_ : (mv312 r 6).toInt = (mv294 r 6).toInt := by rw [kq317_ r 6 (outl (lawin hr).1 rfl)]
                have hq320_ : (mv312 1 2).toInt = (mv294 1 2).toInt := by rw [kq317_ 1 2 (by decide)]
                have hq321_ := r_1_3 gq316_
                refine T_eq rfl l_0 (fun hq322_ => ?_) (fun hq322_ => ?_)
                · exact T_ret ⟨(i_rng (lo := 0) (hi := 1) l_0 (by omega) (by omega)), (by have e9 : ((0 : Int32)).toInt = _ := l_0; omega), gq316_, kq318_⟩
                · have hq325_ := (show ((1 : Int32)).toInt = _ from l_1)
                  refine T_qc (t_X4_readCondition hn hr (1 : Int32) mv312 gq316_ (i_rng (lo := 0) (hi := 6) l_1 (by omega) (by omega)) (by have e0 : ((1 : Int32)).toInt = _ := l_1; omega)) ?_
                  rintro rv323 mv324 ⟨hq326_, hq327_, hq328_, gq329_, kq330_⟩
                  have hq331_ := r_1_2 gq316_
                  have hq332_ := rw_0_6 hr gq316_
                  have kq333_ := Sm.call kq318_ kq330_ rfl
                  have hq334_ : (mv324 1 2).toInt = (mv312 1 2).toInt := by rw [kq330_ 1 2 (by decide)]
                  have hq335_ := r_1_3 gq329_
                  have hq336_ := rw_0_6 hr gq329_
                  have hq337_ := r_1_2 gq329_
                  refine T_eq rfl l_0 (fun hq338_ => ?_) (fun hq338_ => ?_)
                  · exact T_ret ⟨(i_rng (lo := 0) (hi := 1) l_0 (by omega) (by omega)), (by have e9 : ((0 : Int32)).toInt = _ := l_0; omega), gq329_, kq333_⟩
                  · have hq341_ := (show ((41 : Int32)).toInt = _ from l_41)
                    refine T_qc (t_X9_mustTake hn (41 : Int32) mv324 gq329_ (i_rng (lo := 0) (hi := 255) l_41 (by omega) (by omega))) ?_
                    rintro rv339 mv340 ⟨hq342_, hq343_, gq344_, kq345_⟩
                    have kq346_ := Sm.call kq333_ kq345_ rfl
                    have hq347_ : (mv340 r 6).toInt = (mv324 r 6).toInt := by rw [kq345_ r 6 (outl (lawin hr).1 rfl)]
                    have hq348_ : (mv340 1 2).toInt = (mv324 1 2).toInt := by rw [kq345_ 1 2 (by decide)]
                    have hq349_ := r_1_3 gq344_
                    refine T_eq rfl l_0 (fun hq350_ => ?_) (fun hq350_ => ?_)
                    · exact T_ret ⟨(i_rng (lo := 0) (hi := 1) l_0 (by omega) (by omega)), (by have e9 : ((0 : Int32)).toInt = _ := l_0; omega), gq344_, kq346_⟩
                    · refine T_qc (t_X3_addClause hn hr rv4 xv290 xv309 mv340 gq344_ (i_rng (lo := 0) (hi := 240) rfl (by omega) (by omega)) (i_rng (lo := 0) (hi := 240) rfl (by omega) (by omega))) ?_
                      rintro rv351 mv352 ⟨hq353_, hq354_, gq355_, kq356_⟩
                      have kq357_ := Sm.call kq346_ kq356_ rfl
                      have hq358_ : (mv352 1 2).toInt = (mv340 1 2).toInt := by rw [kq356_ 1 2 (by decide)]
                      have hq359_ : (mv352 1 3).toInt = (mv340 1 3).toInt := by rw [kq356_ 1 3 (by decide)]
                      have hq360_ := rw_0_6 hr gq355_
                      exact T_ret ⟨(i_rng (lo := 0) (hi := 1) l_1 (by omega) (by omega)), (by have e9 : ((1 : Int32)).toInt = _ := l_1; omega), gq355_, kq357_⟩
          · refine T_qc (t_X9_fails hn (4 : Int32) (M 1 3) M hG (i_rng (lo := 1) (hi := 6) l_4 (by omega) (by omega)) (i_rng (lo := 0) (hi := 240) rfl (by omega) (by omega))) ?_
            rintro rv361 mv362 ⟨hq363_, gq364_, kq365_⟩
            have kq366_ := Sm.call hS kq365_ rfl
            have hq367_ : (mv362 r 6).toInt = (M r 6).toInt := by rw [kq365_ r 6 (outl (lawin hr).1 rfl)]
            have hq368_ : (mv362 r 7).toInt = (M r 7).toInt := by rw [kq365_ r 7 (outl (lawin hr).1 rfl)]
            have hq369_ : (mv362 1 3).toInt = (M 1 3).toInt := by rw [kq365_ 1 3 (by decide)]
            have hq370_ : (mv362 1 2).toInt = (M 1 2).toInt := by rw [kq365_ 1 2 (by decide)]
            refine T_qb rfl (by omega) (by omega) ?_
            exact T_ret ⟨(i_rng (lo := 0) (hi := 1) rfl (by omega) (by omega)), (by have e9 : (rv361).toInt = _ := rfl; omega), gq364_, kq366_⟩
        · refine T_qc (t_X9_fails hn (1 : Int32) (M 1 3) M hG (i_rng (lo := 1) (hi := 6) l_1 (by omega) (by omega)) (i_rng (lo := 0) (hi := 240) rfl (by omega) (by omega))) ?_
          rintro rv371 mv372 ⟨hq373_, gq374_, kq375_⟩
          have kq376_ := Sm.call hS kq375_ rfl
          have hq377_ : (mv372 r 6).toInt = (M r 6).toInt := by rw [kq375_ r 6 (outl (lawin hr).1 rfl)]
          have hq378_ : (mv372 1 3).toInt = (M 1 3).toInt := by rw [kq375_ 1 3 (by decide)]
          have hq379_ : (mv372 1 2).toInt = (M 1 2).toInt := by rw [kq375_ 1 2 (by decide)]
          refine T_qb rfl (by omega) (by omega) ?_
          exact T_ret ⟨(i_rng (lo := 0) (hi := 1) rfl (by omega) (by omega)), (by have e9 : (rv371).toInt = _ := rfl; omega), gq374_, kq376_⟩
