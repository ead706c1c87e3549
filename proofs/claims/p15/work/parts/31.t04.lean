abbrev l_X4_readPiece : List Bx := [(1, 2, 3, 5), (37, 53, 0, 0)]
abbrev po_X4_readPiece (r : Nat) (a1 : Int32) (M : qM) (v : Int32) (M' : qM) : Prop := (0 ≤ v.toInt ∧ v.toInt ≤ 1) ∧ (v.toInt = 0 ∨ ((M 1 3).toInt - (M r 6).toInt ≤ (M' 1 3).toInt - (M' r 6).toInt ∧ (M' 1 3).toInt ≤ (M' 1 2).toInt ∧ (M' r 6).toInt ≤ (M' 1 3).toInt)) ∧ Lf r M M' ∧ G M' ∧ Sm l_X4_readPiece M M'
abbrev l_X4_readPart : List Bx := [(1, 2, 3, 5), (37, 53, 0, 0)]
abbrev po_X4_readPart (r : Nat) (a1 : Int32) (M : qM) (v : Int32) (M' : qM) : Prop := (0 ≤ v.toInt ∧ v.toInt ≤ 1) ∧ (v.toInt = 0 ∨ ((M 1 3).toInt - (M r 6).toInt ≤ (M' 1 3).toInt - (M' r 6).toInt ∧ (M' 1 3).toInt ≤ (M' 1 2).toInt ∧ (M' r 6).toInt ≤ (M' 1 3).toInt)) ∧ Lf r M M' ∧ G M' ∧ Sm l_X4_readPart M M'
abbrev l_X4_readCondition : List Bx := [(1, 2, 3, 5), (37, 53, 0, 0)]
abbrev po_X4_readCondition (r : Nat) (a1 : Int32) (M : qM) (v : Int32) (M' : qM) : Prop := (0 ≤ v.toInt ∧ v.toInt ≤ 1) ∧ (v.toInt = 0 ∨ ((M 1 3).toInt - (M r 6).toInt ≤ (M' 1 3).toInt - (M' r 6).toInt ∧ (M' 1 3).toInt ≤ (M' 1 2).toInt ∧ (M' r 6).toInt ≤ (M' 1 3).toInt)) ∧ Lf r M M' ∧ G M' ∧ Sm l_X4_readCondition M M'
theorem to_X4_readPiece {n : Nat} (hn : 200000 ≤ n) {r : Nat} (hr : q_isLaw r) {B : Nat} {F_X4_readCondition : Int32 → qM → qR} (hF_X4_readCondition : ∀ (a1 : Int32) (M : qM), G M → 0 ≤ a1.toInt ∧ a1.toInt ≤ 6 → (M 1 3).toInt ≤ (M 1 2).toInt ∧ (M r 6).toInt ≤ (M 1 3).toInt → 3 * (6 - a1.toInt) + 2 < (B : Int) → qT (F_X4_readCondition a1 M) (po_X4_readCondition r a1 M)) {F_X4_readPiece : Int32 → qM → qR} (hF_X4_readPiece : ∀ (a1 : Int32) (M : qM), G M → 0 ≤ a1.toInt ∧ a1.toInt ≤ 6 → (M 1 3).toInt ≤ (M 1 2).toInt ∧ (M r 6).toInt ≤ (M 1 3).toInt → 3 * (6 - a1.toInt) + 0 < (B : Int) → qT (F_X4_readPiece a1 M) (po_X4_readPiece r a1 M)) (a1 : Int32) (M : qM) (hG : G M) (pa1 : 0 ≤ a1.toInt ∧ a1.toInt ≤ 6) (pe : (M 1 3).toInt ≤ (M 1 2).toInt ∧ (M r 6).toInt ≤ (M 1 3).toInt) (hb : 3 * (6 - a1.toInt) + 0 < (B : Int) + 1) : qT (fo_X4_readPiece n r F_X4_readCondition F_X4_readPiece a1 M) (po_X4_readPiece r a1 M) := by
  have hS : Sm l_X4_readPiece M M := Sm.rf
  unfold fo_X4_readPiece
  have hq1_ := r_1_3 hG
  have hq2_ := r_1_2 hG
  have hq3_ := rw_0_6 hr hG
  refine T_qc (t_X9_sign hn  M hG ) ?_
  rintro rv4 mv5 ⟨hq6_, hq7_, gq8_, kq9_⟩
  have hq10_ := r_2 hG ((M 1 3).toNatClampNeg)
  have hq11_ := kq9_.nil
  subst hq11_
  refine T_eq rfl l_40 (fun hq12_ => ?_) (fun hq12_ => ?_)
  · refine T_qc (t_X4_opens hn a1 M hG (i_rng (lo := 0) (hi := 6) rfl (by omega) (by omega)) (by omega)) ?_
    rintro rv13 mv14 ⟨hq15_, hq16_, gq17_, kq18_⟩
    have kq19_ := Sm.call hS kq18_ rfl
    have hq20_ := Lf.out hr (M0 := M) Lf.rf kq18_ rfl
    have hq21_ : (mv14 r 6).toInt = (M r 6).toInt := by rw [kq18_ r 6 (outl (lawin hr).1 rfl)]
    have hq22_ : (mv14 1 2).toInt = (M 1 2).toInt := by rw [kq18_ 1 2 (by decide)]
    have hq23_ := r_1_3 gq17_
    refine T_eq rfl l_0 (fun hq24_ => ?_) (fun hq24_ => ?_)
    · exact T_ret ⟨(i_rng (lo := 0) (hi := 1) l_0 (by omega) (by omega)), (by have e9 : ((0 : Int32)).toInt = _ := l_0; omega), hq20_, gq17_, kq19_⟩
    · have hq27_ := (show (a1 + (1 : Int32)).toInt = _ from (i_add rfl l_1 (by omega) (by omega)))
      refine T_qc (hF_X4_readCondition (a1 + (1 : Int32)) mv14 gq17_ (i_rng (lo := 0) (hi := 6) (i_add rfl l_1 (by omega) (by omega)) (by omega) (by omega)) (by have e0 : (a1 + (1 : Int32)).toInt = _ := (i_add rfl l_1 (by omega) (by omega)); omega) (by have e0 : (a1 + (1 : Int32)).toInt = _ := (i_add rfl l_1 (by omega) (by omega)); omega)) ?_
      rintro rv25 mv26 ⟨hq28_, hq29_, hq30_, gq31_, kq32_⟩
      have hq33_ := r_1_2 gq17_
      have hq34_ := rw_0_6 hr gq17_
      have kq35_ := Sm.call kq19_ kq32_ rfl
      have hq36_ := Lf.tr (M := M) hq20_ hq30_
      have hq37_ : (mv26 1 2).toInt = (mv14 1 2).toInt := by rw [kq32_ 1 2 (by decide)]
      have hq38_ := r_1_3 gq31_
      have hq39_ := rw_0_6 hr gq31_
      have hq40_ := r_1_2 gq31_
      refine T_eq rfl l_0 (fun hq41_ => ?_) (fun hq41_ => ?_)
      · exact T_ret ⟨(i_rng (lo := 0) (hi := 1) l_0 (by omega) (by omega)), (by have e9 : ((0 : Int32)).toInt = _ := l_0; omega), hq36_, gq31_, kq35_⟩
      · have hq44_ := (show ((41 : Int32)).toInt = _ from l_41)
        refine T_qc (t_X9_mustTake hn (41 : Int32) mv26 gq31_ (i_rng (lo := 0) (hi := 255) l_41 (by omega) (by omega))) ?_
        rintro rv42 mv43 ⟨hq45_, hq46_, gq47_, kq48_⟩
        have kq49_ := Sm.call kq35_ kq48_ rfl
        have hq50_ := Lf.out hr (M0 := M) hq36_ kq48_ rfl
        have hq51_ : (mv43 r 6).toInt = (mv26 r 6).toInt := by rw [kq48_ r 6 (outl (lawin hr).1 rfl)]
        have hq52_ : (mv43 1 2).toInt = (mv26 1 2).toInt := by rw [kq48_ 1 2 (by decide)]
        have hq53_ := r_1_3 gq47_
        refine T_eq rfl l_0 (fun hq54_ => ?_) (fun hq54_ => ?_)
        · exact T_ret ⟨(i_rng (lo := 0) (hi := 1) l_0 (by omega) (by omega)), (by have e9 : ((0 : Int32)).toInt = _ := l_0; omega), hq50_, gq47_, kq49_⟩
        · exact T_ret ⟨(i_rng (lo := 0) (hi := 1) l_1 (by omega) (by omega)), (by have e9 : ((1 : Int32)).toInt = _ := l_1; omega), hq50_, gq47_, kq49_⟩
  · refine T_qc (t_X9_sign hn  M hG ) ?_
    rintro rv55 mv56 ⟨hq57_, hq58_, gq59_, kq60_⟩
    have hq61_ := kq60_.nil
    subst hq61_
    refine T_eq rfl l_33 (fun hq62_ => ?_) (fun hq62_ => ?_)
    · refine T_qc (t_X4_opens hn a1 M hG (i_rng (lo := 0) (hi := 6) rfl (by omega) (by omega)) (by omega)) ?_
      rintro rv63 mv64 ⟨hq65_, hq66_, gq67_, kq68_⟩
      have kq69_ := Sm.call hS kq68_ rfl
      have hq70_ := Lf.out hr (M0 := M) Lf.rf kq68_ rfl
      have hq71_ : (mv64 r 6).toInt = (M r 6).toInt := by rw [kq68_ r 6 (outl (lawin hr).1 rfl)]
      have hq72_ : (mv64 1 2).toInt = (M 1 2).toInt := by rw [kq68_ 1 2 (by decide)]
      have hq73_ := r_1_3 gq67_
      refine T_eq rfl l_0 (fun hq74_ => ?_) (fun hq74_ => ?_)
      · unfold f_X4_readPiece_82
        unfold f_X4_readPiece_83
        have hq77_ := (show ((2 : Int32)).toInt = _ from l_2)
        have hq78_ := (show ((0 : Int32)).toInt = _ from l_0)
        refine T_qc (t_X3_add hn hr (2 : Int32) (0 : Int32) mv64 gq67_ (i_rng (lo := 0) (hi := 1000000) l_0 (by omega) (by omega)) (by have e0 : ((2 : Int32)).toInt = _ := l_2; have e1 : ((0 : Int32)).toInt = _ := l_0; omega)) ?_
        rintro rv75 mv76 ⟨hq79_, hq80_, hq81_, gq82_, kq83_⟩
        have hq84_ := rw_0_6 hr gq67_
        have kq85_ := Sm.call kq69_ kq83_ rfl
        have hq86_ := Lf.tr (M := M) hq70_ hq81_
        have hq87_ : (mv76 1 2).toInt = (mv64 1 2).toInt := by rw [kq83_ 1 2 (by decide)]
        have hq88_ : (mv76 1 3).toInt = (mv64 1 3).toInt := by rw [kq83_ 1 3 (by decide)]
        have hq89_ := rw_0_6 hr gq82_
        refine T_qb l_0 (by omega) (by omega) ?_
        exact T_ret ⟨(i_rng (lo := 0) (hi := 1) l_0 (by omega) (by omega)), (by have e9 : ((0 : Int32)).toInt = _ := l_0; omega), hq86_, gq82_, kq85_⟩
      · have hq92_ := (show (a1 + (1 : Int32)).toInt = _ from (i_add rfl l_1 (by omega) (by omega)))
        refine T_qc (hF_X4_readPiece (a1 + (1 : Int32)) mv64 gq67_ (i_rng (lo := 0) (hi := 6) (i_add rfl l_1 (by omega) (by omega)) (by omega) (by omega)) (by have e0 : (a1 + (1 : Int32)).toInt = _ := (i_add rfl l_1 (by omega) (by omega)); omega) (by have e0 : (a1 + (1 : Int32)).toInt = _ := (i_add rfl l_1 (by omega) (by omega)); omega)) ?_
        rintro rv90 mv91 ⟨hq93_, hq94_, hq95_, gq96_, kq97_⟩
        have hq98_ := r_1_2 gq67_
        have hq99_ := rw_0_6 hr gq67_
        have kq100_ := Sm.call kq69_ kq97_ rfl
        have hq101_ := Lf.tr (M := M) hq70_ hq95_
        have hq102_ : (mv91 1 2).toInt = (mv64 1 2).toInt := by rw [kq97_ 1 2 (by decide)]
        have hq103_ := r_1_3 gq96_
        have hq104_ := rw_0_6 hr gq96_
        have hq105_ := r_1_2 gq96_
        refine T_eq rfl l_0 (fun hq106_ => ?_) (fun hq106_ => ?_)
        · unfold f_X4_readPiece_82
          unfold f_X4_readPiece_83
          have hq109_ := (show ((2 : Int32)).toInt = _ from l_2)
          have hq110_ := (show ((0 : Int32)).toInt = _ from l_0)
          refine T_qc (t_X3_add hn hr (2 : Int32) (0 : Int32) mv91 gq96_ (i_rng (lo := 0) (hi := 1000000) l_0 (by omega) (by omega)) (by have e0 : ((2 : Int32)).toInt = _ := l_2; have e1 : ((0 : Int32)).toInt = _ := l_0; omega)) ?_
          rintro rv107 mv108 ⟨hq111_, hq112_, hq113_, gq114_, kq115_⟩
          have kq116_ := Sm.call kq100_ kq115_ rfl
          have hq117_ := Lf.tr (M := M) hq101_ hq113_
          have hq118_ : (mv108 1 2).toInt = (mv91 1 2).toInt := by rw [kq115_ 1 2 (by decide)]
          have hq119_ : (mv108 1 3).toInt = (mv91 1 3).toInt := by rw [kq115_ 1 3 (by decide)]
          have hq120_ := rw_0_6 hr gq114_
          refine T_qb l_0 (by omega) (by omega) ?_
          exact T_ret ⟨(i_rng (lo := 0) (hi := 1) l_0 (by omega) (by omega)), (by have e9 : ((0 : Int32)).toInt = _ := l_0; omega), hq117_, gq114_, kq116_⟩
        · unfold f_X4_readPiece_83
          have hq123_ := (show ((2 : Int32)).toInt = _ from l_2)
          have hq124_ := (show ((0 : Int32)).toInt = _ from l_0)
          refine T_qc (t_X3_add hn hr (2 : Int32) (0 : Int32) mv91 gq96_ (i_rng (lo := 0) (hi := 1000000) l_0 (by omega) (by omega)) (by have e0 : ((2 : Int32)).toInt = _ := l_2; have e1 : ((0 : Int32)).toInt = _ := l_0; omega)) ?_
          rintro rv121 mv122 ⟨hq125_, hq126_, hq127_, gq128_, kq129_⟩
          have kq130_ := Sm.call kq100_ kq129_ rfl
          have hq131_ := Lf.tr (M := M) hq101_ hq127_
          have hq132_ : (mv122 1 2).toInt = (mv91 1 2).toInt := by rw [kq129_ 1 2 (by decide)]
          have hq133_ : (mv122 1 3).toInt = (mv91 1 3).toInt := by rw [kq129_ 1 3 (by decide)]
          have hq134_ := rw_0_6 hr gq128_
          refine T_qb l_1 (by omega) (by omega) ?_
          exact T_ret ⟨(i_rng (lo := 0) (hi := 1) l_1 (by omega) (by omega)), (by have e9 : ((1 : Int32)).toInt = _ := l_1; omega), hq131_, gq128_, kq130_⟩
    · refine T_qc (t_X4_readSum hn hr a1 M hG (i_rng (lo := 0) (hi := 6) rfl (by omega) (by omega)) (by omega)) ?_
      rintro rv135 mv136 ⟨hq137_, hq138_, hq139_, gq140_, kq141_⟩
      have kq142_ := Sm.call hS kq141_ rfl
      have hq143_ := Lf.tr (M := M) Lf.rf hq139_
      have hq144_ : (mv136 1 2).toInt = (M 1 2).toInt := by rw [kq141_ 1 2 (by decide)]
      have hq145_ := r_1_3 gq140_
      have hq146_ := rw_0_6 hr gq140_
      have hq147_ := r_1_2 gq140_
      refine T_eq rfl l_0 (fun hq148_ => ?_) (fun hq148_ => ?_)
      · exact T_ret ⟨(i_rng (lo := 0) (hi := 1) l_0 (by omega) (by omega)), (by have e9 : ((0 : Int32)).toInt = _ := l_0; omega), hq143_, gq140_, kq142_⟩
      · refine T_qc (t_X9_sign hn  mv136 gq140_ ) ?_
        rintro rv149 mv150 ⟨hq151_, hq152_, gq153_, kq154_⟩
        have hq155_ := r_2 gq140_ ((mv136 1 3).toNatClampNeg)
        have hq156_ := kq154_.nil
        subst hq156_
        refine T_eq rfl l_60 (fun hq157_ => ?_) (fun hq157_ => ?_)
        · unfold f_X4_readPiece_148
          refine T_mu gq140_ kq142_ (i_rng (lo := 0) (hi := 240) (i_add rfl l_1 (by omega) (by omega)) (by omega) (by omega)) (nw_1 _) (i := 0) rfl ⟨by decide, by decide, Or.inr ⟨by decide, by decide⟩⟩ ?_
          intro mv158 hq159_ gq160_ kq161_
          have hq162_ := Lf.mu hr (M0 := M) hq143_ hq159_ (by decide)
          have hq163_ : (mv158 1 2).toInt = (mv136 1 2).toInt := by rw [hq159_, mu_ne (Or.inr (by decide))]
          have hq164_ : (mv158 r 6).toInt = (mv136 r 6).toInt := by rw [hq159_, mu_ne (Or.inl (lawne hr (by decide)).1)]
          have hq165_ : (mv158 1 3).toInt = ((mv136 1 3).toInt + 1) := by rw [hq159_, mu_at]; exact (i_add rfl l_1 (by omega) (by omega))
          refine T_qc (t_X4_readSum hn hr a1 mv158 gq160_ (i_rng (lo := 0) (hi := 6) rfl (by omega) (by omega)) (by omega)) ?_
          rintro rv166 mv167 ⟨hq168_, hq169_, hq170_, gq171_, kq172_⟩
          have hq173_ := r_1_3 gq160_
          have hq174_ := r_1_2 gq160_
          have hq175_ := rw_0_6 hr gq160_
          have kq176_ := Sm.call kq161_ kq172_ rfl
          have hq177_ := Lf.tr (M := M) hq162_ hq170_
          have hq178_ : (mv167 1 2).toInt = (mv158 1 2).toInt := by rw [kq172_ 1 2 (by decide)]
          have hq179_ := r_1_3 gq171_
          have hq180_ := rw_0_6 hr gq171_
          have hq181_ := r_1_2 gq171_
          have hq184_ := (show ((0 : Int32)).toInt = _ from l_0)
          refine T_qc (t_X3_add hn hr rv149 (0 : Int32) mv167 gq171_ (i_rng (lo := 0) (hi := 1000000) l_0 (by omega) (by omega)) (by have e1 : ((0 : Int32)).toInt = _ := l_0; omega)) ?_
          rintro rv182 mv183 ⟨hq185_, hq186_, hq187_, gq188_, kq189_⟩
          have kq190_ := Sm.call kq176_ kq189_ rfl
          have hq191_ := Lf.tr (M := M) hq177_ hq187_
          have hq192_ : (mv183 1 2).toInt = (mv167 1 2).toInt := by rw [kq189_ 1 2 (by decide)]
          have hq193_ : (mv183 1 3).toInt = (mv167 1 3).toInt := by rw [kq189_ 1 3 (by decide)]
          have hq194_ := rw_0_6 hr gq188_
          refine T_qb rfl (by omega) (by omega) ?_
          exact T_ret ⟨(i_rng (lo := 0) (hi := 1) rfl (by omega) (by omega)), (by have e9 : (rv166).toInt = _ := rfl; omega), hq191_, gq188_, kq190_⟩
        · refine T_eq rfl l_62 (fun hq195_ => ?_) (fun hq195_ => ?_)
          · unfold f_X4_readPiece_148
            refine T_mu gq140_ kq142_ (i_rng (lo := 0) (hi := 240) (i_add rfl l_1 (by omega) (by omega)) (by omega) (by omega)) (nw_1 _) (i := 0) rfl ⟨by decide, by decide, Or.inr ⟨by decide, by decide⟩⟩ ?_
            intro mv196 hq197_ gq198_ kq199_
            have hq200_ := Lf.mu hr (M0 := M) hq143_ hq197_ (by decide)
            have hq201_ : (mv196 1 2).toInt = (mv136 1 2).toInt := by rw [hq197_, mu_ne (Or.inr (by decide))]
            have hq202_ : (mv196 r 6).toInt = (mv136 r 6).toInt := by rw [hq197_, mu_ne (Or.inl (lawne hr (by decide)).1)]
            have hq203_ : (mv196 1 3).toInt = ((mv136 1 3).toInt + 1) := by rw [hq197_, mu_at]; exact (i_add rfl l_1 (by omega) (by omega))
            refine T_qc (t_X4_readSum hn hr a1 mv196 gq198_ (i_rng (lo := 0) (hi := 6) rfl (by omega) (by omega)) (by omega)) ?_
            rintro rv204 mv205 ⟨hq206_, hq207_, hq208_, gq209_, kq210_⟩
            have hq211_ := r_1_3 gq198_
            have hq212_ := r_1_2 gq198_
            have hq213_ := rw_0_6 hr gq198_
            have kq214_ := Sm.call kq199_ kq210_ rfl
            have hq215_ := Lf.tr (M := M) hq200_ hq208_
            have hq216_ : (mv205 1 2).toInt = (mv196 1 2).toInt := by rw [kq210_ 1 2 (by decide)]
            have hq217_ := r_1_3 gq209_
            have hq218_ := rw_0_6 hr gq209_
            have hq219_ := r_1_2 gq209_
            have hq222_ := (show ((0 : Int32)).toInt = _ from l_0)
            refine T_qc (t_X3_add hn hr rv149 (0 : Int32) mv205 gq209_ (i_rng (lo := 0) (hi := 1000000) l_0 (by omega) (by omega)) (by have e1 : ((0 : Int32)).toInt = _ := l_0; omega)) ?_
            rintro rv220 mv221 ⟨hq223_, hq224_, hq225_, gq226_, kq227_⟩
            have kq228_ := Sm.call kq214_ kq227_ rfl
            have hq229_ := Lf.tr (M := M) hq215_ hq225_
            have hq230_ : (mv221 1 2).toInt = (mv205 1 2).toInt := by rw [kq227_ 1 2 (by decide)]
            have hq231_ : (mv221 1 3).toInt = (mv205 1 3).toInt := by rw [kq227_ 1 3 (by decide)]
            have hq232_ := rw_0_6 hr gq226_
            refine T_qb rfl (by omega) (by omega) ?_
            exact T_ret ⟨(i_rng (lo := 0) (hi := 1) rfl (by omega) (by omega)), (by have e9 : (rv204).toInt = _ := rfl; omega), hq229_, gq226_, kq228_⟩
          · refine T_eq rfl l_61 (fun hq233_ => ?_) (fun hq233_ => ?_)
            · unfold f_X4_readPiece_148
              refine T_mu gq140_ kq142_ (i_rng (lo := 0) (hi := 240) (i_add rfl l_1 (by omega) (by omega)) (by omega) (by omega)) (nw_1 _) (i := 0) rfl ⟨by decide, by decide, Or.inr ⟨by decide, by decide⟩⟩ ?_
              intro mv234 hq235_ gq236_ kq237_
              have hq238_ := Lf.mu hr (M0 := M) hq143_ hq235_ (by decide)
              have hq239_ : (mv234 1 2).toInt = (mv136 1 2).toInt := by rw [hq235_, mu_ne (Or.inr (by decide))]
              have hq240_ : (mv234 r 6).toInt = (mv136 r 6).toInt := by rw [hq235_, mu_ne (Or.inl (lawne hr (by decide)).1)]
              have hq241_ : (mv234 1 3).toInt = ((mv136 1 3).toInt + 1) := by rw [hq235_, mu_at]; exact (i_add rfl l_1 (by omega) (by omega))
              refine T_qc (t_X4_readSum hn hr a1 mv234 gq236_ (i_rng (lo := 0) (hi := 6) rfl (by omega) (by omega)) (by omega)) ?_
              rintro rv242 mv243 ⟨hq244_, hq245_, hq246_, gq247_, kq248_⟩
              have hq249_ := r_1_3 gq236_
              have hq250_ := r_1_2 gq236_
              have hq251_ := rw_0_6 hr gq236_
              have kq252_ := Sm.call kq237_ kq248_ rfl
              have hq253_ := Lf.tr (M := M) hq238_ hq246_
              have hq254_ : (mv243 1 2).toInt = (mv234 1 2).toInt := by rw [kq248_ 1 2 (by decide)]
              have hq255_ := r_1_3 gq247_
              have hq256_ := rw_0_6 hr gq247_
              have hq257_ := r_1_2 gq247_
              have hq260_ := (show ((0 : Int32)).toInt = _ from l_0)
              refine T_qc (t_X3_add hn hr rv149 (0 : Int32) mv243 gq247_ (i_rng (lo := 0) (hi := 1000000) l_0 (by omega) (by omega)) (by have e1 : ((0 : Int32)).toInt = _ := l_0; omega)) ?_
              rintro rv258 mv259 ⟨hq261_, hq262_, hq263_, gq264_, kq265_⟩
              have kq266_ := Sm.call kq252_ kq265_ rfl
              have hq267_ := Lf.tr (M := M) hq253_ hq263_
              have hq268_ : (mv259 1 2).toInt = (mv243 1 2).toInt := by rw [kq265_ 1 2 (by decide)]
              have hq269_ : (mv259 1 3).toInt = (mv243 1 3).toInt := by rw [kq265_ 1 3 (by decide)]
              have hq270_ := rw_0_6 hr gq264_
              refine T_qb rfl (by omega) (by omega) ?_
              exact T_ret ⟨(i_rng (lo := 0) (hi := 1) rfl (by omega) (by omega)), (by have e9 : (rv242).toInt = _ := rfl; omega), hq267_, gq264_, kq266_⟩
            · refine T_qc (t_X9_fails hn (1 : Int32) (mv136 1 3) mv136 gq140_ (i_rng (lo := 1) (hi := 6) l_1 (by omega) (by omega)) (i_rng (lo := 0) (hi := 240) rfl (by omega) (by omega))) ?_
              rintro rv271 mv272 ⟨hq273_, gq274_, kq275_⟩
              have kq276_ := Sm.call kq142_ kq275_ rfl
              have hq277_ := Lf.out hr (M0 := M) hq143_ kq275_ rfl
              have hq278_ : (mv272 r 6).toInt = (mv136 r 6).toInt := by rw [kq275_ r 6 (outl (lawin hr).1 rfl)]
              have hq279_ : (mv272 1 2).toInt = (mv136 1 2).toInt := by rw [kq275_ 1 2 (by decide)]
              have hq280_ : (mv272 1 3).toInt = (mv136 1 3).toInt := by rw [kq275_ 1 3 (by decide)]
              refine T_qb rfl (by omega) (by omega) ?_
              exact T_ret ⟨(i_rng (lo := 0) (hi := 1) rfl (by omega) (by omega)), (by have e9 : (rv271).toInt = _ := rfl; omega), hq277_, gq274_, kq276_⟩
theorem t_X4_readPart_12 {n : Nat} (hn : 200000 ≤ n) {r : Nat} (hr : q_isLaw r) {B : Nat} {F_X4_readPiece : Int32 → qM → qR} (hF_X4_readPiece : ∀ (a1 : Int32) (M : qM), G M → 0 ≤ a1.toInt ∧ a1.toInt ≤ 6 → (M 1 3).toInt ≤ (M 1 2).toInt ∧ (M r 6).toInt ≤ (M 1 3).toInt → 3 * (6 - a1.toInt) + 0 < (B : Int) → qT (F_X4_readPiece a1 M) (po_X4_readPiece r a1 M)) {oa1 : Int32} {M0 : qM} : ∀ (m : Nat) (a1 a2 : Int32) (M : qM), G M → Sm l_X4_readPart M0 M → 0 ≤ a1.toInt ∧ a1.toInt ≤ 6 → 0 ≤ a2.toInt ∧ a2.toInt ≤ 240 → ((M0 1 3).toInt - (M0 r 6).toInt ≤ (M 1 3).toInt - (M r 6).toInt ∧ (M 1 3).toInt ≤ (M 1 2).toInt ∧ (M r 6).toInt ≤ (M 1 3).toInt) → Lf r M0 M → 3 * (6 - a1.toInt) + 1 < (B : Int) + 1 → 240 - a2.toInt < (m : Int) → qT (f_X4_readPart_12 n r F_X4_readPiece m a1 a2 M) (po_X4_readPart r oa1 M0) := by
  intro m
  induction m with
  | zero =>
    intro a1 a2 M hG hS i0 i1 hE hR i6 i7
    have hq1_ := r_1_3 hG
    have hq2_ := r_1_2 hG
    have hq3_ := rw_0_6 hr hG
    exfalso; omega
  | succ m ih =>
    intro a1 a2 M hG hS i0 i1 hE hR i6 i7
    show qT (b_X4_readPart_12 n r F_X4_readPiece (f_X4_readPart_12 n r F_X4_readPiece m) a1 a2 M) _
    unfold b_X4_readPart_12
    have hq1_ := r_1_3 hG
    have hq2_ := r_1_2 hG
    have hq3_ := rw_0_6 hr hG
    refine T_le l_240 rfl (fun hq4_ => ?_) (fun hq4_ => ?_)
    · exact T_ret ⟨(i_rng (lo := 0) (hi := 1) l_1 (by omega) (by omega)), (by have e9 : ((1 : Int32)).toInt = _ := l_1; omega), hR, hG, hS⟩
    · have hq7_ := (show ((38 : Int32)).toInt = _ from l_38)
      refine T_qc (t_X9_takes hn (38 : Int32) M hG (i_rng (lo := 0) (hi := 255) l_38 (by omega) (by omega))) ?_
      rintro rv5 mv6 ⟨hq8_, hq9_, gq10_, kq11_⟩
      have kq12_ := Sm.call hS kq11_ rfl
      have hq13_ := Lf.out hr (M0 := M0) hR kq11_ rfl
      have hq14_ : (mv6 r 6).toInt = (M r 6).toInt := by rw [kq11_ r 6 (outl (lawin hr).1 rfl)]
      have hq15_ : (mv6 1 2).toInt = (M 1 2).toInt := by rw [kq11_ 1 2 (by decide)]
      have hq16_ := r_1_3 gq10_
      refine T_eq rfl l_0 (fun hq17_ => ?_) (fun hq17_ => ?_)
      · exact T_ret ⟨(i_rng (lo := 0) (hi := 1) l_1 (by omega) (by omega)), (by have e9 : ((1 : Int32)).toInt = _ := l_1; omega), hq13_, gq10_, kq12_⟩
      · have hq20_ := (show ((3 : Int32)).toInt = _ from l_3)
        have hq21_ := (show ((0 : Int32)).toInt = _ from l_0)
        refine T_qc (t_X3_add hn hr (3 : Int32) (0 : Int32) mv6 gq10_ (i_rng (lo := 0) (hi := 1000000) l_0 (by omega) (by omega)) (by have e0 : ((3 : Int32)).toInt = _ := l_3; have e1 : ((0 : Int32)).toInt = _ := l_0; omega)) ?_
        rintro rv18 mv19 ⟨hq22_, hq23_, hq24_, gq25_, kq26_⟩
        have hq27_ := rw_0_6 hr gq10_
        have kq28_ := Sm.call kq12_ kq26_ rfl
        have hq29_ := Lf.tr (M := M0) hq13_ hq24_
        have hq30_ : (mv19 1 2).toInt = (mv6 1 2).toInt := by rw [kq26_ 1 2 (by decide)]
        have hq31_ : (mv19 1 3).toInt = (mv6 1 3).toInt := by rw [kq26_ 1 3 (by decide)]
        have hq32_ := rw_0_6 hr gq25_
        refine T_qc (hF_X4_readPiece a1 mv19 gq25_ (i_rng (lo := 0) (hi := 6) rfl (by omega) (by omega)) (by omega) (by omega)) ?_
        rintro rv33 mv34 ⟨hq35_, hq36_, hq37_, gq38_, kq39_⟩
        have hq40_ := r_1_3 gq25_
        have hq41_ := r_1_2 gq25_
        have kq42_ := Sm.call kq28_ kq39_ rfl
        have hq43_ := Lf.tr (M := M0) hq29_ hq37_
        have hq44_ : (mv34 1 2).toInt = (mv19 1 2).toInt := by rw [kq39_ 1 2 (by decide)]
        have hq45_ := r_1_3 gq38_
        have hq46_ := rw_0_6 hr gq38_
        have hq47_ := r_1_2 gq38_
        refine T_eq rfl l_0 (fun hq48_ => ?_) (fun hq48_ => ?_)
        · exact T_ret ⟨(i_rng (lo := 0) (hi := 1) l_0 (by omega) (by omega)), (by have e9 : ((0 : Int32)).toInt = _ := l_0; omega), hq43_, gq38_, kq42_⟩
        · refine T_qc (t_X3_skipToHere hn hr rv18 mv34 gq38_ (i_rng (lo := (-1)) (hi := 239) rfl (by omega) (by omega)) (fun h0_ h1_ => by rw [hq37_.2.1 _ (by rw [tnc]; omega)]; omega)) ?_
          rintro rv49 mv50 ⟨hq51_, hq52_, hq53_, gq54_, kq55_⟩
          have kq56_ := Sm.call kq42_ kq55_ rfl
          have hq57_ := Lf.tr (M := M0) hq43_ hq53_
          have hq58_ : (mv50 1 2).toInt = (mv34 1 2).toInt := by rw [kq55_ 1 2 (by decide)]
          have hq59_ : (mv50 1 3).toInt = (mv34 1 3).toInt := by rw [kq55_ 1 3 (by decide)]
          have hq60_ := rw_0_6 hr gq54_
          refine T_ql (i_add rfl l_1 (by omega) (by omega)) ?_
          intro xv61 hq62_
          have hq63_ := r_1_3 gq54_
          have hq64_ := r_1_2 gq54_
          exact ih a1 xv61 mv50 gq54_ kq56_ (i_rng (lo := 0) (hi := 6) rfl (by omega) (by omega)) (i_rng (lo := 0) (hi := 240) rfl (by omega) (by omega)) (by omega) hq57_ (by omega) (by omega)
theorem to_X4_readPart {n : Nat} (hn : 200000 ≤ n) {r : Nat} (hr : q_isLaw r) {B : Nat} {F_X4_readPiece : Int32 → qM → qR} (hF_X4_readPiece : ∀ (a1 : Int32) (M : qM), G M → 0 ≤ a1.toInt ∧ a1.toInt ≤ 6 → (M 1 3).toInt ≤ (M 1 2).toInt ∧ (M r 6).toInt ≤ (M 1 3).toInt → 3 * (6 - a1.toInt) + 0 < (B : Int) → qT (F_X4_readPiece a1 M) (po_X4_readPiece r a1 M)) (a1 : Int32) (M : qM) (hG : G M) (pa1 : 0 ≤ a1.toInt ∧ a1.toInt ≤ 6) (pe : (M 1 3).toInt ≤ (M 1 2).toInt ∧ (M r 6).toInt ≤ (M 1 3).toInt) (hb : 3 * (6 - a1.toInt) + 1 < (B : Int) + 1) : qT (fo_X4_readPart n r F_X4_readPiece a1 M) (po_X4_readPart r a1 M) := by
  have hS : Sm l_X4_readPart M M := Sm.rf
  unfold fo_X4_readPart
  have hq65_ := r_1_3 hG
  have hq66_ := r_1_2 hG
  have hq67_ := rw_0_6 hr hG
  refine T_qc (hF_X4_readPiece a1 M hG (i_rng (lo := 0) (hi := 6) rfl (by omega) (by omega)) (by omega) (by omega)) ?_
  rintro rv68 mv69 ⟨hq70_, hq71_, hq72_, gq73_, kq74_⟩
  have kq75_ := Sm.call hS kq74_ rfl
  have hq76_ := Lf.tr (M := M) Lf.rf hq72_
  have hq77_ : (mv69 1 2).toInt = (M 1 2).toInt := by rw [kq74_ 1 2 (by decide)]
  have hq78_ := r_1_3 gq73_
  have hq79_ := rw_0_6 hr gq73_
  have hq80_ := r_1_2 gq73_
  refine T_eq rfl l_0 (fun hq81_ => ?_) (fun hq81_ => ?_)
  · exact T_ret ⟨(i_rng (lo := 0) (hi := 1) l_0 (by omega) (by omega)), (by have e9 : ((0 : Int32)).toInt = _ := l_0; omega), hq76_, gq73_, kq75_⟩
  · exact (t_X4_readPart_12 hn hr hF_X4_readPiece) n a1 (0 : Int32) mv69 gq73_ kq75_ (i_rng (lo := 0) (hi := 6) rfl (by omega) (by omega)) (i_rng (lo := 0) (hi := 240) l_0 (by omega) (by omega)) (by have e1 : ((0 : Int32)).toInt = _ := l_0; omega) hq76_ (by omega) (by have e1 : ((0 : Int32)).toInt = _ := l_0; omega)
theorem t_X4_readCondition_12 {n : Nat} (hn : 200000 ≤ n) {r : Nat} (hr : q_isLaw r) {B : Nat} {F_X4_readPart : Int32 → qM → qR} (hF_X4_readPart : ∀ (a1 : Int32) (M : qM), G M → 0 ≤ a1.toInt ∧ a1.toInt ≤ 6 → (M 1 3).toInt ≤ (M 1 2).toInt ∧ (M r 6).toInt ≤ (M 1 3).toInt → 3 * (6 - a1.toInt) + 1 < (B : Int) → qT (F_X4_readPart a1 M) (po_X4_readPart r a1 M)) {oa1 : Int32} {M0 : qM} : ∀ (m : Nat) (a1 a2 : Int32) (M : qM), G M → Sm l_X4_readCondition M0 M → 0 ≤ a1.toInt ∧ a1.toInt ≤ 6 → 0 ≤ a2.toInt ∧ a2.toInt ≤ 240 → ((M0 1 3).toInt - (M0 r 6).toInt ≤ (M 1 3).toInt - (M r 6).toInt ∧ (M 1 3).toInt ≤ (M 1 2).toInt ∧ (M r 6).toInt ≤ (M 1 3).toInt) → Lf r M0 M → 3 * (6 - a1.toInt) + 2 < (B : Int) + 1 → 240 - a2.toInt < (m : Int) → qT (f_X4_readCondition_12 n r F_X4_readPart m a1 a2 M) (po_X4_readCondition r oa1 M0) := by
  intro m
  induction m with
  | zero =>
    intro a1 a2 M hG hS i0 i1 hE hR i6 i7
    have hq1_ := r_1_3 hG
    have hq2_ := r_1_2 hG
    have hq3_ := rw_0_6 hr hG
    exfalso; omega
  | succ m ih =>
    intro a1 a2 M hG hS i0 i1 hE hR i6 i7
    show qT (b_X4_readCondition_12 n r F_X4_readPart (f_X4_readCondition_12 n r F_X4_readPart m) a1 a2 M) _
    unfold b_X4_readCondition_12
    have hq1_ := r_1_3 hG
    have hq2_ := r_1_2 hG
    have hq3_ := rw_0_6 hr hG
    refine T_le l_240 rfl (fun hq4_ => ?_) (fun hq4_ => ?_)
    · exact T_ret ⟨(i_rng (lo := 0) (hi := 1) l_1 (by omega) (by omega)), (by have e9 : ((1 : Int32)).toInt = _ := l_1; omega), hR, hG, hS⟩
    · have hq7_ := (show ((124 : Int32)).toInt = _ from l_124)
      refine T_qc (t_X9_takes hn (124 : Int32) M hG (i_rng (lo := 0) (hi := 255) l_124 (by omega) (by omega))) ?_
      rintro rv5 mv6 ⟨hq8_, hq9_, gq10_, kq11_⟩
      have kq12_ := Sm.call hS kq11_ rfl
      have hq13_ := Lf.out hr (M0 := M0) hR kq11_ rfl
      have hq14_ : (mv6 r 6).toInt = (M r 6).toInt := by rw [kq11_ r 6 (outl (lawin hr).1 rfl)]
      have hq15_ : (mv6 1 2).toInt = (M 1 2).toInt := by rw [kq11_ 1 2 (by decide)]
      have hq16_ := r_1_3 gq10_
      refine T_eq rfl l_0 (fun hq17_ => ?_) (fun hq17_ => ?_)
      · exact T_ret ⟨(i_rng (lo := 0) (hi := 1) l_1 (by omega) (by omega)), (by have e9 : ((1 : Int32)).toInt = _ := l_1; omega), hq13_, gq10_, kq12_⟩
      · have hq20_ := (show ((4 : Int32)).toInt = _ from l_4)
        have hq21_ := (show ((0 : Int32)).toInt = _ from l_0)
        refine T_qc (t_X3_add hn hr (4 : Int32) (0 : Int32) mv6 gq10_ (i_rng (lo := 0) (hi := 1000000) l_0 (by omega) (by omega)) (by have e0 : ((4 : Int32)).toInt = _ := l_4; have e1 : ((0 : Int32)).toInt = _ := l_0; omega)) ?_
        rintro rv18 mv19 ⟨hq22_, hq23_, hq24_, gq25_, kq26_⟩
        have hq27_ := rw_0_6 hr gq10_
        have kq28_ := Sm.call kq12_ kq26_ rfl
        have hq29_ := Lf.tr (M := M0) hq13_ hq24_
        have hq30_ : (mv19 1 2).toInt = (mv6 1 2).toInt := by rw [kq26_ 1 2 (by decide)]
        have hq31_ : (mv19 1 3).toInt = (mv6 1 3).toInt := by rw [kq26_ 1 3 (by decide)]
        have hq32_ := rw_0_6 hr gq25_
        refine T_qc (hF_X4_readPart a1 mv19 gq25_ (i_rng (lo := 0) (hi := 6) rfl (by omega) (by omega)) (by omega) (by omega)) ?_
        rintro rv33 mv34 ⟨hq35_, hq36_, hq37_, gq38_, kq39_⟩
        have hq40_ := r_1_3 gq25_
        have hq41_ := r_1_2 gq25_
        have kq42_ := Sm.call kq28_ kq39_ rfl
        have hq43_ := Lf.tr (M := M0) hq29_ hq37_
        have hq44_ : (mv34 1 2).toInt = (mv19 1 2).toInt := by rw [kq39_ 1 2 (by decide)]
        have hq45_ := r_1_3 gq38_
        have hq46_ := rw_0_6 hr gq38_
        have hq47_ := r_1_2 gq38_
        refine T_eq rfl l_0 (fun hq48_ => ?_) (fun hq48_ => ?_)
        · exact T_ret ⟨(i_rng (lo := 0) (hi := 1) l_0 (by omega) (by omega)), (by have e9 : ((0 : Int32)).toInt = _ := l_0; omega), hq43_, gq38_, kq42_⟩
        · refine T_qc (t_X3_skipToHere hn hr rv18 mv34 gq38_ (i_rng (lo := (-1)) (hi := 239) rfl (by omega) (by omega)) (fun h0_ h1_ => by rw [hq37_.2.1 _ (by rw [tnc]; omega)]; omega)) ?_
          rintro rv49 mv50 ⟨hq51_, hq52_, hq53_, gq54_, kq55_⟩
          have kq56_ := Sm.call kq42_ kq55_ rfl
          have hq57_ := Lf.tr (M := M0) hq43_ hq53_
          have hq58_ : (mv50 1 2).toInt = (mv34 1 2).toInt := by rw [kq55_ 1 2 (by decide)]
          have hq59_ : (mv50 1 3).toInt = (mv34 1 3).toInt := by rw [kq55_ 1 3 (by decide)]
          have hq60_ := rw_0_6 hr gq54_
          refine T_ql (i_add rfl l_1 (by omega) (by omega)) ?_
          intro xv61 hq62_
          have hq63_ := r_1_3 gq54_
          have hq64_ := r_1_2 gq54_
          exact ih a1 xv61 mv50 gq54_ kq56_ (i_rng (lo := 0) (hi := 6) rfl (by omega) (by omega)) (i_rng (lo := 0) (hi := 240) rfl (by omega) (by omega)) (by omega) hq57_ (by omega) (by omega)
theorem to_X4_readCondition {n : Nat} (hn : 200000 ≤ n) {r : Nat} (hr : q_isLaw r) {B : Nat} {F_X4_readPart : Int32 → qM → qR} (hF_X4_readPart : ∀ (a1 : Int32) (M : qM), G M → 0 ≤ a1.toInt ∧ a1.toInt ≤ 6 → (M 1 3).toInt ≤ (M 1 2).toInt ∧ (M r 6).toInt ≤ (M 1 3).toInt → 3 * (6 - a1.toInt) + 1 < (B : Int) → qT (F_X4_readPart a1 M) (po_X4_readPart r a1 M)) (a1 : Int32) (M : qM) (hG : G M) (pa1 : 0 ≤ a1.toInt ∧ a1.toInt ≤ 6) (pe : (M 1 3).toInt ≤ (M 1 2).toInt ∧ (M r 6).toInt ≤ (M 1 3).toInt) (hb : 3 * (6 - a1.toInt) + 2 < (B : Int) + 1) : qT (fo_X4_readCondition n r F_X4_readPart a1 M) (po_X4_readCondition r a1 M) := by
  have hS : Sm l_X4_readCondition M M := Sm.rf
  unfold fo_X4_readCondition
  have hq65_ := r_1_3 hG
  have hq66_ := r_1_2 hG
  have hq67_ := rw_0_6 hr hG
  refine T_qc (hF_X4_readPart a1 M hG (i_rng (lo := 0) (hi := 6) rfl (by omega) (by omega)) (by omega) (by omega)) ?_
  rintro rv68 mv69 ⟨hq70_, hq71_, hq72_, gq73_, kq74_⟩
  have kq75_ := Sm.call hS kq74_ rfl
  have hq76_ := Lf.tr (M := M) Lf.rf hq72_
  have hq77_ : (mv69 1 2).toInt = (M 1 2).toInt := by rw [kq74_ 1 2 (by decide)]
  have hq78_ := r_1_3 gq73_
  have hq79_ := rw_0_6 hr gq73_
  have hq80_ := r_1_2 gq73_
  refine T_eq rfl l_0 (fun hq81_ => ?_) (fun hq81_ => ?_)
  · exact T_ret ⟨(i_rng (lo := 0) (hi := 1) l_0 (by omega) (by omega)), (by have e9 : ((0 : Int32)).toInt = _ := l_0; omega), hq76_, gq73_, kq75_⟩
  · exact (t_X4_readCondition_12 hn hr hF_X4_readPart) n a1 (0 : Int32) mv69 gq73_ kq75_ (i_rng (lo := 0) (hi := 6) rfl (by omega) (by omega)) (i_rng (lo := 0) (hi := 240) l_0 (by omega) (by omega)) (by have e1 : ((0 : Int32)).toInt = _ := l_0; omega) hq76_ (by omega) (by have e1 : ((0 : Int32)).toInt = _ := l_0; omega)
theorem trc_X4_readPiece {n : Nat} (hn : 200000 ≤ n) {r : Nat} (hr : q_isLaw r) : ∀ m : Nat, (∀ (a1 : Int32) (M : qM), G M → 0 ≤ a1.toInt ∧ a1.toInt ≤ 6 → (M 1 3).toInt ≤ (M 1 2).toInt ∧ (M r 6).toInt ≤ (M 1 3).toInt → 3 * (6 - a1.toInt) + 0 < (m : Int) → qT (rc_X4_readPiece n r m 0 a1 M) (po_X4_readPiece r a1 M)) ∧ (∀ (a1 : Int32) (M : qM), G M → 0 ≤ a1.toInt ∧ a1.toInt ≤ 6 → (M 1 3).toInt ≤ (M 1 2).toInt ∧ (M r 6).toInt ≤ (M 1 3).toInt → 3 * (6 - a1.toInt) + 1 < (m : Int) → qT (rc_X4_readPiece n r m 1 a1 M) (po_X4_readPart r a1 M)) ∧ (∀ (a1 : Int32) (M : qM), G M → 0 ≤ a1.toInt ∧ a1.toInt ≤ 6 → (M 1 3).toInt ≤ (M 1 2).toInt ∧ (M r 6).toInt ≤ (M 1 3).toInt → 3 * (6 - a1.toInt) + 2 < (m : Int) → qT (rc_X4_readPiece n r m 2 a1 M) (po_X4_readCondition r a1 M)) := by
  intro m
  induction m with
  | zero =>
    exact ⟨(fun a1 M q0 q1 q2 q3 => by exfalso; omega), (fun a1 M q0 q1 q2 q3 => by exfalso; omega), (fun a1 M q0 q1 q2 q3 => by exfalso; omega)⟩
  | succ m ih =>
    refine ⟨?_, ?_, ?_⟩
    · exact fun a1 M q0 q1 q2 q3 => to_X4_readPiece hn hr (B := m) (ih.2.2) (ih.1) a1 M q0 q1 q2 (by omega)
    · exact fun a1 M q0 q1 q2 q3 => to_X4_readPart hn hr (B := m) (ih.1) a1 M q0 q1 q2 (by omega)
    · exact fun a1 M q0 q1 q2 q3 => to_X4_readCondition hn hr (B := m) (ih.2.1) a1 M q0 q1 q2 (by omega)
theorem t_X4_readPiece {n : Nat} (hn : 200000 ≤ n) {r : Nat} (hr : q_isLaw r) (a1 : Int32) (M : qM) (hG : G M) (pa1 : 0 ≤ a1.toInt ∧ a1.toInt ≤ 6) (pe : (M 1 3).toInt ≤ (M 1 2).toInt ∧ (M r 6).toInt ≤ (M 1 3).toInt) : qT (f_X4_readPiece n r a1 M) (po_X4_readPiece r a1 M) := by
  unfold f_X4_readPiece
  exact (trc_X4_readPiece hn hr 30).1 a1 M hG pa1 pe (by omega)
theorem t_X4_readPart {n : Nat} (hn : 200000 ≤ n) {r : Nat} (hr : q_isLaw r) (a1 : Int32) (M : qM) (hG : G M) (pa1 : 0 ≤ a1.toInt ∧ a1.toInt ≤ 6) (pe : (M 1 3).toInt ≤ (M 1 2).toInt ∧ (M r 6).toInt ≤ (M 1 3).toInt) : qT (f_X4_readPart n r a1 M) (po_X4_readPart r a1 M) := by
  unfold f_X4_readPart
  exact (trc_X4_readPiece hn hr 30).2.1 a1 M hG pa1 pe (by omega)
theorem t_X4_readCondition {n : Nat} (hn : 200000 ≤ n) {r : Nat} (hr : q_isLaw r) (a1 : Int32) (M : qM) (hG : G M) (pa1 : 0 ≤ a1.toInt ∧ a1.toInt ≤ 6) (pe : (M 1 3).toInt ≤ (M 1 2).toInt ∧ (M r 6).toInt ≤ (M 1 3).toInt) : qT (f_X4_readCondition n r a1 M) (po_X4_readCondition r a1 M) := by
  unfold f_X4_readCondition
  exact (trc_X4_readPiece hn hr 30).2.2 a1 M hG pa1 pe (by omega)
