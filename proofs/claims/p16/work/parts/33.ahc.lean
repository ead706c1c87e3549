/-! the Java side's reader of laws: what it leaves as it was -/
abbrev Fr4 (r : Nat) (M m : qM) : Prop := ∀ c, c ≠ 1 → c < r ∨ r + 6 < c → m c = M c
abbrev Qfr (r : Nat) (M0 : qM) : Int32 → qM → Prop := fun _ m => Fr4 r M0 m
theorem Fr_mu {r : Nat} {M0 M : qM} {c s : Nat} {v : Int32} {f : qM → qR} {Q : Int32 → qM → Prop} (h : Fr4 r M0 M) (hc : c = 1 ∨ (r ≤ c ∧ c ≤ r + 6)) (k : ∀ m, Fr4 r M0 m → qP (f m) Q) : qP (qlm (mu M c s v) f) Q :=
  k _ (fun c2 h1 h2 => by rw [mu_nc (by omega)]; exact h c2 h1 h2)
theorem fr_X9_sign {n r : Nat} {M0 : qM} (M : qM) (h : Fr4 r M0 M) : qP (f_X9_sign n M) (Qfr r M0) := by
  unfold f_X9_sign
  refine P_if (fun _ => ?_) (fun _ => ?_)
  · exact P_ret h
  · refine P_if (fun _ => ?_) (fun _ => ?_)
    · exact P_ret h
    · refine P_qg (fun _ _ => ?_)
      exact P_ret h
theorem fr_X9_digit {n r : Nat} {M0 : qM} (M : qM) (h : Fr4 r M0 M) : qP (f_X9_digit n M) (Qfr r M0) := by
  unfold f_X9_digit
  refine P_qc (fr_X9_sign _ h) (fun r1 m2 hm2 => ?_)
  refine P_if (fun _ => ?_) (fun _ => ?_)
  · exact P_ret hm2
  · refine P_if (fun _ => ?_) (fun _ => ?_)
    · exact P_ret hm2
    · exact P_ret hm2
theorem fr_X9_takes {n r : Nat} {M0 : qM} (a1 : Int32) (M : qM) (h : Fr4 r M0 M) : qP (f_X9_takes n a1 M) (Qfr r M0) := by
  unfold f_X9_takes
  refine P_qc (fr_X9_sign _ h) (fun r1 m2 hm2 => ?_)
  refine P_if (fun _ => ?_) (fun _ => ?_)
  · refine Fr_mu hm2 (Or.inl rfl) (fun m3 hm3 => ?_)
    exact P_ret hm3
  · exact P_ret hm2
theorem fr_X9_fails {n r : Nat} {M0 : qM} (a1 a2 : Int32) (M : qM) (h : Fr4 r M0 M) : qP (f_X9_fails n a1 a2 M) (Qfr r M0) := by
  unfold f_X9_fails
  refine Fr_mu h (Or.inl rfl) (fun m1 hm1 => ?_)
  exact P_ret hm1
theorem fr_X9_mustTake {n r : Nat} {M0 : qM} (a1 : Int32) (M : qM) (h : Fr4 r M0 M) : qP (f_X9_mustTake n a1 M) (Qfr r M0) := by
  unfold f_X9_mustTake
  refine P_qc (fr_X9_takes _ _ h) (fun r1 m2 hm2 => ?_)
  refine P_if (fun _ => ?_) (fun _ => ?_)
  · refine P_qc (fr_X9_fails _ _ _ hm2) (fun r3 m4 hm4 => ?_)
    refine P_if (fun _ => ?_) (fun _ => ?_)
    · exact P_ret hm4
    · exact P_ret hm4
  · exact P_ret hm2
theorem fr_X9_mustEnd {n r : Nat} {M0 : qM} (M : qM) (h : Fr4 r M0 M) : qP (f_X9_mustEnd n M) (Qfr r M0) := by
  unfold f_X9_mustEnd
  refine P_if (fun _ => ?_) (fun _ => ?_)
  · exact P_ret h
  · refine P_qc (fr_X9_fails _ _ _ h) (fun r1 m2 hm2 => ?_)
    refine P_if (fun _ => ?_) (fun _ => ?_)
    · exact P_ret hm2
    · exact P_ret hm2
theorem fr_X9_openText {n r : Nat} {M0 : qM} (a1 : Int32) (M : qM) (h : Fr4 r M0 M) : qP (f_X9_openText n a1 M) (Qfr r M0) := by
  unfold f_X9_openText
  refine Fr_mu h (Or.inl rfl) (fun m1 hm1 => ?_)
  refine Fr_mu hm1 (Or.inl rfl) (fun m2 hm2 => ?_)
  refine Fr_mu hm2 (Or.inl rfl) (fun m3 hm3 => ?_)
  exact P_ret hm3
theorem fr_X3_clear {n r : Nat} {M0 : qM} (M : qM) (h : Fr4 r M0 M) : qP (f_X3_clear n r M) (Qfr r M0) := by
  unfold f_X3_clear
  refine Fr_mu h (Or.inr ⟨by omega, by omega⟩) (fun m1 hm1 => ?_)
  refine Fr_mu hm1 (Or.inr ⟨by omega, by omega⟩) (fun m2 hm2 => ?_)
  exact P_ret hm2
theorem fr_X3_add {n r : Nat} {M0 : qM} (a1 a2 : Int32) (M : qM) (h : Fr4 r M0 M) : qP (f_X3_add n r a1 a2 M) (Qfr r M0) := by
  unfold f_X3_add
  refine P_if (fun _ => ?_) (fun _ => ?_)
  · exact P_ret h
  · refine P_qg (fun _ _ => ?_)
    refine Fr_mu h (Or.inr ⟨by omega, by omega⟩) (fun m1 hm1 => ?_)
    refine P_qg (fun _ _ => ?_)
    refine Fr_mu hm1 (Or.inr ⟨by omega, by omega⟩) (fun m2 hm2 => ?_)
    refine Fr_mu hm2 (Or.inr ⟨by omega, by omega⟩) (fun m3 hm3 => ?_)
    exact P_ret hm3
theorem fr_X3_skipToHere {n r : Nat} {M0 : qM} (a1 : Int32) (M : qM) (h : Fr4 r M0 M) : qP (f_X3_skipToHere n r a1 M) (Qfr r M0) := by
  unfold f_X3_skipToHere
  refine P_if (fun _ => ?_) (fun _ => ?_)
  · exact P_ret h
  · refine P_if (fun _ => ?_) (fun _ => ?_)
    · exact P_ret h
    · refine P_qg (fun _ _ => ?_)
      refine Fr_mu h (Or.inr ⟨by omega, by omega⟩) (fun m1 hm1 => ?_)
      exact P_ret hm1
theorem fr_X3_addClause {n r : Nat} {M0 : qM} (a1 a2 a3 : Int32) (M : qM) (h : Fr4 r M0 M) : qP (f_X3_addClause n r a1 a2 a3 M) (Qfr r M0) := by
  unfold f_X3_addClause
  refine P_if (fun _ => ?_) (fun _ => ?_)
  · exact P_ret h
  · refine P_qg (fun _ _ => ?_)
    refine Fr_mu h (Or.inr ⟨by omega, by omega⟩) (fun m1 hm1 => ?_)
    refine P_qg (fun _ _ => ?_)
    refine Fr_mu hm1 (Or.inr ⟨by omega, by omega⟩) (fun m2 hm2 => ?_)
    refine P_qg (fun _ _ => ?_)
    refine Fr_mu hm2 (Or.inr ⟨by omega, by omega⟩) (fun m3 hm3 => ?_)
    refine P_qg (fun _ _ => ?_)
    refine Fr_mu hm3 (Or.inr ⟨by omega, by omega⟩) (fun m4 hm4 => ?_)
    refine Fr_mu hm4 (Or.inr ⟨by omega, by omega⟩) (fun m5 hm5 => ?_)
    exact P_ret hm5
theorem fr_X4_opens {n r : Nat} {M0 : qM} (a1 : Int32) (M : qM) (h : Fr4 r M0 M) : qP (f_X4_opens n a1 M) (Qfr r M0) := by
  unfold f_X4_opens
  refine P_if (fun _ => ?_) (fun _ => ?_)
  · refine Fr_mu h (Or.inl rfl) (fun m1 hm1 => ?_)
    exact P_ret hm1
  · refine P_qc (fr_X9_fails _ _ _ h) (fun r2 m3 hm3 => ?_)
    refine P_qb ?_
    exact P_ret hm3
theorem fr_b_X4_readFactor_68 {n r : Nat} {M0 : qM} {F_X4_readSum : Int32 → qM → qR} (hF_X4_readSum : ∀ (a : Int32) (M : qM), Fr4 r M0 M → qP (F_X4_readSum a M) (Qfr r M0)) {K68 : Int32 → Int32 → qM → qR} (hK68 : ∀ (b0 b1 : Int32) (M : qM), Fr4 r M0 M → qP (K68 b0 b1 M) (Qfr r M0)) (a2 a3 : Int32) (M : qM) (h : Fr4 r M0 M) : qP (b_X4_readFactor_68 n r F_X4_readSum K68 a2 a3 M) (Qfr r M0) := by
  unfold b_X4_readFactor_68
  refine P_if (fun _ => ?_) (fun _ => ?_)
  · refine P_qc (fr_X9_fails _ _ _ h) (fun r1 m2 hm2 => ?_)
    refine P_qb ?_
    exact P_ret hm2
  · refine P_qg (fun _ _ => ?_)
    refine P_if (fun _ => ?_) (fun _ => ?_)
    · refine Fr_mu h (Or.inl rfl) (fun m4 hm4 => ?_)
      refine P_qc (fr_X3_add _ _ _ hm4) (fun r5 m6 hm6 => ?_)
      exact P_ret hm6
    · refine P_ql rfl (fun x3 _ => ?_)
      exact hK68 _ _ _ h
theorem fr_X4_readFactor_68 {n r : Nat} {M0 : qM} {F_X4_readSum : Int32 → qM → qR} (hF_X4_readSum : ∀ (a : Int32) (M : qM), Fr4 r M0 M → qP (F_X4_readSum a M) (Qfr r M0)) : ∀ (m : Nat) (a2 a3 : Int32) (M : qM), Fr4 r M0 M → qP (f_X4_readFactor_68 n r F_X4_readSum m a2 a3 M) (Qfr r M0) := by
  intro m
  induction m with
  | zero => intro _ _ _ _; exact P_none
  | succ m ih =>
    intro a2 a3 M h
    exact fr_b_X4_readFactor_68 hF_X4_readSum ih _ _ M h
theorem fr_X4_readNumber_52 {n r : Nat} {M0 : qM} (a1 : Int32) (M : qM) (h : Fr4 r M0 M) : qP (f_X4_readNumber_52 n r a1 M) (Qfr r M0) := by
  unfold f_X4_readNumber_52
  refine P_qc (fr_X9_digit _ h) (fun r1 m2 hm2 => ?_)
  refine P_if (fun _ => ?_) (fun _ => ?_)
  · refine P_qc (fr_X3_add _ _ _ hm2) (fun r3 m4 hm4 => ?_)
    exact P_ret hm4
  · refine P_qc (fr_X9_fails _ _ _ hm2) (fun r5 m6 hm6 => ?_)
    refine P_qb ?_
    exact P_ret hm6
theorem fr_b_X4_readNumber_4 {n r : Nat} {M0 : qM} {K4 : Int32 → Int32 → qM → qR} (hK4 : ∀ (b0 b1 : Int32) (M : qM), Fr4 r M0 M → qP (K4 b0 b1 M) (Qfr r M0)) (a1 a2 : Int32) (M : qM) (h : Fr4 r M0 M) : qP (b_X4_readNumber_4 n r K4 a1 a2 M) (Qfr r M0) := by
  unfold b_X4_readNumber_4
  refine P_if (fun _ => ?_) (fun _ => ?_)
  · exact fr_X4_readNumber_52 _ _ h
  · refine P_qc (fr_X9_digit _ h) (fun r1 m2 hm2 => ?_)
    refine P_if (fun _ => ?_) (fun _ => ?_)
    · exact fr_X4_readNumber_52 _ _ hm2
    · refine P_qc (fr_X9_digit _ hm2) (fun r3 m4 hm4 => ?_)
      refine P_ql rfl (fun x5 _ => ?_)
      refine Fr_mu hm4 (Or.inl rfl) (fun m6 hm6 => ?_)
      refine P_ql rfl (fun x7 _ => ?_)
      exact hK4 _ _ _ hm6
theorem fr_X4_readNumber_4 {n r : Nat} {M0 : qM} : ∀ (m : Nat) (a1 a2 : Int32) (M : qM), Fr4 r M0 M → qP (f_X4_readNumber_4 n r m a1 a2 M) (Qfr r M0) := by
  intro m
  induction m with
  | zero => intro _ _ _ _; exact P_none
  | succ m ih =>
    intro a1 a2 M h
    exact fr_b_X4_readNumber_4 ih _ _ M h
theorem fr_X4_readNumber {n r : Nat} {M0 : qM} (M : qM) (h : Fr4 r M0 M) : qP (f_X4_readNumber n r M) (Qfr r M0) := by
  unfold f_X4_readNumber
  exact fr_X4_readNumber_4 _ _ _ _ h
theorem fr_fo_X4_readFactor {n r : Nat} {M0 : qM} {F_X4_readSum : Int32 → qM → qR} (hF_X4_readSum : ∀ (a : Int32) (M : qM), Fr4 r M0 M → qP (F_X4_readSum a M) (Qfr r M0)) (a1 : Int32) (M : qM) (h : Fr4 r M0 M) : qP (fo_X4_readFactor n r F_X4_readSum a1 M) (Qfr r M0) := by
  unfold fo_X4_readFactor
  refine P_qc (fr_X9_sign _ h) (fun r1 m2 hm2 => ?_)
  refine P_if (fun _ => ?_) (fun _ => ?_)
  · refine P_qc (fr_X4_opens _ _ hm2) (fun r7 m8 hm8 => ?_)
    refine P_if (fun _ => ?_) (fun _ => ?_)
    · exact P_ret hm8
    · refine P_qc (hF_X4_readSum _ _ hm8) (fun r9 m10 hm10 => ?_)
      refine P_if (fun _ => ?_) (fun _ => ?_)
      · exact P_ret hm10
      · refine P_qc (fr_X9_mustTake _ _ hm10) (fun r11 m12 hm12 => ?_)
        refine P_if (fun _ => ?_) (fun _ => ?_)
        · exact P_ret hm12
        · exact P_ret hm12
  · refine P_qc (fr_X9_digit _ hm2) (fun r3 m4 hm4 => ?_)
    refine P_if (fun _ => ?_) (fun _ => ?_)
    · exact fr_X4_readFactor_68 hF_X4_readSum _ _ _ _ hm4
    · refine P_qc (fr_X4_readNumber _ hm4) (fun r5 m6 hm6 => ?_)
      refine P_qb ?_
      exact P_ret hm6
theorem fr_X4_readProduct_51 {n r : Nat} {M0 : qM} {F_X4_readFactor : Int32 → qM → qR} (hF_X4_readFactor : ∀ (a : Int32) (M : qM), Fr4 r M0 M → qP (F_X4_readFactor a M) (Qfr r M0)) {K8 : Int32 → Int32 → Int32 → qM → qR} (hK8 : ∀ (b0 b1 b2 : Int32) (M : qM), Fr4 r M0 M → qP (K8 b0 b1 b2 M) (Qfr r M0)) (a1 a3 a4 : Int32) (M : qM) (h : Fr4 r M0 M) : qP (f_X4_readProduct_51 n r F_X4_readFactor K8 a1 a3 a4 M) (Qfr r M0) := by
  unfold f_X4_readProduct_51
  refine Fr_mu h (Or.inl rfl) (fun m1 hm1 => ?_)
  refine P_qc (hF_X4_readFactor _ _ hm1) (fun r2 m3 hm3 => ?_)
  refine P_qc (fr_X3_add _ _ _ hm3) (fun r4 m5 hm5 => ?_)
  refine P_ql rfl (fun x6 _ => ?_)
  exact hK8 _ _ _ _ hm5
theorem fr_b_X4_readProduct_8 {n r : Nat} {M0 : qM} {F_X4_readFactor : Int32 → qM → qR} (hF_X4_readFactor : ∀ (a : Int32) (M : qM), Fr4 r M0 M → qP (F_X4_readFactor a M) (Qfr r M0)) {K8 : Int32 → Int32 → Int32 → qM → qR} (hK8 : ∀ (b0 b1 b2 : Int32) (M : qM), Fr4 r M0 M → qP (K8 b0 b1 b2 M) (Qfr r M0)) (a1 a2 a3 : Int32) (M : qM) (h : Fr4 r M0 M) : qP (b_X4_readProduct_8 n r F_X4_readFactor K8 a1 a2 a3 M) (Qfr r M0) := by
  unfold b_X4_readProduct_8
  refine P_if (fun _ => ?_) (fun _ => ?_)
  · refine P_qb ?_
    exact P_ret h
  · refine P_if (fun _ => ?_) (fun _ => ?_)
    · refine P_qb ?_
      exact P_ret h
    · refine P_qc (fr_X9_sign _ h) (fun r1 m2 hm2 => ?_)
      refine P_if (fun _ => ?_) (fun _ => ?_)
      · exact fr_X4_readProduct_51 hF_X4_readFactor hK8 _ _ _ _ hm2
      · refine P_if (fun _ => ?_) (fun _ => ?_)
        · exact fr_X4_readProduct_51 hF_X4_readFactor hK8 _ _ _ _ hm2
        · refine P_if (fun _ => ?_) (fun _ => ?_)
          · exact fr_X4_readProduct_51 hF_X4_readFactor hK8 _ _ _ _ hm2
          · exact P_ret hm2
theorem fr_X4_readProduct_8 {n r : Nat} {M0 : qM} {F_X4_readFactor : Int32 → qM → qR} (hF_X4_readFactor : ∀ (a : Int32) (M : qM), Fr4 r M0 M → qP (F_X4_readFactor a M) (Qfr r M0)) : ∀ (m : Nat) (a1 a2 a3 : Int32) (M : qM), Fr4 r M0 M → qP (f_X4_readProduct_8 n r F_X4_readFactor m a1 a2 a3 M) (Qfr r M0) := by
  intro m
  induction m with
  | zero => intro _ _ _ _ _; exact P_none
  | succ m ih =>
    intro a1 a2 a3 M h
    exact fr_b_X4_readProduct_8 hF_X4_readFactor ih _ _ _ M h
theorem fr_fo_X4_readProduct {n r : Nat} {M0 : qM} {F_X4_readFactor : Int32 → qM → qR} (hF_X4_readFactor : ∀ (a : Int32) (M : qM), Fr4 r M0 M → qP (F_X4_readFactor a M) (Qfr r M0)) (a1 : Int32) (M : qM) (h : Fr4 r M0 M) : qP (fo_X4_readProduct n r F_X4_readFactor a1 M) (Qfr r M0) := by
  unfold fo_X4_readProduct
  refine P_qc (hF_X4_readFactor _ _ h) (fun r1 m2 hm2 => ?_)
  exact fr_X4_readProduct_8 hF_X4_readFactor _ _ _ _ _ hm2
theorem fr_X4_readSum_44 {n r : Nat} {M0 : qM} {F_X4_readProduct : Int32 → qM → qR} (hF_X4_readProduct : ∀ (a : Int32) (M : qM), Fr4 r M0 M → qP (F_X4_readProduct a M) (Qfr r M0)) {K8 : Int32 → Int32 → Int32 → qM → qR} (hK8 : ∀ (b0 b1 b2 : Int32) (M : qM), Fr4 r M0 M → qP (K8 b0 b1 b2 M) (Qfr r M0)) (a1 a3 a4 : Int32) (M : qM) (h : Fr4 r M0 M) : qP (f_X4_readSum_44 n r F_X4_readProduct K8 a1 a3 a4 M) (Qfr r M0) := by
  unfold f_X4_readSum_44
  refine Fr_mu h (Or.inl rfl) (fun m1 hm1 => ?_)
  refine P_qc (hF_X4_readProduct _ _ hm1) (fun r2 m3 hm3 => ?_)
  refine P_qc (fr_X3_add _ _ _ hm3) (fun r4 m5 hm5 => ?_)
  refine P_ql rfl (fun x6 _ => ?_)
  exact hK8 _ _ _ _ hm5
theorem fr_b_X4_readSum_8 {n r : Nat} {M0 : qM} {F_X4_readProduct : Int32 → qM → qR} (hF_X4_readProduct : ∀ (a : Int32) (M : qM), Fr4 r M0 M → qP (F_X4_readProduct a M) (Qfr r M0)) {K8 : Int32 → Int32 → Int32 → qM → qR} (hK8 : ∀ (b0 b1 b2 : Int32) (M : qM), Fr4 r M0 M → qP (K8 b0 b1 b2 M) (Qfr r M0)) (a1 a2 a3 : Int32) (M : qM) (h : Fr4 r M0 M) : qP (b_X4_readSum_8 n r F_X4_readProduct K8 a1 a2 a3 M) (Qfr r M0) := by
  unfold b_X4_readSum_8
  refine P_if (fun _ => ?_) (fun _ => ?_)
  · refine P_qb ?_
    exact P_ret h
  · refine P_if (fun _ => ?_) (fun _ => ?_)
    · refine P_qb ?_
      exact P_ret h
    · refine P_qc (fr_X9_sign _ h) (fun r1 m2 hm2 => ?_)
      refine P_if (fun _ => ?_) (fun _ => ?_)
      · exact fr_X4_readSum_44 hF_X4_readProduct hK8 _ _ _ _ hm2
      · refine P_if (fun _ => ?_) (fun _ => ?_)
        · exact fr_X4_readSum_44 hF_X4_readProduct hK8 _ _ _ _ hm2
        · exact P_ret hm2
theorem fr_X4_readSum_8 {n r : Nat} {M0 : qM} {F_X4_readProduct : Int32 → qM → qR} (hF_X4_readProduct : ∀ (a : Int32) (M : qM), Fr4 r M0 M → qP (F_X4_readProduct a M) (Qfr r M0)) : ∀ (m : Nat) (a1 a2 a3 : Int32) (M : qM), Fr4 r M0 M → qP (f_X4_readSum_8 n r F_X4_readProduct m a1 a2 a3 M) (Qfr r M0) := by
  intro m
  induction m with
  | zero => intro _ _ _ _ _; exact P_none
  | succ m ih =>
    intro a1 a2 a3 M h
    exact fr_b_X4_readSum_8 hF_X4_readProduct ih _ _ _ M h
theorem fr_fo_X4_readSum {n r : Nat} {M0 : qM} {F_X4_readProduct : Int32 → qM → qR} (hF_X4_readProduct : ∀ (a : Int32) (M : qM), Fr4 r M0 M → qP (F_X4_readProduct a M) (Qfr r M0)) (a1 : Int32) (M : qM) (h : Fr4 r M0 M) : qP (fo_X4_readSum n r F_X4_readProduct a1 M) (Qfr r M0) := by
  unfold fo_X4_readSum
  refine P_qc (hF_X4_readProduct _ _ h) (fun r1 m2 hm2 => ?_)
  exact fr_X4_readSum_8 hF_X4_readProduct _ _ _ _ _ hm2
theorem fr_rc_X4_readFactor {n r : Nat} {M0 : qM} : ∀ (m : Nat), (∀ (a1 : Int32) (M : qM), Fr4 r M0 M → qP (rc_X4_readFactor n r m 0 a1 M) (Qfr r M0)) ∧ (∀ (a1 : Int32) (M : qM), Fr4 r M0 M → qP (rc_X4_readFactor n r m 1 a1 M) (Qfr r M0)) ∧ (∀ (a1 : Int32) (M : qM), Fr4 r M0 M → qP (rc_X4_readFactor n r m 2 a1 M) (Qfr r M0)) := by
  intro m
  induction m with
  | zero => exact ⟨fun _ _ _ => P_none, fun _ _ _ => P_none, fun _ _ _ => P_none⟩
  | succ m ih =>
    exact ⟨fun a1 M h => fr_fo_X4_readFactor (fun a M h => ih.2.2 a M h) a1 M h, fun a1 M h => fr_fo_X4_readProduct (fun a M h => ih.1 a M h) a1 M h, fun a1 M h => fr_fo_X4_readSum (fun a M h => ih.2.1 a M h) a1 M h⟩
theorem fr_X4_readFactor {n r : Nat} {M0 : qM} (a1 : Int32) (M : qM) (h : Fr4 r M0 M) : qP (f_X4_readFactor n r a1 M) (Qfr r M0) := (fr_rc_X4_readFactor 30).1 a1 M h
theorem fr_X4_readProduct {n r : Nat} {M0 : qM} (a1 : Int32) (M : qM) (h : Fr4 r M0 M) : qP (f_X4_readProduct n r a1 M) (Qfr r M0) := (fr_rc_X4_readFactor 30).2.1 a1 M h
theorem fr_X4_readSum {n r : Nat} {M0 : qM} (a1 : Int32) (M : qM) (h : Fr4 r M0 M) : qP (f_X4_readSum n r a1 M) (Qfr r M0) := (fr_rc_X4_readFactor 30).2.2 a1 M h
theorem fr_X4_readPiece_83 {n r : Nat} {M0 : qM} {F_X4_readCondition : Int32 → qM → qR} (hF_X4_readCondition : ∀ (a : Int32) (M : qM), Fr4 r M0 M → qP (F_X4_readCondition a M) (Qfr r M0)) {F_X4_readPiece : Int32 → qM → qR} (hF_X4_readPiece : ∀ (a : Int32) (M : qM), Fr4 r M0 M → qP (F_X4_readPiece a M) (Qfr r M0)) (s0 : Int32) (M : qM) (h : Fr4 r M0 M) : qP (f_X4_readPiece_83 n r F_X4_readCondition F_X4_readPiece s0 M) (Qfr r M0) := by
  unfold f_X4_readPiece_83
  refine P_qc (fr_X3_add _ _ _ h) (fun r1 m2 hm2 => ?_)
  refine P_qb ?_
  exact P_ret hm2
theorem fr_X4_readPiece_82 {n r : Nat} {M0 : qM} {F_X4_readCondition : Int32 → qM → qR} (hF_X4_readCondition : ∀ (a : Int32) (M : qM), Fr4 r M0 M → qP (F_X4_readCondition a M) (Qfr r M0)) {F_X4_readPiece : Int32 → qM → qR} (hF_X4_readPiece : ∀ (a : Int32) (M : qM), Fr4 r M0 M → qP (F_X4_readPiece a M) (Qfr r M0)) (M : qM) (h : Fr4 r M0 M) : qP (f_X4_readPiece_82 n r F_X4_readCondition F_X4_readPiece M) (Qfr r M0) := by
  unfold f_X4_readPiece_82
  exact fr_X4_readPiece_83 hF_X4_readCondition hF_X4_readPiece _ _ h
theorem fr_X4_readPiece_148 {n r : Nat} {M0 : qM} {F_X4_readCondition : Int32 → qM → qR} (hF_X4_readCondition : ∀ (a : Int32) (M : qM), Fr4 r M0 M → qP (F_X4_readCondition a M) (Qfr r M0)) {F_X4_readPiece : Int32 → qM → qR} (hF_X4_readPiece : ∀ (a : Int32) (M : qM), Fr4 r M0 M → qP (F_X4_readPiece a M) (Qfr r M0)) (a1 a2 : Int32) (M : qM) (h : Fr4 r M0 M) : qP (f_X4_readPiece_148 n r F_X4_readCondition F_X4_readPiece a1 a2 M) (Qfr r M0) := by
  unfold f_X4_readPiece_148
  refine Fr_mu h (Or.inl rfl) (fun m1 hm1 => ?_)
  refine P_qc (fr_X4_readSum _ _ hm1) (fun r2 m3 hm3 => ?_)
  refine P_qc (fr_X3_add _ _ _ hm3) (fun r4 m5 hm5 => ?_)
  refine P_qb ?_
  exact P_ret hm5
theorem fr_fo_X4_readPiece {n r : Nat} {M0 : qM} {F_X4_readCondition : Int32 → qM → qR} (hF_X4_readCondition : ∀ (a : Int32) (M : qM), Fr4 r M0 M → qP (F_X4_readCondition a M) (Qfr r M0)) {F_X4_readPiece : Int32 → qM → qR} (hF_X4_readPiece : ∀ (a : Int32) (M : qM), Fr4 r M0 M → qP (F_X4_readPiece a M) (Qfr r M0)) (a1 : Int32) (M : qM) (h : Fr4 r M0 M) : qP (fo_X4_readPiece n r F_X4_readCondition F_X4_readPiece a1 M) (Qfr r M0) := by
  unfold fo_X4_readPiece
  refine P_qc (fr_X9_sign _ h) (fun r1 m2 hm2 => ?_)
  refine P_if (fun _ => ?_) (fun _ => ?_)
  · refine P_qc (fr_X4_opens _ _ hm2) (fun r15 m16 hm16 => ?_)
    refine P_if (fun _ => ?_) (fun _ => ?_)
    · exact P_ret hm16
    · refine P_qc (hF_X4_readCondition _ _ hm16) (fun r17 m18 hm18 => ?_)
      refine P_if (fun _ => ?_) (fun _ => ?_)
      · exact P_ret hm18
      · refine P_qc (fr_X9_mustTake _ _ hm18) (fun r19 m20 hm20 => ?_)
        refine P_if (fun _ => ?_) (fun _ => ?_)
        · exact P_ret hm20
        · exact P_ret hm20
  · refine P_qc (fr_X9_sign _ hm2) (fun r3 m4 hm4 => ?_)
    refine P_if (fun _ => ?_) (fun _ => ?_)
    · refine P_qc (fr_X4_opens _ _ hm4) (fun r11 m12 hm12 => ?_)
      refine P_if (fun _ => ?_) (fun _ => ?_)
      · exact fr_X4_readPiece_82 hF_X4_readCondition hF_X4_readPiece _ hm12
      · refine P_qc (hF_X4_readPiece _ _ hm12) (fun r13 m14 hm14 => ?_)
        refine P_if (fun _ => ?_) (fun _ => ?_)
        · exact fr_X4_readPiece_82 hF_X4_readCondition hF_X4_readPiece _ hm14
        · exact fr_X4_readPiece_83 hF_X4_readCondition hF_X4_readPiece _ _ hm14
    · refine P_qc (fr_X4_readSum _ _ hm4) (fun r5 m6 hm6 => ?_)
      refine P_if (fun _ => ?_) (fun _ => ?_)
      · exact P_ret hm6
      · refine P_qc (fr_X9_sign _ hm6) (fun r7 m8 hm8 => ?_)
        refine P_if (fun _ => ?_) (fun _ => ?_)
        · exact fr_X4_readPiece_148 hF_X4_readCondition hF_X4_readPiece _ _ _ hm8
        · refine P_if (fun _ => ?_) (fun _ => ?_)
          · exact fr_X4_readPiece_148 hF_X4_readCondition hF_X4_readPiece _ _ _ hm8
          · refine P_if (fun _ => ?_) (fun _ => ?_)
            · exact fr_X4_readPiece_148 hF_X4_readCondition hF_X4_readPiece _ _ _ hm8
            · refine P_qc (fr_X9_fails _ _ _ hm8) (fun r9 m10 hm10 => ?_)
              refine P_qb ?_
              exact P_ret hm10
theorem fr_b_X4_readPart_12 {n r : Nat} {M0 : qM} {F_X4_readPiece : Int32 → qM → qR} (hF_X4_readPiece : ∀ (a : Int32) (M : qM), Fr4 r M0 M → qP (F_X4_readPiece a M) (Qfr r M0)) {K12 : Int32 → Int32 → qM → qR} (hK12 : ∀ (b0 b1 : Int32) (M : qM), Fr4 r M0 M → qP (K12 b0 b1 M) (Qfr r M0)) (a1 a2 : Int32) (M : qM) (h : Fr4 r M0 M) : qP (b_X4_readPart_12 n r F_X4_readPiece K12 a1 a2 M) (Qfr r M0) := by
  unfold b_X4_readPart_12
  refine P_if (fun _ => ?_) (fun _ => ?_)
  · exact P_ret h
  · refine P_qc (fr_X9_takes _ _ h) (fun r1 m2 hm2 => ?_)
    refine P_if (fun _ => ?_) (fun _ => ?_)
    · exact P_ret hm2
    · refine P_qc (fr_X3_add _ _ _ hm2) (fun r3 m4 hm4 => ?_)
      refine P_qc (hF_X4_readPiece _ _ hm4) (fun r5 m6 hm6 => ?_)
      refine P_if (fun _ => ?_) (fun _ => ?_)
      · exact P_ret hm6
      · refine P_qc (fr_X3_skipToHere _ _ hm6) (fun _ m7 hm7 => ?_)
        refine P_ql rfl (fun x8 _ => ?_)
        exact hK12 _ _ _ hm7
theorem fr_X4_readPart_12 {n r : Nat} {M0 : qM} {F_X4_readPiece : Int32 → qM → qR} (hF_X4_readPiece : ∀ (a : Int32) (M : qM), Fr4 r M0 M → qP (F_X4_readPiece a M) (Qfr r M0)) : ∀ (m : Nat) (a1 a2 : Int32) (M : qM), Fr4 r M0 M → qP (f_X4_readPart_12 n r F_X4_readPiece m a1 a2 M) (Qfr r M0) := by
  intro m
  induction m with
  | zero => intro _ _ _ _; exact P_none
  | succ m ih =>
    intro a1 a2 M h
    exact fr_b_X4_readPart_12 hF_X4_readPiece ih _ _ M h
theorem fr_fo_X4_readPart {n r : Nat} {M0 : qM} {F_X4_readPiece : Int32 → qM → qR} (hF_X4_readPiece : ∀ (a : Int32) (M : qM), Fr4 r M0 M → qP (F_X4_readPiece a M) (Qfr r M0)) (a1 : Int32) (M : qM) (h : Fr4 r M0 M) : qP (fo_X4_readPart n r F_X4_readPiece a1 M) (Qfr r M0) := by
  unfold fo_X4_readPart
  refine P_qc (hF_X4_readPiece _ _ h) (fun r1 m2 hm2 => ?_)
  refine P_if (fun _ => ?_) (fun _ => ?_)
  · exact P_ret hm2
  · exact fr_X4_readPart_12 hF_X4_readPiece _ _ _ _ hm2
theorem fr_b_X4_readCondition_12 {n r : Nat} {M0 : qM} {F_X4_readPart : Int32 → qM → qR} (hF_X4_readPart : ∀ (a : Int32) (M : qM), Fr4 r M0 M → qP (F_X4_readPart a M) (Qfr r M0)) {K12 : Int32 → Int32 → qM → qR} (hK12 : ∀ (b0 b1 : Int32) (M : qM), Fr4 r M0 M → qP (K12 b0 b1 M) (Qfr r M0)) (a1 a2 : Int32) (M : qM) (h : Fr4 r M0 M) : qP (b_X4_readCondition_12 n r F_X4_readPart K12 a1 a2 M) (Qfr r M0) := by
  unfold b_X4_readCondition_12
  refine P_if (fun _ => ?_) (fun _ => ?_)
  · exact P_ret h
  · refine P_qc (fr_X9_takes _ _ h) (fun r1 m2 hm2 => ?_)
    refine P_if (fun _ => ?_) (fun _ => ?_)
    · exact P_ret hm2
    · refine P_qc (fr_X3_add _ _ _ hm2) (fun r3 m4 hm4 => ?_)
      refine P_qc (hF_X4_readPart _ _ hm4) (fun r5 m6 hm6 => ?_)
      refine P_if (fun _ => ?_) (fun _ => ?_)
      · exact P_ret hm6
      · refine P_qc (fr_X3_skipToHere _ _ hm6) (fun _ m7 hm7 => ?_)
        refine P_ql rfl (fun x8 _ => ?_)
        exact hK12 _ _ _ hm7
theorem fr_X4_readCondition_12 {n r : Nat} {M0 : qM} {F_X4_readPart : Int32 → qM → qR} (hF_X4_readPart : ∀ (a : Int32) (M : qM), Fr4 r M0 M → qP (F_X4_readPart a M) (Qfr r M0)) : ∀ (m : Nat) (a1 a2 : Int32) (M : qM), Fr4 r M0 M → qP (f_X4_readCondition_12 n r F_X4_readPart m a1 a2 M) (Qfr r M0) := by
  intro m
  induction m with
  | zero => intro _ _ _ _; exact P_none
  | succ m ih =>
    intro a1 a2 M h
    exact fr_b_X4_readCondition_12 hF_X4_readPart ih _ _ M h
theorem fr_fo_X4_readCondition {n r : Nat} {M0 : qM} {F_X4_readPart : Int32 → qM → qR} (hF_X4_readPart : ∀ (a : Int32) (M : qM), Fr4 r M0 M → qP (F_X4_readPart a M) (Qfr r M0)) (a1 : Int32) (M : qM) (h : Fr4 r M0 M) : qP (fo_X4_readCondition n r F_X4_readPart a1 M) (Qfr r M0) := by
  unfold fo_X4_readCondition
  refine P_qc (hF_X4_readPart _ _ h) (fun r1 m2 hm2 => ?_)
  refine P_if (fun _ => ?_) (fun _ => ?_)
  · exact P_ret hm2
  · exact fr_X4_readCondition_12 hF_X4_readPart _ _ _ _ hm2
theorem fr_rc_X4_readPiece {n r : Nat} {M0 : qM} : ∀ (m : Nat), (∀ (a1 : Int32) (M : qM), Fr4 r M0 M → qP (rc_X4_readPiece n r m 0 a1 M) (Qfr r M0)) ∧ (∀ (a1 : Int32) (M : qM), Fr4 r M0 M → qP (rc_X4_readPiece n r m 1 a1 M) (Qfr r M0)) ∧ (∀ (a1 : Int32) (M : qM), Fr4 r M0 M → qP (rc_X4_readPiece n r m 2 a1 M) (Qfr r M0)) := by
  intro m
  induction m with
  | zero => exact ⟨fun _ _ _ => P_none, fun _ _ _ => P_none, fun _ _ _ => P_none⟩
  | succ m ih =>
    exact ⟨fun a1 M h => fr_fo_X4_readPiece (fun a M h => ih.2.2 a M h) (fun a M h => ih.1 a M h) a1 M h, fun a1 M h => fr_fo_X4_readPart (fun a M h => ih.1 a M h) a1 M h, fun a1 M h => fr_fo_X4_readCondition (fun a M h => ih.2.1 a M h) a1 M h⟩
theorem fr_X4_readPiece {n r : Nat} {M0 : qM} (a1 : Int32) (M : qM) (h : Fr4 r M0 M) : qP (f_X4_readPiece n r a1 M) (Qfr r M0) := (fr_rc_X4_readPiece 30).1 a1 M h
theorem fr_X4_readPart {n r : Nat} {M0 : qM} (a1 : Int32) (M : qM) (h : Fr4 r M0 M) : qP (f_X4_readPart n r a1 M) (Qfr r M0) := (fr_rc_X4_readPiece 30).2.1 a1 M h
theorem fr_X4_readCondition {n r : Nat} {M0 : qM} (a1 : Int32) (M : qM) (h : Fr4 r M0 M) : qP (f_X4_readCondition n r a1 M) (Qfr r M0) := (fr_rc_X4_readPiece 30).2.2 a1 M h
theorem fr_X4_readClause_113 {n r : Nat} {M0 : qM} (a1 a2 : Int32) (M : qM) (h : Fr4 r M0 M) : qP (f_X4_readClause_113 n r a1 a2 M) (Qfr r M0) := by
  unfold f_X4_readClause_113
  refine P_ql rfl (fun x1 _ => ?_)
  refine P_qc (fr_X9_mustTake _ _ h) (fun r2 m3 hm3 => ?_)
  refine P_if (fun _ => ?_) (fun _ => ?_)
  · exact P_ret hm3
  · refine P_qc (fr_X4_readCondition _ _ hm3) (fun r4 m5 hm5 => ?_)
    refine P_if (fun _ => ?_) (fun _ => ?_)
    · exact P_ret hm5
    · refine P_qc (fr_X9_mustTake _ _ hm5) (fun r6 m7 hm7 => ?_)
      refine P_if (fun _ => ?_) (fun _ => ?_)
      · exact P_ret hm7
      · refine P_qc (fr_X3_addClause _ _ _ _ hm7) (fun _ m8 hm8 => ?_)
        exact P_ret hm8
theorem fr_X4_readClause_48 {n r : Nat} {M0 : qM} (a1 : Int32) (M : qM) (h : Fr4 r M0 M) : qP (f_X4_readClause_48 n r a1 M) (Qfr r M0) := by
  unfold f_X4_readClause_48
  refine P_if (fun _ => ?_) (fun _ => ?_)
  · refine Fr_mu h (Or.inl rfl) (fun m1 hm1 => ?_)
    refine P_ql rfl (fun x2 _ => ?_)
    refine P_if (fun _ => ?_) (fun _ => ?_)
    · exact fr_X4_readClause_113 _ _ _ hm1
    · refine P_qc (fr_X4_readSum _ _ hm1) (fun r3 m4 hm4 => ?_)
      refine P_if (fun _ => ?_) (fun _ => ?_)
      · exact P_ret hm4
      · exact fr_X4_readClause_113 _ _ _ hm4
  · refine P_qc (fr_X9_fails _ _ _ h) (fun r5 m6 hm6 => ?_)
    refine P_qb ?_
    exact P_ret hm6
theorem fr_X4_readClause {n r : Nat} {M0 : qM} (M : qM) (h : Fr4 r M0 M) : qP (f_X4_readClause n r M) (Qfr r M0) := by
  unfold f_X4_readClause
  refine P_qc (fr_X9_sign _ h) (fun r1 m2 hm2 => ?_)
  refine P_if (fun _ => ?_) (fun _ => ?_)
  · exact fr_X4_readClause_48 _ _ hm2
  · refine P_if (fun _ => ?_) (fun _ => ?_)
    · exact fr_X4_readClause_48 _ _ hm2
    · refine P_if (fun _ => ?_) (fun _ => ?_)
      · exact fr_X4_readClause_48 _ _ hm2
      · refine P_if (fun _ => ?_) (fun _ => ?_)
        · exact fr_X4_readClause_48 _ _ hm2
        · refine P_qc (fr_X9_fails _ _ _ hm2) (fun r3 m4 hm4 => ?_)
          refine P_qb ?_
          exact P_ret hm4
theorem fr_b_X4_read_17 {n r : Nat} {M0 : qM} {K17 : Int32 → qM → qR} (hK17 : ∀ (b0 : Int32) (M : qM), Fr4 r M0 M → qP (K17 b0 M) (Qfr r M0)) (a2 : Int32) (M : qM) (h : Fr4 r M0 M) : qP (b_X4_read_17 n r K17 a2 M) (Qfr r M0) := by
  unfold b_X4_read_17
  refine P_if (fun _ => ?_) (fun _ => ?_)
  · exact P_ret h
  · refine P_qc (fr_X4_readClause _ h) (fun r1 m2 hm2 => ?_)
    refine P_if (fun _ => ?_) (fun _ => ?_)
    · exact P_ret hm2
    · refine P_qc (fr_X9_takes _ _ hm2) (fun r3 m4 hm4 => ?_)
      refine P_if (fun _ => ?_) (fun _ => ?_)
      · refine P_qc (fr_X9_mustEnd _ hm4) (fun r6 m7 hm7 => ?_)
        refine P_if (fun _ => ?_) (fun _ => ?_)
        · exact P_ret hm7
        · exact P_ret hm7
      · refine P_ql rfl (fun x5 _ => ?_)
        exact hK17 _ _ hm4
theorem fr_X4_read_17 {n r : Nat} {M0 : qM} : ∀ (m : Nat) (a2 : Int32) (M : qM), Fr4 r M0 M → qP (f_X4_read_17 n r m a2 M) (Qfr r M0) := by
  intro m
  induction m with
  | zero => intro _ _ _; exact P_none
  | succ m ih =>
    intro a2 M h
    exact fr_b_X4_read_17 ih _ M h
theorem fr_X4_read {n r : Nat} {M0 : qM} (a1 : Int32) (M : qM) (h : Fr4 r M0 M) : qP (f_X4_read n r a1 M) (Qfr r M0) := by
  unfold f_X4_read
  refine P_qc (fr_X3_clear _ h) (fun _ m1 hm1 => ?_)
  refine P_qc (fr_X9_openText _ _ hm1) (fun _ m2 hm2 => ?_)
  exact fr_X4_read_17 _ _ _ hm2
