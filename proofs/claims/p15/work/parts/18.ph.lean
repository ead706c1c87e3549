/-- the table up to h: what matters of it -/
def mTab (M : qM) (h : Nat) : Prop := ∀ h', h' < h → M 120 (4 * h' + 3) = mNx (nI h') 1 ∧ M 120 (4 * h' + 1) = mNx (nI h') 0
theorem uN_pos (i : Nat) : 1 ≤ uN i := by
  match i with
  | 0 => decide
  | 1 => decide
  | i + 2 => exact Nat.le_refl 1
theorem i3n {i : Int32} (h : i = 0 ∨ i = 1 ∨ i = 2) : ∃ k, k < 3 ∧ i = nI k := by
  rcases h with rfl | rfl | rfl
  · exact ⟨0, by decide, by decide⟩
  · exact ⟨1, by decide, by decide⟩
  · exact ⟨2, by decide, by decide⟩
theorem t3n {t : Int32} (h : t = 1 ∨ t = 2 ∨ t = 3) : ∃ k, k < 3 ∧ t = nI (k + 1) := by
  rcases h with rfl | rfl | rfl
  · exact ⟨0, by decide, by decide⟩
  · exact ⟨1, by decide, by decide⟩
  · exact ⟨2, by decide, by decide⟩
/-- where the other cell is read: at h' below h (moved), or at h itself (not moved) -/
theorem rd_of {M : qM} {h h' : Nat} {m o i t : Int32} (hh : h < 512) (hl : ¬ mIn (nI h) i < t → mLf (nI h) m i t = nI h' ∧ h' < 512) (ho : (o = 1 ∧ M 120 (4 * h' + 3) = mNx (nI h') 1) ∨ (o = 0 ∧ M 120 (4 * h' + 1) = mNx (nI h') 0)) : mRd M (nI h) m o i t := by
  intro c
  obtain ⟨e, h5⟩ := hl c
  obtain ⟨s1, s2, -, -⟩ := fa_st h' h5
  rw [e]
  rcases ho with ⟨rfl, hv⟩ | ⟨rfl, hv⟩
  · rw [s2]
    exact ⟨nI_in (by omega) (by decide), by rw [nI_clamp (by omega)]; exact hv⟩
  · rw [s1]
    exact ⟨nI_in (by omega) (by decide), by rw [nI_clamp (by omega)]; exact hv⟩
theorem rda1 {M : qM} {h : Nat} {o : Int32} (hh : h < 512) (ht : mTab M h) (ho : o = 0 ∨ o = 1) : mRdA M (nI h) 1 o := by
  intro i t hi ht3
  obtain ⟨i, hi4, rfl⟩ := i3n hi
  obtain ⟨t, ht4, rfl⟩ := t3n ht3
  by_cases c : mIn (nI h) (nI i) < nI (t + 1)
  · intro q
    exact absurd c q
  · rcases fa_move h hh i hi4 t ht4 with q | ⟨q1, q2⟩
    · exact absurd q c
    · have hp := uN_pos i
      have hlt : h - (t + 1) * uN i < h := by
        have : 1 ≤ (t + 1) * uN i := Nat.mul_pos (by omega) (by omega)
        omega
      refine rd_of (h' := h - (t + 1) * uN i) hh (fun _ => ⟨?_, by omega⟩) ?_
      · unfold mLf
        rw [if_neg (by decide)]
        exact q2
      · have := ht _ hlt
        rcases ho with rfl | rfl
        · exact Or.inr ⟨rfl, this.2⟩
        · exact Or.inl ⟨rfl, this.1⟩
theorem rda0 {M : qM} {h : Nat} {o : Int32} (hh : h < 512) (ho : (o = 1 ∧ M 120 (4 * h + 3) = mNx (nI h) 1) ∨ (o = 0 ∧ M 120 (4 * h + 1) = mNx (nI h) 0)) : mRdA M (nI h) 0 o := by
  intro i t _ _
  refine rd_of (h' := h) hh (fun _ => ⟨?_, hh⟩) ho
  unfold mLf
  rw [if_pos rfl]
theorem qlm_v {M : qM} {f : qM → qR} : qlm M f = f M := rfl
theorem nz0 : vp_nar .boolean 0 = 0 := by decide
theorem nz1 : vp_nar .boolean 1 = 1 := by decide
theorem tab_mu {M : qM} {h k : Nat} {v : Int32} (ht : mTab M h) (hk : 4 * h ≤ k) : mTab (mu M 120 k v) h := by
  intro h' hh
  obtain ⟨a, b⟩ := ht h' hh
  refine ⟨?_, ?_⟩
  · simp only [mu]
    rw [if_neg (by omega)]
    exact a
  · simp only [mu]
    rw [if_neg (by omega)]
    exact b
def g01 (v : Int32) : Int32 := if v = -1 then 0 else 1
theorem g151 {n : Nat} (hn : 10 ≤ n) {K : Int32 → Int32 → Int32 → Int32 → Int32 → qM → qR} {a4 a5 a6 a7 s2 : Int32} {M : qM} {h : Nat} (hh : h < 512) (h1 : M 120 (4 * h + 1) = mNx (nI h) 0) (h3 : M 120 (4 * h + 3) = mNx (nI h) 1) (ht : mTab M h) (hs : s2 = 0 ∨ s2 = 1) : ∃ M', f_X12_game_151 n K a4 a5 a6 a7 (nI h) (nI (4 * h + 2)) s2 M = K a4 a5 a6 a7 (nI (h + 1)) M' ∧ mTab M' (h + 1) := by
  obtain ⟨-, -, s00, -⟩ := fa_st h hh
  have hz : vp_nar .boolean s2 = s2 := by rcases hs with rfl | rfl; exact nz0; exact nz1
  have hrd : mRdA (mu M 120 (4 * h + 2) s2) (nI h) 0 0 := rda0 hh (Or.inr ⟨rfl, by simp only [mu]; rw [if_neg (by omega)]; exact h1⟩)
  have fin : ∀ v : Int32, mTab (mu (mu M 120 (4 * h + 2) s2) 120 (4 * h) v) (h + 1) := fun v h' hh' => by
    by_cases q : h' = h
    · subst q
      refine ⟨?_, ?_⟩
      · simp only [mu]
        rw [if_neg (by omega), if_neg (by omega)]
        exact h3
      · simp only [mu]
        rw [if_neg (by omega), if_neg (by omega)]
        exact h1
    · exact tab_mu (tab_mu ht (by omega)) (by omega) h' (by omega)
  unfold f_X12_game_151
  rw [qg_nI (show 4 * h + 2 < 2048 by omega) (by decide), nI_clamp (by omega), hz]
  rw [qlm_v, gs_val, qc_v, wm_val hn hrd, qc_v, s00]
  by_cases c : mBest (nI h) 0 0 = -1
  · rw [if_pos c, qg_nI (show 4 * h < 2048 by omega) (by decide), nI_clamp (by omega), nz0, qlm_v, ql_v, nI_1]
    exact ⟨_, rfl, fin 0⟩
  · rw [if_neg c, qg_nI (show 4 * h < 2048 by omega) (by decide), nI_clamp (by omega), nz1, qlm_v, ql_v, nI_1]
    exact ⟨_, rfl, fin 1⟩
theorem g122 {n : Nat} (hn : 10 ≤ n) {K : Int32 → Int32 → Int32 → Int32 → Int32 → qM → qR} {a4 a5 a6 a7 : Int32} {M : qM} {h : Nat} (hh : h < 512) (h3 : M 120 (4 * h + 3) = mNx (nI h) 1) (ht : mTab M h) : ∃ M', f_X12_game_122 n K a4 a5 a6 a7 (nI h) (nI (4 * h + 1)) (g01 (mBest (nI h) 0 1)) M = K a4 a5 a6 a7 (nI (h + 1)) M' ∧ mTab M' (h + 1) := by
  obtain ⟨-, -, -, s10⟩ := fa_st h hh
  have hz : vp_nar .boolean (g01 (mBest (nI h) 0 1)) = mNx (nI h) 0 := by
    rw [(fa_win h hh).2]
    unfold g01
    by_cases c : mBest (nI h) 0 1 = -1
    · rw [if_pos c]; exact nz0
    · rw [if_neg c]; exact nz1
  have k1 : mu M 120 (4 * h + 1) (mNx (nI h) 0) 120 (4 * h + 1) = mNx (nI h) 0 := by simp [mu]
  have k3 : mu M 120 (4 * h + 1) (mNx (nI h) 0) 120 (4 * h + 3) = mNx (nI h) 1 := by
    simp only [mu]
    rw [if_neg (by omega)]
    exact h3
  have kt : mTab (mu M 120 (4 * h + 1) (mNx (nI h) 0)) h := tab_mu ht (by omega)
  unfold f_X12_game_122
  rw [qg_nI (show 4 * h + 1 < 2048 by omega) (by decide), nI_clamp (by omega), hz]
  rw [qlm_v, gs_val, qc_v, wm_val hn (rda1 hh kt (Or.inl rfl)), qc_v, s10]
  by_cases c : mBest (nI h) 1 0 = -1
  · rw [if_pos c]
    exact g151 hn hh k1 k3 kt (Or.inl rfl)
  · rw [if_neg c]
    exact g151 hn hh k1 k3 kt (Or.inr rfl)
theorem g93 {n : Nat} (hn : 10 ≤ n) {K : Int32 → Int32 → Int32 → Int32 → Int32 → qM → qR} {a4 a5 a6 a7 : Int32} {M : qM} {h : Nat} (hh : h < 512) (ht : mTab M h) : ∃ M', f_X12_game_93 n K a4 a5 a6 a7 (nI h) (nI (4 * h + 3)) (g01 (mBest (nI h) 1 1)) M = K a4 a5 a6 a7 (nI (h + 1)) M' ∧ mTab M' (h + 1) := by
  obtain ⟨s01, -, -, -⟩ := fa_st h hh
  have hz : vp_nar .boolean (g01 (mBest (nI h) 1 1)) = mNx (nI h) 1 := by
    rw [(fa_win h hh).1]
    unfold g01
    by_cases c : mBest (nI h) 1 1 = -1
    · rw [if_pos c]; exact nz0
    · rw [if_neg c]; exact nz1
  have k3 : mu M 120 (4 * h + 3) (mNx (nI h) 1) 120 (4 * h + 3) = mNx (nI h) 1 := by simp [mu]
  have kt : mTab (mu M 120 (4 * h + 3) (mNx (nI h) 1)) h := tab_mu ht (by omega)
  unfold f_X12_game_93
  rw [qg_nI (show 4 * h + 3 < 2048 by omega) (by decide), nI_clamp (by omega), hz]
  rw [qlm_v, gs_val, qc_v, wm_val hn (rda0 hh (Or.inl ⟨rfl, k3⟩)), qc_v, s01]
  have e := g122 hn (K := K) (a4 := a4) (a5 := a5) (a6 := a6) (a7 := a7) hh k3 kt
  unfold g01 at e
  by_cases c : mBest (nI h) 0 1 = -1
  · rw [if_pos c] at e ⊢
    exact e
  · rw [if_neg c] at e ⊢
    exact e
theorem g58_step {n k : Nat} (hn : 10 ≤ n) {a4 a5 a6 a7 : Int32} {M : qM} {h : Nat} (hh : h < 512) (h7 : ¬ a7 < nI h) (ht : mTab M h) : ∃ M', f_X12_game_58 n (k + 1) a4 a5 a6 a7 (nI h) M = f_X12_game_58 n k a4 a5 a6 a7 (nI (h + 1)) M' ∧ mTab M' (h + 1) := by
  obtain ⟨-, s11, -, -⟩ := fa_st h hh
  show ∃ M', b_X12_game_58 n (f_X12_game_58 n k) a4 a5 a6 a7 (nI h) M = _ ∧ _
  unfold b_X12_game_58
  rw [if_neg h7, gs_val, qc_v, wm_val hn (rda1 hh ht (Or.inr rfl)), qc_v, s11]
  have e := g93 hn (K := f_X12_game_58 n k) (a4 := a4) (a5 := a5) (a6 := a6) (a7 := a7) hh ht
  unfold g01 at e
  by_cases c : mBest (nI h) 1 1 = -1
  · rw [if_pos c] at e ⊢
    exact e
  · rw [if_neg c] at e ⊢
    exact e
theorem g58_go {n : Nat} (hn : 10 ≤ n) {T : Nat} (hT : T < 512) {a4 a5 a6 : Int32} : ∀ (d h m : Nat) (M : qM), h + d = T + 1 → d < m → mTab M h → ∃ M' k, f_X12_game_58 n m a4 a5 a6 (nI T) (nI h) M = f_X12_game_58 n (k + 1) a4 a5 a6 (nI T) (nI (T + 1)) M' ∧ mTab M' (T + 1) := by
  intro d
  induction d with
  | zero =>
    intro h m M hd hm ht
    obtain ⟨k, rfl⟩ : ∃ k, m = k + 1 := ⟨m - 1, by omega⟩
    obtain rfl : h = T + 1 := by omega
    exact ⟨M, k, rfl, ht⟩
  | succ d ih =>
    intro h m M hd hm ht
    obtain ⟨k, rfl⟩ : ∃ k, m = k + 1 := ⟨m - 1, by omega⟩
    obtain ⟨M1, e1, t1⟩ := g58_step (n := n) (k := k) (a4 := a4) (a5 := a5) (a6 := a6) hn (h := h) (by omega) (nI_nlt (a := T) (b := h) (by omega) (by omega)) ht
    obtain ⟨M', k', e, t⟩ := ih (h + 1) k M1 (by omega) (by omega) t1
    exact ⟨M', k', e1.trans e, t⟩
theorem i7 {a : Int32} (h1 : ¬ a < 0) (h2 : ¬ (7 : Int32) < a) : ∃ k, k < 8 ∧ a = nI k := by
  obtain ⟨j, hj, rfl⟩ := nI_of h1
  refine ⟨j, ?_, rfl⟩
  rcases Nat.lt_or_ge 7 j with q | q
  · exact absurd (nI_lt (a := 7) q hj) h2
  · omega
theorem ih_val (n : Nat) (a : Int32) (M : qM) : f_X11_isHeap n a M = some (if a < 0 ∨ 7 < a then 0 else 1, M) := by
  unfold f_X11_isHeap
  by_cases c : a < 0
  · rw [if_pos c, if_pos (Or.inl c)]
  · rw [if_neg c]
    by_cases d : (7 : Int32) < a
    · rw [if_pos d, if_pos (Or.inr d)]
    · rw [if_neg d, if_neg (by rintro (q | q) <;> contradiction)]
theorem n10 : ¬ ((1 : Int32) = 0) := by decide
theorem n00 : (0 : Int32) = 0 := rfl
theorem p1_game {n : Nat} (hn : 955 ≤ n) {M : qM} (a1 a2 a3 a6 : Int32) {m o : Nat} (hm : m < 2) (ho : o < 2) : Pr (f_X11_game n a1 a2 a3 (nI m) (nI o) a6) (f_X12_game n a1 a2 a3 (nI m) (nI o) a6) M := by
  by_cases c1 : a1 < 0 ∨ (7 : Int32) < a1
  · refine Pr.same (v := -1) ?_ ?_
    · unfold f_X11_game
      rw [ih_val, qc_v, if_pos c1, if_pos n00]
    · unfold f_X12_game
      rw [in_eq, qc_v, if_pos c1, if_pos n00]
  by_cases c2 : a2 < 0 ∨ (7 : Int32) < a2
  · refine Pr.same (v := -1) ?_ ?_
    · unfold f_X11_game
      rw [ih_val, qc_v, if_neg c1, if_neg n10, ih_val, qc_v, if_pos c2, if_pos n00]
    · unfold f_X12_game
      rw [in_eq, qc_v, if_neg c1, if_neg n10, in_eq, qc_v, if_pos c2, if_pos n00]
  by_cases c3 : a3 < 0 ∨ (7 : Int32) < a3
  · refine Pr.same (v := -1) ?_ ?_
    · unfold f_X11_game
      rw [ih_val, qc_v, if_neg c1, if_neg n10, ih_val, qc_v, if_neg c2, if_neg n10, ih_val, qc_v, if_pos c3, if_pos n00]
    · unfold f_X12_game
      rw [in_eq, qc_v, if_neg c1, if_neg n10, in_eq, qc_v, if_neg c2, if_neg n10, in_eq, qc_v, if_pos c3, if_pos n00]
  by_cases c6 : a6 < 0 ∨ (1 : Int32) < a6
  · refine Pr.same (v := -1) ?_ ?_
    · unfold f_X11_game
      rw [ih_val, qc_v, if_neg c1, if_neg n10, ih_val, qc_v, if_neg c2, if_neg n10, ih_val, qc_v, if_neg c3, if_neg n10]
      rcases c6 with q | q
      · rw [if_pos q]
      · by_cases q0 : a6 < 0
        · rw [if_pos q0]
        · rw [if_neg q0, if_neg (Int32.not_le.mpr q)]
    · unfold f_X12_game
      rw [in_eq, qc_v, if_neg c1, if_neg n10, in_eq, qc_v, if_neg c2, if_neg n10, in_eq, qc_v, if_neg c3, if_neg n10, in_eq, qc_v, if_pos c6, if_pos n00]
  have d6 : ¬ a6 < 0 := fun q => c6 (Or.inl q)
  have d7 : a6 ≤ (1 : Int32) := Int32.not_lt.mp (fun q => c6 (Or.inr q))
  obtain ⟨a, ha, rfl⟩ := i7 (fun q => c1 (Or.inl q)) (fun q => c1 (Or.inr q))
  obtain ⟨b, hb, rfl⟩ := i7 (fun q => c2 (Or.inl q)) (fun q => c2 (Or.inr q))
  obtain ⟨c, hc, rfl⟩ := i7 (fun q => c3 (Or.inl q)) (fun q => c3 (Or.inr q))
  have best := fa_best a ha b hb c hc m hm o ho
  generalize hT : 64 * a + 8 * b + c = T at best
  have hT5 : T < 512 := by omega
  obtain ⟨M', k, e, t⟩ := g58_go (n := n) (a4 := nI m) (a5 := nI o) (a6 := a6) (by omega) hT5 (T + 1) 0 n M (by omega) (by omega) (fun h' q => absurd q (by omega))
  have eT : ((64 : Int32) * nI a + (8 : Int32) * nI b) + nI c = nI T := by
    have h1 : (64 : Int32) * nI a = nI (64 * a) := (Int32.ofNat_mul 64 a).symm
    have h2 : (8 : Int32) * nI b = nI (8 * b) := (Int32.ofNat_mul 8 b).symm
    rw [h1, h2, nI_add, nI_add, hT]
  have rd : mRdA M' (nI T) (nI m) (nI o) := by
    obtain ⟨t3, t1⟩ := t T (by omega)
    have hT2 : mTab M' T := fun h' q => t h' (by omega)
    rcases (show m = 0 ∨ m = 1 by omega) with rfl | rfl
    · refine rda0 hT5 ?_
      rcases (show o = 0 ∨ o = 1 by omega) with rfl | rfl
      · exact Or.inr ⟨nI_0, t1⟩
      · exact Or.inl ⟨by decide, t3⟩
    · refine rda1 hT5 hT2 ?_
      rcases (show o = 0 ∨ o = 1 by omega) with rfl | rfl
      · exact Or.inl nI_0
      · exact Or.inr (by decide)
  have hB : f_X12_game n (nI a) (nI b) (nI c) (nI m) (nI o) a6 M = some (if a6 = 0 then (if mBest (nI T) (nI m) (nI o) = -1 then 0 else 1) else (if mBest (nI T) (nI m) (nI o) = -1 then -2 else mBest (nI T) (nI m) (nI o)), M') := by
    unfold f_X12_game
    rw [in_eq, qc_v, if_neg c1, if_neg n10, in_eq, qc_v, if_neg c2, if_neg n10, in_eq, qc_v, if_neg c3, if_neg n10, in_eq, qc_v, if_neg c6, if_neg n10, ql_v, eT, ← nI_0, e]
    show b_X12_game_58 n (f_X12_game_58 n k) (nI m) (nI o) a6 (nI T) (nI (T + 1)) M' = _
    unfold b_X12_game_58
    rw [if_pos (nI_lt (by omega) (by omega)), wm_val (by omega) rd, qc_v, nI_0]
    by_cases z : a6 = 0
    · rw [if_pos z, if_pos z]
      by_cases w : mBest (nI T) (nI m) (nI o) = -1
      · rw [if_pos w, if_pos w]
      · rw [if_neg w, if_neg w]
    · rw [if_neg z, if_neg z]
      by_cases w : mBest (nI T) (nI m) (nI o) = -1
      · rw [if_pos w, if_pos w]
      · rw [if_neg w, if_neg w]
  have hA : f_X11_game n (nI a) (nI b) (nI c) (nI m) (nI o) a6 M = some (if a6 = 0 then (if mBest (nI T) (nI m) (nI o) = -1 then 0 else 1) else (if mBest (nI T) (nI m) (nI o) = -1 then -2 else mBest (nI T) (nI m) (nI o)), M) := by
    have hne := fa_ne T hT5 m hm o ho
    unfold f_X11_game
    rw [ih_val, qc_v, if_neg c1, if_neg n10, ih_val, qc_v, if_neg c2, if_neg n10, ih_val, qc_v, if_neg c3, if_neg n10, if_neg d6, if_pos d7, bm_val (by omega), qc_v, best]
    by_cases z : a6 = 0
    · rw [if_pos z, if_neg (show ¬ a6 = 1 by rw [z]; decide)]
      by_cases w : mBest (nI T) (nI m) (nI o) = -1
      · rw [if_pos w, if_pos rfl, if_pos w]
      · rw [if_neg w, if_neg hne, if_neg w]
    · have z1 : a6 = 1 := by
        obtain ⟨q, hq, rfl⟩ := nI_of d6
        have hq1 : q ≤ 1 := by
          rcases Nat.lt_or_ge 1 q with r | r
          · exact absurd (nI_lt (a := 1) r hq) (Int32.not_lt.mpr d7)
          · exact r
        rcases (show q = 0 ∨ q = 1 by omega) with rfl | rfl
        · exact absurd nI_0 z
        · decide
      rw [if_neg z, if_pos z1]
  exact ⟨_, M, M', hA, hB⟩
